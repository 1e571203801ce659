section
-- ===== PART A: goes FIRST, ahead of the names: the tables' words, and 'selects' of the private methods out of them =====
/-- a private method of a class that the tables say can be made, by its rows of tables_1 -/
def lw_okq (q : MethodName × Nat) : Prop := (q.1.cls ≠ "java/lang/invoke/MethodHandle" ∧ q.1.cls ≠ "java/lang/invoke/VarHandle") ∧ Cond.instantiable q.1.cls q.2 ∈ tables_1 ∧ Cond.privateMethod q.1 ∈ tables_1 ∧ Cond.instanceMethod q.1 ∈ tables_1
theorem lw_p0 : lw_okq (⟨"SleepCalls$Reader", "nextToken", "()V"⟩, 7) := ⟨⟨by decide +kernel, by decide +kernel⟩, List.mem_of_getElem? (i := 18) (by decide +kernel), List.mem_of_getElem? (i := 168) (by decide +kernel), List.mem_of_getElem? (i := 169) (by decide +kernel)⟩
theorem lw_p1 : lw_okq (⟨"SleepCalls$Reader", "readNumber", "()V"⟩, 7) := ⟨⟨by decide +kernel, by decide +kernel⟩, List.mem_of_getElem? (i := 18) (by decide +kernel), List.mem_of_getElem? (i := 175) (by decide +kernel), List.mem_of_getElem? (i := 176) (by decide +kernel)⟩
theorem lw_p2 : lw_okq (⟨"SleepCalls$Reader", "readItem", "(LSleepCalls$City;I)Z"⟩, 7) := ⟨⟨by decide +kernel, by decide +kernel⟩, List.mem_of_getElem? (i := 18) (by decide +kernel), List.mem_of_getElem? (i := 201) (by decide +kernel), List.mem_of_getElem? (i := 202) (by decide +kernel)⟩
theorem lw_p3 : lw_okq (⟨"SleepCalls$Reader", "mayStand", "(LSleepCalls$City;II)Z"⟩, 7) := ⟨⟨by decide +kernel, by decide +kernel⟩, List.mem_of_getElem? (i := 18) (by decide +kernel), List.mem_of_getElem? (i := 212) (by decide +kernel), List.mem_of_getElem? (i := 213) (by decide +kernel)⟩
theorem lw_p4 : lw_okq (⟨"SleepCalls$Reader", "isWithin", "(II)Z"⟩, 7) := ⟨⟨by decide +kernel, by decide +kernel⟩, List.mem_of_getElem? (i := 18) (by decide +kernel), List.mem_of_getElem? (i := 216) (by decide +kernel), List.mem_of_getElem? (i := 217) (by decide +kernel)⟩
theorem lw_p5 : lw_okq (⟨"SleepCalls$Reader", "mayStandForCitizen", "(I)Z"⟩, 7) := ⟨⟨by decide +kernel, by decide +kernel⟩, List.mem_of_getElem? (i := 18) (by decide +kernel), List.mem_of_getElem? (i := 220) (by decide +kernel), List.mem_of_getElem? (i := 221) (by decide +kernel)⟩
theorem lw_p6 : lw_okq (⟨"SleepCalls$City", "tellCitizen", "([I)V"⟩, 16) := ⟨⟨by decide +kernel, by decide +kernel⟩, List.mem_of_getElem? (i := 50) (by decide +kernel), List.mem_of_getElem? (i := 228) (by decide +kernel), List.mem_of_getElem? (i := 229) (by decide +kernel)⟩
theorem lw_p7 : lw_okq (⟨"SleepCalls$City", "tellNoise", "([I)V"⟩, 16) := ⟨⟨by decide +kernel, by decide +kernel⟩, List.mem_of_getElem? (i := 50) (by decide +kernel), List.mem_of_getElem? (i := 232) (by decide +kernel), List.mem_of_getElem? (i := 233) (by decide +kernel)⟩
theorem lw_p8 : lw_okq (⟨"SleepCalls", "isDistrict", "(I)Z"⟩, 17) := ⟨⟨by decide +kernel, by decide +kernel⟩, List.mem_of_getElem? (i := 10) (by decide +kernel), List.mem_of_getElem? (i := 309) (by decide +kernel), List.mem_of_getElem? (i := 310) (by decide +kernel)⟩
theorem lw_p9 : lw_okq (⟨"SleepCalls", "isCitizen", "(I)Z"⟩, 17) := ⟨⟨by decide +kernel, by decide +kernel⟩, List.mem_of_getElem? (i := 10) (by decide +kernel), List.mem_of_getElem? (i := 317) (by decide +kernel), List.mem_of_getElem? (i := 318) (by decide +kernel)⟩
theorem lw_p10 : lw_okq (⟨"SleepCalls", "sleptMost", "()I"⟩, 17) := ⟨⟨by decide +kernel, by decide +kernel⟩, List.mem_of_getElem? (i := 10) (by decide +kernel), List.mem_of_getElem? (i := 329) (by decide +kernel), List.mem_of_getElem? (i := 330) (by decide +kernel)⟩
theorem lw_p11 : lw_okq (⟨"SleepCalls", "sleptLeast", "()I"⟩, 17) := ⟨⟨by decide +kernel, by decide +kernel⟩, List.mem_of_getElem? (i := 10) (by decide +kernel), List.mem_of_getElem? (i := 333) (by decide +kernel), List.mem_of_getElem? (i := 334) (by decide +kernel)⟩
theorem lw_p12 : lw_okq (⟨"SleepCalls", "remember", "()V"⟩, 17) := ⟨⟨by decide +kernel, by decide +kernel⟩, List.mem_of_getElem? (i := 10) (by decide +kernel), List.mem_of_getElem? (i := 341) (by decide +kernel), List.mem_of_getElem? (i := 342) (by decide +kernel)⟩
theorem lw_p13 : lw_okq (⟨"SleepCalls", "goBy", "(LSleepCalls$Now;I)I"⟩, 17) := ⟨⟨by decide +kernel, by decide +kernel⟩, List.mem_of_getElem? (i := 10) (by decide +kernel), List.mem_of_getElem? (i := 357) (by decide +kernel), List.mem_of_getElem? (i := 358) (by decide +kernel)⟩
theorem lw_p14 : lw_okq (⟨"SleepCalls", "firstLapse", "(II)I"⟩, 17) := ⟨⟨by decide +kernel, by decide +kernel⟩, List.mem_of_getElem? (i := 10) (by decide +kernel), List.mem_of_getElem? (i := 403) (by decide +kernel), List.mem_of_getElem? (i := 404) (by decide +kernel)⟩
theorem lw_p15 : lw_okq (⟨"SleepCalls", "lapses", "(I)Z"⟩, 17) := ⟨⟨by decide +kernel, by decide +kernel⟩, List.mem_of_getElem? (i := 10) (by decide +kernel), List.mem_of_getElem? (i := 407) (by decide +kernel), List.mem_of_getElem? (i := 408) (by decide +kernel)⟩
def lw_privs_1 : List (MethodName × Nat) := [(⟨"SleepCalls$Reader", "nextToken", "()V"⟩, 7), (⟨"SleepCalls$Reader", "readNumber", "()V"⟩, 7), (⟨"SleepCalls$Reader", "readItem", "(LSleepCalls$City;I)Z"⟩, 7), (⟨"SleepCalls$Reader", "mayStand", "(LSleepCalls$City;II)Z"⟩, 7), (⟨"SleepCalls$Reader", "isWithin", "(II)Z"⟩, 7), (⟨"SleepCalls$Reader", "mayStandForCitizen", "(I)Z"⟩, 7), (⟨"SleepCalls$City", "tellCitizen", "([I)V"⟩, 16), (⟨"SleepCalls$City", "tellNoise", "([I)V"⟩, 16), (⟨"SleepCalls", "isDistrict", "(I)Z"⟩, 17), (⟨"SleepCalls", "isCitizen", "(I)Z"⟩, 17), (⟨"SleepCalls", "sleptMost", "()I"⟩, 17), (⟨"SleepCalls", "sleptLeast", "()I"⟩, 17), (⟨"SleepCalls", "remember", "()V"⟩, 17), (⟨"SleepCalls", "goBy", "(LSleepCalls$Now;I)I"⟩, 17), (⟨"SleepCalls", "firstLapse", "(II)I"⟩, 17), (⟨"SleepCalls", "lapses", "(I)Z"⟩, 17)]
theorem lw_r1 : ∀ q ∈ lw_privs_1, lw_okq q := List.forall_mem_cons.mpr ⟨lw_p0, List.forall_mem_cons.mpr ⟨lw_p1, List.forall_mem_cons.mpr ⟨lw_p2, List.forall_mem_cons.mpr ⟨lw_p3, List.forall_mem_cons.mpr ⟨lw_p4, List.forall_mem_cons.mpr ⟨lw_p5, List.forall_mem_cons.mpr ⟨lw_p6, List.forall_mem_cons.mpr ⟨lw_p7, List.forall_mem_cons.mpr ⟨lw_p8, List.forall_mem_cons.mpr ⟨lw_p9, List.forall_mem_cons.mpr ⟨lw_p10, List.forall_mem_cons.mpr ⟨lw_p11, List.forall_mem_cons.mpr ⟨lw_p12, List.forall_mem_cons.mpr ⟨lw_p13, List.forall_mem_cons.mpr ⟨lw_p14, List.forall_mem_cons.mpr ⟨lw_p15, fun _ h => absurd h List.not_mem_nil⟩⟩⟩⟩⟩⟩⟩⟩⟩⟩⟩⟩⟩⟩⟩⟩
theorem lw_p16 : lw_okq (⟨"SleepCalls", "enoughInEach", "(I)Z"⟩, 17) := ⟨⟨by decide +kernel, by decide +kernel⟩, List.mem_of_getElem? (i := 10) (by decide +kernel), List.mem_of_getElem? (i := 417) (by decide +kernel), List.mem_of_getElem? (i := 418) (by decide +kernel)⟩
theorem lw_p17 : lw_okq (⟨"SleepCalls", "hourAhead", "(I)I"⟩, 17) := ⟨⟨by decide +kernel, by decide +kernel⟩, List.mem_of_getElem? (i := 10) (by decide +kernel), List.mem_of_getElem? (i := 421) (by decide +kernel), List.mem_of_getElem? (i := 422) (by decide +kernel)⟩
theorem lw_p18 : lw_okq (⟨"SleepCalls", "callUpFrom", "(II)Z"⟩, 17) := ⟨⟨by decide +kernel, by decide +kernel⟩, List.mem_of_getElem? (i := 10) (by decide +kernel), List.mem_of_getElem? (i := 434) (by decide +kernel), List.mem_of_getElem? (i := 435) (by decide +kernel)⟩
theorem lw_p19 : lw_okq (⟨"SleepCalls", "wakingCost", "(III)I"⟩, 17) := ⟨⟨by decide +kernel, by decide +kernel⟩, List.mem_of_getElem? (i := 10) (by decide +kernel), List.mem_of_getElem? (i := 447) (by decide +kernel), List.mem_of_getElem? (i := 448) (by decide +kernel)⟩
theorem lw_p20 : lw_okq (⟨"SleepCalls", "driveOn", "(III)V"⟩, 17) := ⟨⟨by decide +kernel, by decide +kernel⟩, List.mem_of_getElem? (i := 10) (by decide +kernel), List.mem_of_getElem? (i := 452) (by decide +kernel), List.mem_of_getElem? (i := 453) (by decide +kernel)⟩
theorem lw_p21 : lw_okq (⟨"SleepCalls", "makesCountsSo", "(I)Z"⟩, 17) := ⟨⟨by decide +kernel, by decide +kernel⟩, List.mem_of_getElem? (i := 10) (by decide +kernel), List.mem_of_getElem? (i := 477) (by decide +kernel), List.mem_of_getElem? (i := 478) (by decide +kernel)⟩
theorem lw_p22 : lw_okq (⟨"SleepCalls", "lastCounted", "()I"⟩, 17) := ⟨⟨by decide +kernel, by decide +kernel⟩, List.mem_of_getElem? (i := 10) (by decide +kernel), List.mem_of_getElem? (i := 481) (by decide +kernel), List.mem_of_getElem? (i := 482) (by decide +kernel)⟩
theorem lw_p23 : lw_okq (⟨"SleepCalls", "isAsCounted", "(II)Z"⟩, 17) := ⟨⟨by decide +kernel, by decide +kernel⟩, List.mem_of_getElem? (i := 10) (by decide +kernel), List.mem_of_getElem? (i := 485) (by decide +kernel), List.mem_of_getElem? (i := 486) (by decide +kernel)⟩
theorem lw_p24 : lw_okq (⟨"SleepCalls", "asCitizen", "(I)I"⟩, 17) := ⟨⟨by decide +kernel, by decide +kernel⟩, List.mem_of_getElem? (i := 10) (by decide +kernel), List.mem_of_getElem? (i := 507) (by decide +kernel), List.mem_of_getElem? (i := 508) (by decide +kernel)⟩
theorem lw_p25 : lw_okq (⟨"SleepCalls", "asBaker", "(I)I"⟩, 17) := ⟨⟨by decide +kernel, by decide +kernel⟩, List.mem_of_getElem? (i := 10) (by decide +kernel), List.mem_of_getElem? (i := 511) (by decide +kernel), List.mem_of_getElem? (i := 512) (by decide +kernel)⟩
theorem lw_p26 : lw_okq (⟨"SleepCalls", "asDeputy", "(I)I"⟩, 17) := ⟨⟨by decide +kernel, by decide +kernel⟩, List.mem_of_getElem? (i := 10) (by decide +kernel), List.mem_of_getElem? (i := 516) (by decide +kernel), List.mem_of_getElem? (i := 517) (by decide +kernel)⟩
theorem lw_p27 : lw_okq (⟨"SleepCalls", "asGuard", "(I)I"⟩, 17) := ⟨⟨by decide +kernel, by decide +kernel⟩, List.mem_of_getElem? (i := 10) (by decide +kernel), List.mem_of_getElem? (i := 521) (by decide +kernel), List.mem_of_getElem? (i := 522) (by decide +kernel)⟩
theorem lw_p28 : lw_okq (⟨"SleepCalls", "asTwin", "(I)I"⟩, 17) := ⟨⟨by decide +kernel, by decide +kernel⟩, List.mem_of_getElem? (i := 10) (by decide +kernel), List.mem_of_getElem? (i := 526) (by decide +kernel), List.mem_of_getElem? (i := 527) (by decide +kernel)⟩
theorem lw_p29 : lw_okq (⟨"SleepCalls", "asVeteran", "(I)I"⟩, 17) := ⟨⟨by decide +kernel, by decide +kernel⟩, List.mem_of_getElem? (i := 10) (by decide +kernel), List.mem_of_getElem? (i := 531) (by decide +kernel), List.mem_of_getElem? (i := 532) (by decide +kernel)⟩
theorem lw_p30 : lw_okq (⟨"SleepCallsModel", "reads", "()Z"⟩, 26) := ⟨⟨by decide +kernel, by decide +kernel⟩, List.mem_of_getElem? (i := 552) (by decide +kernel), List.mem_of_getElem? (i := 558) (by decide +kernel), List.mem_of_getElem? (i := 559) (by decide +kernel)⟩
theorem lw_p31 : lw_okq (⟨"SleepCallsModel", "token", "()V"⟩, 26) := ⟨⟨by decide +kernel, by decide +kernel⟩, List.mem_of_getElem? (i := 552) (by decide +kernel), List.mem_of_getElem? (i := 565) (by decide +kernel), List.mem_of_getElem? (i := 566) (by decide +kernel)⟩
def lw_privs_2 : List (MethodName × Nat) := [(⟨"SleepCalls", "enoughInEach", "(I)Z"⟩, 17), (⟨"SleepCalls", "hourAhead", "(I)I"⟩, 17), (⟨"SleepCalls", "callUpFrom", "(II)Z"⟩, 17), (⟨"SleepCalls", "wakingCost", "(III)I"⟩, 17), (⟨"SleepCalls", "driveOn", "(III)V"⟩, 17), (⟨"SleepCalls", "makesCountsSo", "(I)Z"⟩, 17), (⟨"SleepCalls", "lastCounted", "()I"⟩, 17), (⟨"SleepCalls", "isAsCounted", "(II)Z"⟩, 17), (⟨"SleepCalls", "asCitizen", "(I)I"⟩, 17), (⟨"SleepCalls", "asBaker", "(I)I"⟩, 17), (⟨"SleepCalls", "asDeputy", "(I)I"⟩, 17), (⟨"SleepCalls", "asGuard", "(I)I"⟩, 17), (⟨"SleepCalls", "asTwin", "(I)I"⟩, 17), (⟨"SleepCalls", "asVeteran", "(I)I"⟩, 17), (⟨"SleepCallsModel", "reads", "()Z"⟩, 26), (⟨"SleepCallsModel", "token", "()V"⟩, 26)]
theorem lw_r2 : ∀ q ∈ lw_privs_2, lw_okq q := List.forall_mem_cons.mpr ⟨lw_p16, List.forall_mem_cons.mpr ⟨lw_p17, List.forall_mem_cons.mpr ⟨lw_p18, List.forall_mem_cons.mpr ⟨lw_p19, List.forall_mem_cons.mpr ⟨lw_p20, List.forall_mem_cons.mpr ⟨lw_p21, List.forall_mem_cons.mpr ⟨lw_p22, List.forall_mem_cons.mpr ⟨lw_p23, List.forall_mem_cons.mpr ⟨lw_p24, List.forall_mem_cons.mpr ⟨lw_p25, List.forall_mem_cons.mpr ⟨lw_p26, List.forall_mem_cons.mpr ⟨lw_p27, List.forall_mem_cons.mpr ⟨lw_p28, List.forall_mem_cons.mpr ⟨lw_p29, List.forall_mem_cons.mpr ⟨lw_p30, List.forall_mem_cons.mpr ⟨lw_p31, fun _ h => absurd h List.not_mem_nil⟩⟩⟩⟩⟩⟩⟩⟩⟩⟩⟩⟩⟩⟩⟩⟩
theorem lw_p32 : lw_okq (⟨"SleepCallsModel", "letterAt", "(I)I"⟩, 26) := ⟨⟨by decide +kernel, by decide +kernel⟩, List.mem_of_getElem? (i := 552) (by decide +kernel), List.mem_of_getElem? (i := 569) (by decide +kernel), List.mem_of_getElem? (i := 570) (by decide +kernel)⟩
theorem lw_p33 : lw_okq (⟨"SleepCallsModel", "readsItem", "()Z"⟩, 26) := ⟨⟨by decide +kernel, by decide +kernel⟩, List.mem_of_getElem? (i := 552) (by decide +kernel), List.mem_of_getElem? (i := 579) (by decide +kernel), List.mem_of_getElem? (i := 580) (by decide +kernel)⟩
theorem lw_p34 : lw_okq (⟨"SleepCallsModel", "readsDistricts", "()Z"⟩, 26) := ⟨⟨by decide +kernel, by decide +kernel⟩, List.mem_of_getElem? (i := 552) (by decide +kernel), List.mem_of_getElem? (i := 583) (by decide +kernel), List.mem_of_getElem? (i := 584) (by decide +kernel)⟩
theorem lw_p35 : lw_okq (⟨"SleepCallsModel", "number", "(III)Z"⟩, 26) := ⟨⟨by decide +kernel, by decide +kernel⟩, List.mem_of_getElem? (i := 552) (by decide +kernel), List.mem_of_getElem? (i := 587) (by decide +kernel), List.mem_of_getElem? (i := 588) (by decide +kernel)⟩
theorem lw_p36 : lw_okq (⟨"SleepCallsModel", "readsQuota", "()Z"⟩, 26) := ⟨⟨by decide +kernel, by decide +kernel⟩, List.mem_of_getElem? (i := 552) (by decide +kernel), List.mem_of_getElem? (i := 591) (by decide +kernel), List.mem_of_getElem? (i := 592) (by decide +kernel)⟩
theorem lw_p37 : lw_okq (⟨"SleepCallsModel", "readsRoad", "()Z"⟩, 26) := ⟨⟨by decide +kernel, by decide +kernel⟩, List.mem_of_getElem? (i := 552) (by decide +kernel), List.mem_of_getElem? (i := 595) (by decide +kernel), List.mem_of_getElem? (i := 596) (by decide +kernel)⟩
theorem lw_p38 : lw_okq (⟨"SleepCallsModel", "readsBeds", "()Z"⟩, 26) := ⟨⟨by decide +kernel, by decide +kernel⟩, List.mem_of_getElem? (i := 552) (by decide +kernel), List.mem_of_getElem? (i := 599) (by decide +kernel), List.mem_of_getElem? (i := 600) (by decide +kernel)⟩
theorem lw_p39 : lw_okq (⟨"SleepCallsModel", "readsCitizen", "()Z"⟩, 26) := ⟨⟨by decide +kernel, by decide +kernel⟩, List.mem_of_getElem? (i := 552) (by decide +kernel), List.mem_of_getElem? (i := 603) (by decide +kernel), List.mem_of_getElem? (i := 604) (by decide +kernel)⟩
theorem lw_p40 : lw_okq (⟨"SleepCallsModel", "readsNoise", "()Z"⟩, 26) := ⟨⟨by decide +kernel, by decide +kernel⟩, List.mem_of_getElem? (i := 552) (by decide +kernel), List.mem_of_getElem? (i := 607) (by decide +kernel), List.mem_of_getElem? (i := 608) (by decide +kernel)⟩
theorem lw_p41 : lw_okq (⟨"SleepCallsModel", "tells", "()V"⟩, 26) := ⟨⟨by decide +kernel, by decide +kernel⟩, List.mem_of_getElem? (i := 552) (by decide +kernel), List.mem_of_getElem? (i := 611) (by decide +kernel), List.mem_of_getElem? (i := 612) (by decide +kernel)⟩
theorem lw_p42 : lw_okq (⟨"SleepCallsModel", "begins", "()V"⟩, 26) := ⟨⟨by decide +kernel, by decide +kernel⟩, List.mem_of_getElem? (i := 552) (by decide +kernel), List.mem_of_getElem? (i := 615) (by decide +kernel), List.mem_of_getElem? (i := 616) (by decide +kernel)⟩
theorem lw_p43 : lw_okq (⟨"SleepCallsModel", "isDistrict", "(I)Z"⟩, 26) := ⟨⟨by decide +kernel, by decide +kernel⟩, List.mem_of_getElem? (i := 552) (by decide +kernel), List.mem_of_getElem? (i := 714) (by decide +kernel), List.mem_of_getElem? (i := 715) (by decide +kernel)⟩
theorem lw_p44 : lw_okq (⟨"SleepCallsModel", "isCitizen", "(I)Z"⟩, 26) := ⟨⟨by decide +kernel, by decide +kernel⟩, List.mem_of_getElem? (i := 552) (by decide +kernel), List.mem_of_getElem? (i := 722) (by decide +kernel), List.mem_of_getElem? (i := 723) (by decide +kernel)⟩
theorem lw_p45 : lw_okq (⟨"SleepCallsModel", "most", "(I)I"⟩, 26) := ⟨⟨by decide +kernel, by decide +kernel⟩, List.mem_of_getElem? (i := 552) (by decide +kernel), List.mem_of_getElem? (i := 734) (by decide +kernel), List.mem_of_getElem? (i := 735) (by decide +kernel)⟩
theorem lw_p46 : lw_okq (⟨"SleepCallsModel", "keeps", "()V"⟩, 26) := ⟨⟨by decide +kernel, by decide +kernel⟩, List.mem_of_getElem? (i := 552) (by decide +kernel), List.mem_of_getElem? (i := 742) (by decide +kernel), List.mem_of_getElem? (i := 743) (by decide +kernel)⟩
theorem lw_p47 : lw_okq (⟨"SleepCallsModel", "calledNow", "()I"⟩, 26) := ⟨⟨by decide +kernel, by decide +kernel⟩, List.mem_of_getElem? (i := 552) (by decide +kernel), List.mem_of_getElem? (i := 750) (by decide +kernel), List.mem_of_getElem? (i := 751) (by decide +kernel)⟩
def lw_privs_3 : List (MethodName × Nat) := [(⟨"SleepCallsModel", "letterAt", "(I)I"⟩, 26), (⟨"SleepCallsModel", "readsItem", "()Z"⟩, 26), (⟨"SleepCallsModel", "readsDistricts", "()Z"⟩, 26), (⟨"SleepCallsModel", "number", "(III)Z"⟩, 26), (⟨"SleepCallsModel", "readsQuota", "()Z"⟩, 26), (⟨"SleepCallsModel", "readsRoad", "()Z"⟩, 26), (⟨"SleepCallsModel", "readsBeds", "()Z"⟩, 26), (⟨"SleepCallsModel", "readsCitizen", "()Z"⟩, 26), (⟨"SleepCallsModel", "readsNoise", "()Z"⟩, 26), (⟨"SleepCallsModel", "tells", "()V"⟩, 26), (⟨"SleepCallsModel", "begins", "()V"⟩, 26), (⟨"SleepCallsModel", "isDistrict", "(I)Z"⟩, 26), (⟨"SleepCallsModel", "isCitizen", "(I)Z"⟩, 26), (⟨"SleepCallsModel", "most", "(I)I"⟩, 26), (⟨"SleepCallsModel", "keeps", "()V"⟩, 26), (⟨"SleepCallsModel", "calledNow", "()I"⟩, 26)]
theorem lw_r3 : ∀ q ∈ lw_privs_3, lw_okq q := List.forall_mem_cons.mpr ⟨lw_p32, List.forall_mem_cons.mpr ⟨lw_p33, List.forall_mem_cons.mpr ⟨lw_p34, List.forall_mem_cons.mpr ⟨lw_p35, List.forall_mem_cons.mpr ⟨lw_p36, List.forall_mem_cons.mpr ⟨lw_p37, List.forall_mem_cons.mpr ⟨lw_p38, List.forall_mem_cons.mpr ⟨lw_p39, List.forall_mem_cons.mpr ⟨lw_p40, List.forall_mem_cons.mpr ⟨lw_p41, List.forall_mem_cons.mpr ⟨lw_p42, List.forall_mem_cons.mpr ⟨lw_p43, List.forall_mem_cons.mpr ⟨lw_p44, List.forall_mem_cons.mpr ⟨lw_p45, List.forall_mem_cons.mpr ⟨lw_p46, List.forall_mem_cons.mpr ⟨lw_p47, fun _ h => absurd h List.not_mem_nil⟩⟩⟩⟩⟩⟩⟩⟩⟩⟩⟩⟩⟩⟩⟩⟩
theorem lw_p48 : lw_okq (⟨"SleepCallsModel", "asleep", "(I)I"⟩, 26) := ⟨⟨by decide +kernel, by decide +kernel⟩, List.mem_of_getElem? (i := 552) (by decide +kernel), List.mem_of_getElem? (i := 754) (by decide +kernel), List.mem_of_getElem? (i := 755) (by decide +kernel)⟩
theorem lw_p49 : lw_okq (⟨"SleepCallsModel", "could", "(IZ)Z"⟩, 26) := ⟨⟨by decide +kernel, by decide +kernel⟩, List.mem_of_getElem? (i := 552) (by decide +kernel), List.mem_of_getElem? (i := 758) (by decide +kernel), List.mem_of_getElem? (i := 759) (by decide +kernel)⟩
theorem lw_p50 : lw_okq (⟨"SleepCallsModel", "loudest", "(I)I"⟩, 26) := ⟨⟨by decide +kernel, by decide +kernel⟩, List.mem_of_getElem? (i := 552) (by decide +kernel), List.mem_of_getElem? (i := 762) (by decide +kernel), List.mem_of_getElem? (i := 763) (by decide +kernel)⟩
theorem lw_p51 : lw_okq (⟨"SleepCallsModel", "goes", "(I)Z"⟩, 26) := ⟨⟨by decide +kernel, by decide +kernel⟩, List.mem_of_getElem? (i := 552) (by decide +kernel), List.mem_of_getElem? (i := 766) (by decide +kernel), List.mem_of_getElem? (i := 767) (by decide +kernel)⟩
theorem lw_p52 : lw_okq (⟨"SleepCallsModel", "holds", "()V"⟩, 26) := ⟨⟨by decide +kernel, by decide +kernel⟩, List.mem_of_getElem? (i := 552) (by decide +kernel), List.mem_of_getElem? (i := 781) (by decide +kernel), List.mem_of_getElem? (i := 782) (by decide +kernel)⟩
theorem lw_p53 : lw_okq (⟨"SleepCallsModel", "lets", "()V"⟩, 26) := ⟨⟨by decide +kernel, by decide +kernel⟩, List.mem_of_getElem? (i := 552) (by decide +kernel), List.mem_of_getElem? (i := 785) (by decide +kernel), List.mem_of_getElem? (i := 786) (by decide +kernel)⟩
theorem lw_p54 : lw_okq (⟨"SleepCallsModel", "lapseIn", "(I)I"⟩, 26) := ⟨⟨by decide +kernel, by decide +kernel⟩, List.mem_of_getElem? (i := 552) (by decide +kernel), List.mem_of_getElem? (i := 793) (by decide +kernel), List.mem_of_getElem? (i := 794) (by decide +kernel)⟩
theorem lw_p55 : lw_okq (⟨"SleepCallsModel", "seeks", "(I)V"⟩, 26) := ⟨⟨by decide +kernel, by decide +kernel⟩, List.mem_of_getElem? (i := 552) (by decide +kernel), List.mem_of_getElem? (i := 801) (by decide +kernel), List.mem_of_getElem? (i := 802) (by decide +kernel)⟩
theorem lw_p56 : lw_okq (⟨"SleepCallsModel", "puts", "(I)V"⟩, 26) := ⟨⟨by decide +kernel, by decide +kernel⟩, List.mem_of_getElem? (i := 552) (by decide +kernel), List.mem_of_getElem? (i := 805) (by decide +kernel), List.mem_of_getElem? (i := 806) (by decide +kernel)⟩
theorem lw_p57 : lw_okq (⟨"SleepCallsModel", "takes", "(I)V"⟩, 26) := ⟨⟨by decide +kernel, by decide +kernel⟩, List.mem_of_getElem? (i := 552) (by decide +kernel), List.mem_of_getElem? (i := 809) (by decide +kernel), List.mem_of_getElem? (i := 810) (by decide +kernel)⟩
theorem lw_p58 : lw_okq (⟨"SleepCallsModel", "far", "(III)I"⟩, 26) := ⟨⟨by decide +kernel, by decide +kernel⟩, List.mem_of_getElem? (i := 552) (by decide +kernel), List.mem_of_getElem? (i := 821) (by decide +kernel), List.mem_of_getElem? (i := 822) (by decide +kernel)⟩
theorem lw_p59 : lw_okq (⟨"SleepCallsModel", "isSo", "()Z"⟩, 26) := ⟨⟨by decide +kernel, by decide +kernel⟩, List.mem_of_getElem? (i := 552) (by decide +kernel), List.mem_of_getElem? (i := 845) (by decide +kernel), List.mem_of_getElem? (i := 846) (by decide +kernel)⟩
def lw_privs_4 : List (MethodName × Nat) := [(⟨"SleepCallsModel", "asleep", "(I)I"⟩, 26), (⟨"SleepCallsModel", "could", "(IZ)Z"⟩, 26), (⟨"SleepCallsModel", "loudest", "(I)I"⟩, 26), (⟨"SleepCallsModel", "goes", "(I)Z"⟩, 26), (⟨"SleepCallsModel", "holds", "()V"⟩, 26), (⟨"SleepCallsModel", "lets", "()V"⟩, 26), (⟨"SleepCallsModel", "lapseIn", "(I)I"⟩, 26), (⟨"SleepCallsModel", "seeks", "(I)V"⟩, 26), (⟨"SleepCallsModel", "puts", "(I)V"⟩, 26), (⟨"SleepCallsModel", "takes", "(I)V"⟩, 26), (⟨"SleepCallsModel", "far", "(III)I"⟩, 26), (⟨"SleepCallsModel", "isSo", "()Z"⟩, 26)]
theorem lw_r4 : ∀ q ∈ lw_privs_4, lw_okq q := List.forall_mem_cons.mpr ⟨lw_p48, List.forall_mem_cons.mpr ⟨lw_p49, List.forall_mem_cons.mpr ⟨lw_p50, List.forall_mem_cons.mpr ⟨lw_p51, List.forall_mem_cons.mpr ⟨lw_p52, List.forall_mem_cons.mpr ⟨lw_p53, List.forall_mem_cons.mpr ⟨lw_p54, List.forall_mem_cons.mpr ⟨lw_p55, List.forall_mem_cons.mpr ⟨lw_p56, List.forall_mem_cons.mpr ⟨lw_p57, List.forall_mem_cons.mpr ⟨lw_p58, List.forall_mem_cons.mpr ⟨lw_p59, fun _ h => absurd h List.not_mem_nil⟩⟩⟩⟩⟩⟩⟩⟩⟩⟩⟩⟩
def lw_privs : List (MethodName × Nat) := lw_privs_1 ++ (lw_privs_2 ++ (lw_privs_3 ++ (lw_privs_4)))
def lw_tbl : List Cond := k2_sels lw_privs ++ tables_1
theorem lw_privs_ok : ∀ q ∈ lw_privs, lw_okq q := by
  show ∀ q ∈ lw_privs_1 ++ (lw_privs_2 ++ (lw_privs_3 ++ (lw_privs_4))), lw_okq q
  exact List.forall_mem_append.mpr ⟨lw_r1, List.forall_mem_append.mpr ⟨lw_r2, List.forall_mem_append.mpr ⟨lw_r3, lw_r4⟩⟩⟩
def RX0 : String := "SleepCalls$City"
def TX0 : u_T := fun k => match k with
  | 0 => ("SleepCalls$City", "districts", "I", false)
  | 1 => ("SleepCalls$City", "quota", "I", false)
  | 2 => ("SleepCalls$City", "quotaTold", "Z", false)
  | 3 => ("SleepCalls$City", "beds", "[I", true)
  | 4 => ("SleepCalls$City", "joined", "[I", true)
  | 5 => ("SleepCalls$City", "citizens", "I", false)
  | 6 => ("SleepCalls$City", "home", "[I", true)
  | 7 => ("SleepCalls$City", "tiredAtFirst", "[I", true)
  | 8 => ("SleepCalls$City", "work", "[I", true)
  | 9 => ("SleepCalls$City", "deep", "[I", true)
  | 10 => ("SleepCalls$City", "noises", "I", false)
  | 11 => ("SleepCalls$City", "noiseDistrict", "[I", true)
  | 12 => ("SleepCalls$City", "noiseHour", "[I", true)
  | 13 => ("SleepCalls$City", "noiseLoud", "[I", true)
  | 14 => ("SleepCalls$City", "livingIn", "[I", true)
  | _ => ("SleepCalls$City", "restfulIn", "[I", true)
def tyX0 : Nat → FieldType := fun k => match k with
  | 0 => .int
  | 1 => .int
  | 2 => .boolean
  | 3 => .array .int
  | 4 => .array .int
  | 5 => .int
  | 6 => .array .int
  | 7 => .array .int
  | 8 => .array .int
  | 9 => .array .int
  | 10 => .int
  | 11 => .array .int
  | 12 => .array .int
  | 13 => .array .int
  | 14 => .array .int
  | _ => .array .int
theorem nmX0 : ∀ a, a < 16 → ∀ b, b < 16 → a ≠ b → (TX0 a).2.1 ≠ (TX0 b).2.1 := by decide +kernel
theorem tyX0_ok : ∀ k, k < 16 → parseFieldDescriptor (TX0 k).2.2.1 = some (tyX0 k) := by decide +kernel
abbrev cX0_init : ByteArray := prog_2_method_1_code
def yX0_init : MethodName := ⟨RX0, "<init>", "()V"⟩
abbrev cX0_restart : ByteArray := prog_2_method_2_code
def yX0_restart : MethodName := ⟨RX0, "restart", "()V"⟩
abbrev cX0_mayComeNext : ByteArray := prog_2_method_3_code
def yX0_mayComeNext : MethodName := ⟨RX0, "mayComeNext", "(II)Z"⟩
abbrev cX0_tell : ByteArray := prog_2_method_4_code
def yX0_tell : MethodName := ⟨RX0, "tell", "(I[I)V"⟩
abbrev cX0_tellCitizen : ByteArray := prog_2_method_5_code
def yX0_tellCitizen : MethodName := ⟨RX0, "tellCitizen", "([I)V"⟩
abbrev cX0_tellNoise : ByteArray := prog_2_method_6_code
def yX0_tellNoise : MethodName := ⟨RX0, "tellNoise", "([I)V"⟩
abbrev cX0_settle : ByteArray := prog_2_method_7_code
def yX0_settle : MethodName := ⟨RX0, "settle", "()V"⟩
abbrev cX0_tiredOf : ByteArray := prog_2_method_8_code
def yX0_tiredOf : MethodName := ⟨RX0, "tiredOf", "([I)I"⟩
abbrev cX0_bedded : ByteArray := prog_2_method_9_code
def yX0_bedded : MethodName := ⟨RX0, "bedded", "(I)I"⟩
abbrev cX0_couldLieDown : ByteArray := prog_2_method_10_code
def yX0_couldLieDown : MethodName := ⟨RX0, "couldLieDown", "(LSleepCalls$Now;)I"⟩
abbrev cX0_lyingDown : ByteArray := prog_2_method_11_code
def yX0_lyingDown : MethodName := ⟨RX0, "lyingDown", "(LSleepCalls$Now;I)I"⟩
abbrev cX0_asleep : ByteArray := prog_2_method_12_code
def yX0_asleep : MethodName := ⟨RX0, "asleep", "(LSleepCalls$Now;I)I"⟩
abbrev cX0_wokenBy : ByteArray := prog_2_method_13_code
def yX0_wokenBy : MethodName := ⟨RX0, "wokenBy", "(II)I"⟩
abbrev cX0_wokenByAll : ByteArray := prog_2_method_14_code
def yX0_wokenByAll : MethodName := ⟨RX0, "wokenByAll", "(I)I"⟩
abbrev cX0_noisesOf : ByteArray := prog_2_method_15_code
def yX0_noisesOf : MethodName := ⟨RX0, "noisesOf", "(I)I"⟩
def RX1 : String := "SleepCalls$Now"
def TX1 : u_T := fun k => match k with
  | 0 => ("SleepCalls$Now", "day", "I", false)
  | 1 => ("SleepCalls$Now", "hour", "I", false)
  | 2 => ("SleepCalls$Now", "lapses", "I", false)
  | 3 => ("SleepCalls$Now", "tired", "[I", true)
  | 4 => ("SleepCalls$Now", "called", "[I", true)
  | _ => ("SleepCalls$Now", "slept", "[I", true)
def tyX1 : Nat → FieldType := fun k => match k with
  | 0 => .int
  | 1 => .int
  | 2 => .int
  | 3 => .array .int
  | 4 => .array .int
  | _ => .array .int
theorem nmX1 : ∀ a, a < 6 → ∀ b, b < 6 → a ≠ b → (TX1 a).2.1 ≠ (TX1 b).2.1 := by decide +kernel
theorem tyX1_ok : ∀ k, k < 6 → parseFieldDescriptor (TX1 k).2.2.1 = some (tyX1 k) := by decide +kernel
abbrev cX1_init : ByteArray := prog_3_method_1_code
def yX1_init : MethodName := ⟨RX1, "<init>", "()V"⟩
abbrev cX1_begin : ByteArray := prog_3_method_2_code
def yX1_begin : MethodName := ⟨RX1, "begin", "(LSleepCalls$City;)V"⟩
abbrev cX1_become : ByteArray := prog_3_method_3_code
def yX1_become : MethodName := ⟨RX1, "become", "(LSleepCalls$Now;)V"⟩
abbrev cX1_pass : ByteArray := prog_3_method_4_code
def yX1_pass : MethodName := ⟨RX1, "pass", "(LSleepCalls$City;I)V"⟩
def RX2 : String := "SleepCalls$Reader"
def TX2 : u_T := fun k => match k with
  | 0 => ("SleepCalls$Reader", "letters", "[C", true)
  | 1 => ("SleepCalls$Reader", "length", "I", false)
  | 2 => ("SleepCalls$Reader", "place", "I", false)
  | 3 => ("SleepCalls$Reader", "token", "I", false)
  | 4 => ("SleepCalls$Reader", "tokenPlace", "I", false)
  | 5 => ("SleepCalls$Reader", "value", "I", false)
  | _ => ("SleepCalls$Reader", "numbers", "[I", true)
def tyX2 : Nat → FieldType := fun k => match k with
  | 0 => .array .char
  | 1 => .int
  | 2 => .int
  | 3 => .int
  | 4 => .int
  | 5 => .int
  | _ => .array .int
theorem nmX2 : ∀ a, a < 7 → ∀ b, b < 7 → a ≠ b → (TX2 a).2.1 ≠ (TX2 b).2.1 := by decide +kernel
theorem tyX2_ok : ∀ k, k < 7 → parseFieldDescriptor (TX2 k).2.2.1 = some (tyX2 k) := by decide +kernel
abbrev cX2_init : ByteArray := prog_4_method_1_code
def yX2_init : MethodName := ⟨RX2, "<init>", "()V"⟩
abbrev cX2_readInto : ByteArray := prog_4_method_2_code
def yX2_readInto : MethodName := ⟨RX2, "readInto", "(LSleepCalls$City;)I"⟩
abbrev cX2_readItem : ByteArray := prog_4_method_3_code
def yX2_readItem : MethodName := ⟨RX2, "readItem", "(LSleepCalls$City;I)Z"⟩
abbrev cX2_howManyNumbers : ByteArray := prog_4_method_4_code
def yX2_howManyNumbers : MethodName := ⟨RX2, "howManyNumbers", "(I)I"⟩
abbrev cX2_mayStand : ByteArray := prog_4_method_5_code
def yX2_mayStand : MethodName := ⟨RX2, "mayStand", "(LSleepCalls$City;II)Z"⟩
abbrev cX2_mayStandForCitizen : ByteArray := prog_4_method_6_code
def yX2_mayStandForCitizen : MethodName := ⟨RX2, "mayStandForCitizen", "(I)Z"⟩
abbrev cX2_isWithin : ByteArray := prog_4_method_7_code
def yX2_isWithin : MethodName := ⟨RX2, "isWithin", "(II)Z"⟩
abbrev cX2_nextToken : ByteArray := prog_4_method_8_code
def yX2_nextToken : MethodName := ⟨RX2, "nextToken", "()V"⟩
abbrev cX2_readNumber : ByteArray := prog_4_method_9_code
def yX2_readNumber : MethodName := ⟨RX2, "readNumber", "()V"⟩
abbrev cX2_isDigit : ByteArray := prog_4_method_10_code
def yX2_isDigit : MethodName := ⟨RX2, "isDigit", "(C)Z"⟩
def RX3 : String := "SleepCalls"
def TX3 : u_T := fun k => match k with
  | 0 => ("SleepCalls", "text", "LSleepCalls$Reader;", true)
  | 1 => ("SleepCalls", "told", "LSleepCalls$City;", false)
  | 2 => ("SleepCalls", "spare", "LSleepCalls$City;", false)
  | 3 => ("SleepCalls", "present", "LSleepCalls$Now;", true)
  | 4 => ("SleepCalls", "trial", "LSleepCalls$Now;", true)
  | 5 => ("SleepCalls", "past", "[LSleepCalls$Now;", true)
  | 6 => ("SleepCalls", "latest", "I", false)
  | 7 => ("SleepCalls", "undoable", "I", false)
  | 8 => ("SleepCalls", "images", "[LSleepCalls$Now;", true)
  | 9 => ("SleepCalls", "kept", "[Z", true)
  | 10 => ("SleepCalls", "countedHour", "[I", true)
  | 11 => ("SleepCalls", "countedMany", "[I", true)
  | 12 => ("SleepCalls", "counts", "I", false)
  | 13 => ("SleepCalls", "calledUp", "[I", true)
  | 14 => ("SleepCalls", "tiredIn", "[[I", true)
  | 15 => ("SleepCalls", "wayCost", "[I", true)
  | _ => ("SleepCalls", "trace", "J", false)
def tyX3 : Nat → FieldType := fun k => match k with
  | 0 => .object "SleepCalls$Reader"
  | 1 => .object "SleepCalls$City"
  | 2 => .object "SleepCalls$City"
  | 3 => .object "SleepCalls$Now"
  | 4 => .object "SleepCalls$Now"
  | 5 => .array (.object "SleepCalls$Now")
  | 6 => .int
  | 7 => .int
  | 8 => .array (.object "SleepCalls$Now")
  | 9 => .array .boolean
  | 10 => .array .int
  | 11 => .array .int
  | 12 => .int
  | 13 => .array .int
  | 14 => .array (.array .int)
  | 15 => .array .int
  | _ => .long
theorem nmX3 : ∀ a, a < 17 → ∀ b, b < 17 → a ≠ b → (TX3 a).2.1 ≠ (TX3 b).2.1 := by decide +kernel
theorem tyX3_ok : ∀ k, k < 17 → parseFieldDescriptor (TX3 k).2.2.1 = some (tyX3 k) := by decide +kernel
abbrev cX3_init : ByteArray := prog_1_method_1_code
def yX3_init : MethodName := ⟨RX3, "<init>", "()V"⟩
abbrev cX3_type : ByteArray := prog_1_method_2_code
def yX3_type : MethodName := ⟨RX3, "type", "(I)I"⟩
abbrev cX3_clear : ByteArray := prog_1_method_3_code
def yX3_clear : MethodName := ⟨RX3, "clear", "()I"⟩
abbrev cX3_city : ByteArray := prog_1_method_4_code
def yX3_city : MethodName := ⟨RX3, "city", "()I"⟩
abbrev cX3_district : ByteArray := prog_1_method_5_code
def yX3_district : MethodName := ⟨RX3, "district", "(II)I"⟩
abbrev cX3_citizen : ByteArray := prog_1_method_6_code
def yX3_citizen : MethodName := ⟨RX3, "citizen", "(II)I"⟩
abbrev cX3_noise : ByteArray := prog_1_method_7_code
def yX3_noise : MethodName := ⟨RX3, "noise", "(II)I"⟩
abbrev cX3_now : ByteArray := prog_1_method_8_code
def yX3_now : MethodName := ⟨RX3, "now", "(I)I"⟩
abbrev cX3_sleptMost : ByteArray := prog_1_method_9_code
def yX3_sleptMost : MethodName := ⟨RX3, "sleptMost", "()I"⟩
abbrev cX3_sleptLeast : ByteArray := prog_1_method_10_code
def yX3_sleptLeast : MethodName := ⟨RX3, "sleptLeast", "()I"⟩
abbrev cX3_isDistrict : ByteArray := prog_1_method_11_code
def yX3_isDistrict : MethodName := ⟨RX3, "isDistrict", "(I)Z"⟩
abbrev cX3_isCitizen : ByteArray := prog_1_method_12_code
def yX3_isCitizen : MethodName := ⟨RX3, "isCitizen", "(I)Z"⟩
abbrev cX3_calls : ByteArray := prog_1_method_13_code
def yX3_calls : MethodName := ⟨RX3, "calls", "(II)I"⟩
abbrev cX3_hour : ByteArray := prog_1_method_14_code
def yX3_hour : MethodName := ⟨RX3, "hour", "()I"⟩
abbrev cX3_undo : ByteArray := prog_1_method_15_code
def yX3_undo : MethodName := ⟨RX3, "undo", "()I"⟩
abbrev cX3_remember : ByteArray := prog_1_method_16_code
def yX3_remember : MethodName := ⟨RX3, "remember", "()V"⟩
abbrev cX3_goBy : ByteArray := prog_1_method_17_code
def yX3_goBy : MethodName := ⟨RX3, "goBy", "(LSleepCalls$Now;I)I"⟩
abbrev cX3_lapses : ByteArray := prog_1_method_18_code
def yX3_lapses : MethodName := ⟨RX3, "lapses", "(I)Z"⟩
abbrev cX3_asleepIn : ByteArray := prog_1_method_19_code
def yX3_asleepIn : MethodName := ⟨RX3, "asleepIn", "(I)I"⟩
abbrev cX3_lapse : ByteArray := prog_1_method_20_code
def yX3_lapse : MethodName := ⟨RX3, "lapse", "()I"⟩
abbrev cX3_firstLapse : ByteArray := prog_1_method_21_code
def yX3_firstLapse : MethodName := ⟨RX3, "firstLapse", "(II)I"⟩
abbrev cX3_callUp : ByteArray := prog_1_method_22_code
def yX3_callUp : MethodName := ⟨RX3, "callUp", "(II)I"⟩
abbrev cX3_enoughInEach : ByteArray := prog_1_method_23_code
def yX3_enoughInEach : MethodName := ⟨RX3, "enoughInEach", "(I)Z"⟩
abbrev cX3_callUpFrom : ByteArray := prog_1_method_24_code
def yX3_callUpFrom : MethodName := ⟨RX3, "callUpFrom", "(II)Z"⟩
abbrev cX3_hourAhead : ByteArray := prog_1_method_25_code
def yX3_hourAhead : MethodName := ⟨RX3, "hourAhead", "(I)I"⟩
abbrev cX3_tire : ByteArray := prog_1_method_26_code
def yX3_tire : MethodName := ⟨RX3, "tire", "([II[I)V"⟩
abbrev cX3_has : ByteArray := prog_1_method_27_code
def yX3_has : MethodName := ⟨RX3, "has", "(II)Z"⟩
abbrev cX3_bears : ByteArray := prog_1_method_28_code
def yX3_bears : MethodName := ⟨RX3, "bears", "()I"⟩
abbrev cX3_cart : ByteArray := prog_1_method_29_code
def yX3_cart : MethodName := ⟨RX3, "cart", "(IIII)I"⟩
abbrev cX3_wakingCost : ByteArray := prog_1_method_30_code
def yX3_wakingCost : MethodName := ⟨RX3, "wakingCost", "(III)I"⟩
abbrev cX3_driveOn : ByteArray := prog_1_method_31_code
def yX3_driveOn : MethodName := ⟨RX3, "driveOn", "(III)V"⟩
abbrev cX3_drum : ByteArray := prog_1_method_32_code
def yX3_drum : MethodName := ⟨RX3, "drum", "(I)I"⟩
abbrev cX3_wants : ByteArray := prog_1_method_33_code
def yX3_wants : MethodName := ⟨RX3, "wants", "(I)I"⟩
abbrev cX3_counted : ByteArray := prog_1_method_34_code
def yX3_counted : MethodName := ⟨RX3, "counted", "(II)I"⟩
abbrev cX3_forget : ByteArray := prog_1_method_35_code
def yX3_forget : MethodName := ⟨RX3, "forget", "()I"⟩
abbrev cX3_sham : ByteArray := prog_1_method_36_code
def yX3_sham : MethodName := ⟨RX3, "sham", "()I"⟩
abbrev cX3_makesCountsSo : ByteArray := prog_1_method_37_code
def yX3_makesCountsSo : MethodName := ⟨RX3, "makesCountsSo", "(I)Z"⟩
abbrev cX3_lastCounted : ByteArray := prog_1_method_38_code
def yX3_lastCounted : MethodName := ⟨RX3, "lastCounted", "()I"⟩
abbrev cX3_isAsCounted : ByteArray := prog_1_method_39_code
def yX3_isAsCounted : MethodName := ⟨RX3, "isAsCounted", "(II)Z"⟩
abbrev cX3_odds : ByteArray := prog_1_method_40_code
def yX3_odds : MethodName := ⟨RX3, "odds", "(II)I"⟩
abbrev cX3_power : ByteArray := prog_1_method_41_code
def yX3_power : MethodName := ⟨RX3, "power", "(II)I"⟩
abbrev cX3_inLeastTerms : ByteArray := prog_1_method_42_code
def yX3_inLeastTerms : MethodName := ⟨RX3, "inLeastTerms", "(III)I"⟩
abbrev cX3_rate : ByteArray := prog_1_method_43_code
def yX3_rate : MethodName := ⟨RX3, "rate", "(II)I"⟩
abbrev cX3_asCitizen : ByteArray := prog_1_method_44_code
def yX3_asCitizen : MethodName := ⟨RX3, "asCitizen", "(I)I"⟩
abbrev cX3_asBaker : ByteArray := prog_1_method_45_code
def yX3_asBaker : MethodName := ⟨RX3, "asBaker", "(I)I"⟩
abbrev cX3_asDeputy : ByteArray := prog_1_method_46_code
def yX3_asDeputy : MethodName := ⟨RX3, "asDeputy", "(I)I"⟩
abbrev cX3_asGuard : ByteArray := prog_1_method_47_code
def yX3_asGuard : MethodName := ⟨RX3, "asGuard", "(I)I"⟩
abbrev cX3_asTwin : ByteArray := prog_1_method_48_code
def yX3_asTwin : MethodName := ⟨RX3, "asTwin", "(I)I"⟩
abbrev cX3_asVeteran : ByteArray := prog_1_method_49_code
def yX3_asVeteran : MethodName := ⟨RX3, "asVeteran", "(I)I"⟩
abbrev cX3_keep : ByteArray := prog_1_method_50_code
def yX3_keep : MethodName := ⟨RX3, "keep", "(I)I"⟩
abbrev cX3_back : ByteArray := prog_1_method_51_code
def yX3_back : MethodName := ⟨RX3, "back", "(I)I"⟩
abbrev cX3_count : ByteArray := prog_1_method_52_code
def yX3_count : MethodName := ⟨RX3, "count", "(I)I"⟩
abbrev cX3_trace : ByteArray := prog_1_method_53_code
def yX3_trace : MethodName := ⟨RX3, "trace", "()J"⟩
def RX4 : String := "SleepCallsModel"
def TX4 : u_T := fun k => match k with
  | 0 => ("SleepCallsModel", "trace", "J", false)
  | 1 => ("SleepCallsModel", "text", "[I", true)
  | 2 => ("SleepCallsModel", "typed", "I", false)
  | 3 => ("SleepCallsModel", "told", "[I", true)
  | 4 => ("SleepCallsModel", "draft", "[I", true)
  | 5 => ("SleepCallsModel", "s", "[I", true)
  | 6 => ("SleepCallsModel", "past", "[I", true)
  | 7 => ("SleepCallsModel", "known", "I", false)
  | 8 => ("SleepCallsModel", "images", "[I", true)
  | 9 => ("SleepCallsModel", "kept", "[Z", true)
  | 10 => ("SleepCallsModel", "counts", "[I", true)
  | 11 => ("SleepCallsModel", "counted", "I", false)
  | 12 => ("SleepCallsModel", "at", "I", false)
  | 13 => ("SleepCallsModel", "sort", "I", false)
  | 14 => ("SleepCallsModel", "start", "I", false)
  | 15 => ("SleepCallsModel", "value", "I", false)
  | 16 => ("SleepCallsModel", "heard", "I", false)
  | 17 => ("SleepCallsModel", "never", "I", false)
  | 18 => ("SleepCallsModel", "sham", "I", false)
  | 19 => ("SleepCallsModel", "drumIn", "I", false)
  | 20 => ("SleepCallsModel", "drumLoud", "I", false)
  | 21 => ("SleepCallsModel", "held", "[I", true)
  | 22 => ("SleepCallsModel", "ahead", "[I", true)
  | 23 => ("SleepCallsModel", "tried", "[I", true)
  | 24 => ("SleepCallsModel", "best", "[I", true)
  | _ => ("SleepCallsModel", "fewest", "I", false)
def tyX4 : Nat → FieldType := fun k => match k with
  | 0 => .long
  | 1 => .array .int
  | 2 => .int
  | 3 => .array .int
  | 4 => .array .int
  | 5 => .array .int
  | 6 => .array .int
  | 7 => .int
  | 8 => .array .int
  | 9 => .array .boolean
  | 10 => .array .int
  | 11 => .int
  | 12 => .int
  | 13 => .int
  | 14 => .int
  | 15 => .int
  | 16 => .int
  | 17 => .int
  | 18 => .int
  | 19 => .int
  | 20 => .int
  | 21 => .array .int
  | 22 => .array .int
  | 23 => .array .int
  | 24 => .array .int
  | _ => .int
theorem nmX4 : ∀ a, a < 26 → ∀ b, b < 26 → a ≠ b → (TX4 a).2.1 ≠ (TX4 b).2.1 := by decide +kernel
theorem tyX4_ok : ∀ k, k < 26 → parseFieldDescriptor (TX4 k).2.2.1 = some (tyX4 k) := by decide +kernel
abbrev cX4_init : ByteArray := prog_6_method_1_code
def yX4_init : MethodName := ⟨RX4, "<init>", "()V"⟩
abbrev cX4_in : ByteArray := prog_6_method_3_code
def yX4_in : MethodName := ⟨RX4, "in", "(III)Z"⟩
abbrev cX4_isCitizen : ByteArray := prog_6_method_4_code
def yX4_isCitizen : MethodName := ⟨RX4, "isCitizen", "(I)Z"⟩
abbrev cX4_isDistrict : ByteArray := prog_6_method_5_code
def yX4_isDistrict : MethodName := ⟨RX4, "isDistrict", "(I)Z"⟩
abbrev cX4_ones : ByteArray := prog_6_method_6_code
def yX4_ones : MethodName := ⟨RX4, "ones", "(I)I"⟩
abbrev cX4_type : ByteArray := prog_6_method_7_code
def yX4_type : MethodName := ⟨RX4, "type", "(I)I"⟩
abbrev cX4_clear : ByteArray := prog_6_method_8_code
def yX4_clear : MethodName := ⟨RX4, "clear", "()I"⟩
abbrev cX4_letterAt : ByteArray := prog_6_method_9_code
def yX4_letterAt : MethodName := ⟨RX4, "letterAt", "(I)I"⟩
abbrev cX4_isDigit : ByteArray := prog_6_method_10_code
def yX4_isDigit : MethodName := ⟨RX4, "isDigit", "(I)Z"⟩
abbrev cX4_isItem : ByteArray := prog_6_method_11_code
def yX4_isItem : MethodName := ⟨RX4, "isItem", "(I)Z"⟩
abbrev cX4_token : ByteArray := prog_6_method_12_code
def yX4_token : MethodName := ⟨RX4, "token", "()V"⟩
abbrev cX4_number : ByteArray := prog_6_method_13_code
def yX4_number : MethodName := ⟨RX4, "number", "(III)Z"⟩
abbrev cX4_readsDistricts : ByteArray := prog_6_method_14_code
def yX4_readsDistricts : MethodName := ⟨RX4, "readsDistricts", "()Z"⟩
abbrev cX4_readsQuota : ByteArray := prog_6_method_15_code
def yX4_readsQuota : MethodName := ⟨RX4, "readsQuota", "()Z"⟩
abbrev cX4_readsRoad : ByteArray := prog_6_method_16_code
def yX4_readsRoad : MethodName := ⟨RX4, "readsRoad", "()Z"⟩
abbrev cX4_readsBeds : ByteArray := prog_6_method_17_code
def yX4_readsBeds : MethodName := ⟨RX4, "readsBeds", "()Z"⟩
abbrev cX4_readsCitizen : ByteArray := prog_6_method_18_code
def yX4_readsCitizen : MethodName := ⟨RX4, "readsCitizen", "()Z"⟩
abbrev cX4_readsNoise : ByteArray := prog_6_method_19_code
def yX4_readsNoise : MethodName := ⟨RX4, "readsNoise", "()Z"⟩
abbrev cX4_readsItem : ByteArray := prog_6_method_20_code
def yX4_readsItem : MethodName := ⟨RX4, "readsItem", "()Z"⟩
abbrev cX4_reads : ByteArray := prog_6_method_21_code
def yX4_reads : MethodName := ⟨RX4, "reads", "()Z"⟩
abbrev cX4_begins : ByteArray := prog_6_method_22_code
def yX4_begins : MethodName := ⟨RX4, "begins", "()V"⟩
abbrev cX4_tells : ByteArray := prog_6_method_23_code
def yX4_tells : MethodName := ⟨RX4, "tells", "()V"⟩
abbrev cX4_city : ByteArray := prog_6_method_24_code
def yX4_city : MethodName := ⟨RX4, "city", "()I"⟩
abbrev cX4_district : ByteArray := prog_6_method_25_code
def yX4_district : MethodName := ⟨RX4, "district", "(II)I"⟩
abbrev cX4_citizen : ByteArray := prog_6_method_26_code
def yX4_citizen : MethodName := ⟨RX4, "citizen", "(II)I"⟩
abbrev cX4_noise : ByteArray := prog_6_method_27_code
def yX4_noise : MethodName := ⟨RX4, "noise", "(II)I"⟩
abbrev cX4_most : ByteArray := prog_6_method_28_code
def yX4_most : MethodName := ⟨RX4, "most", "(I)I"⟩
abbrev cX4_now : ByteArray := prog_6_method_29_code
def yX4_now : MethodName := ⟨RX4, "now", "(I)I"⟩
abbrev cX4_keeps : ByteArray := prog_6_method_30_code
def yX4_keeps : MethodName := ⟨RX4, "keeps", "()V"⟩
abbrev cX4_calls : ByteArray := prog_6_method_31_code
def yX4_calls : MethodName := ⟨RX4, "calls", "(II)I"⟩
abbrev cX4_could : ByteArray := prog_6_method_32_code
def yX4_could : MethodName := ⟨RX4, "could", "(IZ)Z"⟩
abbrev cX4_loudest : ByteArray := prog_6_method_33_code
def yX4_loudest : MethodName := ⟨RX4, "loudest", "(I)I"⟩
abbrev cX4_calledNow : ByteArray := prog_6_method_34_code
def yX4_calledNow : MethodName := ⟨RX4, "calledNow", "()I"⟩
abbrev cX4_asleep : ByteArray := prog_6_method_35_code
def yX4_asleep : MethodName := ⟨RX4, "asleep", "(I)I"⟩
abbrev cX4_goes : ByteArray := prog_6_method_36_code
def yX4_goes : MethodName := ⟨RX4, "goes", "(I)Z"⟩
abbrev cX4_hour : ByteArray := prog_6_method_37_code
def yX4_hour : MethodName := ⟨RX4, "hour", "()I"⟩
abbrev cX4_undo : ByteArray := prog_6_method_38_code
def yX4_undo : MethodName := ⟨RX4, "undo", "()I"⟩
abbrev cX4_holds : ByteArray := prog_6_method_39_code
def yX4_holds : MethodName := ⟨RX4, "holds", "()V"⟩
abbrev cX4_lets : ByteArray := prog_6_method_40_code
def yX4_lets : MethodName := ⟨RX4, "lets", "()V"⟩
abbrev cX4_asleepIn : ByteArray := prog_6_method_41_code
def yX4_asleepIn : MethodName := ⟨RX4, "asleepIn", "(I)I"⟩
abbrev cX4_lapseIn : ByteArray := prog_6_method_42_code
def yX4_lapseIn : MethodName := ⟨RX4, "lapseIn", "(I)I"⟩
abbrev cX4_lapse : ByteArray := prog_6_method_43_code
def yX4_lapse : MethodName := ⟨RX4, "lapse", "()I"⟩
abbrev cX4_puts : ByteArray := prog_6_method_44_code
def yX4_puts : MethodName := ⟨RX4, "puts", "(I)V"⟩
abbrev cX4_takes : ByteArray := prog_6_method_45_code
def yX4_takes : MethodName := ⟨RX4, "takes", "(I)V"⟩
abbrev cX4_seeks : ByteArray := prog_6_method_46_code
def yX4_seeks : MethodName := ⟨RX4, "seeks", "(I)V"⟩
abbrev cX4_callUp : ByteArray := prog_6_method_47_code
def yX4_callUp : MethodName := ⟨RX4, "callUp", "(II)I"⟩
abbrev cX4_bears : ByteArray := prog_6_method_48_code
def yX4_bears : MethodName := ⟨RX4, "bears", "()I"⟩
abbrev cX4_cart : ByteArray := prog_6_method_49_code
def yX4_cart : MethodName := ⟨RX4, "cart", "(IIII)I"⟩
abbrev cX4_far : ByteArray := prog_6_method_50_code
def yX4_far : MethodName := ⟨RX4, "far", "(III)I"⟩
abbrev cX4_drum : ByteArray := prog_6_method_51_code
def yX4_drum : MethodName := ⟨RX4, "drum", "(I)I"⟩
abbrev cX4_wants : ByteArray := prog_6_method_52_code
def yX4_wants : MethodName := ⟨RX4, "wants", "(I)I"⟩
abbrev cX4_counted : ByteArray := prog_6_method_53_code
def yX4_counted : MethodName := ⟨RX4, "counted", "(II)I"⟩
abbrev cX4_forget : ByteArray := prog_6_method_54_code
def yX4_forget : MethodName := ⟨RX4, "forget", "()I"⟩
abbrev cX4_isSo : ByteArray := prog_6_method_55_code
def yX4_isSo : MethodName := ⟨RX4, "isSo", "()Z"⟩
abbrev cX4_sham : ByteArray := prog_6_method_56_code
def yX4_sham : MethodName := ⟨RX4, "sham", "()I"⟩
abbrev cX4_odds : ByteArray := prog_6_method_57_code
def yX4_odds : MethodName := ⟨RX4, "odds", "(II)I"⟩
abbrev cX4_rate : ByteArray := prog_6_method_58_code
def yX4_rate : MethodName := ⟨RX4, "rate", "(II)I"⟩
abbrev cX4_keep : ByteArray := prog_6_method_59_code
def yX4_keep : MethodName := ⟨RX4, "keep", "(I)I"⟩
abbrev cX4_back : ByteArray := prog_6_method_60_code
def yX4_back : MethodName := ⟨RX4, "back", "(I)I"⟩
abbrev cX4_count : ByteArray := prog_6_method_61_code
def yX4_count : MethodName := ⟨RX4, "count", "(I)I"⟩
abbrev cX4_trace : ByteArray := prog_6_method_62_code
def yX4_trace : MethodName := ⟨RX4, "trace", "()J"⟩
def RJ6 : String := "java/lang/Integer"
def TJ6 : u_T := fun k => match k with
  | _ => ("", "", "", false)
def tyJ6 : Nat → FieldType := fun k => match k with
  | _ => .int
theorem nmJ6 : ∀ a, a < 0 → ∀ b, b < 0 → a ≠ b → (TJ6 a).2.1 ≠ (TJ6 b).2.1 := by decide +kernel
theorem tyJ6_ok : ∀ k, k < 0 → parseFieldDescriptor (TJ6 k).2.2.1 = some (tyJ6 k) := by decide +kernel
abbrev cJ6_bitCount_0f7a4 : ByteArray := prog_7_method_49_code
def yJ6_bitCount_0f7a4 : MethodName := ⟨RJ6, "bitCount", "(I)I"⟩
def RJ9 : String := "java/lang/Math"
def TJ9 : u_T := fun k => match k with
  | _ => ("", "", "", false)
def tyJ9 : Nat → FieldType := fun k => match k with
  | _ => .int
theorem nmJ9 : ∀ a, a < 0 → ∀ b, b < 0 → a ≠ b → (TJ9 a).2.1 ≠ (TJ9 b).2.1 := by decide +kernel
theorem tyJ9_ok : ∀ k, k < 0 → parseFieldDescriptor (TJ9 k).2.2.1 = some (tyJ9 k) := by decide +kernel
abbrev cJ9_max_7cf53 : ByteArray := prog_8_method_65_code
def yJ9_max_7cf53 : MethodName := ⟨RJ9, "max", "(II)I"⟩
abbrev cJ9_min_7cf53 : ByteArray := prog_8_method_69_code
def yJ9_min_7cf53 : MethodName := ⟨RJ9, "min", "(II)I"⟩
def RJ10 : String := "java/lang/System"
def TJ10 : u_T := fun k => match k with
  | _ => ("", "", "", false)
def tyJ10 : Nat → FieldType := fun k => match k with
  | _ => .int
theorem nmJ10 : ∀ a, a < 0 → ∀ b, b < 0 → a ≠ b → (TJ10 a).2.1 ≠ (TJ10 b).2.1 := by decide +kernel
theorem tyJ10_ok : ∀ k, k < 0 → parseFieldDescriptor (TJ10 k).2.2.1 = some (tyJ10 k) := by decide +kernel
end
section
/-! the pure heap: rows of ints, of references, of longs, by the place of the cell and its slot; cells are made in one fixed order -/
abbrev HM : Type := Nat → Nat → Int32
abbrev HR : Type := Nat → Nat → Option Nat
abbrev HL : Type := Nat → Nat → Int64
abbrev HP : Type := Nat × HM × HR × HL
def lay_city : List (Nat × Nat) := [(0, 16), (6, 4), (6, 4), (6, 6), (6, 6), (6, 6), (6, 6), (6, 6), (6, 6), (6, 6), (6, 4), (6, 8)]
def lay_now : List (Nat × Nat) := [(1, 6), (6, 6), (6, 6), (6, 6)]
def lay : List (Nat × Nat) := [(3, 17), (2, 7), (5, 200), (6, 4)] ++ (lay_city ++ (lay_city ++ (lay_now ++ (lay_now ++ ([(8, 10), (8, 2), (7, 2), (6, 6), (6, 6), (6, 3), (9, 4), (6, 6), (6, 6), (6, 6), (6, 6), (6, 4)] ++ ((List.replicate 12 lay_now).flatten ++ [(4, 26), (6, 200), (6, 56), (6, 56), (6, 21), (6, 210), (6, 42), (7, 2), (6, 6), (6, 21), (6, 63), (6, 3), (6, 3)]))))))
def shp (k : Nat) : Nat × Nat := lay.getD k (99, 0)
def cnm (t : Nat) : String := match t with
  | 0 => RX0
  | 1 => RX1
  | 2 => RX2
  | 3 => RX3
  | _ => RX4
def ctb (t : Nat) : u_T := match t with
  | 0 => TX0
  | 1 => TX1
  | 2 => TX2
  | 3 => TX3
  | _ => TX4
def cty (t : Nat) : Nat → FieldType := match t with
  | 0 => tyX0
  | 1 => tyX1
  | 2 => tyX2
  | 3 => tyX3
  | _ => tyX4
def cln (t : Nat) : Nat := match t with
  | 0 => 16
  | 1 => 6
  | 2 => 7
  | 3 => 17
  | _ => 26
def aty (t : Nat) : FieldType := match t with
  | 5 => .char
  | 6 => .int
  | 7 => .boolean
  | 8 => .object RX1
  | _ => .array .int
/-- a pure value as the machine has it; retAddr stands for a reference that is no cell of ours -/
def rvB (B : Nat) (v : Value) : Value := match v with
  | .ref a => .ref (B + a)
  | .retAddr a => .ref a
  | v => v
theorem rvB_cat (B : Nat) (v : Value) : (rvB B v).category = v.category := by cases v <;> rfl
def fvl (B : Nat) (M : HM) (Rf : HR) (Lg : HL) (t k j : Nat) : Value := match cty t j with
  | .int => .int (M k j)
  | .boolean => .int (M k j)
  | .long => .long (Lg k j)
  | _ => va_rf ((Rf k j).map (B + ·))
def wE (B : Nat) (D : va_G) (cA : Nat → ClassId) (M : HM) (Rf : HR) (Lg : HL) (k : Nat) (H : Heap) : Prop :=
  if (shp k).1 < 5 then t_OB (B + k) (D.1 (shp k).1) (cln (shp k).1) (D.2 (shp k).1) H (fun j => fvl B M Rf Lg (shp k).1 k j)
  else if (shp k).1 < 8 then H[B + k]? = some (arrV (cA (shp k).1) (shp k).2 (fun j => .int (M k j)))
  else H[B + k]? = some (arrV (cA (shp k).1) (shp k).2 (fun j => va_rf ((Rf k j).map (B + ·))))
theorem wE_obj {B : Nat} {D : va_G} {cA : Nat → ClassId} {M : HM} {Rf : HR} {Lg : HL} {k : Nat} {H : Heap} {t N : Nat} (hs : shp k = (t, N)) (ht : t < 5) : wE B D cA M Rf Lg k H ↔ t_OB (B + k) (D.1 t) (cln t) (D.2 t) H (fun j => fvl B M Rf Lg t k j) := by
  unfold wE; rw [hs]; simp only [ht, if_true]
theorem wE_int {B : Nat} {D : va_G} {cA : Nat → ClassId} {M : HM} {Rf : HR} {Lg : HL} {k : Nat} {H : Heap} {t N : Nat} (hs : shp k = (t, N)) (ht : 5 ≤ t) (ht2 : t < 8) : wE B D cA M Rf Lg k H ↔ H[B + k]? = some (arrV (cA t) N (fun j => .int (M k j))) := by
  unfold wE; rw [hs]; simp only [ht2, if_true, if_neg (Nat.not_lt.mpr ht)]
theorem wE_ref {B : Nat} {D : va_G} {cA : Nat → ClassId} {M : HM} {Rf : HR} {Lg : HL} {k : Nat} {H : Heap} {t N : Nat} (hs : shp k = (t, N)) (ht : 8 ≤ t) : wE B D cA M Rf Lg k H ↔ H[B + k]? = some (arrV (cA t) N (fun j => va_rf ((Rf k j).map (B + ·)))) := by
  unfold wE; rw [hs]; simp only [if_neg (Nat.not_lt.mpr ht), if_neg (show ¬ t < 5 by omega)]
theorem wE.kept {B : Nat} {D : va_G} {cA : Nat → ClassId} {M M' : HM} {Rf Rf' : HR} {Lg Lg' : HL} {k : Nat} {H H1 : Heap} (h : wE B D cA M Rf Lg k H) (hq : H1[B + k]? = H[B + k]?) (h1 : M' k = M k) (h2 : Rf' k = Rf k) (h3 : Lg' k = Lg k) : wE B D cA M' Rf' Lg' k H1 := by
  have e : (fun j => fvl B M' Rf' Lg' (shp k).1 k j) = (fun j => fvl B M Rf Lg (shp k).1 k j) := by
    funext j; simp only [fvl, h1, h2, h3]
  unfold wE at h ⊢
  rw [e, h1, h2, hq]
  by_cases c : (shp k).1 < 5
  · rw [if_pos c] at h ⊢
    exact t_OB.kept h hq
  · rw [if_neg c] at h ⊢
    exact h
def PW (B : Nat) (D : va_G) (cA : Nat → ClassId) (h : HP) (H : Heap) : Prop := H.size = B + h.1 ∧ ∀ k, k < h.1 → wE B D cA h.2.1 h.2.2.1 h.2.2.2 k H
theorem PW.upd {B : Nat} {D : va_G} {cA : Nat → ClassId} {n : Nat} {M M' : HM} {Rf Rf' : HR} {Lg Lg' : HL} {k : Nat} {H H1 : Heap} (hP : PW B D cA (n, M, Rf, Lg) H) (z : H1.size = H.size) (oq : ∀ q : Nat, q ≠ B + k → H1[q]? = H[q]?) (hM : ∀ x, x ≠ k → M' x = M x) (hR : ∀ x, x ≠ k → Rf' x = Rf x) (hL : ∀ x, x ≠ k → Lg' x = Lg x) (hw : wE B D cA M' Rf' Lg' k H1) : PW B D cA (n, M', Rf', Lg') H1 := by
  refine ⟨by rw [z]; exact hP.1, fun x hx => ?_⟩
  by_cases e : x = k
  · subst e; exact hw
  · exact (hP.2 x hx).kept (oq _ (by omega)) (hM x e) (hR x e) (hL x e)
theorem PW.grow {B : Nat} {D : va_G} {cA : Nat → ClassId} {n : Nat} {M : HM} {Rf : HR} {Lg : HL} {H H1 : Heap} (hP : PW B D cA (n, M, Rf, Lg) H) (z : H1.size = H.size + 1) (oq : ∀ q : Nat, q < H.size → H1[q]? = H[q]?) (hw : wE B D cA M Rf Lg n H1) : PW B D cA (n + 1, M, Rf, Lg) H1 := by
  have hs : H.size = B + n := hP.1
  refine ⟨by show H1.size = B + (n + 1); omega, fun x hx => ?_⟩
  have hx' : x < n + 1 := hx
  by_cases e : x = n
  · subst e; exact hw
  · have hlt : x < n := by omega
    exact (hP.2 x hlt).kept (oq _ (by omega)) rfl rfl rfl
def st2 {α : Type} (M : Nat → Nat → α) (k j : Nat) (v : α) : Nat → Nat → α := fun x y => if x = k ∧ y = j then v else M x y
theorem st2_ne {α : Type} (M : Nat → Nat → α) {k : Nat} (j : Nat) (v : α) {x : Nat} (h : x ≠ k) : st2 M k j v x = M x := by
  funext y; simp [st2, h]
theorem st2_row {α : Type} (M : Nat → Nat → α) (k j : Nat) (v : α) (y : Nat) : st2 M k j v k y = if y = j then v else M k y := by
  simp [st2]
def nestW : List Cond := [.methodLinkNest RX3 11 yX2_init RX3, .methodLinkNest RX3 18 yX0_init RX3, .methodLinkNest RX3 28 yX1_init RX3, .methodLinkNest RX0 69 yX3_has RX3, .methodLinkNest RX1 42 yX3_tire RX3]
theorem nestW_in : ∀ w ∈ nestW, w ∈ lw_tbl := by decide +kernel
theorem nestW_warm {s U : State} (hW : s.WarmedH U.vm) : ∀ w ∈ nestW, va_Nw w s → va_Nw w U := by
  intro w hw h
  simp only [nestW, List.mem_cons, List.not_mem_nil, or_false] at hw
  rcases hw with rfl | rfl | rfl | rfl | rfl <;> exact va_Nw.warmM hW h
theorem nestW_same {s U : State} (e : s.vm = U.vm) : ∀ w ∈ nestW, va_Nw w s → va_Nw w U := by
  intro w hw h
  simp only [nestW, List.mem_cons, List.not_mem_nil, or_false] at hw
  rcases hw with rfl | rfl | rfl | rfl | rfl <;> exact va_Nw.same rfl e h
def AOA (U : State) : Prop := (Cond.arrayOver (.array .int)).before #[] U = true
theorem AOA.moved {u U : State} (hvm : u.vm.Alike U.vm) (h : AOA u) : AOA U := by
  unfold AOA Cond.before Cond.holds at h ⊢
  simp only [Cond.value, beq_iff_eq] at h ⊢
  cases hc : u.vm.findClass (FieldType.array .int).toString with
  | none => simp [hc] at h
  | some comp =>
    simp only [hc, Option.bind_some, Option.bind_eq_some_iff, Option.map_eq_some_iff] at h
    obtain ⟨c, hi, k, hk, hb⟩ := h
    obtain ⟨k', hk', he⟩ := hvm.2.2 _ _ hk
    have hbe : U.vm.bare = u.vm.bare := by first | exact hvm.bare_eq | exact hvm.bare_eq.symm
    have hi' := (va_idx_bare U.vm comp).symm.trans ((by rw [hbe] : (U.vm.bare.classes.findIdx? fun (x : Class) => match x.kind with | .array component _ => component == comp | _ => false) = (u.vm.bare.classes.findIdx? fun (x : Class) => match x.kind with | .array component _ => component == comp | _ => false)).trans ((va_idx_bare u.vm comp).trans hi))
    have f1 : U.vm.findClass (FieldType.array .int).toString = some comp := by rw [hvm.findClass]; exact hc
    have hkd : k'.kind = k.kind := by rw [he]
    simp only [f1, Option.bind_some, Option.bind_eq_some_iff, Option.map_eq_some_iff]
    refine ⟨c, hi', k', hk', ?_⟩
    rw [hkd, hvm.findClass]
    exact hb
/-- what the tables say of our classes and arrays -/
def KnAll (U : State) (D : va_G) (cA : Nat → ClassId) : Prop := (∀ t, t < 5 → u_Kn U (cnm t) (ctb t) (cln t) (D.1 t) (D.2 t)) ∧ (∀ t, 5 ≤ t → t < 10 → ArrOfT U (cA t) (aty t) ∧ va_RA U (cA t) (aty t)) ∧ (∀ w ∈ nestW, va_Nw w U) ∧ va_AO RX1 U ∧ AOA U
theorem KnAll.warm {u U : State} {D : va_G} {cA : Nat → ClassId} (hW : u.WarmedH U.vm) (h : KnAll u D cA) : KnAll U D cA := ⟨fun t ht => u_Kn_moved hW.alike (h.1 t ht), fun t h1 h2 => ⟨arrOfT_moved hW.alike (h.2.1 t h1 h2).1, (h.2.1 t h1 h2).2.moved hW.alike⟩, fun w hw => nestW_warm hW w hw (h.2.2.1 w hw), va_AO.moved hW.alike h.2.2.2.1, AOA.moved hW.alike h.2.2.2.2⟩
theorem KnAll.same {u U : State} {D : va_G} {cA : Nat → ClassId} (e : u.vm = U.vm) (h : KnAll u D cA) : KnAll U D cA := by
  have hv : u.vm.Alike U.vm := by rw [e]; exact Vm.Alike.refl _
  exact ⟨fun t ht => u_Kn_moved hv (h.1 t ht), fun t h1 h2 => ⟨arrOfT_moved hv (h.2.1 t h1 h2).1, (h.2.1 t h1 h2).2.moved hv⟩, fun w hw => nestW_same e w hw (h.2.2.1 w hw), va_AO.moved hv h.2.2.2.1, AOA.moved hv h.2.2.2.2⟩
def gtbl : List Cond := lw_tbl.filter goodWord
theorem gt_of {w : Cond} (h : w ∈ lw_tbl) (h2 : goodWord w = true) : w ∈ gtbl := List.mem_filter.mpr ⟨h, h2⟩
theorem gt_t {w : Cond} (i : Nat) (h : tables_1[i]? = some w) (h2 : goodWord w = true) : w ∈ gtbl := gt_of (List.mem_append_right _ (List.mem_of_getElem? h)) h2
theorem gt_s {w : Cond} (i : Nat) (h : (k2_sels lw_privs)[i]? = some w) (h2 : goodWord w = true) : w ∈ gtbl := gt_of (List.mem_append_left _ (List.mem_of_getElem? h)) h2
theorem gt_good {x : Cond} (hx : x ∈ gtbl) : GoodIn (x :: gtbl) (x :: gtbl) := by
  intro w hw
  have h1 : w ∈ gtbl := by
    rcases List.mem_cons.mp hw with rfl | h
    · exact hx
    · exact h
  exact ⟨hw, good_of_word (List.mem_filter.mp h1).2⟩
theorem gt_in {x : Cond} (hx : x ∈ gtbl) {w : Cond} (hw : w ∈ x :: gtbl) : w ∈ gtbl ∧ ((w.onTables && w.keeps) = true ∨ ∃ ty, w = .arrayClass ty) := by
  have h1 : w ∈ gtbl := by
    rcases List.mem_cons.mp hw with rfl | h
    · exact hx
    · exact h
  exact ⟨h1, good_of_word (List.mem_filter.mp h1).2⟩
theorem in_0 : ∀ w ∈ u_ws RX0 TX0 16, w ∈ gtbl := by decide +kernel
theorem in_1 : ∀ w ∈ u_ws RX1 TX1 6, w ∈ gtbl := by decide +kernel
theorem in_2 : ∀ w ∈ u_ws RX2 TX2 7, w ∈ gtbl := by decide +kernel
theorem in_3 : ∀ w ∈ u_ws RX3 TX3 17, w ∈ gtbl := by decide +kernel
theorem in_4 : ∀ w ∈ u_ws RX4 TX4 26, w ∈ gtbl := by decide +kernel
theorem in_all (t : Nat) (h : t < 5) : ∀ w ∈ u_ws (cnm t) (ctb t) (cln t), w ∈ gtbl := by
  match t, h with
  | 0, _ => exact in_0
  | 1, _ => exact in_1
  | 2, _ => exact in_2
  | 3, _ => exact in_3
  | 4, _ => exact in_4
theorem nm_all (t : Nat) (h : t < 5) : ∀ a, a < cln t → ∀ b, b < cln t → a ≠ b → (ctb t a).2.1 ≠ (ctb t b).2.1 := by
  match t, h with
  | 0, _ => exact nmX0
  | 1, _ => exact nmX1
  | 2, _ => exact nmX2
  | 3, _ => exact nmX3
  | 4, _ => exact nmX4
theorem ty_all (t : Nat) (h : t < 5) : ∀ k, k < cln t → parseFieldDescriptor (ctb t k).2.2.1 = some (cty t k) := by
  match t, h with
  | 0, _ => exact tyX0_ok
  | 1, _ => exact tyX1_ok
  | 2, _ => exact tyX2_ok
  | 3, _ => exact tyX3_ok
  | 4, _ => exact tyX4_ok
/-! the locals -/
def lget (ls : List (Option Value)) (i : Nat) : Option Value := match ls, i with
  | [], _ => none
  | x :: _, 0 => x
  | _ :: t, i + 1 => lget t i
theorem lget_eq (ls : List (Option Value)) (i : Nat) (v : Value) (h : lget ls i = some v) : ls[i]? = some (some v) := by
  induction ls generalizing i with
  | nil => simp [lget] at h
  | cons x t ih =>
    cases i with
    | zero => simp [lget] at h; simp [h]
    | succ i => simp only [lget] at h; simpa using ih i h
def lsH (B : Nat) (la : Array Slot) (ls : List (Option Value)) : Prop := la.size = ls.length ∧ lv_wf la ∧ ∀ (i : Nat) (v : Value), ls[i]? = some (some v) → la[i]? = some (Slot.val (rvB B v)) ∧ v.category = 1
theorem lsH.at {B : Nat} {la : Array Slot} {ls : List (Option Value)} (h : lsH B la ls) {i : Nat} {v : Value} (hi : lget ls i = some v) : la[i]? = some (.val (rvB B v)) := (h.2.2 i v (lget_eq ls i v hi)).1
def lvl (B : Nat) (ls : List (Option Value)) : List (Nat × Value) := (List.range ls.length).filterMap (fun i => (ls[i]?.join).map (fun v => (i, rvB B v)))
theorem lvl_mem {B : Nat} {ls : List (Option Value)} {q : Nat × Value} : q ∈ lvl B ls ↔ ∃ v, ls[q.1]? = some (some v) ∧ q.2 = rvB B v := by
  unfold lvl
  rw [List.mem_filterMap]
  constructor
  · rintro ⟨i, -, hi⟩
    cases e : ls[i]? with
    | none => rw [e] at hi; simp at hi
    | some o =>
      cases o with
      | none => rw [e] at hi; simp at hi
      | some v =>
        rw [e] at hi
        simp at hi
        subst hi
        exact ⟨v, e, rfl⟩
  · rintro ⟨v, h1, h2⟩
    refine ⟨q.1, List.mem_range.mpr (List.getElem?_eq_some_iff.mp h1).1, ?_⟩
    rw [h1]
    simp [← h2]
theorem lsH.has {B : Nat} {la : Array Slot} {ls : List (Option Value)} (h : lsH B la ls) : lv_has la ls.length (lvl B ls) := by
  refine ⟨h.1, h.2.1, fun q hq => ?_⟩
  obtain ⟨v, h1, h2⟩ := lvl_mem.mp hq
  rw [h2]
  exact (h.2.2 _ v h1).1
theorem lsH.of {B : Nat} {la la' : Array Slot} {ls : List (Option Value)} (h : lsH B la ls) {i : Nat} {v : Value} (hi : i < ls.length) (hv : v.category = 1) (h' : lv_has la' ls.length ((i, rvB B v) :: (lvl B ls).filter (fun q => !(q.1 == i) && !(q.1 + 1 == i && q.2.category == 2)))) : lsH B la' (ls.set i (some v)) := by
  refine ⟨by rw [List.length_set]; exact h'.1, h'.2.1, fun j w hj => ?_⟩
  by_cases e : j = i
  · subst e
    rw [List.getElem?_set_self hi] at hj
    cases hj
    exact ⟨h'.2.2 _ List.mem_cons_self, hv⟩
  · rw [List.getElem?_set_ne (Ne.symm e)] at hj
    obtain ⟨g1, g2⟩ := h.2.2 j w hj
    refine ⟨h'.2.2 (j, rvB B w) (List.mem_cons_of_mem _ (List.mem_filter.mpr ⟨lvl_mem.mpr ⟨w, hj, rfl⟩, ?_⟩)), g2⟩
    simp [e, rvB_cat, g2]
theorem lsH.entry (B : Nat) (As : List Value) (n : Nat) (hn : As.length ≤ n) (hc : ∀ v ∈ As, v.category = 1) : lsH B ((lg_sl (As.map (rvB B)) ++ List.replicate (n - (lg_sl (As.map (rvB B))).length) Slot.unset).toArray) (As.map some ++ List.replicate (n - As.length) none) := by
  have hc' : ∀ v ∈ As.map (rvB B), v.category = 1 := by
    intro v hv
    obtain ⟨w, hw, rfl⟩ := List.mem_map.mp hv
    rw [rvB_cat]; exact hc w hw
  have e : lg_sl (As.map (rvB B)) = (As.map (rvB B)).map Slot.val := by
    generalize As.map (rvB B) = L at hc'
    induction L with
    | nil => rfl
    | cons x t ih =>
      have hx := hc' x List.mem_cons_self
      have := ih (fun v hv => hc' v (List.mem_cons_of_mem _ hv))
      unfold lg_sl at this ⊢
      rw [List.flatMap_cons, this]
      simp [hx]
  have hlen : (lg_sl (As.map (rvB B))).length = As.length := by rw [e]; simp
  have h0 := lv_entry (As.map (rvB B)) (n := n) (by rw [hlen]; exact hn)
  refine ⟨?_, h0.2.1, fun i v hi => ?_⟩
  · rw [h0.1]; simp; omega
  · by_cases hl : i < As.length
    · rw [List.getElem?_append_left (by simpa using hl)] at hi
      rw [List.getElem?_map] at hi
      have hv : As[i]? = some v := by
        cases e2 : As[i]? with
        | none => rw [e2] at hi; cases hi
        | some w => rw [e2] at hi; cases hi; rfl
      refine ⟨?_, hc v (List.mem_of_getElem? hv)⟩
      have hv2 : As[i] = v := by
        have := List.getElem?_eq_getElem hl
        rw [hv] at this
        exact (Option.some.inj this).symm
      rw [e]
      simp [List.getElem?_append_left, hl, hv2]
    · exfalso
      rw [List.getElem?_append_right (by simpa using hl)] at hi
      have := List.mem_of_getElem? hi
      simp at this
end
section
abbrev PL : Type := Launch × Nat × va_G × (Nat → ClassId)
abbrev KR : Type := Program × Env × Room × State × MethodId × Array Value × List Frame × Method × Code × (State → Prop)
abbrev KT : Type := PL × KR
/-- from this frame over this pure heap the machine comes to the end that K names -/
def G (K : KT) (pc : Nat) (ls : List (Option Value)) (st : List Value) (h : HP) (x y : Nat) : Prop := match K with
  | ((l, B, D, cA), (p, e, R, s, m, args, below, meth, c, Q)) => ∀ (H : Heap) (locs : List Loc) (la : Array Slot), PW B D cA h H → va_S (fun q => B ≤ q) s.heap H locs → lsH B la ls → W p l e R s m args below meth c H locs x y Q (F0 m pc la (st.map (rvB B)))
/-- what holds all through a method -/
def Ok (K : KT) (cc : ByteArray) (own : String) (nL d RC RS : Nat) : Prop := match K with
  | ((_, B, D, cA), (p, _, R, s, m, args, _, _, c, _)) => p.tables.exec = Jvm.exec ∧ c.code = cc ∧ c.maxLocals = nL ∧ s.vm.findClass own = some m.cls ∧ (∀ w ∈ gtbl, w.before args s = true) ∧ KnAll s D cA ∧ B ≤ s.heap.size ∧ d ≤ R.frames ∧ 40 * d ≤ R.locals ∧ R.cells = RC ∧ R.slots = RS
def RQ (B : Nat) (D : va_G) (cA : Nat → ClassId) (v : Option Value) (h : HP) : Array Value → State → Outcome → State → Prop := fun _ st oc t => oc = .returned (v.map (rvB B)) ∧ PW B D cA h t.heap ∧ va_F (fun q => B ≤ q) st t
/-- what the end of a method is: this answer, this heap -/
def Fin1 (K : KT) (ret : Option FieldType) (v : Option Value) (h : HP) (mc ms : Nat) : Prop := match K with
  | ((_, B, D, cA), (_, _, _, s, _, args, below, meth, _, Q)) => Q = MQ below (RQ B D cA v h) args s mc ms (fun q => B ≤ q) ∧ meth.sig.returnType = ret ∧ meth.locks = false
abbrev MT : Type := MethodName × ByteArray × Nat × Option FieldType
/-- a method's contract: with these arguments, over this heap, it returns v and leaves h'; mc cells of ms slots are new -/
def Ret (Λ : PL) (d : Nat) (μ : MT) (As : List Value) (h : HP) (v : Option Value) (h' : HP) (mc ms : Nat) : Prop :=
  Met Λ.1 μ.1 (.code μ.1 μ.2.1 μ.2.2.1 μ.2.2.2 :: gtbl) { frames := d, cells := mc, slots := ms, locals := 40 * d } (va_Pc (As.map (rvB Λ.2.1)) (fun U => PW Λ.2.1 Λ.2.2.1 Λ.2.2.2 h U.heap ∧ KnAll U Λ.2.2.1 Λ.2.2.2)) (RQ Λ.2.1 Λ.2.2.1 Λ.2.2.2 v h') mc ms (fun q => Λ.2.1 ≤ q)
section RULES
variable {K : KT} {cc : ByteArray} {own : String} {nL d RC RS : Nat} {pc : Nat} {ls : List (Option Value)} {st : List Value} {h : HP} {n : Nat} {M : HM} {Rf : HR} {Lg : HL} {x y : Nat}
theorem g_iconst (o : Ok K cc own nL d RC RS) {i : Int} {v : Int32} (hd : decode cc pc = .ok (.iconst i, 1)) (hv : Int32.ofInt i = v) (k : G K (pc + 1) ls (.int v :: st) h x y) : G K pc ls st h x y := by
  obtain ⟨⟨l, B, D, cA⟩, p, e, R, s, m, args, below, meth, c, Q⟩ := K
  intro H locs la hP hS hl
  exact lv_iconst o.1 o.2.1 hd hv (k H locs la hP hS hl)
theorem g_bipush (o : Ok K cc own nL d RC RS) {i : Int} {v : Int32} (hd : decode cc pc = .ok (.bipush i, 2)) (hv : (Int8.ofInt i).toInt32 = v) (k : G K (pc + 2) ls (.int v :: st) h x y) : G K pc ls st h x y := by
  obtain ⟨⟨l, B, D, cA⟩, p, e, R, s, m, args, below, meth, c, Q⟩ := K
  intro H locs la hP hS hl
  exact lv_bipush o.1 o.2.1 hd hv (k H locs la hP hS hl)
theorem g_sipush (o : Ok K cc own nL d RC RS) {i : Int} {v : Int32} (hd : decode cc pc = .ok (.sipush i, 3)) (hv : (Int16.ofInt i).toInt32 = v) (k : G K (pc + 3) ls (.int v :: st) h x y) : G K pc ls st h x y := by
  obtain ⟨⟨l, B, D, cA⟩, p, e, R, s, m, args, below, meth, c, Q⟩ := K
  intro H locs la hP hS hl
  exact lv_sipush o.1 o.2.1 hd hv (k H locs la hP hS hl)
theorem g_lconst (o : Ok K cc own nL d RC RS) {i : Fin 2} {v : Int64} (hd : decode cc pc = .ok (.lconst i, 1)) (hv : Int64.ofNat (i : Nat) = v) (k : G K (pc + 1) ls (.long v :: st) h x y) : G K pc ls st h x y := by
  obtain ⟨⟨l, B, D, cA⟩, p, e, R, s, m, args, below, meth, c, Q⟩ := K
  intro H locs la hP hS hl
  exact lv_lconst o.1 o.2.1 hd hv (k H locs la hP hS hl)
theorem g_ldc (o : Ok K cc own nL d RC RS) {i : Nat} {v : Int32} (hw : Cond.constant own i v ∈ gtbl) (hd : decode cc pc = .ok (.ldc i, 2)) (k : G K (pc + 2) ls (.int v :: st) h x y) : G K pc ls st h x y := by
  obtain ⟨⟨l, B, D, cA⟩, p, e, R, s, m, args, below, meth, c, Q⟩ := K
  intro H locs la hP hS hl
  exact lv_ldc o.1 o.2.1 o.2.2.2.1 (o.2.2.2.2.1 _ hw) hd (k H locs la hP hS hl)
theorem g_ldcw (o : Ok K cc own nL d RC RS) {i : Nat} {v : Int32} (hw : Cond.constant own i v ∈ gtbl) (hd : decode cc pc = .ok (.ldc_w i, 3)) (k : G K (pc + 3) ls (.int v :: st) h x y) : G K pc ls st h x y := by
  obtain ⟨⟨l, B, D, cA⟩, p, e, R, s, m, args, below, meth, c, Q⟩ := K
  intro H locs la hP hS hl
  exact lv_ldcw o.1 o.2.1 o.2.2.2.1 (o.2.2.2.2.1 _ hw) hd (k H locs la hP hS hl)
theorem g_ldc2 (o : Ok K cc own nL d RC RS) {i : Nat} {v : Int64} (hw : Cond.constantLong own i v ∈ gtbl) (hd : decode cc pc = .ok (.ldc2_w i, 3)) (k : G K (pc + 3) ls (.long v :: st) h x y) : G K pc ls st h x y := by
  obtain ⟨⟨l, B, D, cA⟩, p, e, R, s, m, args, below, meth, c, Q⟩ := K
  intro H locs la hP hS hl
  exact lv_ldc2 o.1 o.2.1 o.2.2.2.1 (o.2.2.2.2.1 _ hw) hd (k H locs la hP hS hl)
theorem g_iload_n (o : Ok K cc own nL d RC RS) {i : Fin 4} (j : Nat) {v : Int32} (hd : decode cc pc = .ok (.iload_n i, 1)) (hj : (i : Nat) = j) (hv : lget ls j = some (.int v)) (k : G K (pc + 1) ls (.int v :: st) h x y) : G K pc ls st h x y := by
  obtain ⟨⟨l, B, D, cA⟩, p, e, R, s, m, args, below, meth, c, Q⟩ := K
  intro H locs la hP hS hl
  exact lv_iload_n o.1 o.2.1 hd hj (hl.at hv) (k H locs la hP hS hl)
theorem g_iload (o : Ok K cc own nL d RC RS) {j : Nat} {v : Int32} (hd : decode cc pc = .ok (.iload j, 2)) (hv : lget ls j = some (.int v)) (k : G K (pc + 2) ls (.int v :: st) h x y) : G K pc ls st h x y := by
  obtain ⟨⟨l, B, D, cA⟩, p, e, R, s, m, args, below, meth, c, Q⟩ := K
  intro H locs la hP hS hl
  exact lv_iload o.1 o.2.1 hd (hl.at hv) (k H locs la hP hS hl)
theorem g_aload_n (o : Ok K cc own nL d RC RS) {i : Fin 4} (j : Nat) {v : Nat} (hd : decode cc pc = .ok (.aload_n i, 1)) (hj : (i : Nat) = j) (hv : lget ls j = some (.ref v)) (k : G K (pc + 1) ls (.ref v :: st) h x y) : G K pc ls st h x y := by
  obtain ⟨⟨l, B, D, cA⟩, p, e, R, s, m, args, below, meth, c, Q⟩ := K
  intro H locs la hP hS hl
  exact lv_aload_n o.1 o.2.1 hd hj (hl.at hv) (k H locs la hP hS hl)
theorem g_aload_nX (o : Ok K cc own nL d RC RS) {i : Fin 4} (j : Nat) {v : Nat} (hd : decode cc pc = .ok (.aload_n i, 1)) (hj : (i : Nat) = j) (hv : lget ls j = some (.retAddr v)) (k : G K (pc + 1) ls (.retAddr v :: st) h x y) : G K pc ls st h x y := by
  obtain ⟨⟨l, B, D, cA⟩, p, e, R, s, m, args, below, meth, c, Q⟩ := K
  intro H locs la hP hS hl
  exact lv_aload_n o.1 o.2.1 hd hj (hl.at hv) (k H locs la hP hS hl)
theorem g_istore_n (o : Ok K cc own nL d RC RS) {i : Fin 4} (j : Nat) {v : Int32} (hd : decode cc pc = .ok (.istore_n i, 1)) (hj : (i : Nat) = j) (hn : Nat.blt j ls.length = true) (k : G K (pc + 1) (ls.set j (some (.int v))) st h x y) : G K pc ls (.int v :: st) h x y := by
  obtain ⟨⟨l, B, D, cA⟩, p, e, R, s, m, args, below, meth, c, Q⟩ := K
  intro H locs la hP hS hl
  have hj2 : j < ls.length := by simpa using hn
  exact lv_istore_n o.1 o.2.1 hd hj hl.has hj2 rfl (fun la2 h2 => k H locs la2 hP hS (hl.of (v := .int v) hj2 rfl h2))
theorem g_istore (o : Ok K cc own nL d RC RS) {j : Nat} {v : Int32} (hd : decode cc pc = .ok (.istore j, 2)) (hn : Nat.blt j ls.length = true) (k : G K (pc + 2) (ls.set j (some (.int v))) st h x y) : G K pc ls (.int v :: st) h x y := by
  obtain ⟨⟨l, B, D, cA⟩, p, e, R, s, m, args, below, meth, c, Q⟩ := K
  intro H locs la hP hS hl
  have hj2 : j < ls.length := by simpa using hn
  exact lv_istore o.1 o.2.1 hd hl.has hj2 rfl (fun la2 h2 => k H locs la2 hP hS (hl.of (v := .int v) hj2 rfl h2))
theorem g_astore_n (o : Ok K cc own nL d RC RS) {i : Fin 4} (j : Nat) {v : Nat} (hd : decode cc pc = .ok (.astore_n i, 1)) (hj : (i : Nat) = j) (hn : Nat.blt j ls.length = true) (k : G K (pc + 1) (ls.set j (some (.ref v))) st h x y) : G K pc ls (.ref v :: st) h x y := by
  obtain ⟨⟨l, B, D, cA⟩, p, e, R, s, m, args, below, meth, c, Q⟩ := K
  intro H locs la hP hS hl
  have hj2 : j < ls.length := by simpa using hn
  exact lv_astore_n o.1 o.2.1 hd hj hl.has hj2 rfl (fun la2 h2 => k H locs la2 hP hS (hl.of (v := .ref v) hj2 rfl h2))
theorem g_iinc (o : Ok K cc own nL d RC RS) {j : Nat} {i : Int} {v : Int32} (hd : decode cc pc = .ok (.iinc j i, 3)) (hv : lget ls j = some (.int v)) (k : G K (pc + 3) (ls.set j (some (.int (v + Int32.ofInt i)))) st h x y) : G K pc ls st h x y := by
  obtain ⟨⟨l, B, D, cA⟩, p, e, R, s, m, args, below, meth, c, Q⟩ := K
  intro H locs la hP hS hl
  have h1 := lget_eq ls j _ hv
  have hj2 : j < ls.length := (List.getElem?_eq_some_iff.mp h1).1
  obtain ⟨kk, hkk⟩ := List.getElem?_of_mem (lvl_mem (B := B) (q := (j, .int v)).mpr ⟨_, h1, rfl⟩)
  exact lv_iinc o.1 o.2.1 hd hl.has hkk rfl hj2 rfl (fun la2 h2 => k H locs la2 hP hS (hl.of (v := .int (v + Int32.ofInt i)) hj2 rfl h2))
theorem g_iadd (o : Ok K cc own nL d RC RS) {a b : Int32} (hd : decode cc pc = .ok (.iadd, 1)) (k : G K (pc + 1) ls (.int (a + b) :: st) h x y) : G K pc ls (.int b :: .int a :: st) h x y := by
  obtain ⟨⟨l, B, D, cA⟩, p, e, R, s, m, args, below, meth, c, Q⟩ := K
  intro H locs la hP hS hl
  exact lv_iadd o.1 o.2.1 hd (k H locs la hP hS hl)
theorem g_isub (o : Ok K cc own nL d RC RS) {a b : Int32} (hd : decode cc pc = .ok (.isub, 1)) (k : G K (pc + 1) ls (.int (a - b) :: st) h x y) : G K pc ls (.int b :: .int a :: st) h x y := by
  obtain ⟨⟨l, B, D, cA⟩, p, e, R, s, m, args, below, meth, c, Q⟩ := K
  intro H locs la hP hS hl
  exact lv_isub o.1 o.2.1 hd (k H locs la hP hS hl)
theorem g_imul (o : Ok K cc own nL d RC RS) {a b : Int32} (hd : decode cc pc = .ok (.imul, 1)) (k : G K (pc + 1) ls (.int (a * b) :: st) h x y) : G K pc ls (.int b :: .int a :: st) h x y := by
  obtain ⟨⟨l, B, D, cA⟩, p, e, R, s, m, args, below, meth, c, Q⟩ := K
  intro H locs la hP hS hl
  exact lv_imul o.1 o.2.1 hd (k H locs la hP hS hl)
theorem g_iand (o : Ok K cc own nL d RC RS) {a b : Int32} (hd : decode cc pc = .ok (.iand, 1)) (k : G K (pc + 1) ls (.int (a &&& b) :: st) h x y) : G K pc ls (.int b :: .int a :: st) h x y := by
  obtain ⟨⟨l, B, D, cA⟩, p, e, R, s, m, args, below, meth, c, Q⟩ := K
  intro H locs la hP hS hl
  exact lv_iand o.1 o.2.1 hd (k H locs la hP hS hl)
theorem g_ior (o : Ok K cc own nL d RC RS) {a b : Int32} (hd : decode cc pc = .ok (.ior, 1)) (k : G K (pc + 1) ls (.int (a ||| b) :: st) h x y) : G K pc ls (.int b :: .int a :: st) h x y := by
  obtain ⟨⟨l, B, D, cA⟩, p, e, R, s, m, args, below, meth, c, Q⟩ := K
  intro H locs la hP hS hl
  exact lv_ior o.1 o.2.1 hd (k H locs la hP hS hl)
theorem g_ixor (o : Ok K cc own nL d RC RS) {a b : Int32} (hd : decode cc pc = .ok (.ixor, 1)) (k : G K (pc + 1) ls (.int (a ^^^ b) :: st) h x y) : G K pc ls (.int b :: .int a :: st) h x y := by
  obtain ⟨⟨l, B, D, cA⟩, p, e, R, s, m, args, below, meth, c, Q⟩ := K
  intro H locs la hP hS hl
  exact lv_ixor o.1 o.2.1 hd (k H locs la hP hS hl)
theorem g_ishl (o : Ok K cc own nL d RC RS) {a b : Int32} (hd : decode cc pc = .ok (.ishl, 1)) (k : G K (pc + 1) ls (.int (a <<< (b &&& 31)) :: st) h x y) : G K pc ls (.int b :: .int a :: st) h x y := by
  obtain ⟨⟨l, B, D, cA⟩, p, e, R, s, m, args, below, meth, c, Q⟩ := K
  intro H locs la hP hS hl
  exact lv_ishl o.1 o.2.1 hd (k H locs la hP hS hl)
theorem g_ishr (o : Ok K cc own nL d RC RS) {a b : Int32} (hd : decode cc pc = .ok (.ishr, 1)) (k : G K (pc + 1) ls (.int (a >>> (b &&& 31)) :: st) h x y) : G K pc ls (.int b :: .int a :: st) h x y := by
  obtain ⟨⟨l, B, D, cA⟩, p, e, R, s, m, args, below, meth, c, Q⟩ := K
  intro H locs la hP hS hl
  exact lv_ishr o.1 o.2.1 hd (k H locs la hP hS hl)
theorem g_iushr (o : Ok K cc own nL d RC RS) {a b : Int32} (hd : decode cc pc = .ok (.iushr, 1)) (k : G K (pc + 1) ls (.int (a.toUInt32 >>> (b.toUInt32 &&& Int32.toUInt32 31)).toInt32 :: st) h x y) : G K pc ls (.int b :: .int a :: st) h x y := by
  obtain ⟨⟨l, B, D, cA⟩, p, e, R, s, m, args, below, meth, c, Q⟩ := K
  intro H locs la hP hS hl
  exact lv_iushr o.1 o.2.1 hd rfl (k H locs la hP hS hl)
theorem g_idiv (o : Ok K cc own nL d RC RS) {a b : Int32} (hd : decode cc pc = .ok (.idiv, 1)) (hb : ¬ b = 0) (k : G K (pc + 1) ls (.int (a / b) :: st) h x y) : G K pc ls (.int b :: .int a :: st) h x y := by
  obtain ⟨⟨l, B, D, cA⟩, p, e, R, s, m, args, below, meth, c, Q⟩ := K
  intro H locs la hP hS hl
  exact lv_idiv o.1 o.2.1 hd hb (k H locs la hP hS hl)
theorem g_irem (o : Ok K cc own nL d RC RS) {a b : Int32} (hd : decode cc pc = .ok (.irem, 1)) (hb : ¬ b = 0) (k : G K (pc + 1) ls (.int (a - a / b * b) :: st) h x y) : G K pc ls (.int b :: .int a :: st) h x y := by
  obtain ⟨⟨l, B, D, cA⟩, p, e, R, s, m, args, below, meth, c, Q⟩ := K
  intro H locs la hP hS hl
  exact lv_irem o.1 o.2.1 hd hb (k H locs la hP hS hl)
theorem g_ladd (o : Ok K cc own nL d RC RS) {a b : Int64} (hd : decode cc pc = .ok (.ladd, 1)) (k : G K (pc + 1) ls (.long (a + b) :: st) h x y) : G K pc ls (.long b :: .long a :: st) h x y := by
  obtain ⟨⟨l, B, D, cA⟩, p, e, R, s, m, args, below, meth, c, Q⟩ := K
  intro H locs la hP hS hl
  exact lv_ladd o.1 o.2.1 hd (k H locs la hP hS hl)
theorem g_lcmp (o : Ok K cc own nL d RC RS) {a b : Int64} (hd : decode cc pc = .ok (.lcmp, 1)) (k : G K (pc + 1) ls (.int (lg_cmp a b) :: st) h x y) : G K pc ls (.long b :: .long a :: st) h x y := by
  obtain ⟨⟨l, B, D, cA⟩, p, e, R, s, m, args, below, meth, c, Q⟩ := K
  intro H locs la hP hS hl
  exact W.lcmp o.1 o.2.1 hd (k H locs la hP hS hl)
theorem g_i2c (o : Ok K cc own nL d RC RS) {a : Int32} (hd : decode cc pc = .ok (.i2c, 1)) (k : G K (pc + 1) ls (.int (a.toUInt32 % 65536).toInt32 :: st) h x y) : G K pc ls (.int a :: st) h x y := by
  obtain ⟨⟨l, B, D, cA⟩, p, e, R, s, m, args, below, meth, c, Q⟩ := K
  intro H locs la hP hS hl
  exact lv_i2c o.1 o.2.1 hd rfl (k H locs la hP hS hl)
theorem g_dup (o : Ok K cc own nL d RC RS) {v : Value} (hd : decode cc pc = .ok (.dup, 1)) (hv : v.category = 1) (k : G K (pc + 1) ls (v :: v :: st) h x y) : G K pc ls (v :: st) h x y := by
  obtain ⟨⟨l, B, D, cA⟩, p, e, R, s, m, args, below, meth, c, Q⟩ := K
  intro H locs la hP hS hl
  exact lv_dup o.1 o.2.1 hd (by rw [rvB_cat]; exact hv) (k H locs la hP hS hl)
theorem g_dup2 (o : Ok K cc own nL d RC RS) {v w : Value} (hd : decode cc pc = .ok (.dup2, 1)) (hv : v.category = 1) (hw : w.category = 1) (k : G K (pc + 1) ls (v :: w :: v :: w :: st) h x y) : G K pc ls (v :: w :: st) h x y := by
  obtain ⟨⟨l, B, D, cA⟩, p, e, R, s, m, args, below, meth, c, Q⟩ := K
  intro H locs la hP hS hl
  exact lv_dup2_11 o.1 o.2.1 hd (by rw [rvB_cat]; exact hv) (by rw [rvB_cat]; exact hw) (k H locs la hP hS hl)
theorem g_pop (o : Ok K cc own nL d RC RS) {v : Value} (hd : decode cc pc = .ok (.pop, 1)) (hv : v.category = 1) (k : G K (pc + 1) ls st h x y) : G K pc ls (v :: st) h x y := by
  obtain ⟨⟨l, B, D, cA⟩, p, e, R, s, m, args, below, meth, c, Q⟩ := K
  intro H locs la hP hS hl
  exact lv_pop o.1 o.2.1 hd (by rw [rvB_cat]; exact hv) (k H locs la hP hS hl)
theorem g_if_eq (o : Ok K cc own nL d RC RS) {a : Int32} {off : Int} (tgt : Nat) (hd : decode cc pc = .ok (.ifCond .eq off, 3)) (ht : (pc : Int) + off = (tgt : Int)) (kt : a = 0 → G K tgt ls st h x y) (kf : ¬ a = 0 → G K (pc + 3) ls st h x y) : G K pc ls (.int a :: st) h x y := by
  obtain ⟨⟨l, B, D, cA⟩, p, e, R, s, m, args, below, meth, c, Q⟩ := K
  intro H locs la hP hS hl
  exact lv_if_eq o.1 o.2.1 hd ht (fun q => kt q H locs la hP hS hl) (fun q => kf q H locs la hP hS hl)
theorem g_icmp_eq (o : Ok K cc own nL d RC RS) {a b : Int32} {off : Int} (tgt : Nat) (hd : decode cc pc = .ok (.if_icmp .eq off, 3)) (ht : (pc : Int) + off = (tgt : Int)) (kt : a = b → G K tgt ls st h x y) (kf : ¬ a = b → G K (pc + 3) ls st h x y) : G K pc ls (.int b :: .int a :: st) h x y := by
  obtain ⟨⟨l, B, D, cA⟩, p, e, R, s, m, args, below, meth, c, Q⟩ := K
  intro H locs la hP hS hl
  exact lv_icmp_eq o.1 o.2.1 hd ht (fun q => kt q H locs la hP hS hl) (fun q => kf q H locs la hP hS hl)
theorem g_if_ne (o : Ok K cc own nL d RC RS) {a : Int32} {off : Int} (tgt : Nat) (hd : decode cc pc = .ok (.ifCond .ne off, 3)) (ht : (pc : Int) + off = (tgt : Int)) (kt : ¬ a = 0 → G K tgt ls st h x y) (kf : a = 0 → G K (pc + 3) ls st h x y) : G K pc ls (.int a :: st) h x y := by
  obtain ⟨⟨l, B, D, cA⟩, p, e, R, s, m, args, below, meth, c, Q⟩ := K
  intro H locs la hP hS hl
  exact lv_if_ne o.1 o.2.1 hd ht (fun q => kt q H locs la hP hS hl) (fun q => kf q H locs la hP hS hl)
theorem g_icmp_ne (o : Ok K cc own nL d RC RS) {a b : Int32} {off : Int} (tgt : Nat) (hd : decode cc pc = .ok (.if_icmp .ne off, 3)) (ht : (pc : Int) + off = (tgt : Int)) (kt : ¬ a = b → G K tgt ls st h x y) (kf : a = b → G K (pc + 3) ls st h x y) : G K pc ls (.int b :: .int a :: st) h x y := by
  obtain ⟨⟨l, B, D, cA⟩, p, e, R, s, m, args, below, meth, c, Q⟩ := K
  intro H locs la hP hS hl
  exact lv_icmp_ne o.1 o.2.1 hd ht (fun q => kt q H locs la hP hS hl) (fun q => kf q H locs la hP hS hl)
theorem g_if_lt (o : Ok K cc own nL d RC RS) {a : Int32} {off : Int} (tgt : Nat) (hd : decode cc pc = .ok (.ifCond .lt off, 3)) (ht : (pc : Int) + off = (tgt : Int)) (kt : a < 0 → G K tgt ls st h x y) (kf : ¬ a < 0 → G K (pc + 3) ls st h x y) : G K pc ls (.int a :: st) h x y := by
  obtain ⟨⟨l, B, D, cA⟩, p, e, R, s, m, args, below, meth, c, Q⟩ := K
  intro H locs la hP hS hl
  exact lv_if_lt o.1 o.2.1 hd ht (fun q => kt q H locs la hP hS hl) (fun q => kf q H locs la hP hS hl)
theorem g_icmp_lt (o : Ok K cc own nL d RC RS) {a b : Int32} {off : Int} (tgt : Nat) (hd : decode cc pc = .ok (.if_icmp .lt off, 3)) (ht : (pc : Int) + off = (tgt : Int)) (kt : a < b → G K tgt ls st h x y) (kf : ¬ a < b → G K (pc + 3) ls st h x y) : G K pc ls (.int b :: .int a :: st) h x y := by
  obtain ⟨⟨l, B, D, cA⟩, p, e, R, s, m, args, below, meth, c, Q⟩ := K
  intro H locs la hP hS hl
  exact lv_icmp_lt o.1 o.2.1 hd ht (fun q => kt q H locs la hP hS hl) (fun q => kf q H locs la hP hS hl)
theorem g_if_ge (o : Ok K cc own nL d RC RS) {a : Int32} {off : Int} (tgt : Nat) (hd : decode cc pc = .ok (.ifCond .ge off, 3)) (ht : (pc : Int) + off = (tgt : Int)) (kt : 0 ≤ a → G K tgt ls st h x y) (kf : ¬ 0 ≤ a → G K (pc + 3) ls st h x y) : G K pc ls (.int a :: st) h x y := by
  obtain ⟨⟨l, B, D, cA⟩, p, e, R, s, m, args, below, meth, c, Q⟩ := K
  intro H locs la hP hS hl
  exact lv_if_ge o.1 o.2.1 hd ht (fun q => kt q H locs la hP hS hl) (fun q => kf q H locs la hP hS hl)
theorem g_icmp_ge (o : Ok K cc own nL d RC RS) {a b : Int32} {off : Int} (tgt : Nat) (hd : decode cc pc = .ok (.if_icmp .ge off, 3)) (ht : (pc : Int) + off = (tgt : Int)) (kt : b ≤ a → G K tgt ls st h x y) (kf : ¬ b ≤ a → G K (pc + 3) ls st h x y) : G K pc ls (.int b :: .int a :: st) h x y := by
  obtain ⟨⟨l, B, D, cA⟩, p, e, R, s, m, args, below, meth, c, Q⟩ := K
  intro H locs la hP hS hl
  exact lv_icmp_ge o.1 o.2.1 hd ht (fun q => kt q H locs la hP hS hl) (fun q => kf q H locs la hP hS hl)
theorem g_if_gt (o : Ok K cc own nL d RC RS) {a : Int32} {off : Int} (tgt : Nat) (hd : decode cc pc = .ok (.ifCond .gt off, 3)) (ht : (pc : Int) + off = (tgt : Int)) (kt : 0 < a → G K tgt ls st h x y) (kf : ¬ 0 < a → G K (pc + 3) ls st h x y) : G K pc ls (.int a :: st) h x y := by
  obtain ⟨⟨l, B, D, cA⟩, p, e, R, s, m, args, below, meth, c, Q⟩ := K
  intro H locs la hP hS hl
  exact lv_if_gt o.1 o.2.1 hd ht (fun q => kt q H locs la hP hS hl) (fun q => kf q H locs la hP hS hl)
theorem g_icmp_gt (o : Ok K cc own nL d RC RS) {a b : Int32} {off : Int} (tgt : Nat) (hd : decode cc pc = .ok (.if_icmp .gt off, 3)) (ht : (pc : Int) + off = (tgt : Int)) (kt : b < a → G K tgt ls st h x y) (kf : ¬ b < a → G K (pc + 3) ls st h x y) : G K pc ls (.int b :: .int a :: st) h x y := by
  obtain ⟨⟨l, B, D, cA⟩, p, e, R, s, m, args, below, meth, c, Q⟩ := K
  intro H locs la hP hS hl
  exact lv_icmp_gt o.1 o.2.1 hd ht (fun q => kt q H locs la hP hS hl) (fun q => kf q H locs la hP hS hl)
theorem g_if_le (o : Ok K cc own nL d RC RS) {a : Int32} {off : Int} (tgt : Nat) (hd : decode cc pc = .ok (.ifCond .le off, 3)) (ht : (pc : Int) + off = (tgt : Int)) (kt : a ≤ 0 → G K tgt ls st h x y) (kf : ¬ a ≤ 0 → G K (pc + 3) ls st h x y) : G K pc ls (.int a :: st) h x y := by
  obtain ⟨⟨l, B, D, cA⟩, p, e, R, s, m, args, below, meth, c, Q⟩ := K
  intro H locs la hP hS hl
  exact lv_if_le o.1 o.2.1 hd ht (fun q => kt q H locs la hP hS hl) (fun q => kf q H locs la hP hS hl)
theorem g_icmp_le (o : Ok K cc own nL d RC RS) {a b : Int32} {off : Int} (tgt : Nat) (hd : decode cc pc = .ok (.if_icmp .le off, 3)) (ht : (pc : Int) + off = (tgt : Int)) (kt : a ≤ b → G K tgt ls st h x y) (kf : ¬ a ≤ b → G K (pc + 3) ls st h x y) : G K pc ls (.int b :: .int a :: st) h x y := by
  obtain ⟨⟨l, B, D, cA⟩, p, e, R, s, m, args, below, meth, c, Q⟩ := K
  intro H locs la hP hS hl
  exact lv_icmp_le o.1 o.2.1 hd ht (fun q => kt q H locs la hP hS hl) (fun q => kf q H locs la hP hS hl)
theorem g_goto (o : Ok K cc own nL d RC RS) {off : Int} (tgt : Nat) (hd : decode cc pc = .ok (.goto off, 3)) (ht : (pc : Int) + off = (tgt : Int)) (k : G K tgt ls st h x y) : G K pc ls st h x y := by
  obtain ⟨⟨l, B, D, cA⟩, p, e, R, s, m, args, below, meth, c, Q⟩ := K
  intro H locs la hP hS hl
  exact lv_goto o.1 o.2.1 hd ht (k H locs la hP hS hl)
theorem g_tabO (o : Ok K cc own nL d RC RS) {dflt lo hi : Int} {offs : Array Int} {len : Nat} {a : Int32} (tgt : Nat) (hd : decode cc pc = .ok (.tableswitch dflt lo hi offs, len)) (hq : a.toInt < lo ∨ hi < a.toInt) (ht : (pc : Int) + dflt = (tgt : Int)) (k : G K tgt ls st h x y) : G K pc ls (.int a :: st) h x y := by
  obtain ⟨⟨l, B, D, cA⟩, p, e, R, s, m, args, below, meth, c, Q⟩ := K
  intro H locs la hP hS hl
  exact lv_tableOut o.1 o.2.1 hd hq ht (k H locs la hP hS hl)
theorem g_tabI (o : Ok K cc own nL d RC RS) {dflt lo hi : Int} {offs : Array Int} {len : Nat} {a : Int32} {off : Int} (tgt : Nat) (hd : decode cc pc = .ok (.tableswitch dflt lo hi offs, len)) (q1 : ¬ a.toInt < lo) (q2 : ¬ hi < a.toInt) (ho : offs[(a.toInt - lo).toNat]? = some off) (ht : (pc : Int) + off = (tgt : Int)) (k : G K tgt ls st h x y) : G K pc ls (.int a :: st) h x y := by
  obtain ⟨⟨l, B, D, cA⟩, p, e, R, s, m, args, below, meth, c, Q⟩ := K
  intro H locs la hP hS hl
  exact lv_tableIn o.1 o.2.1 hd q1 q2 ho ht (k H locs la hP hS hl)
theorem g_look (o : Ok K cc own nL d RC RS) {dflt : Int} {ps : Array (Int × Int)} {len : Nat} {a : Int32} {off : Int} (tgt : Nat) (hd : decode cc pc = .ok (.lookupswitch dflt ps, len)) (hp : (ps.toList.zip (ps.toList.drop 1)).all (fun (a, next) => a.1 < next.1) = true) (ho : Op.lookupswitch.offset ps.toList dflt a.toInt = off) (ht : (pc : Int) + off = (tgt : Int)) (k : G K tgt ls st h x y) : G K pc ls (.int a :: st) h x y := by
  obtain ⟨⟨l, B, D, cA⟩, p, e, R, s, m, args, below, meth, c, Q⟩ := K
  intro H locs la hP hS hl
  exact lv_lookup o.1 o.2.1 hd hp ho ht (k H locs la hP hS hl)
/-- the field j of the class t, linked in the class own at idx -/
def FL (own : String) (idx t j : Nat) : Prop := t < 5 ∧ j < cln t ∧ (ctb t j).1 = cnm t ∧ Cond.fieldLink own idx (cnm t) (ctb t j).2.1 (ctb t j).2.2.1 ∈ gtbl
def FI (own : String) (idx t j : Nat) : Prop := FL own idx t j ∧ (cty t j = .int ∨ cty t j = .boolean)
def FJ (own : String) (idx t j : Nat) : Prop := FL own idx t j ∧ cty t j = .long
def FR (own : String) (idx t j : Nat) : Prop := FL own idx t j ∧ ((∃ q, cty t j = .object q) ∨ ∃ q, cty t j = .array q)
theorem fvl_i {B : Nat} {M : HM} {Rf : HR} {Lg : HL} {t k j : Nat} (h : cty t j = .int ∨ cty t j = .boolean) : fvl B M Rf Lg t k j = .int (M k j) := by
  unfold fvl; rcases h with h | h <;> rw [h]
theorem fvl_j {B : Nat} {M : HM} {Rf : HR} {Lg : HL} {t k j : Nat} (h : cty t j = .long) : fvl B M Rf Lg t k j = .long (Lg k j) := by
  unfold fvl; rw [h]
theorem fvl_r {B : Nat} {M : HM} {Rf : HR} {Lg : HL} {t k j : Nat} (h : (∃ q, cty t j = .object q) ∨ ∃ q, cty t j = .array q) : fvl B M Rf Lg t k j = va_rf ((Rf k j).map (B + ·)) := by
  unfold fvl; rcases h with ⟨q, h⟩ | ⟨q, h⟩ <;> rw [h]
theorem g_get (o : Ok K cc own nL d RC RS) {idx t j a N : Nat} (f : FL own idx t j) (hs : shp a = (t, N)) (ha : a < n) {v : Value} (hv : fvl K.1.2.1 M Rf Lg t a j = rvB K.1.2.1 v) (hd : decode cc pc = .ok (.getfield idx, 3)) (k : G K (pc + 3) ls (v :: st) (n, M, Rf, Lg) x y) : G K pc ls (.ref a :: st) (n, M, Rf, Lg) x y := by
  obtain ⟨⟨l, B, D, cA⟩, p, e, R, s, m, args, below, meth, c, Q⟩ := K
  intro H locs la hP hS hl
  obtain ⟨ft, fj, fo, fw⟩ := f
  obtain ⟨cell, q1, q2, q3, q4⟩ := (wE_obj hs ft).mp (hP.2 a ha)
  obtain ⟨hS2, hfc, kC, hkC, hkind⟩ := o.2.2.2.2.2.1.1 t ft
  obtain ⟨cf, kf, fi, fd, hi, hsl⟩ := hS2 j fj
  have hst := (u_facts hfc hkC (u_lays o.2.2.2.2.1 (in_all t ft) fj) hi).1
  rw [fo] at hi
  refine W.getf o.1 o.2.1 o.2.2.2.1 (o.2.2.2.2.1 _ fw) hi hst q1 (by rw [q3]; exact fun h => by cases h) (v := rvB B v) ?_ rfl rfl hd (k H locs la hP hS hl)
  rw [hsl, q4 j fj]
  exact congrArg some hv
theorem g_getI (o : Ok K cc own nL d RC RS) {idx t j a N : Nat} (f : FI own idx t j) (hs : shp a = (t, N)) (ha : a < n) (hd : decode cc pc = .ok (.getfield idx, 3)) (k : G K (pc + 3) ls (.int (M a j) :: st) (n, M, Rf, Lg) x y) : G K pc ls (.ref a :: st) (n, M, Rf, Lg) x y := g_get o f.1 hs ha (v := .int (M a j)) (fvl_i f.2) hd k
theorem g_getJ (o : Ok K cc own nL d RC RS) {idx t j a N : Nat} (f : FJ own idx t j) (hs : shp a = (t, N)) (ha : a < n) (hd : decode cc pc = .ok (.getfield idx, 3)) (k : G K (pc + 3) ls (.long (Lg a j) :: st) (n, M, Rf, Lg) x y) : G K pc ls (.ref a :: st) (n, M, Rf, Lg) x y := g_get o f.1 hs ha (v := .long (Lg a j)) (fvl_j f.2) hd k
theorem g_getR (o : Ok K cc own nL d RC RS) {idx t j a N b : Nat} (f : FR own idx t j) (hs : shp a = (t, N)) (ha : a < n) (hr : Rf a j = some b) (hd : decode cc pc = .ok (.getfield idx, 3)) (k : G K (pc + 3) ls (.ref b :: st) (n, M, Rf, Lg) x y) : G K pc ls (.ref a :: st) (n, M, Rf, Lg) x y := g_get o f.1 hs ha (v := .ref b) (by rw [fvl_r f.2, hr]; rfl) hd k
theorem w_apart {s : State} {args : Array Value} {D : va_G} {cA : Nat → ClassId} (hts : ∀ w ∈ gtbl, w.before args s = true) (hK : KnAll s D cA) {t : Nat} (ht : t < 5) : ∀ x y, x < cln t → y < cln t → x ≠ y → (D.2 t) x ≠ (D.2 t) y := by
  intro x y hx hy hne
  obtain ⟨hS, -⟩ := hK.1 t ht
  obtain ⟨_, _, _, fa, hia, ea⟩ := hS x hx
  obtain ⟨_, _, _, fb, hib, eb⟩ := hS y hy
  rw [← ea, ← eb]
  refine u_apart (u_lays hts (in_all t ht) hx) (u_lays hts (in_all t ht) hy) hia hib ?_
  rw [(State.fieldFound?_type hia (ty_all t ht x hx)).1, (State.fieldFound?_type hib (ty_all t ht y hy)).1]
  exact nm_all t ht x hx y hy hne
theorem g_put (o : Ok K cc own nL d RC RS) {idx t j a N : Nat} (f : FL own idx t j) (hfin : (ctb t j).2.2.2 = false) (hs : shp a = (t, N)) (ha : a < n) {v : Value} (hn : narrow (cty t j) (rvB K.1.2.1 v) = rvB K.1.2.1 v) (hfit : fits (cty t j) (rvB K.1.2.1 v) = true) {M' : HM} {Rf' : HR} {Lg' : HL}
    (hM : ∀ z, z ≠ a → M' z = M z) (hR : ∀ z, z ≠ a → Rf' z = Rf z) (hL : ∀ z, z ≠ a → Lg' z = Lg z) (hrow : ∀ z, fvl K.1.2.1 M' Rf' Lg' t a z = if z = j then rvB K.1.2.1 v else fvl K.1.2.1 M Rf Lg t a z)
    (hd : decode cc pc = .ok (.putfield idx, 3)) (k : G K (pc + 3) ls st (n, M', Rf', Lg') x y) : G K pc ls (v :: .ref a :: st) (n, M, Rf, Lg) x y := by
  obtain ⟨⟨l, B, D, cA⟩, p, e, R, s, m, args, below, meth, c, Q⟩ := K
  intro H locs la hP hS hl
  obtain ⟨ft, fj, fo, fw⟩ := f
  have hap := w_apart o.2.2.2.2.1 o.2.2.2.2.2.1 ft
  obtain ⟨cell, q1, q2, q3, q4⟩ := (wE_obj hs ft).mp (hP.2 a ha)
  obtain ⟨hS2, hfc, kC, hkC, hkind⟩ := o.2.2.2.2.2.1.1 t ft
  obtain ⟨cf, kf, fi, fd, hi, hsl⟩ := hS2 j fj
  have hlay := o.2.2.2.2.1 _ (in_all t ft _ (u_in_lay fj))
  unfold u_lay at hlay
  rw [if_neg (by rw [hfin]; decide)] at hlay
  have hst := (u_facts hfc hkC (u_lays o.2.2.2.2.1 (in_all t ft) fj) hi).1
  have h6 := u_store hfc hkC hkind hlay hi (ty_all t ft j fj) hn hfit
  have hi2 := hi
  rw [fo] at hi2
  refine W.putK o.1 o.2.1 (f := fd) ⟨o.2.2.2.1, o.2.2.2.2.1 _ fw, ⟨_, _, _, hi2⟩, hst⟩ (by rw [q2]; exact h6) q1 q3 (by rw [hsl]; exact k2_hasslot (q4 j fj)) rfl rfl hd fun H2 e1 e2 e3 => ?_
  rw [hsl] at e1 ⊢
  refine k H2 _ la (hP.upd (k := a) e2 e3 hM hR hL ((wE_obj hs ft).mpr (t_OB.to ⟨_, e1, q2, q3, t_set q4 hap fj (rvB B v)⟩ (fun z _ => ?_)))) (hS.put e2 e3 (Nat.le_add_right B a)) hl
  show updV _ j (rvB B v) z = _
  rw [hrow z]
  rfl
theorem g_putF (o : Ok K cc own nL d RC RS) (hin : K.2.2.2.2.2.2.2.2.1.name = "<init>") {idx t j a N : Nat} (f : FL own idx t j) (hfin : (ctb t j).2.2.2 = true) (hcl : cnm t = own) (hs : shp a = (t, N)) (ha : a < n) {v : Value} (hn : narrow (cty t j) (rvB K.1.2.1 v) = rvB K.1.2.1 v) (hfit : fits (cty t j) (rvB K.1.2.1 v) = true) {M' : HM} {Rf' : HR} {Lg' : HL}
    (hM : ∀ z, z ≠ a → M' z = M z) (hR : ∀ z, z ≠ a → Rf' z = Rf z) (hL : ∀ z, z ≠ a → Lg' z = Lg z) (hrow : ∀ z, fvl K.1.2.1 M' Rf' Lg' t a z = if z = j then rvB K.1.2.1 v else fvl K.1.2.1 M Rf Lg t a z)
    (hd : decode cc pc = .ok (.putfield idx, 3)) (k : G K (pc + 3) ls st (n, M', Rf', Lg') x y) : G K pc ls (v :: .ref a :: st) (n, M, Rf, Lg) x y := by
  obtain ⟨⟨l, B, D, cA⟩, p, e, R, s, m, args, below, meth, c, Q⟩ := K
  intro H locs la hP hS hl
  obtain ⟨ft, fj, fo, fw⟩ := f
  have hap := w_apart o.2.2.2.2.1 o.2.2.2.2.2.1 ft
  obtain ⟨cell, q1, q2, q3, q4⟩ := (wE_obj hs ft).mp (hP.2 a ha)
  obtain ⟨hS2, hfc, kC, hkC, hkind⟩ := o.2.2.2.2.2.1.1 t ft
  obtain ⟨cf, kf, fi, fd, hi, hsl⟩ := hS2 j fj
  have hlay := o.2.2.2.2.1 _ (in_all t ft _ (u_in_lay fj))
  unfold u_lay at hlay
  rw [if_pos hfin] at hlay
  have hst := (u_facts hfc hkC (u_lays o.2.2.2.2.1 (in_all t ft) fj) hi).1
  have hcf : m.cls = cf := by
    obtain ⟨_, _, c', _, _, _, -, -, hf', -, -, -, hown2, -⟩ := Cond.laysFinal_spec hlay
    have e1 : c' = cf := by have := hi.symm.trans hf'; simp at this; exact this.1.symm
    rw [fo, hcl] at hown2
    rw [← e1]; exact Option.some.inj (o.2.2.2.1.symm.trans hown2)
  have h6 := u_fits hfc hkC hkind (Or.inr hlay) hi (ty_all t ft j fj) hn hfit
  have hi2 := hi
  rw [fo] at hi2
  refine W.putFinK o.1 o.2.1 o.2.2.2.1 (o.2.2.2.2.1 _ fw) hi2 hst hcf hin (by rw [q2]; exact h6) q1 q3 (by rw [hsl]; exact k2_hasslot (q4 j fj)) rfl rfl hd fun H2 e1 e2 e3 => ?_
  rw [hsl] at e1 ⊢
  refine k H2 _ la (hP.upd (k := a) e2 e3 hM hR hL ((wE_obj hs ft).mpr (t_OB.to ⟨_, e1, q2, q3, t_set q4 hap fj (rvB B v)⟩ (fun z _ => ?_)))) (hS.put e2 e3 (Nat.le_add_right B a)) hl
  show updV _ j (rvB B v) z = _
  rw [hrow z]
  rfl
theorem row_i {B : Nat} {M : HM} {Rf : HR} {Lg : HL} {t a j : Nat} {v : Int32} (ht : cty t j = .int ∨ cty t j = .boolean) (z : Nat) : fvl B (st2 M a j v) Rf Lg t a z = if z = j then rvB B (.int v) else fvl B M Rf Lg t a z := by
  by_cases e : z = j
  · subst e
    rw [if_pos rfl, fvl_i ht, st2_row, if_pos rfl]
    rfl
  · rw [if_neg e]
    unfold fvl
    simp only [st2_row, if_neg e]
theorem row_j {B : Nat} {M : HM} {Rf : HR} {Lg : HL} {t a j : Nat} {v : Int64} (ht : cty t j = .long) (z : Nat) : fvl B M Rf (st2 Lg a j v) t a z = if z = j then rvB B (.long v) else fvl B M Rf Lg t a z := by
  by_cases e : z = j
  · subst e
    rw [if_pos rfl, fvl_j ht, st2_row, if_pos rfl]
    rfl
  · rw [if_neg e]
    unfold fvl
    simp only [st2_row, if_neg e]
theorem row_r {B : Nat} {M : HM} {Rf : HR} {Lg : HL} {t a j b : Nat} (ht : (∃ q, cty t j = .object q) ∨ ∃ q, cty t j = .array q) (z : Nat) : fvl B M (st2 Rf a j (some b)) Lg t a z = if z = j then rvB B (.ref b) else fvl B M Rf Lg t a z := by
  by_cases e : z = j
  · subst e
    rw [if_pos rfl, fvl_r ht, st2_row, if_pos rfl]
    rfl
  · rw [if_neg e]
    unfold fvl
    simp only [st2_row, if_neg e]
theorem g_putI (o : Ok K cc own nL d RC RS) {idx t j a N : Nat} {v : Int32} (f : FI own idx t j) (hfin : (ctb t j).2.2.2 = false) (hs : shp a = (t, N)) (ha : a < n) (hn : narrow (cty t j) (.int v) = .int v) (hfit : fits (cty t j) (.int v) = true) (hd : decode cc pc = .ok (.putfield idx, 3)) (k : G K (pc + 3) ls st (n, st2 M a j v, Rf, Lg) x y) : G K pc ls (.int v :: .ref a :: st) (n, M, Rf, Lg) x y :=
  g_put o f.1 hfin hs ha hn hfit (fun _ hz => st2_ne M j v hz) (fun _ _ => rfl) (fun _ _ => rfl) (row_i f.2) hd k
theorem g_putJ (o : Ok K cc own nL d RC RS) {idx t j a N : Nat} {v : Int64} (f : FJ own idx t j) (hfin : (ctb t j).2.2.2 = false) (hs : shp a = (t, N)) (ha : a < n) (hd : decode cc pc = .ok (.putfield idx, 3)) (k : G K (pc + 3) ls st (n, M, Rf, st2 Lg a j v) x y) : G K pc ls (.long v :: .ref a :: st) (n, M, Rf, Lg) x y :=
  g_put o f.1 hfin hs ha (v := .long v) (by rw [f.2]; rfl) (by rw [f.2]; rfl) (fun _ _ => rfl) (fun _ _ => rfl) (fun _ hz => st2_ne Lg j v hz) (row_j f.2) hd k
theorem fits_r {B b : Nat} {ty : FieldType} (h : (∃ q, ty = .object q) ∨ ∃ q, ty = .array q) : narrow ty (rvB B (.ref b)) = rvB B (.ref b) ∧ fits ty (rvB B (.ref b)) = true := by
  rcases h with ⟨q, rfl⟩ | ⟨q, rfl⟩ <;> exact ⟨rfl, rfl⟩
theorem g_putR (o : Ok K cc own nL d RC RS) {idx t j a N b : Nat} (f : FR own idx t j) (hfin : (ctb t j).2.2.2 = false) (hs : shp a = (t, N)) (ha : a < n) (hd : decode cc pc = .ok (.putfield idx, 3)) (k : G K (pc + 3) ls st (n, M, st2 Rf a j (some b), Lg) x y) : G K pc ls (.ref b :: .ref a :: st) (n, M, Rf, Lg) x y :=
  g_put o f.1 hfin hs ha (fits_r f.2).1 (fits_r f.2).2 (fun _ _ => rfl) (fun _ hz => st2_ne Rf j (some b) hz) (fun _ _ => rfl) (row_r f.2) hd k
theorem g_putRF (o : Ok K cc own nL d RC RS) (hin : K.2.2.2.2.2.2.2.2.1.name = "<init>") {idx t j a N b : Nat} (f : FR own idx t j) (hfin : (ctb t j).2.2.2 = true) (hcl : cnm t = own) (hs : shp a = (t, N)) (ha : a < n) (hd : decode cc pc = .ok (.putfield idx, 3)) (k : G K (pc + 3) ls st (n, M, st2 Rf a j (some b), Lg) x y) : G K pc ls (.ref b :: .ref a :: st) (n, M, Rf, Lg) x y :=
  g_putF o hin f.1 hfin hcl hs ha (fits_r f.2).1 (fits_r f.2).2 (fun _ _ => rfl) (fun _ hz => st2_ne Rf j (some b) hz) (fun _ _ => rfl) (row_r f.2) hd k
theorem lay_small : ∀ q ∈ lay, q.2 < 1000 := by decide
theorem shp_small (a : Nat) : (shp a).2 < 1000 := by
  unfold shp
  rw [List.getD_eq_getElem?_getD]
  cases h : lay[a]? with
  | none => decide
  | some q => exact lay_small q (List.mem_of_getElem? h)
theorem ix_in {a t N k : Nat} {i : Int32} (hs : shp a = (t, N)) (hi : i = nI k) (hk : k < N) : vp_in i N ∧ i.toNatClampNeg = k := by
  have h1 : N < 1000 := by have := shp_small a; rw [hs] at this; exact this
  subst hi
  exact ⟨vp_in_nI hk (by omega), nI_clamp (by omega)⟩
theorem g_iald (o : Ok K cc own nL d RC RS) {a N : Nat} {i : Int32} (j : Nat) (hs : shp a = (6, N)) (ha : a < n) (hi : i = nI j) (hj : j < N) (hd : decode cc pc = .ok (.iaload, 1)) (k : G K (pc + 1) ls (.int (M a j) :: st) (n, M, Rf, Lg) x y) : G K pc ls (.int i :: .ref a :: st) (n, M, Rf, Lg) x y := by
  obtain ⟨⟨l, B, D, cA⟩, p, e, R, s, m, args, below, meth, c, Q⟩ := K
  intro H locs la hP hS hl
  obtain ⟨hin, hcl⟩ := ix_in hs hi hj
  have hc := (wE_int hs (by decide) (by decide)).mp (hP.2 a ha)
  have hA := (o.2.2.2.2.2.1.2.1 6 (by decide) (by decide)).1 N (fun j => .int (M a j))
  exact W.iald (v := .int (M a j)) o.1 o.2.1 hc hA (fun q => by cases q) (by rw [arrV_size]; exact hin) (by rw [hcl, arrV_read _ _ hj]) rfl rfl hd (k H locs la hP hS hl)
theorem g_cald (o : Ok K cc own nL d RC RS) {a N : Nat} {i : Int32} (j : Nat) (hs : shp a = (5, N)) (ha : a < n) (hi : i = nI j) (hj : j < N) (hd : decode cc pc = .ok (.caload, 1)) (k : G K (pc + 1) ls (.int (M a j) :: st) (n, M, Rf, Lg) x y) : G K pc ls (.int i :: .ref a :: st) (n, M, Rf, Lg) x y := by
  obtain ⟨⟨l, B, D, cA⟩, p, e, R, s, m, args, below, meth, c, Q⟩ := K
  intro H locs la hP hS hl
  obtain ⟨hin, hcl⟩ := ix_in hs hi hj
  have hc := (wE_int hs (by decide) (by decide)).mp (hP.2 a ha)
  have hA := (o.2.2.2.2.2.1.2.1 5 (by decide) (by decide)).1 N (fun j => .int (M a j))
  exact W.cald (v := .int (M a j)) o.1 o.2.1 hc hA (fun q => by cases q) (by rw [arrV_size]; exact hin) (by rw [hcl, arrV_read _ _ hj]) rfl rfl hd (k H locs la hP hS hl)
theorem g_zald (o : Ok K cc own nL d RC RS) {a N : Nat} {i : Int32} (j : Nat) (hs : shp a = (7, N)) (ha : a < n) (hi : i = nI j) (hj : j < N) (hd : decode cc pc = .ok (.baload, 1)) (k : G K (pc + 1) ls (.int (M a j) :: st) (n, M, Rf, Lg) x y) : G K pc ls (.int i :: .ref a :: st) (n, M, Rf, Lg) x y := by
  obtain ⟨⟨l, B, D, cA⟩, p, e, R, s, m, args, below, meth, c, Q⟩ := K
  intro H locs la hP hS hl
  obtain ⟨hin, hcl⟩ := ix_in hs hi hj
  have hc := (wE_int hs (by decide) (by decide)).mp (hP.2 a ha)
  have hA := (o.2.2.2.2.2.1.2.1 7 (by decide) (by decide)).1 N (fun j => .int (M a j))
  exact W.zald (v := .int (M a j)) o.1 o.2.1 hc hA (fun q => by cases q) (by rw [arrV_size]; exact hin) (by rw [hcl, arrV_read _ _ hj]) rfl rfl hd (k H locs la hP hS hl)
theorem g_aald (o : Ok K cc own nL d RC RS) {t a N b : Nat} {i : Int32} (j : Nat) (hs : shp a = (t, N)) (ht : t = 8 ∨ t = 9) (ha : a < n) (hi : i = nI j) (hj : j < N) (hr : Rf a j = some b) (hd : decode cc pc = .ok (.aaload, 1)) (k : G K (pc + 1) ls (.ref b :: st) (n, M, Rf, Lg) x y) : G K pc ls (.int i :: .ref a :: st) (n, M, Rf, Lg) x y := by
  obtain ⟨⟨l, B, D, cA⟩, p, e, R, s, m, args, below, meth, c, Q⟩ := K
  intro H locs la hP hS hl
  obtain ⟨hin, hcl⟩ := ix_in hs hi hj
  have hc : H[B + a]? = some (arrV (cA t) N (fun j => va_rf ((Rf a j).map (B + ·)))) := (wE_ref hs (by omega)).mp (hP.2 a ha)
  have hA := (o.2.2.2.2.2.1.2.1 t (by omega) (by omega)).1 N (fun j => va_rf ((Rf a j).map (B + ·)))
  refine W.aald (v := rvB B (.ref b)) (ty := aty t) o.1 o.2.1 hc hA (by rcases ht with rfl | rfl <;> rfl) (fun q => by cases q) (by rw [arrV_size]; exact hin) (by rw [hcl, arrV_read _ _ hj, hr]; rfl) rfl rfl hd (k H locs la hP hS hl)
theorem g_iast (o : Ok K cc own nL d RC RS) {a N : Nat} {i v : Int32} (j : Nat) (hs : shp a = (6, N)) (ha : a < n) (hi : i = nI j) (hj : j < N) (hd : decode cc pc = .ok (.iastore, 1)) (k : G K (pc + 1) ls st (n, st2 M a j v, Rf, Lg) x y) : G K pc ls (.int v :: .int i :: .ref a :: st) (n, M, Rf, Lg) x y := by
  obtain ⟨⟨l, B, D, cA⟩, p, e, R, s, m, args, below, meth, c, Q⟩ := K
  intro H locs la hP hS hl
  obtain ⟨hin, hcl⟩ := ix_in hs hi hj
  have hc := (wE_int hs (by decide) (by decide)).mp (hP.2 a ha)
  have hA := (o.2.2.2.2.2.1.2.1 6 (by decide) (by decide)).1 N (fun j => .int (M a j))
  refine W.iast o.1 o.2.1 hc hA (fun q => by cases q) (by rw [arrV_size]; exact hin) rfl rfl hd fun H2 e z oq => ?_
  refine k H2 _ la (hP.upd (k := a) z oq (fun _ hz => st2_ne M j v hz) (fun _ _ => rfl) (fun _ _ => rfl) ((wE_int hs (by decide) (by decide)).mpr ?_)) (hS.put z oq (Nat.le_add_right B a)) hl
  rw [e, hcl, arrV_store]
  refine congrArg some (congrArg (arrV _ N) (funext fun q => ?_))
  by_cases hq : q = j
  · subst hq; simp [updV, st2_row]
  · simp [updV, st2_row, hq]
theorem g_zast (o : Ok K cc own nL d RC RS) {a N : Nat} {i v : Int32} (j : Nat) (hs : shp a = (7, N)) (ha : a < n) (hi : i = nI j) (hj : j < N) (hv : narrow .boolean (.int v) = .int v) (hd : decode cc pc = .ok (.bastore, 1)) (k : G K (pc + 1) ls st (n, st2 M a j v, Rf, Lg) x y) : G K pc ls (.int v :: .int i :: .ref a :: st) (n, M, Rf, Lg) x y := by
  obtain ⟨⟨l, B, D, cA⟩, p, e, R, s, m, args, below, meth, c, Q⟩ := K
  intro H locs la hP hS hl
  obtain ⟨hin, hcl⟩ := ix_in hs hi hj
  have hc := (wE_int hs (by decide) (by decide)).mp (hP.2 a ha)
  have hA := (o.2.2.2.2.2.1.2.1 7 (by decide) (by decide)).1 N (fun j => .int (M a j))
  refine W.zast o.1 o.2.1 hc hA (fun q => by cases q) (by rw [arrV_size]; exact hin) rfl rfl hd fun H2 e z oq => ?_
  rw [hv] at e
  refine k H2 _ la (hP.upd (k := a) z oq (fun _ hz => st2_ne M j v hz) (fun _ _ => rfl) (fun _ _ => rfl) ((wE_int hs (by decide) (by decide)).mpr ?_)) (hS.put z oq (Nat.le_add_right B a)) hl
  rw [e, hcl, arrV_store]
  refine congrArg some (congrArg (arrV _ N) (funext fun q => ?_))
  by_cases hq : q = j
  · subst hq; simp [updV, st2_row]
  · simp [updV, st2_row, hq]
theorem g_cast (o : Ok K cc own nL d RC RS) {a N : Nat} {i v : Int32} (j : Nat) (hs : shp a = (5, N)) (ha : a < n) (hi : i = nI j) (hj : j < N) (hv : narrow .char (.int v) = .int v) (hd : decode cc pc = .ok (.castore, 1)) (k : G K (pc + 1) ls st (n, st2 M a j v, Rf, Lg) x y) : G K pc ls (.int v :: .int i :: .ref a :: st) (n, M, Rf, Lg) x y := by
  obtain ⟨⟨l, B, D, cA⟩, p, e, R, s, m, args, below, meth, c, Q⟩ := K
  intro H locs la hP hS hl
  obtain ⟨hin, hcl⟩ := ix_in hs hi hj
  have hc := (wE_int hs (by decide) (by decide)).mp (hP.2 a ha)
  have hA := (o.2.2.2.2.2.1.2.1 5 (by decide) (by decide)).1 N (fun j => .int (M a j))
  refine W.cast o.1 o.2.1 hc hA (fun q => by cases q) (by rw [arrV_size]; exact hin) rfl rfl hd fun H2 e z oq => ?_
  rw [hv] at e
  refine k H2 _ la (hP.upd (k := a) z oq (fun _ hz => st2_ne M j v hz) (fun _ _ => rfl) (fun _ _ => rfl) ((wE_int hs (by decide) (by decide)).mpr ?_)) (hS.put z oq (Nat.le_add_right B a)) hl
  rw [e, hcl, arrV_store]
  refine congrArg some (congrArg (arrV _ N) (funext fun q => ?_))
  by_cases hq : q = j
  · subst hq; simp [updV, st2_row]
  · simp [updV, st2_row, hq]
theorem g_aast (o : Ok K cc own nL d RC RS) {a N b N2 : Nat} {i : Int32} (j : Nat) (hs : shp a = (8, N)) (ha : a < n) (hi : i = nI j) (hj : j < N) (hb : shp b = (1, N2)) (hbn : b < n) (hd : decode cc pc = .ok (.aastore, 1)) (k : G K (pc + 1) ls st (n, M, st2 Rf a j (some b), Lg) x y) : G K pc ls (.ref b :: .int i :: .ref a :: st) (n, M, Rf, Lg) x y := by
  obtain ⟨⟨l, B, D, cA⟩, p, e, R, s, m, args, below, meth, c, Q⟩ := K
  intro H locs la hP hS hl
  obtain ⟨hin, hcl⟩ := ix_in hs hi hj
  have hc := (wE_ref hs (by decide)).mp (hP.2 a ha)
  obtain ⟨cellV, g1, g2, g3, -⟩ := (wE_obj hb (by decide)).mp (hP.2 b hbn)
  have hcls := (o.2.2.2.2.2.1.1 1 (by decide)).2
  obtain ⟨kA, comp, k1, k2, k3, -⟩ := (o.2.2.2.2.2.1.2.1 8 (by decide) (by decide)).2
  have hcomp : comp = D.1 1 := Option.some.inj (k3.symm.trans hcls.1)
  subst hcomp
  obtain ⟨kC, hkC, -⟩ := hcls.2
  refine W.aast o.1 o.2.1 hc (fun q h => by cases h) (fun h => by cases h) k1 k2 rfl hkC ⟨fun q => hin (Or.inl q), by rw [arrV_size, hcl]; exact hj⟩ g1 (fun q h => by rw [g3] at h; cases h) (by rw [g2]; exact hkC) (by rw [g2]; exact va_assign hcls) rfl rfl hd fun H2 e z oq => ?_
  refine k H2 _ la (hP.upd (k := a) z oq (fun _ _ => rfl) (fun _ hz => st2_ne Rf j (some b) hz) (fun _ _ => rfl) ((wE_ref hs (by decide)).mpr ?_)) (hS.put z oq (Nat.le_add_right B a)) hl
  rw [e, hcl, arrV_store]
  refine congrArg some (congrArg (arrV _ N) (funext fun q => ?_))
  by_cases hq : q = j
  · subst hq; simp [updV, st2_row, va_rf]
  · simp [updV, st2_row, hq]
end RULES
end
section
section RULES2
variable {K : KT} {cc : ByteArray} {own : String} {nL d RC RS : Nat} {pc : Nat} {ls : List (Option Value)} {st : List Value} {h : HP} {n : Nat} {M : HM} {Rf : HR} {Lg : HL} {x y : Nat}
/-! ends -/
theorem g_iret (o : Ok K cc own nL d RC RS) {ty : FieldType} {v w : Int32} {h2 : HP} (f : Fin1 K (some ty) (some (.int w)) h2 x y) (hd : decode cc pc = .ok (.ireturn, 1)) (hn : narrow ty (.int v) = .int v) (hv : v = w) (hh : h = h2) : G K pc ls [.int v] h x y := by
  subst hv; subst hh
  obtain ⟨⟨l, B, D, cA⟩, p, e, R, s, m, args, below, meth, c, Q⟩ := K
  intro H locs la hP hS hl
  obtain ⟨f1, f2, f3⟩ := f
  rw [f1]
  exact W.zret o.1 o.2.1 f2 hn (fun t ht hW => ⟨rfl, by rw [ht]; exact hP, hS.F ht⟩) hS.2.2 hd f3
theorem g_lret (o : Ok K cc own nL d RC RS) {v w : Int64} {h2 : HP} (f : Fin1 K (some .long) (some (.long w)) h2 x y) (hd : decode cc pc = .ok (.lreturn, 1)) (hv : v = w) (hh : h = h2) : G K pc ls [.long v] h x y := by
  subst hv; subst hh
  obtain ⟨⟨l, B, D, cA⟩, p, e, R, s, m, args, below, meth, c, Q⟩ := K
  intro H locs la hP hS hl
  obtain ⟨f1, f2, f3⟩ := f
  rw [f1]
  exact W.lret o.1 o.2.1 f2 (fun t ht hW => ⟨rfl, by rw [ht]; exact hP, hS.F ht⟩) hS.2.2 hd f3
theorem g_vret (o : Ok K cc own nL d RC RS) {h2 : HP} (f : Fin1 K none none h2 x y) (hd : decode cc pc = .ok (.return_, 1)) (hh : h = h2) : G K pc ls [] h x y := by
  subst hh
  obtain ⟨⟨l, B, D, cA⟩, p, e, R, s, m, args, below, meth, c, Q⟩ := K
  intro H locs la hP hS hl
  obtain ⟨f1, f2, f3⟩ := f
  rw [f1]
  exact W.vret o.1 o.2.1 f2 (fun t ht hW => ⟨rfl, by rw [ht]; exact hP, hS.F ht⟩) hS.2.2 hd f3
theorem g_widen {x2 y2 : Nat} (h1 : x ≤ x2) (h2 : y ≤ y2) (k : G K pc ls st h x2 y2) : G K pc ls st h x y := by
  obtain ⟨⟨l, B, D, cA⟩, p, e, R, s, m, args, below, meth, c, Q⟩ := K
  intro H locs la hP hS hl
  exact W.widen h1 h2 (k H locs la hP hS hl)
theorem g_eq {pc2 : Nat} {ls2 : List (Option Value)} {st2' : List Value} {h2 : HP} (e0 : pc = pc2) (e1 : ls = ls2) (e2 : st = st2') (e3 : h = h2) (k : G K pc2 ls2 st2' h2 x y) : G K pc ls st h x y := by
  subst e0; subst e1; subst e2; subst e3; exact k
/-- a method by its body -/
theorem Ret.of {Λ : PL} {μ : MT} {As : List Value} {v : Option Value} {h' : HP} {mc ms : Nat} (hy : plainName μ.1.cls = true) (hn : Nat.ble As.length μ.2.2.1 = true) (hc : As.all (fun v => v.category == 1) = true)
    (body : ∀ κ : KR, Ok (Λ, κ) μ.2.1 μ.1.cls μ.2.2.1 d mc ms → Fin1 (Λ, κ) μ.2.2.2 v h' mc ms → κ.2.2.2.2.2.2.2.1.name = μ.1.name → G (Λ, κ) 0 (As.map some ++ List.replicate (μ.2.2.1 - As.length) none) [] h 0 0) : Ret Λ d μ As h v h' mc ms := by
  obtain ⟨l, B, D, cA⟩ := Λ
  obtain ⟨yn, code, nl, ret⟩ := μ
  refine Met.ofW (cc := code) (maxL := nl) (ret := ret) hy rfl ?_
  intro p e s m args below meth c s₁ Bd hml hv
  obtain ⟨rfl, hP, hK⟩ := hv
  have hts := atoms_spec (ws := .code yn code nl ret :: gtbl) Bd.pre
  have hn2 : As.length ≤ nl := Nat.le_of_ble_eq_true hn
  have hc2 : ∀ v ∈ As, v.category = 1 := fun v hv => by
    have := List.all_eq_true.mp hc v hv
    simpa using this
  rw [lg_entry_eq]
  exact body (p, e, _, s, m, _, below, meth, c, _) ⟨Bd.exec, Bd.bytes, hml, findClass_of_methodNamed Bd.named, fun w hw => hts w (List.mem_cons_of_mem _ hw), hK, by rw [hP.1]; exact Nat.le_add_right _ _, Nat.le_refl _, Nat.le_refl _, rfl, rfl⟩ ⟨rfl, Bd.returns, Bd.notSynchronized⟩ (name_of_methodNamed Bd.named Bd.method).1 s.heap [] _ hP va_S.rf (lsH.entry B As nl hn2 hc2)
/-! calls -/
theorem calls_on {p : Program} {l : Launch} {e : Env} {R : Room} {s : State} {m : MethodId} {args : Array Value} {below : List Frame} {meth : Method} {c : Code} {H : Heap} {locs : List Loc} {cells slots mc ms : Nat} {Q : State → Prop} {la : Array Slot} {rest st0 : List Value} {a : Array Value} {B : Nat} {D : va_G} {cA : Nat → ClassId} {v : Option Value} {h' : HP} (hS : va_S (fun q => B ≤ q) s.heap H locs)
    (hr : va_Run p l e R s m args below meth c H locs cells slots mc ms (F0 m pc la st0) rest (RQ B D cA v h' a) (fun q => B ≤ q))
    (kk : ∀ (H1 : Heap) (locs1 : List Loc), PW B D cA h' H1 → va_S (fun q => B ≤ q) s.heap H1 locs1 → W p l e R s m args below meth c H1 locs1 (cells + mc) (slots + ms) Q (F0 m (pc + 3) la ((v.map (rvB B)).toList ++ rest))) : W p l e R s m args below meth c H locs cells slots Q (F0 m pc la st0) := by
  intro T hT X
  obtain ⟨v9, st₀, t, T', L, h0, X', hL, e1, e2, ⟨hv, hp, hz, hk⟩, stp⟩ := hr T hT X
  cases hv
  rw [h0] at hz hk
  obtain ⟨t2, a1, b1⟩ := kk T'.heap (locs ++ L) (by rw [e1]; exact hp)
    ⟨Nat.le_trans hS.1 (by rw [e1]; exact hz), fun q h1 h2 => by rw [e1, hk q (Nat.lt_of_lt_of_le h1 hS.1) h2]; exact hS.2.1 q h1 h2, fun q hq => by
      rcases List.mem_append.mp hq with h | h
      · exact hS.2.2 q h
      · exact hL q h⟩ T' rfl X'
  exact ⟨t2, stp t2 a1, b1⟩
/-- what the tables say of a method that is called: its code, its class, how many arguments -/
def CM (μ : MT) (k : Nat) : Prop := Cond.code μ.1 μ.2.1 μ.2.2.1 μ.2.2.2 ∈ gtbl ∧ Cond.initialized μ.1.cls ∈ gtbl ∧ (μ.1.cls ≠ "java/lang/invoke/MethodHandle" ∧ μ.1.cls ≠ "java/lang/invoke/VarHandle" ∧ (parseMethodDescriptor μ.1.desc).map (fun d => d.parameters.length) = some k) ∧ μ.2.2.1 ≤ 21
def LV (own : String) (idx : Nat) (μ : MT) (t : Nat) : Prop := t < 5 ∧ cnm t = μ.1.cls ∧ Cond.methodLink own idx μ.1 ∈ gtbl ∧ Cond.instanceMethod μ.1 ∈ gtbl ∧ Cond.selects μ.1.cls μ.1 μ.1 ∈ gtbl
def LSt (own : String) (idx : Nat) (μ : MT) : Prop := Cond.methodLink own idx μ.1 ∈ gtbl ∧ Cond.static μ.1 ∈ gtbl
def LSN (own : String) (idx : Nat) (μ : MT) : Prop := Cond.methodLinkNest own idx μ.1 RX3 ∈ nestW ∧ Cond.static μ.1 ∈ gtbl
def LI (own : String) (idx : Nat) (μ : MT) : Prop := μ.1.name = "<init>" ∧ Cond.methodLink own idx μ.1 ∈ gtbl ∧ Cond.instanceMethod μ.1 ∈ gtbl
def LIN (own : String) (idx : Nat) (μ : MT) : Prop := μ.1.name = "<init>" ∧ Cond.methodLinkNest own idx μ.1 RX3 ∈ nestW ∧ Cond.instanceMethod μ.1 ∈ gtbl
theorem blind {B : Nat} {D : va_G} {cA : Nat → ClassId} {As : List Value} : FrameBlind (va_Pc As (fun U => PW B D cA h U.heap ∧ KnAll U D cA)) := fun a U g mk q => ⟨q.1, q.2.1, KnAll.same (u := U) (U := U.calling g mk a) rfl q.2.2⟩
theorem cb_of {R : Room} {s : State} {args : Array Value} {idx k dd mc ms : Nat} {μ : MT} (hts : ∀ w ∈ gtbl, w.before args s = true) (cm : CM μ k) (hl : Cond.methodLink own idx μ.1 ∈ gtbl) (hf : dd + 1 ≤ R.frames) (hlo : 40 * (dd + 1) ≤ R.locals) : CallB R s args own idx μ.1 μ.2.1 μ.2.2.1 μ.2.2.2 (.code μ.1 μ.2.1 μ.2.2.1 μ.2.2.2 :: gtbl) { frames := dd, cells := mc, slots := ms, locals := 40 * dd } mc ms k := by
  obtain ⟨c1, c2, c3, c4⟩ := cm
  exact callB_of (Ts := .code μ.1 μ.2.1 μ.2.2.1 μ.2.2.2 :: gtbl) k (fun w hw => hts w (gt_in c1 hw).1) (gt_good c1) rfl rfl rfl (hts _ c2) (hts _ hl) c3 ⟨hf, by show 8 + (μ.2.2.1 + 11) + 40 * dd ≤ R.locals; omega⟩
theorem cn_of {R : Room} {s : State} {args : Array Value} {idx k dd mc ms : Nat} {μ : MT} (hts : ∀ w ∈ gtbl, w.before args s = true) (cm : CM μ k) (hl : va_Nw (.methodLinkNest own idx μ.1 RX3) s) (hf : dd + 1 ≤ R.frames) (hlo : 40 * (dd + 1) ≤ R.locals) : va_CN R s args own idx μ.1 RX3 μ.2.1 μ.2.2.1 μ.2.2.2 (.code μ.1 μ.2.1 μ.2.2.1 μ.2.2.2 :: gtbl) { frames := dd, cells := mc, slots := ms, locals := 40 * dd } mc ms k := by
  obtain ⟨c1, c2, c3, c4⟩ := cm
  exact va_cnB (Ts := .code μ.1 μ.2.1 μ.2.2.1 μ.2.2.2 :: gtbl) k (fun w hw => hts w (gt_in c1 hw).1) (gt_good c1) rfl rfl rfl hl (hts _ c2) c3 ⟨hf, by show 8 + (μ.2.2.1 + 11) + 40 * dd ≤ R.locals; omega⟩
theorem cat_sum {B : Nat} : ((st.map (rvB B)).map fun v => v.category) = st.map fun v => v.category := by
  rw [List.map_map]; exact List.map_congr_left (fun v _ => rvB_cat B v)
theorem room_st {B : Nat} {m : MethodId} {la : Array Slot} {st0 : List Value} (hst : Nat.ble (st.map fun v => v.category).sum 8 = true) : 2 * (F0 m pc la st0).monitorRoom + ((st.map (rvB B)).map fun v => v.category).sum ≤ 8 := by
  rw [cat_sum]; exact lv_room (Nat.le_of_ble_eq_true hst)
theorem g_callV (o : Ok K cc own nL (d + 1) RC RS) {idx k t a N : Nat} {μ : MT} {As : List Value} {v : Option Value} {h' : HP} {mc ms : Nat} (lk : LV own idx μ t) (cm : CM μ k) (hM : Ret K.1 d μ (.ref a :: As) h v h' mc ms) (hk : As.length = k) (hs : shp a = (t, N)) (ha : a < h.1) (hls : ls.length = nL) (hst : Nat.ble (st.map fun v => v.category).sum 8 = true) (hxy : x + mc ≤ RC ∧ y + ms ≤ RS) (hd : decode cc pc = .ok (.invokevirtual idx, 3)) (k : G K (pc + 3) ls (v.toList ++ st) h' (x + mc) (y + ms)) : G K pc ls (As.reverse ++ .ref a :: st) h x y := by
  obtain ⟨⟨l, B, D, cA⟩, p, e, R, s, m, args, below, meth, c, Q⟩ := K
  intro H locs la hP hS hl
  obtain ⟨o1, o2, o3, o4, o5, o6, o7, o8, o9, o10, o11⟩ := o
  obtain ⟨k1, k2, k3, k4, k5⟩ := lk
  obtain ⟨cell, q1, q2, q3, -⟩ := (wE_obj hs k1).mp (hP.2 a ha)
  have hcl := (o6.1 t k1).2.1
  refine calls_on (mc := mc) (ms := ms) (v := v) (h' := h') (rest := st.map (rvB B)) hS (va_runV (As := As.map (rvB B)) (rest := st.map (rvB B)) (C := cnm t) (b := B + a) ⟨o1, o2, o3, o4, o5⟩ hM ⟨cb_of o5 cm k3 o8 o9, o5 _ k4, by rw [k2]; exact o5 _ k5⟩ ⟨blind, ⟨cell, q1, by rw [q3]; rfl, by rw [q2]; exact hcl⟩, fun U hU hW => ⟨rfl, by rw [hU]; exact hP, o6.warm hW⟩⟩ rfl (by simpa using hk) (by show la.size = nL; rw [hl.1, hls]) (by simp [rvB]) (room_st hst) hd ⟨by rw [o10]; exact hxy.1, by rw [o11]; exact hxy.2⟩) (fun H1 locs1 g1 g2 => ?_)
  have := k H1 locs1 la g1 g2 hl
  rw [List.map_append] at this
  cases v <;> exact this
theorem g_callS (o : Ok K cc own nL (d + 1) RC RS) {idx k : Nat} {μ : MT} {As : List Value} {v : Option Value} {h' : HP} {mc ms : Nat} (lk : LSt own idx μ) (cm : CM μ k) (hM : Ret K.1 d μ As h v h' mc ms) (hk : As.length = k) (hls : ls.length = nL) (hst : Nat.ble (st.map fun v => v.category).sum 8 = true) (hxy : x + mc ≤ RC ∧ y + ms ≤ RS) (hd : decode cc pc = .ok (.invokestatic idx, 3)) (k : G K (pc + 3) ls (v.toList ++ st) h' (x + mc) (y + ms)) : G K pc ls (As.reverse ++ st) h x y := by
  obtain ⟨⟨l, B, D, cA⟩, p, e, R, s, m, args, below, meth, c, Q⟩ := K
  intro H locs la hP hS hl
  obtain ⟨o1, o2, o3, o4, o5, o6, o7, o8, o9, o10, o11⟩ := o
  refine calls_on (mc := mc) (ms := ms) (v := v) (h' := h') (rest := st.map (rvB B)) hS (va_runS (As := As.map (rvB B)) (rest := st.map (rvB B)) ⟨o1, o2, o3, o4, o5⟩ hM ⟨cb_of o5 cm lk.1 o8 o9, o5 _ lk.2⟩ ⟨blind, fun U hU hW => ⟨rfl, by rw [hU]; exact hP, o6.warm hW⟩⟩ rfl (by simpa using hk) (by show la.size = nL; rw [hl.1, hls]) (by simp) (room_st hst) hd ⟨by rw [o10]; exact hxy.1, by rw [o11]; exact hxy.2⟩) (fun H1 locs1 g1 g2 => ?_)
  have := k H1 locs1 la g1 g2 hl
  rw [List.map_append] at this
  cases v <;> exact this
theorem g_callSN (o : Ok K cc own nL (d + 1) RC RS) {idx k : Nat} {μ : MT} {As : List Value} {v : Option Value} {h' : HP} {mc ms : Nat} (lk : LSN own idx μ) (cm : CM μ k) (hM : Ret K.1 d μ As h v h' mc ms) (hk : As.length = k) (hls : ls.length = nL) (hst : Nat.ble (st.map fun v => v.category).sum 8 = true) (hxy : x + mc ≤ RC ∧ y + ms ≤ RS) (hd : decode cc pc = .ok (.invokestatic idx, 3)) (k : G K (pc + 3) ls (v.toList ++ st) h' (x + mc) (y + ms)) : G K pc ls (As.reverse ++ st) h x y := by
  obtain ⟨⟨l, B, D, cA⟩, p, e, R, s, m, args, below, meth, c, Q⟩ := K
  intro H locs la hP hS hl
  obtain ⟨o1, o2, o3, o4, o5, o6, o7, o8, o9, o10, o11⟩ := o
  refine calls_on (mc := mc) (ms := ms) (v := v) (h' := h') (rest := st.map (rvB B)) hS (va_runSN (host := RX3) (As := As.map (rvB B)) (rest := st.map (rvB B)) ⟨o1, o2, o3, o4, o5⟩ hM ⟨cn_of o5 cm (o6.2.2.1 _ lk.1) o8 o9, o5 _ lk.2, trivial⟩ ⟨blind, fun U hU hW => ⟨rfl, by rw [hU]; exact hP, o6.warm hW⟩⟩ rfl (by simpa using hk) (by show la.size = nL; rw [hl.1, hls]) (by simp) (room_st hst) hd ⟨by rw [o10]; exact hxy.1, by rw [o11]; exact hxy.2⟩) (fun H1 locs1 g1 g2 => ?_)
  have := k H1 locs1 la g1 g2 hl
  rw [List.map_append] at this
  cases v <;> exact this
theorem g_callI (o : Ok K cc own nL (d + 1) RC RS) {idx k a : Nat} {μ : MT} (hret : μ.2.2.2 = none) {As : List Value} {h' : HP} {mc ms : Nat} (lk : LI own idx μ) (cm : CM μ k) (hM : Ret K.1 d μ (.ref a :: As) h none h' mc ms) (hk : As.length = k) (hls : ls.length = nL) (hst : Nat.ble (st.map fun v => v.category).sum 8 = true) (hxy : x + mc ≤ RC ∧ y + ms ≤ RS) (hd : decode cc pc = .ok (.invokespecial idx, 3)) (k : G K (pc + 3) ls st h' (x + mc) (y + ms)) : G K pc ls (As.reverse ++ .ref a :: st) h x y := by
  obtain ⟨⟨l, B, D, cA⟩, p, e, R, s, m, args, below, meth, c, Q⟩ := K
  obtain ⟨yn, code, nl, ret⟩ := μ
  cases hret
  intro H locs la hP hS hl
  obtain ⟨o1, o2, o3, o4, o5, o6, o7, o8, o9, o10, o11⟩ := o
  refine calls_on (mc := mc) (ms := ms) (v := none) (h' := h') (rest := st.map (rvB B)) hS (va_runI (As := As.map (rvB B)) (b := B + a) (rest := st.map (rvB B)) ⟨o1, o2, o3, o4, o5⟩ hM ⟨cb_of o5 cm lk.2.1 o8 o9, lk.1, o5 _ lk.2.2⟩ ⟨blind, fun U hU hW => ⟨rfl, by rw [hU]; exact hP, o6.warm hW⟩⟩ rfl (by simpa using hk) (by show la.size = nL; rw [hl.1, hls]) (by simp [rvB]) (room_st hst) hd ⟨by rw [o10]; exact hxy.1, by rw [o11]; exact hxy.2⟩) (fun H1 locs1 g1 g2 => ?_)
  exact k H1 locs1 la g1 g2 hl
theorem g_callIN (o : Ok K cc own nL (d + 1) RC RS) {idx k a : Nat} {μ : MT} (hret : μ.2.2.2 = none) {As : List Value} {h' : HP} {mc ms : Nat} (lk : LIN own idx μ) (cm : CM μ k) (hM : Ret K.1 d μ (.ref a :: As) h none h' mc ms) (hk : As.length = k) (hls : ls.length = nL) (hst : Nat.ble (st.map fun v => v.category).sum 8 = true) (hxy : x + mc ≤ RC ∧ y + ms ≤ RS) (hd : decode cc pc = .ok (.invokespecial idx, 3)) (k : G K (pc + 3) ls st h' (x + mc) (y + ms)) : G K pc ls (As.reverse ++ .ref a :: st) h x y := by
  obtain ⟨⟨l, B, D, cA⟩, p, e, R, s, m, args, below, meth, c, Q⟩ := K
  obtain ⟨yn, code, nl, ret⟩ := μ
  cases hret
  intro H locs la hP hS hl
  obtain ⟨o1, o2, o3, o4, o5, o6, o7, o8, o9, o10, o11⟩ := o
  refine calls_on (mc := mc) (ms := ms) (v := none) (h' := h') (rest := st.map (rvB B)) hS (va_runIN (host := RX3) (As := As.map (rvB B)) (b := B + a) (rest := st.map (rvB B)) ⟨o1, o2, o3, o4, o5⟩ hM ⟨cn_of o5 cm (o6.2.2.1 _ lk.2.1) o8 o9, lk.1, o5 _ lk.2.2⟩ ⟨blind, fun U hU hW => ⟨rfl, by rw [hU]; exact hP, o6.warm hW⟩⟩ rfl (by simpa using hk) (by show la.size = nL; rw [hl.1, hls]) (by simp [rvB]) (room_st hst) hd ⟨by rw [o10]; exact hxy.1, by rw [o11]; exact hxy.2⟩) (fun H1 locs1 g1 g2 => ?_)
  exact k H1 locs1 la g1 g2 hl
theorem g_max (o : Ok K cc own nL (d + 1) RC RS) {idx : Nat} {a b : Int32} (lk : Cond.methodLink own idx Lib.Math.max.name ∈ gtbl) (hst : Nat.ble (st.map fun v => v.category).sum 8 = true) (hls : ls.length = nL) (hxy : x ≤ RC ∧ y ≤ RS) (hd : decode cc pc = .ok (.invokestatic idx, 3)) (k : G K (pc + 3) ls (.int (if a < b then b else a) :: st) h x y) (w1 : Cond.static Lib.Math.max.name ∈ gtbl) (w2 : Cond.initialized "java/lang/Math" ∈ gtbl) (w3 : Cond.code Lib.Math.max.name Lib.Math.max.code 2 (some .int) ∈ gtbl) : G K pc ls (.int b :: .int a :: st) h x y := by
  obtain ⟨⟨l, B, D, cA⟩, p, e, R, s, m, args, below, meth, c, Q⟩ := K
  intro H locs la hP hS hl
  obtain ⟨o1, o2, o3, o4, o5, o6, o7, o8, o9, o10, o11⟩ := o
  have hs8 := Nat.le_of_ble_eq_true hst
  refine va_mmax o1 o2 (by rw [o3, hl.1, hls]) o4 (o5 _ lk) (o5 _ w1) (o5 _ w2) (o5 _ w3) (by omega) (by rw [cat_sum]; omega) (by rw [o10]; exact hxy.1) (by rw [o11]; exact hxy.2) hd (k H locs la hP hS hl)
theorem g_min (o : Ok K cc own nL (d + 1) RC RS) {idx : Nat} {a b : Int32} (lk : Cond.methodLink own idx Lib.Math.min.name ∈ gtbl) (hst : Nat.ble (st.map fun v => v.category).sum 8 = true) (hls : ls.length = nL) (hxy : x ≤ RC ∧ y ≤ RS) (hd : decode cc pc = .ok (.invokestatic idx, 3)) (k : G K (pc + 3) ls (.int (if b < a then b else a) :: st) h x y) (w1 : Cond.static Lib.Math.min.name ∈ gtbl) (w2 : Cond.initialized "java/lang/Math" ∈ gtbl) (w3 : Cond.code Lib.Math.min.name Lib.Math.min.code 2 (some .int) ∈ gtbl) : G K pc ls (.int b :: .int a :: st) h x y := by
  obtain ⟨⟨l, B, D, cA⟩, p, e, R, s, m, args, below, meth, c, Q⟩ := K
  intro H locs la hP hS hl
  obtain ⟨o1, o2, o3, o4, o5, o6, o7, o8, o9, o10, o11⟩ := o
  have hs8 := Nat.le_of_ble_eq_true hst
  refine va_mmin o1 o2 (by rw [o3, hl.1, hls]) o4 (o5 _ lk) (o5 _ w1) (o5 _ w2) (o5 _ w3) (by omega) (by rw [cat_sum]; omega) (by rw [o10]; exact hxy.1) (by rw [o11]; exact hxy.2) hd (k H locs la hP hS hl)
end RULES2
end
section
section RULES3
variable {K : KT} {cc : ByteArray} {own : String} {nL d RC RS : Nat} {pc : Nat} {ls : List (Option Value)} {st : List Value} {h : HP} {n : Nat} {M : HM} {Rf : HR} {Lg : HL} {x y : Nat}
theorem g_objInit (o : Ok K cc own nL (d + 1) RC RS) {idx a : Nat} (lk : Cond.methodLink own idx Lib.objectInit ∈ gtbl) (hls : ls.length = nL) (hst : Nat.ble (st.map fun v => v.category).sum 8 = true) (hd : decode cc pc = .ok (.invokespecial idx, 3)) (k : G K (pc + 3) ls st h x y) (w1 : Cond.instanceMethod Lib.objectInit ∈ gtbl) (w2 : Cond.code Lib.objectInit ⟨#[0xb1]⟩ 1 none ∈ gtbl) : G K pc ls (.ref a :: st) h x y := by
  obtain ⟨⟨l, B, D, cA⟩, p, e, R, s, m, args, below, meth, c, Q⟩ := K
  intro H locs la hP hS hl
  obtain ⟨o1, o2, o3, o4, o5, o6, o7, o8, o9, o10, o11⟩ := o
  have h8 := room_st (B := B) (m := m) (pc := pc) (la := la) (st0 := (Value.ref a :: st).map (rvB B)) hst
  exact W.objInit (a := B + a) (rest := st.map (rvB B)) o1 o2 o4 (o5 _ lk) (o5 _ w1) (o5 _ w2) rfl (by rw [o3]; exact hl.1.trans hls) rfl hd (by omega) (by omega) (k H locs la hP hS hl)
theorem t_zero {t : Nat} (ht : t < 5) {B a : Nat} (hM : M a = fun _ => 0) (hR : Rf a = fun _ => none) (hL : Lg a = fun _ => 0) (j : Nat) (hj : j < cln t) : defaultValue (cty t j) = fvl B M Rf Lg t a j := by
  have key : ∀ j, j < cln t → cty t j = .int ∨ cty t j = .boolean ∨ cty t j = .long ∨ (∃ q, cty t j = .object q) ∨ ∃ q, cty t j = .array q := by
    have hall : ∀ t, t < 5 → (List.range (cln t)).all (fun j => match cty t j with | .int => true | .boolean => true | .long => true | .object _ => true | .array _ => true | _ => false) = true := by decide
    intro j hj
    have := List.all_eq_true.mp (hall t ht) j (List.mem_range.mpr hj)
    cases e : cty t j <;> rw [e] at this <;> simp at this <;> simp
  rcases key j hj with e | e | e | ⟨q, e⟩ | ⟨q, e⟩
  · rw [fvl_i (Or.inl e), e, hM]; rfl
  · rw [fvl_i (Or.inr e), e, hM]; rfl
  · rw [fvl_j e, e, hL]; rfl
  · rw [fvl_r (Or.inl ⟨q, e⟩), e, hR]; rfl
  · rw [fvl_r (Or.inr ⟨q, e⟩), e, hR]; rfl
theorem S_grow {A : Nat → Prop} {H0 H H1 : Heap} {locs : List Loc} (hS : va_S A H0 H locs) (z : H1.size = H.size + 1) (oq : ∀ q : Nat, q < H.size → H1[q]? = H[q]?) : va_S A H0 H1 locs :=
  ⟨Nat.le_trans hS.1 (by omega), fun q h1 h2 => (oq q (Nat.lt_of_lt_of_le h1 hS.1)).trans (hS.2.1 q h1 h2), hS.2.2⟩
theorem g_new (o : Ok K cc own nL d RC RS) {idx t : Nat} (ht : t < 5) (lk : Cond.classLink own idx (cnm t) ∈ gtbl) (w1 : Cond.instantiable (cnm t) (cln t) ∈ gtbl) (w2 : Cond.initialized (cnm t) ∈ gtbl) (hs : shp n = (t, cln t)) (hM : M n = fun _ => 0) (hR : Rf n = fun _ => none) (hL : Lg n = fun _ => 0) (hxy : x + 1 ≤ RC ∧ y + cln t ≤ RS) (hd : decode cc pc = .ok (.new idx, 3)) (k : G K (pc + 3) ls (.ref n :: st) (n + 1, M, Rf, Lg) (x + 1) (y + cln t)) : G K pc ls st (n, M, Rf, Lg) x y := by
  obtain ⟨⟨l, B, D, cA⟩, p, e, R, s, m, args, below, meth, c, Q⟩ := K
  intro H locs la hP hS hl
  obtain ⟨o1, o2, o3, o4, o5, o6, o7, o8, o9, o10, o11⟩ := o
  have hKn := o6.1 t ht
  have hsz : H.size = B + n := hP.1
  refine W.newcK (cC := D.1 t) o1 o2 o4 (o5 _ lk) (o5 _ w1) (o5 _ w2) rfl hd (by rw [o10]; exact hxy.1) (by rw [o11]; exact hxy.2) hKn.2.1 hsz fun H1 kC hkC e1 z1 o12 => ?_
  rw [← hsz] at z1 o12
  exact k H1 locs la (hP.grow z1 o12 ((wE_obj hs ht).mpr ((u_born (cty t) o5 (in_all t ht) hKn hkC e1 (ty_all t ht)).to (fun j hj => t_zero ht hM hR hL j hj)))) (S_grow hS z1 o12) hl
theorem g_newa (o : Ok K cc own nL d RC RS) {at' : ArrayType} {t N : Nat} {i : Int32} (ht : newarray.typeOf at' = aty t) (h5 : 5 ≤ t) (h8 : t < 8) (w1 : Cond.arrayClass (aty t) ∈ gtbl) (hs : shp n = (t, N)) (hi : i = nI N) (hM : M n = fun _ => 0) (hxy : x + 1 ≤ RC ∧ y + N ≤ RS) (hd : decode cc pc = .ok (.newarray at', 2)) (k : G K (pc + 2) ls (.ref n :: st) (n + 1, M, Rf, Lg) (x + 1) (y + N)) : G K pc ls (.int i :: st) (n, M, Rf, Lg) x y := by
  obtain ⟨⟨l, B, D, cA⟩, p, e, R, s, m, args, below, meth, c, Q⟩ := K
  intro H locs la hP hS hl
  obtain ⟨o1, o2, o3, o4, o5, o6, o7, o8, o9, o10, o11⟩ := o
  have hN : N < 1000 := by have := shp_small n; rw [hs] at this; exact this
  have hsz : H.size = B + n := hP.1
  have ht3 : t = 5 ∨ t = 6 ∨ t = 7 := by omega
  have hcb : componentBytes (aty t) ≤ 4 := by rcases ht3 with rfl | rfl | rfl <;> decide
  have hdv : defaultValue (aty t) = .int 0 := by rcases ht3 with rfl | rfl | rfl <;> rfl
  have hra := (o6.2.1 t h5 (by omega)).2
  have hfc : s.vm.findClass ("[" ++ (aty t).toString) = some (cA t) := by rcases ht3 with rfl | rfl | rfl <;> exact hra
  have hcl : i.toNatClampNeg = N := by rw [hi]; exact nI_clamp (by omega)
  have hneg : ¬ i < 0 := by rw [hi]; exact nI_pos (by omega)
  have hbb : N * componentBytes (newarray.typeOf at') ≤ 536870912 := by rw [ht]; exact Nat.le_trans (Nat.mul_le_mul (Nat.le_of_lt hN) hcb) (by decide)
  refine va_newaK (N := N) o1 o2 (by rw [ht]; exact o5 _ w1) rfl hd rfl hneg hcl hbb (by rw [o10]; exact hxy.1) (by rw [o11]; exact hxy.2) hsz fun H1 cA2 e1 z1 o12 hAr hNm => ?_
  rw [ht] at e1 hNm
  have hc : cA2 = cA t := Option.some.inj (hNm.symm.trans hfc)
  subst hc
  rw [hdv] at e1
  rw [← hsz] at z1 o12
  exact k H1 locs la (hP.grow z1 o12 ((wE_int hs h5 h8).mpr (by rw [e1, hM]))) (S_grow hS z1 o12) hl
theorem g_anew (o : Ok K cc own nL d RC RS) {idx N : Nat} {i : Int32} (lk : Cond.classLink own idx RX1 ∈ gtbl) (hs : shp n = (8, N)) (hi : i = nI N) (hR : Rf n = fun _ => none) (hxy : x + 1 ≤ RC ∧ y + N ≤ RS) (hd : decode cc pc = .ok (.anewarray idx, 3)) (k : G K (pc + 3) ls (.ref n :: st) (n + 1, M, Rf, Lg) (x + 1) (y + N)) : G K pc ls (.int i :: st) (n, M, Rf, Lg) x y := by
  obtain ⟨⟨l, B, D, cA⟩, p, e, R, s, m, args, below, meth, c, Q⟩ := K
  intro H locs la hP hS hl
  obtain ⟨o1, o2, o3, o4, o5, o6, o7, o8, o9, o10, o11⟩ := o
  have hN : N < 1000 := by have := shp_small n; rw [hs] at this; exact this
  have hsz : H.size = B + n := hP.1
  have hcl : i.toNatClampNeg = N := by rw [hi]; exact nI_clamp (by omega)
  obtain ⟨kA0, comp0, r1, r2, r3, r4⟩ := (o6.2.1 8 (by decide) (by decide)).2
  refine W.anew o1 o2 o4 (o5 _ lk) (va_AO.use o6.2.2.2.1) rfl hd rfl (by rw [hi]; exact nI_pos (by omega)) (by rw [hcl]; omega) (by rw [o10]; exact hxy.1) (by rw [o11, hcl]; exact hxy.2) fun cA2 kA comp f1 f2 f3 f4 => ?_
  have hc : cA2 = cA 8 := Option.some.inj (f1.symm.trans r4)
  subst hc
  rw [hcl]
  generalize hH1 : H.push ({ cls := cA 8, slots := Array.replicate N .null, vm := .none } : Cell) = H1
  have z1 : H1.size = H.size + 1 := by rw [← hH1, Array.size_push]
  have e1 : H1[H.size]? = some (arrV (cA 8) N (fun _ => .null)) := by rw [← hH1, Array.getElem?_push_size, ← arrV_new]
  have o12 : ∀ q : Nat, q < H.size → H1[q]? = H[q]? := fun q hq => by rw [← hH1, Array.getElem?_push, if_neg (Nat.ne_of_lt hq)]
  have := k H1 locs la (hP.grow z1 o12 ((wE_ref hs (by decide)).mpr (by rw [← hsz, e1, hR]; rfl))) (S_grow hS z1 o12) hl
  rw [hsz]
  exact this
theorem g_copy (o : Ok K cc own nL (d + 2) RC RS) {idx a b N1 N2 : Nat} (lk : Cond.methodLink own idx arraycopyName ∈ gtbl) (w1 : Cond.native arraycopyName ∈ gtbl) (w2 : Cond.static arraycopyName ∈ gtbl) (w3 : Cond.initialized "java/lang/System" ∈ gtbl) (ha : shp a = (6, N1)) (hb : shp b = (6, N2)) (han : a < n) (hbn : b < n) {i : Int32} (k : Nat) (hi : i = nI k) (h1 : k ≤ N1) (h2 : k ≤ N2) (hls : ls.length = nL) (hst : Nat.ble (st.map fun v => v.category).sum 8 = true) (hd : decode cc pc = .ok (.invokestatic idx, 3)) (kk : G K (pc + 3) ls st (n, fun z j => if z = b ∧ j < k then M a j else M z j, Rf, Lg) x y) : G K pc ls (.int i :: .int 0 :: .ref b :: .int 0 :: .ref a :: st) (n, M, Rf, Lg) x y := by
  obtain ⟨⟨l, B, D, cA⟩, p, e, R, s, m, args, below, meth, c, Q⟩ := K
  intro H locs la hP hS hl
  obtain ⟨o1, o2, o3, o4, o5, o6, o7, o8, o9, o10, o11⟩ := o
  have hN1 : N1 < 1000 := by have := shp_small a; rw [ha] at this; exact this
  have hcl : i.toNatClampNeg = k := by rw [hi]; exact nI_clamp (by omega)
  have hpos : ¬ i < 0 := by rw [hi]; exact nI_pos (by omega)
  have hti : i.toInt = (k : Int) := by rw [hi]; exact nI_toInt (by omega)
  have hc0 : H[B + a]? = some (arrV (cA 6) N1 (fun j => .int (M a j))) := (wE_int ha (by decide) (by decide)).mp (hP.2 a han)
  have hc1 : H[B + b]? = some (arrV (cA 6) N2 (fun j => .int (M b j))) := (wE_int hb (by decide) (by decide)).mp (hP.2 b hbn)
  obtain ⟨-, k0, hk0, cm0, hkk0⟩ := (o6.2.1 6 (by decide) (by decide)).1 N1 (fun j => .int (M a j))
  obtain ⟨-, k1, hk1, cm1, hkk1⟩ := (o6.2.1 6 (by decide) (by decide)).1 N2 (fun j => .int (M b j))
  have hs8 := Nat.le_of_ble_eq_true hst
  have hnw : nativeFrameWords "java/lang/System" "arraycopy" 5 + 11 ≤ 60 := by decide
  intro T hT X
  obtain ⟨vm', X', step⟩ := X.arraycopy o1 o4 (o5 _ lk) (o5 _ w1) (o5 _ w2) (o5 _ w3) (src := B + a) (dst := B + b) (cs := arrV (cA 6) N1 (fun j => .int (M a j))) (cd := arrV (cA 6) N2 (fun j => .int (M b j))) (srcPos := 0) (destPos := 0) (n := i) (by rw [hT]; exact hc0) (by rw [hT]; exact hc1)
    (fun _ h => by cases h) (fun _ h => by cases h) (fun h => by cases h) (fun h => by cases h) hk0 hk1 hkk0 hkk1 (by decide) (by decide) (by decide) hpos
    (by rw [hti, arrV_size]; show ¬ (0 : Int) + _ > _; omega)
    (by rw [hti, arrV_size]; show ¬ (0 : Int) + _ > _; omega)
    (fun vm₁ _ q hq => by
      rw [hcl] at hq
      have e : (arrV (cA 6) N1 (fun j => .int (M a j))).slots.getD ((0 : Int32).toNatClampNeg + q) .null = .int (M a q) := by
        rw [Array.getD_eq_getD_getElem?, show (0 : Int32).toNatClampNeg + q = q from Nat.zero_add q, arrV_read _ _ (by omega)]
        rfl
      refine ⟨?_, ?_⟩
      · rw [e]; rfl
      · rw [e]; exact trivial)
    (g := F0 m pc la (.int i :: .int 0 :: .ref (B + b) :: .int 0 :: .ref (B + a) :: st.map (rvB B))) rfl (by rw [o3]; exact hl.1.trans hls) (rest := st.map (rvB B)) rfl (by rw [o2]; exact hd) (by omega) (by rw [cat_sum]; show 2 * 0 + _ + _ ≤ _; exact Nat.le_trans (Nat.add_le_add (Nat.add_le_add_left hs8 _) hnw) (by omega))
  have e1 : copied (vp_cell (cA 6) (N1, .inl (M a))) (vp_cell (cA 6) (N2, .inl (M b))) 0 0 i = vp_cell (cA 6) (N2, .inl (va_cpy (M a) (M b) (0 : Int32).toNatClampNeg (0 : Int32).toNatClampNeg i.toNatClampNeg)) := va_copied (fun z => .int z) (cA 6) (cA 6) (M a) (M b) (by rw [hcl]; show 0 + k ≤ N1; omega)
  rw [vp_cell_i, vp_cell_i, vp_cell_i] at e1
  rw [e1] at X' step
  have hl9 : B + b < H.size := (Array.getElem?_eq_some_iff.mp hc1).1
  have hheap : ((T.setVm vm').setCell (B + b) (arrV (cA 6) N2 (fun j => .int (va_cpy (M a) (M b) (0 : Int32).toNatClampNeg (0 : Int32).toNatClampNeg i.toNatClampNeg j)))).heap = H.setIfInBounds (B + b) (arrV (cA 6) N2 (fun j => .int (va_cpy (M a) (M b) (0 : Int32).toNatClampNeg (0 : Int32).toNatClampNeg i.toNatClampNeg j))) := by rw [← hT]; rfl
  have oq : ∀ q : Nat, q ≠ B + b → (H.setIfInBounds (B + b) (arrV (cA 6) N2 (fun j => .int (va_cpy (M a) (M b) (0 : Int32).toNatClampNeg (0 : Int32).toNatClampNeg i.toNatClampNeg j))))[q]? = H[q]? := fun q hq => by simp [Array.getElem?_setIfInBounds, Ne.symm hq]
  obtain ⟨t, a1, b1⟩ := kk _ _ la (hP.upd (k := b) (by simp) oq (fun z hz => by funext j; simp [hz]) (fun _ _ => rfl) (fun _ _ => rfl) ((wE_int hb (by decide) (by decide)).mpr (by
      simp only [Array.getElem?_setIfInBounds, hl9, if_true]
      refine congrArg some (congrArg (arrV _ N2) (funext fun j => ?_))
      rw [hcl]
      simp only [va_cpy, true_and]
      by_cases hj : j < k
      · rw [if_pos hj, if_pos ⟨Nat.zero_le _, by show j < 0 + k; omega⟩]
        show Value.int (M a (0 + (j - 0))) = _
        simp
      · rw [if_neg hj, if_neg (fun q => hj (by have : j < 0 + k := q.2; omega))]))) ⟨by simp; exact hS.1, fun q g1 g2 => by
      rw [oq q (fun e => g2 (by rw [e]; exact Nat.le_add_right B b))]
      exact hS.2.1 q g1 g2, fun q hq => by
      rcases List.mem_append.mp hq with h | h
      · exact hS.2.2 q h
      · obtain ⟨z, -, hz⟩ := List.mem_map.mp h
        rw [← hz]
        exact Nat.le_add_right B b⟩ hl _ hheap X'
  exact ⟨t, step t a1, b1⟩
/-! the law's own script -/
theorem g_sld (o : Ok K cc own nL d RC RS) {b L : Nat} {xs : Nat → Int32} (hX : va_X b L xs K.2.2.2.2.1 K.2.2.2.2.1.heap) (hbl : b < K.2.2.2.2.1.heap.size) (hbA : b < K.1.2.1) {i : Int32} (j : Nat) (hi : i = nI j) (hj : j < L) (hL : L < 1000) (hd : decode cc pc = .ok (.iaload, 1)) (k : G K (pc + 1) ls (.int (xs j) :: st) h x y) : G K pc ls (.int i :: .retAddr b :: st) h x y := by
  obtain ⟨⟨l, B, D, cA⟩, p, e, R, s, m, args, below, meth, c, Q⟩ := K
  intro H locs la hP hS hl
  have hcl : i.toNatClampNeg = j := by rw [hi]; exact nI_clamp (by omega)
  refine va_sld o.1 o.2.1 hX hbl (Nat.not_le.mpr hbA) hS (by rw [hi]; exact vp_in_nI hj (by omega)) hd ?_
  rw [hcl]
  exact k H locs la hP hS hl
theorem g_slen (o : Ok K cc own nL d RC RS) {b L : Nat} {xs : Nat → Int32} (hX : va_X b L xs K.2.2.2.2.1 K.2.2.2.2.1.heap) (hbl : b < K.2.2.2.2.1.heap.size) (hbA : b < K.1.2.1) (hd : decode cc pc = .ok (.arraylength, 1)) (k : G K (pc + 1) ls (.int (nI L) :: st) h x y) : G K pc ls (.retAddr b :: st) h x y := by
  obtain ⟨⟨l, B, D, cA⟩, p, e, R, s, m, args, below, meth, c, Q⟩ := K
  intro H locs la hP hS hl
  exact va_slen o.1 o.2.1 hX hbl (Nat.not_le.mpr hbA) hS hd (k H locs la hP hS hl)
end RULES3
end
