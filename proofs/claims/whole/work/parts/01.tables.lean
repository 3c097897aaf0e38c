-- ===== PART A: goes FIRST, ahead of the names: the tables' words, and 'selects' of the private methods out of them =====
/-- a private method of a class that the tables say can be made, by its rows of tables_1 -/
def lw_okq (q : MethodName × Nat) : Prop := (q.1.cls ≠ "java/lang/invoke/MethodHandle" ∧ q.1.cls ≠ "java/lang/invoke/VarHandle") ∧ Cond.instantiable q.1.cls q.2 ∈ tables_1 ∧ Cond.privateMethod q.1 ∈ tables_1 ∧ Cond.instanceMethod q.1 ∈ tables_1
theorem lw_p0 : lw_okq (⟨"AdmissionDesk", "appendBytes", "(I)V"⟩, 10) := ⟨⟨by decide +kernel, by decide +kernel⟩, List.mem_of_getElem? (i := 27) (by decide +kernel), List.mem_of_getElem? (i := 378) (by decide +kernel), List.mem_of_getElem? (i := 379) (by decide +kernel)⟩
theorem lw_p1 : lw_okq (⟨"AdmissionDesk", "hitsBehind", "(I)I"⟩, 10) := ⟨⟨by decide +kernel, by decide +kernel⟩, List.mem_of_getElem? (i := 27) (by decide +kernel), List.mem_of_getElem? (i := 440) (by decide +kernel), List.mem_of_getElem? (i := 441) (by decide +kernel)⟩
theorem lw_p2 : lw_okq (⟨"AdmissionDesk$Sketch", "isNote", "(I)Z"⟩, 7) := ⟨⟨by decide +kernel, by decide +kernel⟩, List.mem_of_getElem? (i := 177) (by decide +kernel), List.mem_of_getElem? (i := 498) (by decide +kernel), List.mem_of_getElem? (i := 499) (by decide +kernel)⟩
theorem lw_p3 : lw_okq (⟨"AdmissionDesk$Sketch", "setNote", "(I)V"⟩, 7) := ⟨⟨by decide +kernel, by decide +kernel⟩, List.mem_of_getElem? (i := 177) (by decide +kernel), List.mem_of_getElem? (i := 502) (by decide +kernel), List.mem_of_getElem? (i := 503) (by decide +kernel)⟩
theorem lw_p4 : lw_okq (⟨"AdmissionDesk$Sketch", "raiseCounters", "(I)Z"⟩, 7) := ⟨⟨by decide +kernel, by decide +kernel⟩, List.mem_of_getElem? (i := 177) (by decide +kernel), List.mem_of_getElem? (i := 506) (by decide +kernel), List.mem_of_getElem? (i := 507) (by decide +kernel)⟩
theorem lw_p5 : lw_okq (⟨"AdmissionDesk$Desk", "remember", "(I)V"⟩, 18) := ⟨⟨by decide +kernel, by decide +kernel⟩, List.mem_of_getElem? (i := 149) (by decide +kernel), List.mem_of_getElem? (i := 511) (by decide +kernel), List.mem_of_getElem? (i := 512) (by decide +kernel)⟩
theorem lw_p6 : lw_okq (⟨"AdmissionDesk$Desk", "comeIn", "(I)V"⟩, 18) := ⟨⟨by decide +kernel, by decide +kernel⟩, List.mem_of_getElem? (i := 149) (by decide +kernel), List.mem_of_getElem? (i := 529) (by decide +kernel), List.mem_of_getElem? (i := 530) (by decide +kernel)⟩
theorem lw_p7 : lw_okq (⟨"AdmissionDesk$Desk", "leaveWindow", "(I)V"⟩, 18) := ⟨⟨by decide +kernel, by decide +kernel⟩, List.mem_of_getElem? (i := 149) (by decide +kernel), List.mem_of_getElem? (i := 547) (by decide +kernel), List.mem_of_getElem? (i := 548) (by decide +kernel)⟩
theorem lw_p8 : lw_okq (⟨"AdmissionDesk$Desk", "goOut", "(I)V"⟩, 18) := ⟨⟨by decide +kernel, by decide +kernel⟩, List.mem_of_getElem? (i := 149) (by decide +kernel), List.mem_of_getElem? (i := 556) (by decide +kernel), List.mem_of_getElem? (i := 557) (by decide +kernel)⟩
theorem lw_p9 : lw_okq (⟨"AdmissionDesk$Desk", "moveUp", "(II)V"⟩, 18) := ⟨⟨by decide +kernel, by decide +kernel⟩, List.mem_of_getElem? (i := 149) (by decide +kernel), List.mem_of_getElem? (i := 589) (by decide +kernel), List.mem_of_getElem? (i := 590) (by decide +kernel)⟩
theorem lw_p10 : lw_okq (⟨"AdmissionDesk$Desk", "fit", "()V"⟩, 18) := ⟨⟨by decide +kernel, by decide +kernel⟩, List.mem_of_getElem? (i := 149) (by decide +kernel), List.mem_of_getElem? (i := 614) (by decide +kernel), List.mem_of_getElem? (i := 615) (by decide +kernel)⟩
theorem lw_p11 : lw_okq (⟨"AdmissionDesk$Desk", "dropColdest", "()V"⟩, 18) := ⟨⟨by decide +kernel, by decide +kernel⟩, List.mem_of_getElem? (i := 149) (by decide +kernel), List.mem_of_getElem? (i := 618) (by decide +kernel), List.mem_of_getElem? (i := 619) (by decide +kernel)⟩
theorem lw_p12 : lw_okq (⟨"AdmissionDesk$Desk", "sortIn", "(I)V"⟩, 18) := ⟨⟨by decide +kernel, by decide +kernel⟩, List.mem_of_getElem? (i := 149) (by decide +kernel), List.mem_of_getElem? (i := 654) (by decide +kernel), List.mem_of_getElem? (i := 655) (by decide +kernel)⟩
theorem lw_p13 : lw_okq (⟨"AdmissionDesk", "countMore", "(I)I"⟩, 10) := ⟨⟨by decide +kernel, by decide +kernel⟩, List.mem_of_getElem? (i := 27) (by decide +kernel), List.mem_of_getElem? (i := 709) (by decide +kernel), List.mem_of_getElem? (i := 710) (by decide +kernel)⟩
theorem lw_p14 : lw_okq (⟨"AdmissionDesk$Tokens", "cutOne", "(LAdmissionDesk$Row;II)I"⟩, 6) := ⟨⟨by decide +kernel, by decide +kernel⟩, List.mem_of_getElem? (i := 55) (by decide +kernel), List.mem_of_getElem? (i := 743) (by decide +kernel), List.mem_of_getElem? (i := 744) (by decide +kernel)⟩
theorem lw_p15 : lw_okq (⟨"AdmissionDesk$LawReader", "readEither", "(I)V"⟩, 2) := ⟨⟨by decide +kernel, by decide +kernel⟩, List.mem_of_getElem? (i := 49) (by decide +kernel), List.mem_of_getElem? (i := 820) (by decide +kernel), List.mem_of_getElem? (i := 821) (by decide +kernel)⟩
def lw_privs_1 : List (MethodName × Nat) := [(⟨"AdmissionDesk", "appendBytes", "(I)V"⟩, 10), (⟨"AdmissionDesk", "hitsBehind", "(I)I"⟩, 10), (⟨"AdmissionDesk$Sketch", "isNote", "(I)Z"⟩, 7), (⟨"AdmissionDesk$Sketch", "setNote", "(I)V"⟩, 7), (⟨"AdmissionDesk$Sketch", "raiseCounters", "(I)Z"⟩, 7), (⟨"AdmissionDesk$Desk", "remember", "(I)V"⟩, 18), (⟨"AdmissionDesk$Desk", "comeIn", "(I)V"⟩, 18), (⟨"AdmissionDesk$Desk", "leaveWindow", "(I)V"⟩, 18), (⟨"AdmissionDesk$Desk", "goOut", "(I)V"⟩, 18), (⟨"AdmissionDesk$Desk", "moveUp", "(II)V"⟩, 18), (⟨"AdmissionDesk$Desk", "fit", "()V"⟩, 18), (⟨"AdmissionDesk$Desk", "dropColdest", "()V"⟩, 18), (⟨"AdmissionDesk$Desk", "sortIn", "(I)V"⟩, 18), (⟨"AdmissionDesk", "countMore", "(I)I"⟩, 10), (⟨"AdmissionDesk$Tokens", "cutOne", "(LAdmissionDesk$Row;II)I"⟩, 6), (⟨"AdmissionDesk$LawReader", "readEither", "(I)V"⟩, 2)]
theorem lw_r1 : ∀ q ∈ lw_privs_1, lw_okq q := List.forall_mem_cons.mpr ⟨lw_p0, List.forall_mem_cons.mpr ⟨lw_p1, List.forall_mem_cons.mpr ⟨lw_p2, List.forall_mem_cons.mpr ⟨lw_p3, List.forall_mem_cons.mpr ⟨lw_p4, List.forall_mem_cons.mpr ⟨lw_p5, List.forall_mem_cons.mpr ⟨lw_p6, List.forall_mem_cons.mpr ⟨lw_p7, List.forall_mem_cons.mpr ⟨lw_p8, List.forall_mem_cons.mpr ⟨lw_p9, List.forall_mem_cons.mpr ⟨lw_p10, List.forall_mem_cons.mpr ⟨lw_p11, List.forall_mem_cons.mpr ⟨lw_p12, List.forall_mem_cons.mpr ⟨lw_p13, List.forall_mem_cons.mpr ⟨lw_p14, List.forall_mem_cons.mpr ⟨lw_p15, fun _ h => absurd h List.not_mem_nil⟩⟩⟩⟩⟩⟩⟩⟩⟩⟩⟩⟩⟩⟩⟩⟩
theorem lw_p16 : lw_okq (⟨"AdmissionDesk$LawReader", "readAll", "(I)V"⟩, 2) := ⟨⟨by decide +kernel, by decide +kernel⟩, List.mem_of_getElem? (i := 49) (by decide +kernel), List.mem_of_getElem? (i := 824) (by decide +kernel), List.mem_of_getElem? (i := 825) (by decide +kernel)⟩
theorem lw_p17 : lw_okq (⟨"AdmissionDesk$LawReader", "readAtom", "(I)V"⟩, 2) := ⟨⟨by decide +kernel, by decide +kernel⟩, List.mem_of_getElem? (i := 49) (by decide +kernel), List.mem_of_getElem? (i := 828) (by decide +kernel), List.mem_of_getElem? (i := 829) (by decide +kernel)⟩
theorem lw_p18 : lw_okq (⟨"AdmissionDesk$LawReader", "readSum", "()V"⟩, 2) := ⟨⟨by decide +kernel, by decide +kernel⟩, List.mem_of_getElem? (i := 49) (by decide +kernel), List.mem_of_getElem? (i := 853) (by decide +kernel), List.mem_of_getElem? (i := 854) (by decide +kernel)⟩
theorem lw_p19 : lw_okq (⟨"AdmissionDesk$LawReader", "readSign", "()I"⟩, 2) := ⟨⟨by decide +kernel, by decide +kernel⟩, List.mem_of_getElem? (i := 49) (by decide +kernel), List.mem_of_getElem? (i := 862) (by decide +kernel), List.mem_of_getElem? (i := 863) (by decide +kernel)⟩
theorem lw_p20 : lw_okq (⟨"java/lang/Throwable", "fillInStackTrace", "(I)Ljava/lang/Throwable;"⟩, 6) := ⟨⟨by decide +kernel, by decide +kernel⟩, List.mem_of_getElem? (i := 908) (by decide +kernel), List.mem_of_getElem? (i := 906) (by decide +kernel), List.mem_of_getElem? (i := 907) (by decide +kernel)⟩
theorem lw_p21 : lw_okq (⟨"AdmissionDesk$TraceReader", "readItems", "(I)V"⟩, 2) := ⟨⟨by decide +kernel, by decide +kernel⟩, List.mem_of_getElem? (i := 113) (by decide +kernel), List.mem_of_getElem? (i := 952) (by decide +kernel), List.mem_of_getElem? (i := 953) (by decide +kernel)⟩
theorem lw_p22 : lw_okq (⟨"AdmissionDesk$TraceReader", "readItem", "(I)V"⟩, 2) := ⟨⟨by decide +kernel, by decide +kernel⟩, List.mem_of_getElem? (i := 113) (by decide +kernel), List.mem_of_getElem? (i := 956) (by decide +kernel), List.mem_of_getElem? (i := 957) (by decide +kernel)⟩
theorem lw_p23 : lw_okq (⟨"AdmissionDesk$TraceReader", "readRange", "(I)V"⟩, 2) := ⟨⟨by decide +kernel, by decide +kernel⟩, List.mem_of_getElem? (i := 113) (by decide +kernel), List.mem_of_getElem? (i := 963) (by decide +kernel), List.mem_of_getElem? (i := 964) (by decide +kernel)⟩
theorem lw_p24 : lw_okq (⟨"AdmissionDesk$TraceReader", "failUnless", "(Z)V"⟩, 2) := ⟨⟨by decide +kernel, by decide +kernel⟩, List.mem_of_getElem? (i := 113) (by decide +kernel), List.mem_of_getElem? (i := 968) (by decide +kernel), List.mem_of_getElem? (i := 969) (by decide +kernel)⟩
theorem lw_p25 : lw_okq (⟨"AdmissionDesk$TraceReader", "readTimes", "()I"⟩, 2) := ⟨⟨by decide +kernel, by decide +kernel⟩, List.mem_of_getElem? (i := 113) (by decide +kernel), List.mem_of_getElem? (i := 972) (by decide +kernel), List.mem_of_getElem? (i := 973) (by decide +kernel)⟩
theorem lw_p26 : lw_okq (⟨"AdmissionDesk$TraceReader", "fits", "(II)Z"⟩, 2) := ⟨⟨by decide +kernel, by decide +kernel⟩, List.mem_of_getElem? (i := 113) (by decide +kernel), List.mem_of_getElem? (i := 976) (by decide +kernel), List.mem_of_getElem? (i := 977) (by decide +kernel)⟩
theorem lw_p27 : lw_okq (⟨"AdmissionDesk$TraceReader", "repeatFrom", "(II)V"⟩, 2) := ⟨⟨by decide +kernel, by decide +kernel⟩, List.mem_of_getElem? (i := 113) (by decide +kernel), List.mem_of_getElem? (i := 984) (by decide +kernel), List.mem_of_getElem? (i := 985) (by decide +kernel)⟩
theorem lw_p28 : lw_okq (⟨"AdmissionDesk$Lookback", "latestDue", "()I"⟩, 3) := ⟨⟨by decide +kernel, by decide +kernel⟩, List.mem_of_getElem? (i := 131) (by decide +kernel), List.mem_of_getElem? (i := 1181) (by decide +kernel), List.mem_of_getElem? (i := 1182) (by decide +kernel)⟩
theorem lw_p29 : lw_okq (⟨"AdmissionDeskModel", "forgetsLatest", "()V"⟩, 23) := ⟨⟨by decide +kernel, by decide +kernel⟩, List.mem_of_getElem? (i := 1269) (by decide +kernel), List.mem_of_getElem? (i := 1275) (by decide +kernel), List.mem_of_getElem? (i := 1276) (by decide +kernel)⟩
theorem lw_p30 : lw_okq (⟨"AdmissionDeskModel", "begins", "()V"⟩, 23) := ⟨⟨by decide +kernel, by decide +kernel⟩, List.mem_of_getElem? (i := 1269) (by decide +kernel), List.mem_of_getElem? (i := 1365) (by decide +kernel), List.mem_of_getElem? (i := 1366) (by decide +kernel)⟩
theorem lw_p31 : lw_okq (⟨"AdmissionDeskModel", "some", "()V"⟩, 23) := ⟨⟨by decide +kernel, by decide +kernel⟩, List.mem_of_getElem? (i := 1269) (by decide +kernel), List.mem_of_getElem? (i := 1369) (by decide +kernel), List.mem_of_getElem? (i := 1370) (by decide +kernel)⟩
def lw_privs_2 : List (MethodName × Nat) := [(⟨"AdmissionDesk$LawReader", "readAll", "(I)V"⟩, 2), (⟨"AdmissionDesk$LawReader", "readAtom", "(I)V"⟩, 2), (⟨"AdmissionDesk$LawReader", "readSum", "()V"⟩, 2), (⟨"AdmissionDesk$LawReader", "readSign", "()I"⟩, 2), (⟨"java/lang/Throwable", "fillInStackTrace", "(I)Ljava/lang/Throwable;"⟩, 6), (⟨"AdmissionDesk$TraceReader", "readItems", "(I)V"⟩, 2), (⟨"AdmissionDesk$TraceReader", "readItem", "(I)V"⟩, 2), (⟨"AdmissionDesk$TraceReader", "readRange", "(I)V"⟩, 2), (⟨"AdmissionDesk$TraceReader", "failUnless", "(Z)V"⟩, 2), (⟨"AdmissionDesk$TraceReader", "readTimes", "()I"⟩, 2), (⟨"AdmissionDesk$TraceReader", "fits", "(II)Z"⟩, 2), (⟨"AdmissionDesk$TraceReader", "repeatFrom", "(II)V"⟩, 2), (⟨"AdmissionDesk$Lookback", "latestDue", "()I"⟩, 3), (⟨"AdmissionDeskModel", "forgetsLatest", "()V"⟩, 23), (⟨"AdmissionDeskModel", "begins", "()V"⟩, 23), (⟨"AdmissionDeskModel", "some", "()V"⟩, 23)]
theorem lw_r2 : ∀ q ∈ lw_privs_2, lw_okq q := List.forall_mem_cons.mpr ⟨lw_p16, List.forall_mem_cons.mpr ⟨lw_p17, List.forall_mem_cons.mpr ⟨lw_p18, List.forall_mem_cons.mpr ⟨lw_p19, List.forall_mem_cons.mpr ⟨lw_p20, List.forall_mem_cons.mpr ⟨lw_p21, List.forall_mem_cons.mpr ⟨lw_p22, List.forall_mem_cons.mpr ⟨lw_p23, List.forall_mem_cons.mpr ⟨lw_p24, List.forall_mem_cons.mpr ⟨lw_p25, List.forall_mem_cons.mpr ⟨lw_p26, List.forall_mem_cons.mpr ⟨lw_p27, List.forall_mem_cons.mpr ⟨lw_p28, List.forall_mem_cons.mpr ⟨lw_p29, List.forall_mem_cons.mpr ⟨lw_p30, List.forall_mem_cons.mpr ⟨lw_p31, fun _ h => absurd h List.not_mem_nil⟩⟩⟩⟩⟩⟩⟩⟩⟩⟩⟩⟩⟩⟩⟩⟩
theorem lw_p32 : lw_okq (⟨"AdmissionDeskModel", "every", "()V"⟩, 23) := ⟨⟨by decide +kernel, by decide +kernel⟩, List.mem_of_getElem? (i := 1269) (by decide +kernel), List.mem_of_getElem? (i := 1373) (by decide +kernel), List.mem_of_getElem? (i := 1374) (by decide +kernel)⟩
theorem lw_p33 : lw_okq (⟨"AdmissionDeskModel", "atom", "()V"⟩, 23) := ⟨⟨by decide +kernel, by decide +kernel⟩, List.mem_of_getElem? (i := 1269) (by decide +kernel), List.mem_of_getElem? (i := 1377) (by decide +kernel), List.mem_of_getElem? (i := 1378) (by decide +kernel)⟩
theorem lw_p34 : lw_okq (⟨"AdmissionDeskModel", "hasFailed", "()Z"⟩, 23) := ⟨⟨by decide +kernel, by decide +kernel⟩, List.mem_of_getElem? (i := 1269) (by decide +kernel), List.mem_of_getElem? (i := 1381) (by decide +kernel), List.mem_of_getElem? (i := 1382) (by decide +kernel)⟩
theorem lw_p35 : lw_okq (⟨"AdmissionDeskModel", "takesWord", "(Ljava/lang/String;)Z"⟩, 23) := ⟨⟨by decide +kernel, by decide +kernel⟩, List.mem_of_getElem? (i := 1269) (by decide +kernel), List.mem_of_getElem? (i := 1386) (by decide +kernel), List.mem_of_getElem? (i := 1387) (by decide +kernel)⟩
theorem lw_p36 : lw_okq (⟨"AdmissionDeskModel", "wordMany", "()I"⟩, 23) := ⟨⟨by decide +kernel, by decide +kernel⟩, List.mem_of_getElem? (i := 1269) (by decide +kernel), List.mem_of_getElem? (i := 1390) (by decide +kernel), List.mem_of_getElem? (i := 1391) (by decide +kernel)⟩
theorem lw_p37 : lw_okq (⟨"AdmissionDeskModel", "blanks", "()V"⟩, 23) := ⟨⟨by decide +kernel, by decide +kernel⟩, List.mem_of_getElem? (i := 1269) (by decide +kernel), List.mem_of_getElem? (i := 1394) (by decide +kernel), List.mem_of_getElem? (i := 1395) (by decide +kernel)⟩
theorem lw_p38 : lw_okq (⟨"AdmissionDeskModel", "isAt", "(II)Z"⟩, 23) := ⟨⟨by decide +kernel, by decide +kernel⟩, List.mem_of_getElem? (i := 1269) (by decide +kernel), List.mem_of_getElem? (i := 1398) (by decide +kernel), List.mem_of_getElem? (i := 1399) (by decide +kernel)⟩
theorem lw_p39 : lw_okq (⟨"AdmissionDeskModel", "codes", "(I)V"⟩, 23) := ⟨⟨by decide +kernel, by decide +kernel⟩, List.mem_of_getElem? (i := 1269) (by decide +kernel), List.mem_of_getElem? (i := 1404) (by decide +kernel), List.mem_of_getElem? (i := 1405) (by decide +kernel)⟩
theorem lw_p40 : lw_okq (⟨"AdmissionDeskModel", "isSign", "(I)Z"⟩, 23) := ⟨⟨by decide +kernel, by decide +kernel⟩, List.mem_of_getElem? (i := 1269) (by decide +kernel), List.mem_of_getElem? (i := 1408) (by decide +kernel), List.mem_of_getElem? (i := 1409) (by decide +kernel)⟩
theorem lw_p41 : lw_okq (⟨"AdmissionDeskModel", "failsAt", "(I)V"⟩, 23) := ⟨⟨by decide +kernel, by decide +kernel⟩, List.mem_of_getElem? (i := 1269) (by decide +kernel), List.mem_of_getElem? (i := 1412) (by decide +kernel), List.mem_of_getElem? (i := 1413) (by decide +kernel)⟩
theorem lw_p42 : lw_okq (⟨"AdmissionDeskModel", "asksSign", "(I)V"⟩, 23) := ⟨⟨by decide +kernel, by decide +kernel⟩, List.mem_of_getElem? (i := 1269) (by decide +kernel), List.mem_of_getElem? (i := 1416) (by decide +kernel), List.mem_of_getElem? (i := 1417) (by decide +kernel)⟩
theorem lw_p43 : lw_okq (⟨"AdmissionDeskModel", "takes", "(I)Z"⟩, 23) := ⟨⟨by decide +kernel, by decide +kernel⟩, List.mem_of_getElem? (i := 1269) (by decide +kernel), List.mem_of_getElem? (i := 1420) (by decide +kernel), List.mem_of_getElem? (i := 1421) (by decide +kernel)⟩
theorem lw_p44 : lw_okq (⟨"AdmissionDeskModel", "sum", "()V"⟩, 23) := ⟨⟨by decide +kernel, by decide +kernel⟩, List.mem_of_getElem? (i := 1269) (by decide +kernel), List.mem_of_getElem? (i := 1424) (by decide +kernel), List.mem_of_getElem? (i := 1425) (by decide +kernel)⟩
theorem lw_p45 : lw_okq (⟨"AdmissionDeskModel", "part", "()V"⟩, 23) := ⟨⟨by decide +kernel, by decide +kernel⟩, List.mem_of_getElem? (i := 1269) (by decide +kernel), List.mem_of_getElem? (i := 1428) (by decide +kernel), List.mem_of_getElem? (i := 1429) (by decide +kernel)⟩
theorem lw_p46 : lw_okq (⟨"AdmissionDeskModel", "isNumber", "()Z"⟩, 23) := ⟨⟨by decide +kernel, by decide +kernel⟩, List.mem_of_getElem? (i := 1269) (by decide +kernel), List.mem_of_getElem? (i := 1432) (by decide +kernel), List.mem_of_getElem? (i := 1433) (by decide +kernel)⟩
theorem lw_p47 : lw_okq (⟨"AdmissionDeskModel", "number", "(III)I"⟩, 23) := ⟨⟨by decide +kernel, by decide +kernel⟩, List.mem_of_getElem? (i := 1269) (by decide +kernel), List.mem_of_getElem? (i := 1436) (by decide +kernel), List.mem_of_getElem? (i := 1437) (by decide +kernel)⟩
def lw_privs_3 : List (MethodName × Nat) := [(⟨"AdmissionDeskModel", "every", "()V"⟩, 23), (⟨"AdmissionDeskModel", "atom", "()V"⟩, 23), (⟨"AdmissionDeskModel", "hasFailed", "()Z"⟩, 23), (⟨"AdmissionDeskModel", "takesWord", "(Ljava/lang/String;)Z"⟩, 23), (⟨"AdmissionDeskModel", "wordMany", "()I"⟩, 23), (⟨"AdmissionDeskModel", "blanks", "()V"⟩, 23), (⟨"AdmissionDeskModel", "isAt", "(II)Z"⟩, 23), (⟨"AdmissionDeskModel", "codes", "(I)V"⟩, 23), (⟨"AdmissionDeskModel", "isSign", "(I)Z"⟩, 23), (⟨"AdmissionDeskModel", "failsAt", "(I)V"⟩, 23), (⟨"AdmissionDeskModel", "asksSign", "(I)V"⟩, 23), (⟨"AdmissionDeskModel", "takes", "(I)Z"⟩, 23), (⟨"AdmissionDeskModel", "sum", "()V"⟩, 23), (⟨"AdmissionDeskModel", "part", "()V"⟩, 23), (⟨"AdmissionDeskModel", "isNumber", "()Z"⟩, 23), (⟨"AdmissionDeskModel", "number", "(III)I"⟩, 23)]
theorem lw_r3 : ∀ q ∈ lw_privs_3, lw_okq q := List.forall_mem_cons.mpr ⟨lw_p32, List.forall_mem_cons.mpr ⟨lw_p33, List.forall_mem_cons.mpr ⟨lw_p34, List.forall_mem_cons.mpr ⟨lw_p35, List.forall_mem_cons.mpr ⟨lw_p36, List.forall_mem_cons.mpr ⟨lw_p37, List.forall_mem_cons.mpr ⟨lw_p38, List.forall_mem_cons.mpr ⟨lw_p39, List.forall_mem_cons.mpr ⟨lw_p40, List.forall_mem_cons.mpr ⟨lw_p41, List.forall_mem_cons.mpr ⟨lw_p42, List.forall_mem_cons.mpr ⟨lw_p43, List.forall_mem_cons.mpr ⟨lw_p44, List.forall_mem_cons.mpr ⟨lw_p45, List.forall_mem_cons.mpr ⟨lw_p46, List.forall_mem_cons.mpr ⟨lw_p47, fun _ h => absurd h List.not_mem_nil⟩⟩⟩⟩⟩⟩⟩⟩⟩⟩⟩⟩⟩⟩⟩⟩
theorem lw_p48 : lw_okq (⟨"AdmissionDeskModel", "fact", "()I"⟩, 23) := ⟨⟨by decide +kernel, by decide +kernel⟩, List.mem_of_getElem? (i := 1269) (by decide +kernel), List.mem_of_getElem? (i := 1443) (by decide +kernel), List.mem_of_getElem? (i := 1444) (by decide +kernel)⟩
theorem lw_p49 : lw_okq (⟨"AdmissionDeskModel", "throwsIf", "(ZI)Z"⟩, 23) := ⟨⟨by decide +kernel, by decide +kernel⟩, List.mem_of_getElem? (i := 1269) (by decide +kernel), List.mem_of_getElem? (i := 1457) (by decide +kernel), List.mem_of_getElem? (i := 1458) (by decide +kernel)⟩
theorem lw_p50 : lw_okq (⟨"AdmissionDeskModel", "items", "()V"⟩, 23) := ⟨⟨by decide +kernel, by decide +kernel⟩, List.mem_of_getElem? (i := 1269) (by decide +kernel), List.mem_of_getElem? (i := 1469) (by decide +kernel), List.mem_of_getElem? (i := 1470) (by decide +kernel)⟩
theorem lw_p51 : lw_okq (⟨"AdmissionDeskModel", "item", "()V"⟩, 23) := ⟨⟨by decide +kernel, by decide +kernel⟩, List.mem_of_getElem? (i := 1269) (by decide +kernel), List.mem_of_getElem? (i := 1473) (by decide +kernel), List.mem_of_getElem? (i := 1474) (by decide +kernel)⟩
theorem lw_p52 : lw_okq (⟨"AdmissionDeskModel", "asks", "(I)I"⟩, 23) := ⟨⟨by decide +kernel, by decide +kernel⟩, List.mem_of_getElem? (i := 1269) (by decide +kernel), List.mem_of_getElem? (i := 1479) (by decide +kernel), List.mem_of_getElem? (i := 1480) (by decide +kernel)⟩
theorem lw_p53 : lw_okq (⟨"AdmissionDeskModel", "remembers", "(I)V"⟩, 23) := ⟨⟨by decide +kernel, by decide +kernel⟩, List.mem_of_getElem? (i := 1269) (by decide +kernel), List.mem_of_getElem? (i := 1483) (by decide +kernel), List.mem_of_getElem? (i := 1484) (by decide +kernel)⟩
theorem lw_p54 : lw_okq (⟨"AdmissionDeskModel", "regrets", "(I)V"⟩, 23) := ⟨⟨by decide +kernel, by decide +kernel⟩, List.mem_of_getElem? (i := 1269) (by decide +kernel), List.mem_of_getElem? (i := 1487) (by decide +kernel), List.mem_of_getElem? (i := 1488) (by decide +kernel)⟩
theorem lw_p55 : lw_okq (⟨"AdmissionDeskModel", "counts", "(I)V"⟩, 23) := ⟨⟨by decide +kernel, by decide +kernel⟩, List.mem_of_getElem? (i := 1269) (by decide +kernel), List.mem_of_getElem? (i := 1491) (by decide +kernel), List.mem_of_getElem? (i := 1492) (by decide +kernel)⟩
theorem lw_p56 : lw_okq (⟨"AdmissionDeskModel", "hasNoted", "(I)Z"⟩, 23) := ⟨⟨by decide +kernel, by decide +kernel⟩, List.mem_of_getElem? (i := 1269) (by decide +kernel), List.mem_of_getElem? (i := 1495) (by decide +kernel), List.mem_of_getElem? (i := 1496) (by decide +kernel)⟩
theorem lw_p57 : lw_okq (⟨"AdmissionDeskModel", "counterAt", "(II)I"⟩, 23) := ⟨⟨by decide +kernel, by decide +kernel⟩, List.mem_of_getElem? (i := 1269) (by decide +kernel), List.mem_of_getElem? (i := 1510) (by decide +kernel), List.mem_of_getElem? (i := 1511) (by decide +kernel)⟩
theorem lw_p58 : lw_okq (⟨"AdmissionDeskModel", "placeOf", "(II)I"⟩, 23) := ⟨⟨by decide +kernel, by decide +kernel⟩, List.mem_of_getElem? (i := 1269) (by decide +kernel), List.mem_of_getElem? (i := 1514) (by decide +kernel), List.mem_of_getElem? (i := 1515) (by decide +kernel)⟩
theorem lw_p59 : lw_okq (⟨"AdmissionDeskModel", "halves", "()V"⟩, 23) := ⟨⟨by decide +kernel, by decide +kernel⟩, List.mem_of_getElem? (i := 1269) (by decide +kernel), List.mem_of_getElem? (i := 1518) (by decide +kernel), List.mem_of_getElem? (i := 1519) (by decide +kernel)⟩
theorem lw_p60 : lw_okq (⟨"AdmissionDeskModel", "whereIs", "(I)I"⟩, 23) := ⟨⟨by decide +kernel, by decide +kernel⟩, List.mem_of_getElem? (i := 1269) (by decide +kernel), List.mem_of_getElem? (i := 1522) (by decide +kernel), List.mem_of_getElem? (i := 1523) (by decide +kernel)⟩
theorem lw_p61 : lw_okq (⟨"AdmissionDeskModel", "indexOf", "(II)I"⟩, 23) := ⟨⟨by decide +kernel, by decide +kernel⟩, List.mem_of_getElem? (i := 1269) (by decide +kernel), List.mem_of_getElem? (i := 1526) (by decide +kernel), List.mem_of_getElem? (i := 1527) (by decide +kernel)⟩
theorem lw_p62 : lw_okq (⟨"AdmissionDeskModel", "many", "(I)I"⟩, 23) := ⟨⟨by decide +kernel, by decide +kernel⟩, List.mem_of_getElem? (i := 1269) (by decide +kernel), List.mem_of_getElem? (i := 1530) (by decide +kernel), List.mem_of_getElem? (i := 1531) (by decide +kernel)⟩
theorem lw_p63 : lw_okq (⟨"AdmissionDeskModel", "keyAt", "(II)I"⟩, 23) := ⟨⟨by decide +kernel, by decide +kernel⟩, List.mem_of_getElem? (i := 1269) (by decide +kernel), List.mem_of_getElem? (i := 1537) (by decide +kernel), List.mem_of_getElem? (i := 1538) (by decide +kernel)⟩
def lw_privs_4 : List (MethodName × Nat) := [(⟨"AdmissionDeskModel", "fact", "()I"⟩, 23), (⟨"AdmissionDeskModel", "throwsIf", "(ZI)Z"⟩, 23), (⟨"AdmissionDeskModel", "items", "()V"⟩, 23), (⟨"AdmissionDeskModel", "item", "()V"⟩, 23), (⟨"AdmissionDeskModel", "asks", "(I)I"⟩, 23), (⟨"AdmissionDeskModel", "remembers", "(I)V"⟩, 23), (⟨"AdmissionDeskModel", "regrets", "(I)V"⟩, 23), (⟨"AdmissionDeskModel", "counts", "(I)V"⟩, 23), (⟨"AdmissionDeskModel", "hasNoted", "(I)Z"⟩, 23), (⟨"AdmissionDeskModel", "counterAt", "(II)I"⟩, 23), (⟨"AdmissionDeskModel", "placeOf", "(II)I"⟩, 23), (⟨"AdmissionDeskModel", "halves", "()V"⟩, 23), (⟨"AdmissionDeskModel", "whereIs", "(I)I"⟩, 23), (⟨"AdmissionDeskModel", "indexOf", "(II)I"⟩, 23), (⟨"AdmissionDeskModel", "many", "(I)I"⟩, 23), (⟨"AdmissionDeskModel", "keyAt", "(II)I"⟩, 23)]
theorem lw_r4 : ∀ q ∈ lw_privs_4, lw_okq q := List.forall_mem_cons.mpr ⟨lw_p48, List.forall_mem_cons.mpr ⟨lw_p49, List.forall_mem_cons.mpr ⟨lw_p50, List.forall_mem_cons.mpr ⟨lw_p51, List.forall_mem_cons.mpr ⟨lw_p52, List.forall_mem_cons.mpr ⟨lw_p53, List.forall_mem_cons.mpr ⟨lw_p54, List.forall_mem_cons.mpr ⟨lw_p55, List.forall_mem_cons.mpr ⟨lw_p56, List.forall_mem_cons.mpr ⟨lw_p57, List.forall_mem_cons.mpr ⟨lw_p58, List.forall_mem_cons.mpr ⟨lw_p59, List.forall_mem_cons.mpr ⟨lw_p60, List.forall_mem_cons.mpr ⟨lw_p61, List.forall_mem_cons.mpr ⟨lw_p62, List.forall_mem_cons.mpr ⟨lw_p63, fun _ h => absurd h List.not_mem_nil⟩⟩⟩⟩⟩⟩⟩⟩⟩⟩⟩⟩⟩⟩⟩⟩
theorem lw_p64 : lw_okq (⟨"AdmissionDeskModel", "misses", "(I)V"⟩, 23) := ⟨⟨by decide +kernel, by decide +kernel⟩, List.mem_of_getElem? (i := 1269) (by decide +kernel), List.mem_of_getElem? (i := 1541) (by decide +kernel), List.mem_of_getElem? (i := 1542) (by decide +kernel)⟩
theorem lw_p65 : lw_okq (⟨"AdmissionDeskModel", "toFront", "(II)V"⟩, 23) := ⟨⟨by decide +kernel, by decide +kernel⟩, List.mem_of_getElem? (i := 1269) (by decide +kernel), List.mem_of_getElem? (i := 1545) (by decide +kernel), List.mem_of_getElem? (i := 1546) (by decide +kernel)⟩
theorem lw_p66 : lw_okq (⟨"AdmissionDeskModel", "isFor", "(I)I"⟩, 23) := ⟨⟨by decide +kernel, by decide +kernel⟩, List.mem_of_getElem? (i := 1269) (by decide +kernel), List.mem_of_getElem? (i := 1549) (by decide +kernel), List.mem_of_getElem? (i := 1550) (by decide +kernel)⟩
theorem lw_p67 : lw_okq (⟨"AdmissionDeskModel", "takesLast", "(I)I"⟩, 23) := ⟨⟨by decide +kernel, by decide +kernel⟩, List.mem_of_getElem? (i := 1269) (by decide +kernel), List.mem_of_getElem? (i := 1554) (by decide +kernel), List.mem_of_getElem? (i := 1555) (by decide +kernel)⟩
theorem lw_p68 : lw_okq (⟨"AdmissionDeskModel", "takesOut", "(II)I"⟩, 23) := ⟨⟨by decide +kernel, by decide +kernel⟩, List.mem_of_getElem? (i := 1269) (by decide +kernel), List.mem_of_getElem? (i := 1558) (by decide +kernel), List.mem_of_getElem? (i := 1559) (by decide +kernel)⟩
theorem lw_p69 : lw_okq (⟨"AdmissionDeskModel", "mainMany", "()I"⟩, 23) := ⟨⟨by decide +kernel, by decide +kernel⟩, List.mem_of_getElem? (i := 1269) (by decide +kernel), List.mem_of_getElem? (i := 1562) (by decide +kernel), List.mem_of_getElem? (i := 1563) (by decide +kernel)⟩
theorem lw_p70 : lw_okq (⟨"AdmissionDeskModel", "mainFor", "()I"⟩, 23) := ⟨⟨by decide +kernel, by decide +kernel⟩, List.mem_of_getElem? (i := 1269) (by decide +kernel), List.mem_of_getElem? (i := 1566) (by decide +kernel), List.mem_of_getElem? (i := 1567) (by decide +kernel)⟩
theorem lw_p71 : lw_okq (⟨"AdmissionDeskModel", "goesOut", "(I)V"⟩, 23) := ⟨⟨by decide +kernel, by decide +kernel⟩, List.mem_of_getElem? (i := 1269) (by decide +kernel), List.mem_of_getElem? (i := 1570) (by decide +kernel), List.mem_of_getElem? (i := 1571) (by decide +kernel)⟩
theorem lw_p72 : lw_okq (⟨"AdmissionDeskModel", "contests", "(I)V"⟩, 23) := ⟨⟨by decide +kernel, by decide +kernel⟩, List.mem_of_getElem? (i := 1269) (by decide +kernel), List.mem_of_getElem? (i := 1577) (by decide +kernel), List.mem_of_getElem? (i := 1578) (by decide +kernel)⟩
theorem lw_p73 : lw_okq (⟨"AdmissionDeskModel", "doesWin", "(II)Z"⟩, 23) := ⟨⟨by decide +kernel, by decide +kernel⟩, List.mem_of_getElem? (i := 1269) (by decide +kernel), List.mem_of_getElem? (i := 1581) (by decide +kernel), List.mem_of_getElem? (i := 1582) (by decide +kernel)⟩
theorem lw_p74 : lw_okq (⟨"AdmissionDeskModel", "estimateOf", "(I)I"⟩, 23) := ⟨⟨by decide +kernel, by decide +kernel⟩, List.mem_of_getElem? (i := 1269) (by decide +kernel), List.mem_of_getElem? (i := 1585) (by decide +kernel), List.mem_of_getElem? (i := 1586) (by decide +kernel)⟩
theorem lw_p75 : lw_okq (⟨"AdmissionDeskModel", "factOf", "(III)I"⟩, 23) := ⟨⟨by decide +kernel, by decide +kernel⟩, List.mem_of_getElem? (i := 1269) (by decide +kernel), List.mem_of_getElem? (i := 1589) (by decide +kernel), List.mem_of_getElem? (i := 1590) (by decide +kernel)⟩
theorem lw_p76 : lw_okq (⟨"AdmissionDeskModel", "hits", "(II)V"⟩, 23) := ⟨⟨by decide +kernel, by decide +kernel⟩, List.mem_of_getElem? (i := 1269) (by decide +kernel), List.mem_of_getElem? (i := 1596) (by decide +kernel), List.mem_of_getElem? (i := 1597) (by decide +kernel)⟩
theorem lw_p77 : lw_okq (⟨"AdmissionDeskModel", "climbs", "(Z)V"⟩, 23) := ⟨⟨by decide +kernel, by decide +kernel⟩, List.mem_of_getElem? (i := 1269) (by decide +kernel), List.mem_of_getElem? (i := 1600) (by decide +kernel), List.mem_of_getElem? (i := 1601) (by decide +kernel)⟩
theorem lw_p78 : lw_okq (⟨"AdmissionDeskModel", "fits", "()V"⟩, 23) := ⟨⟨by decide +kernel, by decide +kernel⟩, List.mem_of_getElem? (i := 1269) (by decide +kernel), List.mem_of_getElem? (i := 1604) (by decide +kernel), List.mem_of_getElem? (i := 1605) (by decide +kernel)⟩
theorem lw_p79 : lw_okq (⟨"AdmissionDeskModel", "noKey", "(I)Z"⟩, 23) := ⟨⟨by decide +kernel, by decide +kernel⟩, List.mem_of_getElem? (i := 1269) (by decide +kernel), List.mem_of_getElem? (i := 1612) (by decide +kernel), List.mem_of_getElem? (i := 1613) (by decide +kernel)⟩
def lw_privs_5 : List (MethodName × Nat) := [(⟨"AdmissionDeskModel", "misses", "(I)V"⟩, 23), (⟨"AdmissionDeskModel", "toFront", "(II)V"⟩, 23), (⟨"AdmissionDeskModel", "isFor", "(I)I"⟩, 23), (⟨"AdmissionDeskModel", "takesLast", "(I)I"⟩, 23), (⟨"AdmissionDeskModel", "takesOut", "(II)I"⟩, 23), (⟨"AdmissionDeskModel", "mainMany", "()I"⟩, 23), (⟨"AdmissionDeskModel", "mainFor", "()I"⟩, 23), (⟨"AdmissionDeskModel", "goesOut", "(I)V"⟩, 23), (⟨"AdmissionDeskModel", "contests", "(I)V"⟩, 23), (⟨"AdmissionDeskModel", "doesWin", "(II)Z"⟩, 23), (⟨"AdmissionDeskModel", "estimateOf", "(I)I"⟩, 23), (⟨"AdmissionDeskModel", "factOf", "(III)I"⟩, 23), (⟨"AdmissionDeskModel", "hits", "(II)V"⟩, 23), (⟨"AdmissionDeskModel", "climbs", "(Z)V"⟩, 23), (⟨"AdmissionDeskModel", "fits", "()V"⟩, 23), (⟨"AdmissionDeskModel", "noKey", "(I)Z"⟩, 23)]
theorem lw_r5 : ∀ q ∈ lw_privs_5, lw_okq q := List.forall_mem_cons.mpr ⟨lw_p64, List.forall_mem_cons.mpr ⟨lw_p65, List.forall_mem_cons.mpr ⟨lw_p66, List.forall_mem_cons.mpr ⟨lw_p67, List.forall_mem_cons.mpr ⟨lw_p68, List.forall_mem_cons.mpr ⟨lw_p69, List.forall_mem_cons.mpr ⟨lw_p70, List.forall_mem_cons.mpr ⟨lw_p71, List.forall_mem_cons.mpr ⟨lw_p72, List.forall_mem_cons.mpr ⟨lw_p73, List.forall_mem_cons.mpr ⟨lw_p74, List.forall_mem_cons.mpr ⟨lw_p75, List.forall_mem_cons.mpr ⟨lw_p76, List.forall_mem_cons.mpr ⟨lw_p77, List.forall_mem_cons.mpr ⟨lw_p78, List.forall_mem_cons.mpr ⟨lw_p79, fun _ h => absurd h List.not_mem_nil⟩⟩⟩⟩⟩⟩⟩⟩⟩⟩⟩⟩⟩⟩⟩⟩
theorem lw_p80 : lw_okq (⟨"AdmissionDeskModel", "beginsPeriod", "()V"⟩, 23) := ⟨⟨by decide +kernel, by decide +kernel⟩, List.mem_of_getElem? (i := 1269) (by decide +kernel), List.mem_of_getElem? (i := 1671) (by decide +kernel), List.mem_of_getElem? (i := 1672) (by decide +kernel)⟩
theorem lw_p81 : lw_okq (⟨"AdmissionDeskModel", "forgetsCounted", "()V"⟩, 23) := ⟨⟨by decide +kernel, by decide +kernel⟩, List.mem_of_getElem? (i := 1269) (by decide +kernel), List.mem_of_getElem? (i := 1675) (by decide +kernel), List.mem_of_getElem? (i := 1676) (by decide +kernel)⟩
theorem lw_p82 : lw_okq (⟨"AdmissionDeskModel", "againBy", "(I)I"⟩, 23) := ⟨⟨by decide +kernel, by decide +kernel⟩, List.mem_of_getElem? (i := 1269) (by decide +kernel), List.mem_of_getElem? (i := 1687) (by decide +kernel), List.mem_of_getElem? (i := 1688) (by decide +kernel)⟩
theorem lw_p83 : lw_okq (⟨"AdmissionDeskModel", "plainBy", "(I)I"⟩, 23) := ⟨⟨by decide +kernel, by decide +kernel⟩, List.mem_of_getElem? (i := 1269) (by decide +kernel), List.mem_of_getElem? (i := 1702) (by decide +kernel), List.mem_of_getElem? (i := 1703) (by decide +kernel)⟩
theorem lw_p84 : lw_okq (⟨"AdmissionDeskModel", "pastMany", "()I"⟩, 23) := ⟨⟨by decide +kernel, by decide +kernel⟩, List.mem_of_getElem? (i := 1269) (by decide +kernel), List.mem_of_getElem? (i := 1706) (by decide +kernel), List.mem_of_getElem? (i := 1707) (by decide +kernel)⟩
theorem lw_p85 : lw_okq (⟨"AdmissionDeskModel", "pastAt", "(I)I"⟩, 23) := ⟨⟨by decide +kernel, by decide +kernel⟩, List.mem_of_getElem? (i := 1269) (by decide +kernel), List.mem_of_getElem? (i := 1710) (by decide +kernel), List.mem_of_getElem? (i := 1711) (by decide +kernel)⟩
theorem lw_p86 : lw_okq (⟨"AdmissionDeskModel", "nextAsk", "(II)I"⟩, 23) := ⟨⟨by decide +kernel, by decide +kernel⟩, List.mem_of_getElem? (i := 1269) (by decide +kernel), List.mem_of_getElem? (i := 1718) (by decide +kernel), List.mem_of_getElem? (i := 1719) (by decide +kernel)⟩
theorem lw_p87 : lw_okq (⟨"AdmissionDeskModel", "timesOf", "(I)I"⟩, 23) := ⟨⟨by decide +kernel, by decide +kernel⟩, List.mem_of_getElem? (i := 1269) (by decide +kernel), List.mem_of_getElem? (i := 1730) (by decide +kernel), List.mem_of_getElem? (i := 1731) (by decide +kernel)⟩
theorem lw_p88 : lw_okq (⟨"AdmissionDeskModel", "unlike", "()I"⟩, 23) := ⟨⟨by decide +kernel, by decide +kernel⟩, List.mem_of_getElem? (i := 1269) (by decide +kernel), List.mem_of_getElem? (i := 1750) (by decide +kernel), List.mem_of_getElem? (i := 1751) (by decide +kernel)⟩
theorem lw_p89 : lw_okq (⟨"AdmissionDeskModel", "mostAsked", "()I"⟩, 23) := ⟨⟨by decide +kernel, by decide +kernel⟩, List.mem_of_getElem? (i := 1269) (by decide +kernel), List.mem_of_getElem? (i := 1754) (by decide +kernel), List.mem_of_getElem? (i := 1755) (by decide +kernel)⟩
theorem lw_p90 : lw_okq (⟨"AdmissionDeskModel", "unlikeFrom", "(I)I"⟩, 23) := ⟨⟨by decide +kernel, by decide +kernel⟩, List.mem_of_getElem? (i := 1269) (by decide +kernel), List.mem_of_getElem? (i := 1758) (by decide +kernel), List.mem_of_getElem? (i := 1759) (by decide +kernel)⟩
theorem lw_p91 : lw_okq (⟨"AdmissionDeskModel", "says", "(I)V"⟩, 23) := ⟨⟨by decide +kernel, by decide +kernel⟩, List.mem_of_getElem? (i := 1269) (by decide +kernel), List.mem_of_getElem? (i := 1774) (by decide +kernel), List.mem_of_getElem? (i := 1775) (by decide +kernel)⟩
theorem lw_p92 : lw_okq (⟨"AdmissionDeskModel", "runFrom", "(II)I"⟩, 23) := ⟨⟨by decide +kernel, by decide +kernel⟩, List.mem_of_getElem? (i := 1269) (by decide +kernel), List.mem_of_getElem? (i := 1778) (by decide +kernel), List.mem_of_getElem? (i := 1779) (by decide +kernel)⟩
theorem lw_p93 : lw_okq (⟨"AdmissionDeskModel", "saysNumber", "(I)V"⟩, 23) := ⟨⟨by decide +kernel, by decide +kernel⟩, List.mem_of_getElem? (i := 1269) (by decide +kernel), List.mem_of_getElem? (i := 1782) (by decide +kernel), List.mem_of_getElem? (i := 1783) (by decide +kernel)⟩
theorem lw_p94 : lw_okq (⟨"AdmissionDeskModel", "sumOf", "(IIZ)I"⟩, 23) := ⟨⟨by decide +kernel, by decide +kernel⟩, List.mem_of_getElem? (i := 1269) (by decide +kernel), List.mem_of_getElem? (i := 1802) (by decide +kernel), List.mem_of_getElem? (i := 1803) (by decide +kernel)⟩
def lw_privs_6 : List (MethodName × Nat) := [(⟨"AdmissionDeskModel", "beginsPeriod", "()V"⟩, 23), (⟨"AdmissionDeskModel", "forgetsCounted", "()V"⟩, 23), (⟨"AdmissionDeskModel", "againBy", "(I)I"⟩, 23), (⟨"AdmissionDeskModel", "plainBy", "(I)I"⟩, 23), (⟨"AdmissionDeskModel", "pastMany", "()I"⟩, 23), (⟨"AdmissionDeskModel", "pastAt", "(I)I"⟩, 23), (⟨"AdmissionDeskModel", "nextAsk", "(II)I"⟩, 23), (⟨"AdmissionDeskModel", "timesOf", "(I)I"⟩, 23), (⟨"AdmissionDeskModel", "unlike", "()I"⟩, 23), (⟨"AdmissionDeskModel", "mostAsked", "()I"⟩, 23), (⟨"AdmissionDeskModel", "unlikeFrom", "(I)I"⟩, 23), (⟨"AdmissionDeskModel", "says", "(I)V"⟩, 23), (⟨"AdmissionDeskModel", "runFrom", "(II)I"⟩, 23), (⟨"AdmissionDeskModel", "saysNumber", "(I)V"⟩, 23), (⟨"AdmissionDeskModel", "sumOf", "(IIZ)I"⟩, 23)]
theorem lw_r6 : ∀ q ∈ lw_privs_6, lw_okq q := List.forall_mem_cons.mpr ⟨lw_p80, List.forall_mem_cons.mpr ⟨lw_p81, List.forall_mem_cons.mpr ⟨lw_p82, List.forall_mem_cons.mpr ⟨lw_p83, List.forall_mem_cons.mpr ⟨lw_p84, List.forall_mem_cons.mpr ⟨lw_p85, List.forall_mem_cons.mpr ⟨lw_p86, List.forall_mem_cons.mpr ⟨lw_p87, List.forall_mem_cons.mpr ⟨lw_p88, List.forall_mem_cons.mpr ⟨lw_p89, List.forall_mem_cons.mpr ⟨lw_p90, List.forall_mem_cons.mpr ⟨lw_p91, List.forall_mem_cons.mpr ⟨lw_p92, List.forall_mem_cons.mpr ⟨lw_p93, List.forall_mem_cons.mpr ⟨lw_p94, fun _ h => absurd h List.not_mem_nil⟩⟩⟩⟩⟩⟩⟩⟩⟩⟩⟩⟩⟩⟩⟩
def lw_privs : List (MethodName × Nat) := lw_privs_1 ++ (lw_privs_2 ++ (lw_privs_3 ++ (lw_privs_4 ++ (lw_privs_5 ++ (lw_privs_6)))))
def lw_tbl : List Cond := k2_sels lw_privs ++ tables_1
theorem lw_privs_ok : ∀ q ∈ lw_privs, lw_okq q := by
  show ∀ q ∈ lw_privs_1 ++ (lw_privs_2 ++ (lw_privs_3 ++ (lw_privs_4 ++ (lw_privs_5 ++ (lw_privs_6))))), lw_okq q
  exact List.forall_mem_append.mpr ⟨lw_r1, List.forall_mem_append.mpr ⟨lw_r2, List.forall_mem_append.mpr ⟨lw_r3, List.forall_mem_append.mpr ⟨lw_r4, List.forall_mem_append.mpr ⟨lw_r5, lw_r6⟩⟩⟩⟩⟩
def RX0 : String := "AdmissionDesk$Climb"
def TX0 : u_T := fun k => match k with
  | 0 => ("AdmissionDesk$Climb", "period", "I", false)
  | 1 => ("AdmissionDesk$Climb", "asks", "I", false)
  | 2 => ("AdmissionDesk$Climb", "hits", "I", false)
  | 3 => ("AdmissionDesk$Climb", "hitsAhead", "I", false)
  | _ => ("AdmissionDesk$Climb", "isDown", "Z", false)
def tyX0 : Nat → FieldType := fun k => match k with
  | 0 => .int
  | 1 => .int
  | 2 => .int
  | 3 => .int
  | _ => .boolean
abbrev wsX00 : List Cond := u_ws RX0 TX0 5
theorem nmX0 : ∀ a, a < 5 → ∀ b, b < 5 → a ≠ b → (TX0 a).2.1 ≠ (TX0 b).2.1 := by decide +kernel
theorem tyX0_ok : ∀ k, k < 5 → parseFieldDescriptor (TX0 k).2.2.1 = some (tyX0 k) := by decide +kernel
abbrev cX0_init : ByteArray := prog_2_method_1_code
def yX0_init : MethodName := ⟨RX0, "<init>", "()V"⟩
abbrev cX0_begin : ByteArray := prog_2_method_2_code
def yX0_begin : MethodName := ⟨RX0, "begin", "(I)V"⟩
abbrev cX0_endsWith : ByteArray := prog_2_method_3_code
def yX0_endsWith : MethodName := ⟨RX0, "endsWith", "(Z)Z"⟩
abbrev cX0_nextStep : ByteArray := prog_2_method_4_code
def yX0_nextStep : MethodName := ⟨RX0, "nextStep", "()I"⟩
abbrev cX0_copyFrom : ByteArray := prog_2_method_5_code
def yX0_copyFrom : MethodName := ⟨RX0, "copyFrom", "(LAdmissionDesk$Climb;)V"⟩
def RX1 : String := "AdmissionDesk$Contest"
def TX1 : u_T := fun k => match k with
  | 0 => ("AdmissionDesk$Contest", "candidate", "I", false)
  | 1 => ("AdmissionDesk$Contest", "victim", "I", false)
  | 2 => ("AdmissionDesk$Contest", "loser", "I", false)
  | _ => ("AdmissionDesk$Contest", "won", "I", false)
def tyX1 : Nat → FieldType := fun k => match k with
  | 0 => .int
  | 1 => .int
  | 2 => .int
  | _ => .int
abbrev wsX10 : List Cond := u_ws RX1 TX1 4
theorem nmX1 : ∀ a, a < 4 → ∀ b, b < 4 → a ≠ b → (TX1 a).2.1 ≠ (TX1 b).2.1 := by decide +kernel
theorem tyX1_ok : ∀ k, k < 4 → parseFieldDescriptor (TX1 k).2.2.1 = some (tyX1 k) := by decide +kernel
abbrev cX1_init : ByteArray := prog_3_method_1_code
def yX1_init : MethodName := ⟨RX1, "<init>", "()V"⟩
abbrev cX1_clear : ByteArray := prog_3_method_2_code
def yX1_clear : MethodName := ⟨RX1, "clear", "()V"⟩
abbrev cX1_copyFrom : ByteArray := prog_3_method_3_code
def yX1_copyFrom : MethodName := ⟨RX1, "copyFrom", "(LAdmissionDesk$Contest;)V"⟩
def RX2 : String := "AdmissionDesk$Desk"
def TX2 : u_T := fun k => match k with
  | 0 => ("AdmissionDesk$Desk", "shares", "LAdmissionDesk$Shares;", true)
  | 1 => ("AdmissionDesk$Desk", "sketch", "LAdmissionDesk$Sketch;", true)
  | 2 => ("AdmissionDesk$Desk", "law", "LAdmissionDesk$Law;", true)
  | 3 => ("AdmissionDesk$Desk", "climb", "LAdmissionDesk$Climb;", true)
  | 4 => ("AdmissionDesk$Desk", "contest", "LAdmissionDesk$Contest;", true)
  | 5 => ("AdmissionDesk$Desk", "window", "LAdmissionDesk$Row;", true)
  | 6 => ("AdmissionDesk$Desk", "tried", "LAdmissionDesk$Row;", true)
  | 7 => ("AdmissionDesk$Desk", "safe", "LAdmissionDesk$Row;", true)
  | 8 => ("AdmissionDesk$Desk", "gone", "LAdmissionDesk$Row;", true)
  | 9 => ("AdmissionDesk$Desk", "past", "LAdmissionDesk$Row;", true)
  | 10 => ("AdmissionDesk$Desk", "values", "LAdmissionDesk$Row;", true)
  | 11 => ("AdmissionDesk$Desk", "sorted", "LAdmissionDesk$Row;", true)
  | 12 => ("AdmissionDesk$Desk", "asks", "I", false)
  | 13 => ("AdmissionDesk$Desk", "hits", "I", false)
  | 14 => ("AdmissionDesk$Desk", "outs", "I", false)
  | 15 => ("AdmissionDesk$Desk", "regrets", "I", false)
  | 16 => ("AdmissionDesk$Desk", "won", "I", false)
  | _ => ("AdmissionDesk$Desk", "lost", "I", false)
def tyX2 : Nat → FieldType := fun k => match k with
  | 0 => .object "AdmissionDesk$Shares"
  | 1 => .object "AdmissionDesk$Sketch"
  | 2 => .object "AdmissionDesk$Law"
  | 3 => .object "AdmissionDesk$Climb"
  | 4 => .object "AdmissionDesk$Contest"
  | 5 => .object "AdmissionDesk$Row"
  | 6 => .object "AdmissionDesk$Row"
  | 7 => .object "AdmissionDesk$Row"
  | 8 => .object "AdmissionDesk$Row"
  | 9 => .object "AdmissionDesk$Row"
  | 10 => .object "AdmissionDesk$Row"
  | 11 => .object "AdmissionDesk$Row"
  | 12 => .int
  | 13 => .int
  | 14 => .int
  | 15 => .int
  | 16 => .int
  | _ => .int
abbrev wsX20 : List Cond := u_ws RX2 TX2 18
theorem nmX2 : ∀ a, a < 18 → ∀ b, b < 18 → a ≠ b → (TX2 a).2.1 ≠ (TX2 b).2.1 := by decide +kernel
theorem tyX2_ok : ∀ k, k < 18 → parseFieldDescriptor (TX2 k).2.2.1 = some (tyX2 k) := by decide +kernel
abbrev cX2_init : ByteArray := prog_4_method_1_code
def yX2_init : MethodName := ⟨RX2, "<init>", "()V"⟩
abbrev cX2_serve : ByteArray := prog_4_method_2_code
def yX2_serve : MethodName := ⟨RX2, "serve", "(I)I"⟩
abbrev cX2_remember : ByteArray := prog_4_method_3_code
def yX2_remember : MethodName := ⟨RX2, "remember", "(I)V"⟩
abbrev cX2_partOf : ByteArray := prog_4_method_4_code
def yX2_partOf : MethodName := ⟨RX2, "partOf", "(I)I"⟩
abbrev cX2_rowOf : ByteArray := prog_4_method_5_code
def yX2_rowOf : MethodName := ⟨RX2, "rowOf", "(I)LAdmissionDesk$Row;"⟩
abbrev cX2_moveUp : ByteArray := prog_4_method_6_code
def yX2_moveUp : MethodName := ⟨RX2, "moveUp", "(II)V"⟩
abbrev cX2_comeIn : ByteArray := prog_4_method_7_code
def yX2_comeIn : MethodName := ⟨RX2, "comeIn", "(I)V"⟩
abbrev cX2_leaveWindow : ByteArray := prog_4_method_8_code
def yX2_leaveWindow : MethodName := ⟨RX2, "leaveWindow", "(I)V"⟩
abbrev cX2_goOut : ByteArray := prog_4_method_9_code
def yX2_goOut : MethodName := ⟨RX2, "goOut", "(I)V"⟩
abbrev cX2_beats : ByteArray := prog_4_method_10_code
def yX2_beats : MethodName := ⟨RX2, "beats", "(II)Z"⟩
abbrev cX2_fit : ByteArray := prog_4_method_11_code
def yX2_fit : MethodName := ⟨RX2, "fit", "()V"⟩
abbrev cX2_dropColdest : ByteArray := prog_4_method_12_code
def yX2_dropColdest : MethodName := ⟨RX2, "dropColdest", "()V"⟩
abbrev cX2_setting : ByteArray := prog_4_method_13_code
def yX2_setting : MethodName := ⟨RX2, "setting", "(I)I"⟩
abbrev cX2_set : ByteArray := prog_4_method_14_code
def yX2_set : MethodName := ⟨RX2, "set", "(II)V"⟩
abbrev cX2_hotKeys : ByteArray := prog_4_method_15_code
def yX2_hotKeys : MethodName := ⟨RX2, "hotKeys", "()LAdmissionDesk$Row;"⟩
abbrev cX2_sortIn : ByteArray := prog_4_method_16_code
def yX2_sortIn : MethodName := ⟨RX2, "sortIn", "(I)V"⟩
abbrev cX2_keysWith : ByteArray := prog_4_method_17_code
def yX2_keysWith : MethodName := ⟨RX2, "keysWith", "(I)I"⟩
abbrev cX2_startLike : ByteArray := prog_4_method_18_code
def yX2_startLike : MethodName := ⟨RX2, "startLike", "(LAdmissionDesk$Desk;I)V"⟩
abbrev cX2_copyFrom : ByteArray := prog_4_method_19_code
def yX2_copyFrom : MethodName := ⟨RX2, "copyFrom", "(LAdmissionDesk$Desk;)V"⟩
def RX3 : String := "AdmissionDesk$Law"
def TX3 : u_T := fun k => match k with
  | 0 => ("AdmissionDesk$Law", "steps", "LAdmissionDesk$Row;", true)
  | 1 => ("AdmissionDesk$Law", "stack", "LAdmissionDesk$Row;", true)
  | _ => ("AdmissionDesk$Law", "parts", "I", false)
def tyX3 : Nat → FieldType := fun k => match k with
  | 0 => .object "AdmissionDesk$Row"
  | 1 => .object "AdmissionDesk$Row"
  | _ => .int
abbrev wsX30 : List Cond := u_ws RX3 TX3 3
theorem nmX3 : ∀ a, a < 3 → ∀ b, b < 3 → a ≠ b → (TX3 a).2.1 ≠ (TX3 b).2.1 := by decide +kernel
theorem tyX3_ok : ∀ k, k < 3 → parseFieldDescriptor (TX3 k).2.2.1 = some (tyX3 k) := by decide +kernel
abbrev cX3_init : ByteArray := prog_5_method_1_code
def yX3_init : MethodName := ⟨RX3, "<init>", "()V"⟩
abbrev cX3_isText : ByteArray := prog_5_method_2_code
def yX3_isText : MethodName := ⟨RX3, "isText", "()Z"⟩
abbrev cX3_remove : ByteArray := prog_5_method_3_code
def yX3_remove : MethodName := ⟨RX3, "remove", "()V"⟩
abbrev cX3_copyFrom : ByteArray := prog_5_method_4_code
def yX3_copyFrom : MethodName := ⟨RX3, "copyFrom", "(LAdmissionDesk$Law;)V"⟩
abbrev cX3_holds : ByteArray := prog_5_method_5_code
def yX3_holds : MethodName := ⟨RX3, "holds", "(LAdmissionDesk$Row;)Z"⟩
abbrev cX3_joined : ByteArray := prog_5_method_6_code
def yX3_joined : MethodName := ⟨RX3, "joined", "(III)I"⟩
def RX4 : String := "AdmissionDesk$LawReader"
def TX4 : u_T := fun k => match k with
  | 0 => ("AdmissionDesk$LawReader", "tokens", "LAdmissionDesk$Tokens;", true)
  | _ => ("AdmissionDesk$LawReader", "draft", "LAdmissionDesk$Law;", true)
def tyX4 : Nat → FieldType := fun k => match k with
  | 0 => .object "AdmissionDesk$Tokens"
  | _ => .object "AdmissionDesk$Law"
abbrev wsX40 : List Cond := u_ws RX4 TX4 2
theorem nmX4 : ∀ a, a < 2 → ∀ b, b < 2 → a ≠ b → (TX4 a).2.1 ≠ (TX4 b).2.1 := by decide +kernel
theorem tyX4_ok : ∀ k, k < 2 → parseFieldDescriptor (TX4 k).2.2.1 = some (tyX4 k) := by decide +kernel
abbrev cX4_init : ByteArray := prog_6_method_1_code
def yX4_init : MethodName := ⟨RX4, "<init>", "()V"⟩
abbrev cX4_read : ByteArray := prog_6_method_2_code
def yX4_read : MethodName := ⟨RX4, "read", "(LAdmissionDesk$Row;)I"⟩
abbrev cX4_readEither : ByteArray := prog_6_method_3_code
def yX4_readEither : MethodName := ⟨RX4, "readEither", "(I)V"⟩
abbrev cX4_readAll : ByteArray := prog_6_method_4_code
def yX4_readAll : MethodName := ⟨RX4, "readAll", "(I)V"⟩
abbrev cX4_readAtom : ByteArray := prog_6_method_5_code
def yX4_readAtom : MethodName := ⟨RX4, "readAtom", "(I)V"⟩
abbrev cX4_readSign : ByteArray := prog_6_method_6_code
def yX4_readSign : MethodName := ⟨RX4, "readSign", "()I"⟩
abbrev cX4_readSum : ByteArray := prog_6_method_7_code
def yX4_readSum : MethodName := ⟨RX4, "readSum", "()V"⟩
def RX5 : String := "AdmissionDesk$Lookback"
def TX5 : u_T := fun k => match k with
  | 0 => ("AdmissionDesk$Lookback", "there", "LAdmissionDesk$Row;", true)
  | 1 => ("AdmissionDesk$Lookback", "depths", "LAdmissionDesk$Row;", true)
  | _ => ("AdmissionDesk$Lookback", "dues", "LAdmissionDesk$Row;", true)
def tyX5 : Nat → FieldType := fun k => match k with
  | 0 => .object "AdmissionDesk$Row"
  | 1 => .object "AdmissionDesk$Row"
  | _ => .object "AdmissionDesk$Row"
abbrev wsX50 : List Cond := u_ws RX5 TX5 3
theorem nmX5 : ∀ a, a < 3 → ∀ b, b < 3 → a ≠ b → (TX5 a).2.1 ≠ (TX5 b).2.1 := by decide +kernel
theorem tyX5_ok : ∀ k, k < 3 → parseFieldDescriptor (TX5 k).2.2.1 = some (tyX5 k) := by decide +kernel
abbrev cX5_init : ByteArray := prog_7_method_1_code
def yX5_init : MethodName := ⟨RX5, "<init>", "()V"⟩
abbrev cX5_measure : ByteArray := prog_7_method_2_code
def yX5_measure : MethodName := ⟨RX5, "measure", "(LAdmissionDesk$Row;)V"⟩
abbrev cX5_plainHits : ByteArray := prog_7_method_3_code
def yX5_plainHits : MethodName := ⟨RX5, "plainHits", "(I)I"⟩
abbrev cX5_idealHits : ByteArray := prog_7_method_4_code
def yX5_idealHits : MethodName := ⟨RX5, "idealHits", "(LAdmissionDesk$Row;I)I"⟩
abbrev cX5_nextAsk : ByteArray := prog_7_method_5_code
def yX5_nextAsk : MethodName := ⟨RX5, "nextAsk", "(LAdmissionDesk$Row;I)I"⟩
abbrev cX5_latestDue : ByteArray := prog_7_method_6_code
def yX5_latestDue : MethodName := ⟨RX5, "latestDue", "()I"⟩
abbrev cX5_timesOf : ByteArray := prog_7_method_7_code
def yX5_timesOf : MethodName := ⟨RX5, "timesOf", "(LAdmissionDesk$Row;I)I"⟩
abbrev cX5_commonest : ByteArray := prog_7_method_8_code
def yX5_commonest : MethodName := ⟨RX5, "commonest", "(LAdmissionDesk$Row;)I"⟩
abbrev cX5_unlikeKeys : ByteArray := prog_7_method_9_code
def yX5_unlikeKeys : MethodName := ⟨RX5, "unlikeKeys", "(LAdmissionDesk$Row;)I"⟩
abbrev cX5_longestUnlike : ByteArray := prog_7_method_10_code
def yX5_longestUnlike : MethodName := ⟨RX5, "longestUnlike", "(LAdmissionDesk$Row;)I"⟩
abbrev cX5_widestGap : ByteArray := prog_7_method_11_code
def yX5_widestGap : MethodName := ⟨RX5, "widestGap", "(LAdmissionDesk$Row;)I"⟩
abbrev cX5_askAhead : ByteArray := prog_7_method_12_code
def yX5_askAhead : MethodName := ⟨RX5, "askAhead", "(LAdmissionDesk$Row;I)I"⟩
abbrev cX5_writeTo : ByteArray := prog_7_method_13_code
def yX5_writeTo : MethodName := ⟨RX5, "writeTo", "(LAdmissionDesk$Row;LAdmissionDesk$Row;)V"⟩
abbrev cX5_runFrom : ByteArray := prog_7_method_14_code
def yX5_runFrom : MethodName := ⟨RX5, "runFrom", "(LAdmissionDesk$Row;II)I"⟩
abbrev cX5_writeNumber : ByteArray := prog_7_method_15_code
def yX5_writeNumber : MethodName := ⟨RX5, "writeNumber", "(LAdmissionDesk$Row;I)V"⟩
def RX6 : String := "AdmissionDesk$Row"
def TX6 : u_T := fun k => match k with
  | 0 => ("AdmissionDesk$Row", "cells", "[I", true)
  | _ => ("AdmissionDesk$Row", "size", "I", false)
def tyX6 : Nat → FieldType := fun k => match k with
  | 0 => .array .int
  | _ => .int
abbrev wsX60 : List Cond := u_ws RX6 TX6 2
theorem nmX6 : ∀ a, a < 2 → ∀ b, b < 2 → a ≠ b → (TX6 a).2.1 ≠ (TX6 b).2.1 := by decide +kernel
theorem tyX6_ok : ∀ k, k < 2 → parseFieldDescriptor (TX6 k).2.2.1 = some (tyX6 k) := by decide +kernel
abbrev cX6_init : ByteArray := prog_8_method_1_code
def yX6_init : MethodName := ⟨RX6, "<init>", "(I)V"⟩
abbrev cX6_size : ByteArray := prog_8_method_2_code
def yX6_size : MethodName := ⟨RX6, "size", "()I"⟩
abbrev cX6_get : ByteArray := prog_8_method_3_code
def yX6_get : MethodName := ⟨RX6, "get", "(I)I"⟩
abbrev cX6_last : ByteArray := prog_8_method_4_code
def yX6_last : MethodName := ⟨RX6, "last", "()I"⟩
abbrev cX6_put : ByteArray := prog_8_method_5_code
def yX6_put : MethodName := ⟨RX6, "put", "(II)V"⟩
abbrev cX6_append : ByteArray := prog_8_method_6_code
def yX6_append : MethodName := ⟨RX6, "append", "(I)V"⟩
abbrev cX6_insert : ByteArray := prog_8_method_7_code
def yX6_insert : MethodName := ⟨RX6, "insert", "(II)V"⟩
abbrev cX6_removeAt : ByteArray := prog_8_method_8_code
def yX6_removeAt : MethodName := ⟨RX6, "removeAt", "(I)I"⟩
abbrev cX6_removeLast : ByteArray := prog_8_method_9_code
def yX6_removeLast : MethodName := ⟨RX6, "removeLast", "()I"⟩
abbrev cX6_find : ByteArray := prog_8_method_10_code
def yX6_find : MethodName := ⟨RX6, "find", "(I)I"⟩
abbrev cX6_cut : ByteArray := prog_8_method_11_code
def yX6_cut : MethodName := ⟨RX6, "cut", "(I)V"⟩
abbrev cX6_copyFrom : ByteArray := prog_8_method_12_code
def yX6_copyFrom : MethodName := ⟨RX6, "copyFrom", "(LAdmissionDesk$Row;)V"⟩
def RX7 : String := "AdmissionDesk$Shares"
def TX7 : u_T := fun k => match k with
  | 0 => ("AdmissionDesk$Shares", "room", "I", false)
  | 1 => ("AdmissionDesk$Shares", "door", "I", false)
  | _ => ("AdmissionDesk$Shares", "kept", "I", false)
def tyX7 : Nat → FieldType := fun k => match k with
  | 0 => .int
  | 1 => .int
  | _ => .int
abbrev wsX70 : List Cond := u_ws RX7 TX7 3
theorem nmX7 : ∀ a, a < 3 → ∀ b, b < 3 → a ≠ b → (TX7 a).2.1 ≠ (TX7 b).2.1 := by decide +kernel
theorem tyX7_ok : ∀ k, k < 3 → parseFieldDescriptor (TX7 k).2.2.1 = some (tyX7 k) := by decide +kernel
abbrev cX7_init : ByteArray := prog_9_method_1_code
def yX7_init : MethodName := ⟨RX7, "<init>", "()V"⟩
abbrev cX7_windowFor : ByteArray := prog_9_method_2_code
def yX7_windowFor : MethodName := ⟨RX7, "windowFor", "()I"⟩
abbrev cX7_mainFor : ByteArray := prog_9_method_3_code
def yX7_mainFor : MethodName := ⟨RX7, "mainFor", "()I"⟩
abbrev cX7_safeFor : ByteArray := prog_9_method_4_code
def yX7_safeFor : MethodName := ⟨RX7, "safeFor", "()I"⟩
abbrev cX7_partFor : ByteArray := prog_9_method_5_code
def yX7_partFor : MethodName := ⟨RX7, "partFor", "(I)I"⟩
abbrev cX7_moveDoor : ByteArray := prog_9_method_6_code
def yX7_moveDoor : MethodName := ⟨RX7, "moveDoor", "(I)V"⟩
abbrev cX7_copyFrom : ByteArray := prog_9_method_7_code
def yX7_copyFrom : MethodName := ⟨RX7, "copyFrom", "(LAdmissionDesk$Shares;)V"⟩
def RX8 : String := "AdmissionDesk$Sketch"
def TX8 : u_T := fun k => match k with
  | 0 => ("AdmissionDesk$Sketch", "counters", "[I", true)
  | 1 => ("AdmissionDesk$Sketch", "notes", "[Z", true)
  | 2 => ("AdmissionDesk$Sketch", "isDoorman", "Z", false)
  | 3 => ("AdmissionDesk$Sketch", "added", "I", false)
  | 4 => ("AdmissionDesk$Sketch", "sample", "I", false)
  | 5 => ("AdmissionDesk$Sketch", "wide", "I", false)
  | _ => ("AdmissionDesk$Sketch", "halvings", "I", false)
def tyX8 : Nat → FieldType := fun k => match k with
  | 0 => .array .int
  | 1 => .array .boolean
  | 2 => .boolean
  | 3 => .int
  | 4 => .int
  | 5 => .int
  | _ => .int
abbrev wsX80 : List Cond := u_ws RX8 TX8 7
theorem nmX8 : ∀ a, a < 7 → ∀ b, b < 7 → a ≠ b → (TX8 a).2.1 ≠ (TX8 b).2.1 := by decide +kernel
theorem tyX8_ok : ∀ k, k < 7 → parseFieldDescriptor (TX8 k).2.2.1 = some (tyX8 k) := by decide +kernel
abbrev cX8_init : ByteArray := prog_10_method_1_code
def yX8_init : MethodName := ⟨RX8, "<init>", "()V"⟩
abbrev cX8_places : ByteArray := prog_10_method_2_code
def yX8_places : MethodName := ⟨RX8, "places", "()I"⟩
abbrev cX8_placeOf : ByteArray := prog_10_method_3_code
def yX8_placeOf : MethodName := ⟨RX8, "placeOf", "(II)I"⟩
abbrev cX8_mixed : ByteArray := prog_10_method_4_code
def yX8_mixed : MethodName := ⟨RX8, "mixed", "(III)I"⟩
abbrev cX8_counterOf : ByteArray := prog_10_method_5_code
def yX8_counterOf : MethodName := ⟨RX8, "counterOf", "(II)I"⟩
abbrev cX8_sharedRows : ByteArray := prog_10_method_6_code
def yX8_sharedRows : MethodName := ⟨RX8, "sharedRows", "(II)I"⟩
abbrev cX8_hasNoted : ByteArray := prog_10_method_7_code
def yX8_hasNoted : MethodName := ⟨RX8, "hasNoted", "(I)Z"⟩
abbrev cX8_isNote : ByteArray := prog_10_method_8_code
def yX8_isNote : MethodName := ⟨RX8, "isNote", "(I)Z"⟩
abbrev cX8_setNote : ByteArray := prog_10_method_9_code
def yX8_setNote : MethodName := ⟨RX8, "setNote", "(I)V"⟩
abbrev cX8_estimateOf : ByteArray := prog_10_method_10_code
def yX8_estimateOf : MethodName := ⟨RX8, "estimateOf", "(I)I"⟩
abbrev cX8_add : ByteArray := prog_10_method_11_code
def yX8_add : MethodName := ⟨RX8, "add", "(I)V"⟩
abbrev cX8_raiseCounters : ByteArray := prog_10_method_12_code
def yX8_raiseCounters : MethodName := ⟨RX8, "raiseCounters", "(I)Z"⟩
abbrev cX8_halveAll : ByteArray := prog_10_method_13_code
def yX8_halveAll : MethodName := ⟨RX8, "halveAll", "()V"⟩
abbrev cX8_forgetNotes : ByteArray := prog_10_method_14_code
def yX8_forgetNotes : MethodName := ⟨RX8, "forgetNotes", "()V"⟩
abbrev cX8_setSample : ByteArray := prog_10_method_15_code
def yX8_setSample : MethodName := ⟨RX8, "setSample", "(I)V"⟩
abbrev cX8_setWide : ByteArray := prog_10_method_16_code
def yX8_setWide : MethodName := ⟨RX8, "setWide", "(I)V"⟩
abbrev cX8_bitsSet : ByteArray := prog_10_method_17_code
def yX8_bitsSet : MethodName := ⟨RX8, "bitsSet", "()I"⟩
abbrev cX8_countersUsed : ByteArray := prog_10_method_18_code
def yX8_countersUsed : MethodName := ⟨RX8, "countersUsed", "()I"⟩
abbrev cX8_countersTogether : ByteArray := prog_10_method_19_code
def yX8_countersTogether : MethodName := ⟨RX8, "countersTogether", "()I"⟩
abbrev cX8_startLike : ByteArray := prog_10_method_20_code
def yX8_startLike : MethodName := ⟨RX8, "startLike", "(LAdmissionDesk$Sketch;)V"⟩
abbrev cX8_copyFrom : ByteArray := prog_10_method_21_code
def yX8_copyFrom : MethodName := ⟨RX8, "copyFrom", "(LAdmissionDesk$Sketch;)V"⟩
def RX9 : String := "AdmissionDesk$Tokens"
def TX9 : u_T := fun k => match k with
  | 0 => ("AdmissionDesk$Tokens", "kinds", "LAdmissionDesk$Row;", true)
  | 1 => ("AdmissionDesk$Tokens", "starts", "LAdmissionDesk$Row;", true)
  | 2 => ("AdmissionDesk$Tokens", "numbers", "LAdmissionDesk$Row;", true)
  | 3 => ("AdmissionDesk$Tokens", "textBytes", "I", false)
  | 4 => ("AdmissionDesk$Tokens", "index", "I", false)
  | _ => ("AdmissionDesk$Tokens", "faultToken", "I", false)
def tyX9 : Nat → FieldType := fun k => match k with
  | 0 => .object "AdmissionDesk$Row"
  | 1 => .object "AdmissionDesk$Row"
  | 2 => .object "AdmissionDesk$Row"
  | 3 => .int
  | 4 => .int
  | _ => .int
abbrev wsX90 : List Cond := u_ws RX9 TX9 6
theorem nmX9 : ∀ a, a < 6 → ∀ b, b < 6 → a ≠ b → (TX9 a).2.1 ≠ (TX9 b).2.1 := by decide +kernel
theorem tyX9_ok : ∀ k, k < 6 → parseFieldDescriptor (TX9 k).2.2.1 = some (tyX9 k) := by decide +kernel
abbrev cX9_init : ByteArray := prog_11_method_1_code
def yX9_init : MethodName := ⟨RX9, "<init>", "()V"⟩
abbrev cX9_cutUp : ByteArray := prog_11_method_2_code
def yX9_cutUp : MethodName := ⟨RX9, "cutUp", "(LAdmissionDesk$Row;I)V"⟩
abbrev cX9_cutOne : ByteArray := prog_11_method_3_code
def yX9_cutOne : MethodName := ⟨RX9, "cutOne", "(LAdmissionDesk$Row;II)I"⟩
abbrev cX9_behindDigits : ByteArray := prog_11_method_4_code
def yX9_behindDigits : MethodName := ⟨RX9, "behindDigits", "(LAdmissionDesk$Row;I)I"⟩
abbrev cX9_behindLetters : ByteArray := prog_11_method_5_code
def yX9_behindLetters : MethodName := ⟨RX9, "behindLetters", "(LAdmissionDesk$Row;I)I"⟩
abbrev cX9_numberOf : ByteArray := prog_11_method_6_code
def yX9_numberOf : MethodName := ⟨RX9, "numberOf", "(LAdmissionDesk$Row;II)I"⟩
abbrev cX9_wordOf : ByteArray := prog_11_method_7_code
def yX9_wordOf : MethodName := ⟨RX9, "wordOf", "(LAdmissionDesk$Row;II)I"⟩
abbrev cX9_isWord : ByteArray := prog_11_method_8_code
def yX9_isWord : MethodName := ⟨RX9, "isWord", "(ILAdmissionDesk$Row;II)Z"⟩
abbrev cX9_isLetter : ByteArray := prog_11_method_9_code
def yX9_isLetter : MethodName := ⟨RX9, "isLetter", "(I)Z"⟩
abbrev cX9_isDigit : ByteArray := prog_11_method_10_code
def yX9_isDigit : MethodName := ⟨RX9, "isDigit", "(I)Z"⟩
abbrev cX9_kind : ByteArray := prog_11_method_11_code
def yX9_kind : MethodName := ⟨RX9, "kind", "()I"⟩
abbrev cX9_takes : ByteArray := prog_11_method_12_code
def yX9_takes : MethodName := ⟨RX9, "takes", "(I)Z"⟩
abbrev cX9_need : ByteArray := prog_11_method_13_code
def yX9_need : MethodName := ⟨RX9, "need", "(I)V"⟩
abbrev cX9_needNumber : ByteArray := prog_11_method_14_code
def yX9_needNumber : MethodName := ⟨RX9, "needNumber", "()I"⟩
abbrev cX9_failed : ByteArray := prog_11_method_15_code
def yX9_failed : MethodName := ⟨RX9, "failed", "()Z"⟩
abbrev cX9_fail : ByteArray := prog_11_method_16_code
def yX9_fail : MethodName := ⟨RX9, "fail", "(I)V"⟩
abbrev cX9_faultByte : ByteArray := prog_11_method_17_code
def yX9_faultByte : MethodName := ⟨RX9, "faultByte", "()I"⟩
def RX10 : String := "AdmissionDesk$TraceReader"
def TX10 : u_T := fun k => match k with
  | 0 => ("AdmissionDesk$TraceReader", "tokens", "LAdmissionDesk$Tokens;", true)
  | _ => ("AdmissionDesk$TraceReader", "keys", "LAdmissionDesk$Row;", true)
def tyX10 : Nat → FieldType := fun k => match k with
  | 0 => .object "AdmissionDesk$Tokens"
  | _ => .object "AdmissionDesk$Row"
abbrev wsX100 : List Cond := u_ws RX10 TX10 2
theorem nmX10 : ∀ a, a < 2 → ∀ b, b < 2 → a ≠ b → (TX10 a).2.1 ≠ (TX10 b).2.1 := by decide +kernel
theorem tyX10_ok : ∀ k, k < 2 → parseFieldDescriptor (TX10 k).2.2.1 = some (tyX10 k) := by decide +kernel
abbrev cX10_init : ByteArray := prog_12_method_1_code
def yX10_init : MethodName := ⟨RX10, "<init>", "()V"⟩
abbrev cX10_read : ByteArray := prog_12_method_2_code
def yX10_read : MethodName := ⟨RX10, "read", "(LAdmissionDesk$Row;)I"⟩
abbrev cX10_readItems : ByteArray := prog_12_method_3_code
def yX10_readItems : MethodName := ⟨RX10, "readItems", "(I)V"⟩
abbrev cX10_readItem : ByteArray := prog_12_method_4_code
def yX10_readItem : MethodName := ⟨RX10, "readItem", "(I)V"⟩
abbrev cX10_readRange : ByteArray := prog_12_method_5_code
def yX10_readRange : MethodName := ⟨RX10, "readRange", "(I)V"⟩
abbrev cX10_readTimes : ByteArray := prog_12_method_6_code
def yX10_readTimes : MethodName := ⟨RX10, "readTimes", "()I"⟩
abbrev cX10_failUnless : ByteArray := prog_12_method_7_code
def yX10_failUnless : MethodName := ⟨RX10, "failUnless", "(Z)V"⟩
abbrev cX10_repeatFrom : ByteArray := prog_12_method_8_code
def yX10_repeatFrom : MethodName := ⟨RX10, "repeatFrom", "(II)V"⟩
abbrev cX10_fits : ByteArray := prog_12_method_9_code
def yX10_fits : MethodName := ⟨RX10, "fits", "(II)Z"⟩
def RX11 : String := "AdmissionDesk"
def TX11 : u_T := fun k => match k with
  | 0 => ("AdmissionDesk", "tape", "LAdmissionDesk$Row;", true)
  | 1 => ("AdmissionDesk", "written", "LAdmissionDesk$Row;", true)
  | 2 => ("AdmissionDesk", "lawReader", "LAdmissionDesk$LawReader;", true)
  | 3 => ("AdmissionDesk", "traceReader", "LAdmissionDesk$TraceReader;", true)
  | 4 => ("AdmissionDesk", "lookback", "LAdmissionDesk$Lookback;", true)
  | 5 => ("AdmissionDesk", "desk", "LAdmissionDesk$Desk;", true)
  | 6 => ("AdmissionDesk", "kept", "LAdmissionDesk$Desk;", true)
  | 7 => ("AdmissionDesk", "spare", "LAdmissionDesk$Desk;", true)
  | 8 => ("AdmissionDesk", "isKept", "Z", false)
  | _ => ("AdmissionDesk", "latestFault", "I", false)
def tyX11 : Nat → FieldType := fun k => match k with
  | 0 => .object "AdmissionDesk$Row"
  | 1 => .object "AdmissionDesk$Row"
  | 2 => .object "AdmissionDesk$LawReader"
  | 3 => .object "AdmissionDesk$TraceReader"
  | 4 => .object "AdmissionDesk$Lookback"
  | 5 => .object "AdmissionDesk$Desk"
  | 6 => .object "AdmissionDesk$Desk"
  | 7 => .object "AdmissionDesk$Desk"
  | 8 => .boolean
  | _ => .int
abbrev wsX110 : List Cond := u_ws RX11 TX11 10
theorem nmX11 : ∀ a, a < 10 → ∀ b, b < 10 → a ≠ b → (TX11 a).2.1 ≠ (TX11 b).2.1 := by decide +kernel
theorem tyX11_ok : ∀ k, k < 10 → parseFieldDescriptor (TX11 k).2.2.1 = some (tyX11 k) := by decide +kernel
abbrev cX11_init : ByteArray := prog_1_method_1_code
def yX11_init : MethodName := ⟨RX11, "<init>", "()V"⟩
abbrev cX11_feed : ByteArray := prog_1_method_2_code
def yX11_feed : MethodName := ⟨RX11, "feed", "(IIIII)I"⟩
abbrev cX11_appendBytes : ByteArray := prog_1_method_3_code
def yX11_appendBytes : MethodName := ⟨RX11, "appendBytes", "(I)V"⟩
abbrev cX11_end : ByteArray := prog_1_method_4_code
def yX11_end : MethodName := ⟨RX11, "end", "(I)Z"⟩
abbrev cX11_law : ByteArray := prog_1_method_5_code
def yX11_law : MethodName := ⟨RX11, "law", "()I"⟩
abbrev cX11_free : ByteArray := prog_1_method_6_code
def yX11_free : MethodName := ⟨RX11, "free", "()Z"⟩
abbrev cX11_trace : ByteArray := prog_1_method_7_code
def yX11_trace : MethodName := ⟨RX11, "trace", "()I"⟩
abbrev cX11_fault : ByteArray := prog_1_method_8_code
def yX11_fault : MethodName := ⟨RX11, "fault", "()I"⟩
abbrev cX11_ask : ByteArray := prog_1_method_9_code
def yX11_ask : MethodName := ⟨RX11, "ask", "(I)I"⟩
abbrev cX11_where : ByteArray := prog_1_method_10_code
def yX11_where : MethodName := ⟨RX11, "where", "(I)I"⟩
abbrev cX11_part : ByteArray := prog_1_method_11_code
def yX11_part : MethodName := ⟨RX11, "part", "(II)I"⟩
abbrev cX11_at : ByteArray := prog_1_method_12_code
def yX11_at : MethodName := ⟨RX11, "at", "(II)I"⟩
abbrev cX11_latest : ByteArray := prog_1_method_13_code
def yX11_latest : MethodName := ⟨RX11, "latest", "(I)I"⟩
abbrev cX11_out : ByteArray := prog_1_method_14_code
def yX11_out : MethodName := ⟨RX11, "out", "(I)I"⟩
abbrev cX11_estimate : ByteArray := prog_1_method_15_code
def yX11_estimate : MethodName := ⟨RX11, "estimate", "(I)I"⟩
abbrev cX11_place : ByteArray := prog_1_method_16_code
def yX11_place : MethodName := ⟨RX11, "place", "(II)I"⟩
abbrev cX11_counter : ByteArray := prog_1_method_17_code
def yX11_counter : MethodName := ⟨RX11, "counter", "(II)I"⟩
abbrev cX11_meets : ByteArray := prog_1_method_18_code
def yX11_meets : MethodName := ⟨RX11, "meets", "(II)I"⟩
abbrev cX11_noted : ByteArray := prog_1_method_19_code
def yX11_noted : MethodName := ⟨RX11, "noted", "(I)Z"⟩
abbrev cX11_halve : ByteArray := prog_1_method_20_code
def yX11_halve : MethodName := ⟨RX11, "halve", "()I"⟩
abbrev cX11_wins : ByteArray := prog_1_method_21_code
def yX11_wins : MethodName := ⟨RX11, "wins", "(II)Z"⟩
abbrev cX11_tell : ByteArray := prog_1_method_22_code
def yX11_tell : MethodName := ⟨RX11, "tell", "(II)I"⟩
abbrev cX11_doorman : ByteArray := prog_1_method_23_code
def yX11_doorman : MethodName := ⟨RX11, "doorman", "(Z)Z"⟩
abbrev cX11_again : ByteArray := prog_1_method_24_code
def yX11_again : MethodName := ⟨RX11, "again", "(I)I"⟩
abbrev cX11_hitsBehind : ByteArray := prog_1_method_25_code
def yX11_hitsBehind : MethodName := ⟨RX11, "hitsBehind", "(I)I"⟩
abbrev cX11_best : ByteArray := prog_1_method_26_code
def yX11_best : MethodName := ⟨RX11, "best", "(Z)I"⟩
abbrev cX11_plain : ByteArray := prog_1_method_27_code
def yX11_plain : MethodName := ⟨RX11, "plain", "(I)I"⟩
abbrev cX11_ideal : ByteArray := prog_1_method_28_code
def yX11_ideal : MethodName := ⟨RX11, "ideal", "(I)I"⟩
abbrev cX11_enough : ByteArray := prog_1_method_29_code
def yX11_enough : MethodName := ⟨RX11, "enough", "(I)I"⟩
abbrev cX11_needed : ByteArray := prog_1_method_30_code
def yX11_needed : MethodName := ⟨RX11, "needed", "(II)I"⟩
abbrev cX11_twin : ByteArray := prog_1_method_31_code
def yX11_twin : MethodName := ⟨RX11, "twin", "(I)I"⟩
abbrev cX11_history : ByteArray := prog_1_method_32_code
def yX11_history : MethodName := ⟨RX11, "history", "(I)I"⟩
abbrev cX11_past : ByteArray := prog_1_method_33_code
def yX11_past : MethodName := ⟨RX11, "past", "(I)I"⟩
abbrev cX11_asked : ByteArray := prog_1_method_34_code
def yX11_asked : MethodName := ⟨RX11, "asked", "(I)I"⟩
abbrev cX11_hot : ByteArray := prog_1_method_35_code
def yX11_hot : MethodName := ⟨RX11, "hot", "(I)I"⟩
abbrev cX11_heat : ByteArray := prog_1_method_36_code
def yX11_heat : MethodName := ⟨RX11, "heat", "(I)I"⟩
abbrev cX11_write : ByteArray := prog_1_method_37_code
def yX11_write : MethodName := ⟨RX11, "write", "()I"⟩
abbrev cX11_octet : ByteArray := prog_1_method_38_code
def yX11_octet : MethodName := ⟨RX11, "octet", "(I)I"⟩
abbrev cX11_keep : ByteArray := prog_1_method_39_code
def yX11_keep : MethodName := ⟨RX11, "keep", "()I"⟩
abbrev cX11_back : ByteArray := prog_1_method_40_code
def yX11_back : MethodName := ⟨RX11, "back", "()I"⟩
abbrev cX11_count : ByteArray := prog_1_method_41_code
def yX11_count : MethodName := ⟨RX11, "count", "(I)I"⟩
abbrev cX11_countMore : ByteArray := prog_1_method_42_code
def yX11_countMore : MethodName := ⟨RX11, "countMore", "(I)I"⟩
abbrev cX11_isKey : ByteArray := prog_1_method_43_code
def yX11_isKey : MethodName := ⟨RX11, "isKey", "(I)Z"⟩
abbrev cX11_isPart : ByteArray := prog_1_method_44_code
def yX11_isPart : MethodName := ⟨RX11, "isPart", "(I)Z"⟩
abbrev cX11_isRoom : ByteArray := prog_1_method_45_code
def yX11_isRoom : MethodName := ⟨RX11, "isRoom", "(I)Z"⟩
abbrev cX11_isSetting : ByteArray := prog_1_method_46_code
def yX11_isSetting : MethodName := ⟨RX11, "isSetting", "(II)Z"⟩
def RX12 : String := "AdmissionDeskModel"
def TX12 : u_T := fun k => match k with
  | 0 => ("AdmissionDeskModel", "now", "[I", true)
  | 1 => ("AdmissionDeskModel", "kept", "[I", true)
  | 2 => ("AdmissionDeskModel", "aside", "[I", true)
  | 3 => ("AdmissionDeskModel", "hasKept", "Z", false)
  | 4 => ("AdmissionDeskModel", "thrown", "I", false)
  | 5 => ("AdmissionDeskModel", "tape", "[B", true)
  | 6 => ("AdmissionDeskModel", "taped", "I", false)
  | 7 => ("AdmissionDeskModel", "five", "[I", true)
  | 8 => ("AdmissionDeskModel", "point", "I", false)
  | 9 => ("AdmissionDeskModel", "begin", "I", false)
  | 10 => ("AdmissionDeskModel", "size", "I", false)
  | 11 => ("AdmissionDeskModel", "faultAt", "I", false)
  | 12 => ("AdmissionDeskModel", "fault", "I", false)
  | 13 => ("AdmissionDeskModel", "deep", "I", false)
  | 14 => ("AdmissionDeskModel", "partsTold", "I", false)
  | 15 => ("AdmissionDeskModel", "coded", "I", false)
  | 16 => ("AdmissionDeskModel", "codes", "[I", true)
  | 17 => ("AdmissionDeskModel", "pile", "[I", true)
  | 18 => ("AdmissionDeskModel", "told", "[I", true)
  | 19 => ("AdmissionDeskModel", "asksTold", "I", false)
  | 20 => ("AdmissionDeskModel", "row", "[I", true)
  | 21 => ("AdmissionDeskModel", "text", "[B", true)
  | _ => ("AdmissionDeskModel", "written", "I", false)
def tyX12 : Nat → FieldType := fun k => match k with
  | 0 => .array .int
  | 1 => .array .int
  | 2 => .array .int
  | 3 => .boolean
  | 4 => .int
  | 5 => .array .byte
  | 6 => .int
  | 7 => .array .int
  | 8 => .int
  | 9 => .int
  | 10 => .int
  | 11 => .int
  | 12 => .int
  | 13 => .int
  | 14 => .int
  | 15 => .int
  | 16 => .array .int
  | 17 => .array .int
  | 18 => .array .int
  | 19 => .int
  | 20 => .array .int
  | 21 => .array .byte
  | _ => .int
abbrev wsX120 : List Cond := u_ws RX12 TX12 23
theorem nmX12 : ∀ a, a < 23 → ∀ b, b < 23 → a ≠ b → (TX12 a).2.1 ≠ (TX12 b).2.1 := by decide +kernel
theorem tyX12_ok : ∀ k, k < 23 → parseFieldDescriptor (TX12 k).2.2.1 = some (tyX12 k) := by decide +kernel
abbrev cX12_thrown : ByteArray := prog_14_method_1_code
def yX12_thrown : MethodName := ⟨RX12, "thrown", "()I"⟩
abbrev cX12_throwsIf : ByteArray := prog_14_method_2_code
def yX12_throwsIf : MethodName := ⟨RX12, "throwsIf", "(ZI)Z"⟩
abbrev cX12_in : ByteArray := prog_14_method_3_code
def yX12_in : MethodName := ⟨RX12, "in", "(III)Z"⟩
abbrev cX12_copies : ByteArray := prog_14_method_4_code
def yX12_copies : MethodName := ⟨RX12, "copies", "([I[I)V"⟩
abbrev cX12_init : ByteArray := prog_14_method_5_code
def yX12_init : MethodName := ⟨RX12, "<init>", "()V"⟩
abbrev cX12_forgetsLatest : ByteArray := prog_14_method_6_code
def yX12_forgetsLatest : MethodName := ⟨RX12, "forgetsLatest", "()V"⟩
abbrev cX12_feed : ByteArray := prog_14_method_7_code
def yX12_feed : MethodName := ⟨RX12, "feed", "(IIIII)I"⟩
abbrev cX12_end : ByteArray := prog_14_method_8_code
def yX12_end : MethodName := ⟨RX12, "end", "(I)Z"⟩
abbrev cX12_begins : ByteArray := prog_14_method_9_code
def yX12_begins : MethodName := ⟨RX12, "begins", "()V"⟩
abbrev cX12_hasFailed : ByteArray := prog_14_method_10_code
def yX12_hasFailed : MethodName := ⟨RX12, "hasFailed", "()Z"⟩
abbrev cX12_isAt : ByteArray := prog_14_method_11_code
def yX12_isAt : MethodName := ⟨RX12, "isAt", "(II)Z"⟩
abbrev cX12_blanks : ByteArray := prog_14_method_12_code
def yX12_blanks : MethodName := ⟨RX12, "blanks", "()V"⟩
abbrev cX12_failsAt : ByteArray := prog_14_method_13_code
def yX12_failsAt : MethodName := ⟨RX12, "failsAt", "(I)V"⟩
abbrev cX12_isSign : ByteArray := prog_14_method_14_code
def yX12_isSign : MethodName := ⟨RX12, "isSign", "(I)Z"⟩
abbrev cX12_takes : ByteArray := prog_14_method_15_code
def yX12_takes : MethodName := ⟨RX12, "takes", "(I)Z"⟩
abbrev cX12_asksSign : ByteArray := prog_14_method_16_code
def yX12_asksSign : MethodName := ⟨RX12, "asksSign", "(I)V"⟩
abbrev cX12_wordMany : ByteArray := prog_14_method_17_code
def yX12_wordMany : MethodName := ⟨RX12, "wordMany", "()I"⟩
abbrev cX12_takesWord : ByteArray := prog_14_method_18_code
def yX12_takesWord : MethodName := ⟨RX12, "takesWord", "(Ljava/lang/String;)Z"⟩
abbrev cX12_isNumber : ByteArray := prog_14_method_19_code
def yX12_isNumber : MethodName := ⟨RX12, "isNumber", "()Z"⟩
abbrev cX12_number : ByteArray := prog_14_method_20_code
def yX12_number : MethodName := ⟨RX12, "number", "(III)I"⟩
abbrev cX12_fault : ByteArray := prog_14_method_21_code
def yX12_fault : MethodName := ⟨RX12, "fault", "()I"⟩
abbrev cX12_codes : ByteArray := prog_14_method_22_code
def yX12_codes : MethodName := ⟨RX12, "codes", "(I)V"⟩
abbrev cX12_some : ByteArray := prog_14_method_23_code
def yX12_some : MethodName := ⟨RX12, "some", "()V"⟩
abbrev cX12_every : ByteArray := prog_14_method_24_code
def yX12_every : MethodName := ⟨RX12, "every", "()V"⟩
abbrev cX12_atom : ByteArray := prog_14_method_25_code
def yX12_atom : MethodName := ⟨RX12, "atom", "()V"⟩
abbrev cX12_sum : ByteArray := prog_14_method_26_code
def yX12_sum : MethodName := ⟨RX12, "sum", "()V"⟩
abbrev cX12_fact : ByteArray := prog_14_method_27_code
def yX12_fact : MethodName := ⟨RX12, "fact", "()I"⟩
abbrev cX12_part : ByteArray := prog_14_method_28_code
def yX12_part : MethodName := ⟨RX12, "part", "()V"⟩
abbrev cX12_law : ByteArray := prog_14_method_29_code
def yX12_law : MethodName := ⟨RX12, "law", "()I"⟩
abbrev cX12_free : ByteArray := prog_14_method_30_code
def yX12_free : MethodName := ⟨RX12, "free", "()Z"⟩
abbrev cX12_factOf : ByteArray := prog_14_method_31_code
def yX12_factOf : MethodName := ⟨RX12, "factOf", "(III)I"⟩
abbrev cX12_doesWin : ByteArray := prog_14_method_32_code
def yX12_doesWin : MethodName := ⟨RX12, "doesWin", "(II)Z"⟩
abbrev cX12_joined : ByteArray := prog_14_method_33_code
def yX12_joined : MethodName := ⟨RX12, "joined", "(III)I"⟩
abbrev cX12_hashed : ByteArray := prog_14_method_34_code
def yX12_hashed : MethodName := ⟨RX12, "hashed", "(II)I"⟩
abbrev cX12_placeOf : ByteArray := prog_14_method_35_code
def yX12_placeOf : MethodName := ⟨RX12, "placeOf", "(II)I"⟩
abbrev cX12_counterAt : ByteArray := prog_14_method_36_code
def yX12_counterAt : MethodName := ⟨RX12, "counterAt", "(II)I"⟩
abbrev cX12_bitAt : ByteArray := prog_14_method_37_code
def yX12_bitAt : MethodName := ⟨RX12, "bitAt", "(II)I"⟩
abbrev cX12_hasNoted : ByteArray := prog_14_method_38_code
def yX12_hasNoted : MethodName := ⟨RX12, "hasNoted", "(I)Z"⟩
abbrev cX12_estimateOf : ByteArray := prog_14_method_39_code
def yX12_estimateOf : MethodName := ⟨RX12, "estimateOf", "(I)I"⟩
abbrev cX12_counts : ByteArray := prog_14_method_40_code
def yX12_counts : MethodName := ⟨RX12, "counts", "(I)V"⟩
abbrev cX12_halves : ByteArray := prog_14_method_41_code
def yX12_halves : MethodName := ⟨RX12, "halves", "()V"⟩
abbrev cX12_partAt : ByteArray := prog_14_method_42_code
def yX12_partAt : MethodName := ⟨RX12, "partAt", "(I)I"⟩
abbrev cX12_many : ByteArray := prog_14_method_43_code
def yX12_many : MethodName := ⟨RX12, "many", "(I)I"⟩
abbrev cX12_keyAt : ByteArray := prog_14_method_44_code
def yX12_keyAt : MethodName := ⟨RX12, "keyAt", "(II)I"⟩
abbrev cX12_isFor : ByteArray := prog_14_method_45_code
def yX12_isFor : MethodName := ⟨RX12, "isFor", "(I)I"⟩
abbrev cX12_mainFor : ByteArray := prog_14_method_46_code
def yX12_mainFor : MethodName := ⟨RX12, "mainFor", "()I"⟩
abbrev cX12_mainMany : ByteArray := prog_14_method_47_code
def yX12_mainMany : MethodName := ⟨RX12, "mainMany", "()I"⟩
abbrev cX12_toFront : ByteArray := prog_14_method_48_code
def yX12_toFront : MethodName := ⟨RX12, "toFront", "(II)V"⟩
abbrev cX12_takesOut : ByteArray := prog_14_method_49_code
def yX12_takesOut : MethodName := ⟨RX12, "takesOut", "(II)I"⟩
abbrev cX12_takesLast : ByteArray := prog_14_method_50_code
def yX12_takesLast : MethodName := ⟨RX12, "takesLast", "(I)I"⟩
abbrev cX12_indexOf : ByteArray := prog_14_method_51_code
def yX12_indexOf : MethodName := ⟨RX12, "indexOf", "(II)I"⟩
abbrev cX12_whereIs : ByteArray := prog_14_method_52_code
def yX12_whereIs : MethodName := ⟨RX12, "whereIs", "(I)I"⟩
abbrev cX12_goesOut : ByteArray := prog_14_method_53_code
def yX12_goesOut : MethodName := ⟨RX12, "goesOut", "(I)V"⟩
abbrev cX12_regrets : ByteArray := prog_14_method_54_code
def yX12_regrets : MethodName := ⟨RX12, "regrets", "(I)V"⟩
abbrev cX12_remembers : ByteArray := prog_14_method_55_code
def yX12_remembers : MethodName := ⟨RX12, "remembers", "(I)V"⟩
abbrev cX12_asks : ByteArray := prog_14_method_56_code
def yX12_asks : MethodName := ⟨RX12, "asks", "(I)I"⟩
abbrev cX12_hits : ByteArray := prog_14_method_57_code
def yX12_hits : MethodName := ⟨RX12, "hits", "(II)V"⟩
abbrev cX12_misses : ByteArray := prog_14_method_58_code
def yX12_misses : MethodName := ⟨RX12, "misses", "(I)V"⟩
abbrev cX12_contests : ByteArray := prog_14_method_59_code
def yX12_contests : MethodName := ⟨RX12, "contests", "(I)V"⟩
abbrev cX12_climbs : ByteArray := prog_14_method_60_code
def yX12_climbs : MethodName := ⟨RX12, "climbs", "(Z)V"⟩
abbrev cX12_fits : ByteArray := prog_14_method_61_code
def yX12_fits : MethodName := ⟨RX12, "fits", "()V"⟩
abbrev cX12_items : ByteArray := prog_14_method_62_code
def yX12_items : MethodName := ⟨RX12, "items", "()V"⟩
abbrev cX12_item : ByteArray := prog_14_method_63_code
def yX12_item : MethodName := ⟨RX12, "item", "()V"⟩
abbrev cX12_trace : ByteArray := prog_14_method_64_code
def yX12_trace : MethodName := ⟨RX12, "trace", "()I"⟩
abbrev cX12_noKey : ByteArray := prog_14_method_65_code
def yX12_noKey : MethodName := ⟨RX12, "noKey", "(I)Z"⟩
abbrev cX12_ask : ByteArray := prog_14_method_66_code
def yX12_ask : MethodName := ⟨RX12, "ask", "(I)I"⟩
abbrev cX12_where : ByteArray := prog_14_method_67_code
def yX12_where : MethodName := ⟨RX12, "where", "(I)I"⟩
abbrev cX12_part_ : ByteArray := prog_14_method_68_code
def yX12_part_ : MethodName := ⟨RX12, "part", "(II)I"⟩
abbrev cX12_at : ByteArray := prog_14_method_69_code
def yX12_at : MethodName := ⟨RX12, "at", "(II)I"⟩
abbrev cX12_latest : ByteArray := prog_14_method_70_code
def yX12_latest : MethodName := ⟨RX12, "latest", "(I)I"⟩
abbrev cX12_out : ByteArray := prog_14_method_71_code
def yX12_out : MethodName := ⟨RX12, "out", "(I)I"⟩
abbrev cX12_estimate : ByteArray := prog_14_method_72_code
def yX12_estimate : MethodName := ⟨RX12, "estimate", "(I)I"⟩
abbrev cX12_place : ByteArray := prog_14_method_73_code
def yX12_place : MethodName := ⟨RX12, "place", "(II)I"⟩
abbrev cX12_counter : ByteArray := prog_14_method_74_code
def yX12_counter : MethodName := ⟨RX12, "counter", "(II)I"⟩
abbrev cX12_meets : ByteArray := prog_14_method_75_code
def yX12_meets : MethodName := ⟨RX12, "meets", "(II)I"⟩
abbrev cX12_noted : ByteArray := prog_14_method_76_code
def yX12_noted : MethodName := ⟨RX12, "noted", "(I)Z"⟩
abbrev cX12_halve : ByteArray := prog_14_method_77_code
def yX12_halve : MethodName := ⟨RX12, "halve", "()I"⟩
abbrev cX12_wins : ByteArray := prog_14_method_78_code
def yX12_wins : MethodName := ⟨RX12, "wins", "(II)Z"⟩
abbrev cX12_isRight : ByteArray := prog_14_method_79_code
def yX12_isRight : MethodName := ⟨RX12, "isRight", "(II)Z"⟩
abbrev cX12_forgetsCounted : ByteArray := prog_14_method_80_code
def yX12_forgetsCounted : MethodName := ⟨RX12, "forgetsCounted", "()V"⟩
abbrev cX12_beginsPeriod : ByteArray := prog_14_method_81_code
def yX12_beginsPeriod : MethodName := ⟨RX12, "beginsPeriod", "()V"⟩
abbrev cX12_tell : ByteArray := prog_14_method_82_code
def yX12_tell : MethodName := ⟨RX12, "tell", "(II)I"⟩
abbrev cX12_doorman : ByteArray := prog_14_method_83_code
def yX12_doorman : MethodName := ⟨RX12, "doorman", "(Z)Z"⟩
abbrev cX12_pastMany : ByteArray := prog_14_method_84_code
def yX12_pastMany : MethodName := ⟨RX12, "pastMany", "()I"⟩
abbrev cX12_pastAt : ByteArray := prog_14_method_85_code
def yX12_pastAt : MethodName := ⟨RX12, "pastAt", "(I)I"⟩
abbrev cX12_againBy : ByteArray := prog_14_method_86_code
def yX12_againBy : MethodName := ⟨RX12, "againBy", "(I)I"⟩
abbrev cX12_again : ByteArray := prog_14_method_87_code
def yX12_again : MethodName := ⟨RX12, "again", "(I)I"⟩
abbrev cX12_best : ByteArray := prog_14_method_88_code
def yX12_best : MethodName := ⟨RX12, "best", "(Z)I"⟩
abbrev cX12_plainBy : ByteArray := prog_14_method_89_code
def yX12_plainBy : MethodName := ⟨RX12, "plainBy", "(I)I"⟩
abbrev cX12_plain : ByteArray := prog_14_method_90_code
def yX12_plain : MethodName := ⟨RX12, "plain", "(I)I"⟩
abbrev cX12_nextAsk : ByteArray := prog_14_method_91_code
def yX12_nextAsk : MethodName := ⟨RX12, "nextAsk", "(II)I"⟩
abbrev cX12_ideal : ByteArray := prog_14_method_92_code
def yX12_ideal : MethodName := ⟨RX12, "ideal", "(I)I"⟩
abbrev cX12_enough : ByteArray := prog_14_method_93_code
def yX12_enough : MethodName := ⟨RX12, "enough", "(I)I"⟩
abbrev cX12_asked : ByteArray := prog_14_method_94_code
def yX12_asked : MethodName := ⟨RX12, "asked", "(I)I"⟩
abbrev cX12_needed : ByteArray := prog_14_method_95_code
def yX12_needed : MethodName := ⟨RX12, "needed", "(II)I"⟩
abbrev cX12_twin : ByteArray := prog_14_method_96_code
def yX12_twin : MethodName := ⟨RX12, "twin", "(I)I"⟩
abbrev cX12_history : ByteArray := prog_14_method_97_code
def yX12_history : MethodName := ⟨RX12, "history", "(I)I"⟩
abbrev cX12_timesOf : ByteArray := prog_14_method_98_code
def yX12_timesOf : MethodName := ⟨RX12, "timesOf", "(I)I"⟩
abbrev cX12_unlikeFrom : ByteArray := prog_14_method_99_code
def yX12_unlikeFrom : MethodName := ⟨RX12, "unlikeFrom", "(I)I"⟩
abbrev cX12_unlike : ByteArray := prog_14_method_100_code
def yX12_unlike : MethodName := ⟨RX12, "unlike", "()I"⟩
abbrev cX12_mostAsked : ByteArray := prog_14_method_101_code
def yX12_mostAsked : MethodName := ⟨RX12, "mostAsked", "()I"⟩
abbrev cX12_past : ByteArray := prog_14_method_102_code
def yX12_past : MethodName := ⟨RX12, "past", "(I)I"⟩
abbrev cX12_hot : ByteArray := prog_14_method_103_code
def yX12_hot : MethodName := ⟨RX12, "hot", "(I)I"⟩
abbrev cX12_heat : ByteArray := prog_14_method_104_code
def yX12_heat : MethodName := ⟨RX12, "heat", "(I)I"⟩
abbrev cX12_says : ByteArray := prog_14_method_105_code
def yX12_says : MethodName := ⟨RX12, "says", "(I)V"⟩
abbrev cX12_saysNumber : ByteArray := prog_14_method_106_code
def yX12_saysNumber : MethodName := ⟨RX12, "saysNumber", "(I)V"⟩
abbrev cX12_runFrom : ByteArray := prog_14_method_107_code
def yX12_runFrom : MethodName := ⟨RX12, "runFrom", "(II)I"⟩
abbrev cX12_write : ByteArray := prog_14_method_108_code
def yX12_write : MethodName := ⟨RX12, "write", "()I"⟩
abbrev cX12_octet : ByteArray := prog_14_method_109_code
def yX12_octet : MethodName := ⟨RX12, "octet", "(I)I"⟩
abbrev cX12_keep : ByteArray := prog_14_method_110_code
def yX12_keep : MethodName := ⟨RX12, "keep", "()I"⟩
abbrev cX12_back : ByteArray := prog_14_method_111_code
def yX12_back : MethodName := ⟨RX12, "back", "()I"⟩
abbrev cX12_sumOf : ByteArray := prog_14_method_112_code
def yX12_sumOf : MethodName := ⟨RX12, "sumOf", "(IIZ)I"⟩
abbrev cX12_count : ByteArray := prog_14_method_113_code
def yX12_count : MethodName := ⟨RX12, "count", "(I)I"⟩
def RJx145de : String := "java/io/Serializable"
def TJx145de : u_T := fun k => match k with
  | _ => ("", "", "", false)
def tyJx145de : Nat → FieldType := fun k => match k with
  | _ => .int
abbrev wsJx145de0 : List Cond := u_ws RJx145de TJx145de 0
theorem nmJx145de : ∀ a, a < 0 → ∀ b, b < 0 → a ≠ b → (TJx145de a).2.1 ≠ (TJx145de b).2.1 := by decide +kernel
theorem tyJx145de_ok : ∀ k, k < 0 → parseFieldDescriptor (TJx145de k).2.2.1 = some (tyJx145de k) := by decide +kernel
def RJx9f9b0 : String := "java/lang/CharSequence"
def TJx9f9b0 : u_T := fun k => match k with
  | _ => ("", "", "", false)
def tyJx9f9b0 : Nat → FieldType := fun k => match k with
  | _ => .int
abbrev wsJx9f9b00 : List Cond := u_ws RJx9f9b0 TJx9f9b0 0
theorem nmJx9f9b0 : ∀ a, a < 0 → ∀ b, b < 0 → a ≠ b → (TJx9f9b0 a).2.1 ≠ (TJx9f9b0 b).2.1 := by decide +kernel
theorem tyJx9f9b0_ok : ∀ k, k < 0 → parseFieldDescriptor (TJx9f9b0 k).2.2.1 = some (tyJx9f9b0 k) := by decide +kernel
def RJxb160c : String := "java/lang/Comparable"
def TJxb160c : u_T := fun k => match k with
  | _ => ("", "", "", false)
def tyJxb160c : Nat → FieldType := fun k => match k with
  | _ => .int
abbrev wsJxb160c0 : List Cond := u_ws RJxb160c TJxb160c 0
theorem nmJxb160c : ∀ a, a < 0 → ∀ b, b < 0 → a ≠ b → (TJxb160c a).2.1 ≠ (TJxb160c b).2.1 := by decide +kernel
theorem tyJxb160c_ok : ∀ k, k < 0 → parseFieldDescriptor (TJxb160c k).2.2.1 = some (tyJxb160c k) := by decide +kernel
def RJ9 : String := "java/lang/Math"
def TJ9 : u_T := fun k => match k with
  | _ => ("", "", "", false)
def tyJ9 : Nat → FieldType := fun k => match k with
  | _ => .int
abbrev wsJ90 : List Cond := u_ws RJ9 TJ9 0
theorem nmJ9 : ∀ a, a < 0 → ∀ b, b < 0 → a ≠ b → (TJ9 a).2.1 ≠ (TJ9 b).2.1 := by decide +kernel
theorem tyJ9_ok : ∀ k, k < 0 → parseFieldDescriptor (TJ9 k).2.2.1 = some (tyJ9 k) := by decide +kernel
abbrev cJ9_max_7cf53 : ByteArray := prog_21_method_65_code
def yJ9_max_7cf53 : MethodName := ⟨RJ9, "max", "(II)I"⟩
abbrev cJ9_min_7cf53 : ByteArray := prog_21_method_69_code
def yJ9_min_7cf53 : MethodName := ⟨RJ9, "min", "(II)I"⟩
def RJ0 : String := "java/lang/String"
def TJ0 : u_T := fun k => match k with
  | _ => ("", "", "", false)
def tyJ0 : Nat → FieldType := fun k => match k with
  | _ => .int
abbrev wsJ00 : List Cond := u_ws RJ0 TJ0 0
theorem nmJ0 : ∀ a, a < 0 → ∀ b, b < 0 → a ≠ b → (TJ0 a).2.1 ≠ (TJ0 b).2.1 := by decide +kernel
theorem tyJ0_ok : ∀ k, k < 0 → parseFieldDescriptor (TJ0 k).2.2.1 = some (tyJ0 k) := by decide +kernel
abbrev cJ0_length_8abf5 : ByteArray := prog_23_method_54_code
def yJ0_length_8abf5 : MethodName := ⟨RJ0, "length", "()I"⟩
abbrev cJ0_charAt_5068e : ByteArray := prog_23_method_56_code
def yJ0_charAt_5068e : MethodName := ⟨RJ0, "charAt", "(I)C"⟩
abbrev cJ0_coder_7d493 : ByteArray := prog_23_method_152_code
def yJ0_coder_7d493 : MethodName := ⟨RJ0, "coder", "()B"⟩
abbrev cJ0_isLatin1_aae02 : ByteArray := prog_23_method_154_code
def yJ0_isLatin1_aae02 : MethodName := ⟨RJ0, "isLatin1", "()Z"⟩
abbrev cJ0_checkIndex_df160 : ByteArray := prog_23_method_155_code
def yJ0_checkIndex_df160 : MethodName := ⟨RJ0, "checkIndex", "(II)V"⟩
def RJ1 : String := "java/lang/StringLatin1"
def TJ1 : u_T := fun k => match k with
  | _ => ("", "", "", false)
def tyJ1 : Nat → FieldType := fun k => match k with
  | _ => .int
abbrev wsJ10 : List Cond := u_ws RJ1 TJ1 0
theorem nmJ1 : ∀ a, a < 0 → ∀ b, b < 0 → a ≠ b → (TJ1 a).2.1 ≠ (TJ1 b).2.1 := by decide +kernel
theorem tyJ1_ok : ∀ k, k < 0 → parseFieldDescriptor (TJ1 k).2.2.1 = some (tyJ1 k) := by decide +kernel
abbrev cJ1_charAt_3b067 : ByteArray := prog_24_method_2_code
def yJ1_charAt_3b067 : MethodName := ⟨RJ1, "charAt", "([BI)C"⟩
def RJ2 : String := "java/lang/StringUTF16"
def TJ2 : u_T := fun k => match k with
  | _ => ("", "", "", false)
def tyJ2 : Nat → FieldType := fun k => match k with
  | _ => .int
abbrev wsJ20 : List Cond := u_ws RJ2 TJ2 0
theorem nmJ2 : ∀ a, a < 0 → ∀ b, b < 0 → a ≠ b → (TJ2 a).2.1 ≠ (TJ2 b).2.1 := by decide +kernel
theorem tyJ2_ok : ∀ k, k < 0 → parseFieldDescriptor (TJ2 k).2.2.1 = some (tyJ2 k) := by decide +kernel
abbrev cJ2_getChar_3b067 : ByteArray := prog_25_method_5_code
def yJ2_getChar_3b067 : MethodName := ⟨RJ2, "getChar", "([BI)C"⟩
abbrev cJ2_length_9d52b : ByteArray := prog_25_method_6_code
def yJ2_length_9d52b : MethodName := ⟨RJ2, "length", "([B)I"⟩
abbrev cJ2_charAt_3b067 : ByteArray := prog_25_method_83_code
def yJ2_charAt_3b067 : MethodName := ⟨RJ2, "charAt", "([BI)C"⟩
abbrev cJ2_checkIndex_2214a : ByteArray := prog_25_method_91_code
def yJ2_checkIndex_2214a : MethodName := ⟨RJ2, "checkIndex", "(I[B)V"⟩
def RJ10 : String := "java/lang/System"
def TJ10 : u_T := fun k => match k with
  | _ => ("", "", "", false)
def tyJ10 : Nat → FieldType := fun k => match k with
  | _ => .int
abbrev wsJ100 : List Cond := u_ws RJ10 TJ10 0
theorem nmJ10 : ∀ a, a < 0 → ∀ b, b < 0 → a ≠ b → (TJ10 a).2.1 ≠ (TJ10 b).2.1 := by decide +kernel
theorem tyJ10_ok : ∀ k, k < 0 → parseFieldDescriptor (TJ10 k).2.2.1 = some (tyJ10 k) := by decide +kernel
def RJxfd54e : String := "java/lang/constant/Constable"
def TJxfd54e : u_T := fun k => match k with
  | _ => ("", "", "", false)
def tyJxfd54e : Nat → FieldType := fun k => match k with
  | _ => .int
abbrev wsJxfd54e0 : List Cond := u_ws RJxfd54e TJxfd54e 0
theorem nmJxfd54e : ∀ a, a < 0 → ∀ b, b < 0 → a ≠ b → (TJxfd54e a).2.1 ≠ (TJxfd54e b).2.1 := by decide +kernel
theorem tyJxfd54e_ok : ∀ k, k < 0 → parseFieldDescriptor (TJxfd54e k).2.2.1 = some (tyJxfd54e k) := by decide +kernel
def RJx3cf43 : String := "java/lang/constant/ConstantDesc"
def TJx3cf43 : u_T := fun k => match k with
  | _ => ("", "", "", false)
def tyJx3cf43 : Nat → FieldType := fun k => match k with
  | _ => .int
abbrev wsJx3cf430 : List Cond := u_ws RJx3cf43 TJx3cf43 0
theorem nmJx3cf43 : ∀ a, a < 0 → ∀ b, b < 0 → a ≠ b → (TJx3cf43 a).2.1 ≠ (TJx3cf43 b).2.1 := by decide +kernel
theorem tyJx3cf43_ok : ∀ k, k < 0 → parseFieldDescriptor (TJx3cf43 k).2.2.1 = some (tyJx3cf43 k) := by decide +kernel
def RJ3 : String := "jdk/internal/util/Preconditions"
def TJ3 : u_T := fun k => match k with
  | _ => ("", "", "", false)
def tyJ3 : Nat → FieldType := fun k => match k with
  | _ => .int
abbrev wsJ30 : List Cond := u_ws RJ3 TJ3 0
theorem nmJ3 : ∀ a, a < 0 → ∀ b, b < 0 → a ≠ b → (TJ3 a).2.1 ≠ (TJ3 b).2.1 := by decide +kernel
theorem tyJ3_ok : ∀ k, k < 0 → parseFieldDescriptor (TJ3 k).2.2.1 = some (tyJ3 k) := by decide +kernel
abbrev cJ3_checkIndex_8e157 : ByteArray := prog_31_method_11_code
def yJ3_checkIndex_8e157 : MethodName := ⟨RJ3, "checkIndex", "(IILjava/util/function/BiFunction;)I"⟩
def RL : String := "AdmissionDeskLaw"
abbrev cL_law : ByteArray := method_3_code
def yL_law : MethodName := ⟨RL, "law", "(LAdmissionDesk;[J)I"⟩
abbrev cL_trace : ByteArray := method_4_code
def yL_trace : MethodName := ⟨RL, "trace", "(LAdmissionDesk;[J)I"⟩
abbrev cL_ask : ByteArray := method_5_code
def yL_ask : MethodName := ⟨RL, "ask", "(LAdmissionDesk;I[J)I"⟩
abbrev cL_where : ByteArray := method_6_code
def yL_where : MethodName := ⟨RL, "where", "(LAdmissionDesk;I[J)I"⟩
abbrev cL_part : ByteArray := method_7_code
def yL_part : MethodName := ⟨RL, "part", "(LAdmissionDesk;II[J)I"⟩
abbrev cL_at : ByteArray := method_8_code
def yL_at : MethodName := ⟨RL, "at", "(LAdmissionDesk;II[J)I"⟩
abbrev cL_latest : ByteArray := method_9_code
def yL_latest : MethodName := ⟨RL, "latest", "(LAdmissionDesk;I[J)I"⟩
abbrev cL_estimate : ByteArray := method_10_code
def yL_estimate : MethodName := ⟨RL, "estimate", "(LAdmissionDesk;I[J)I"⟩
abbrev cL_place : ByteArray := method_11_code
def yL_place : MethodName := ⟨RL, "place", "(LAdmissionDesk;II[J)I"⟩
abbrev cL_counter : ByteArray := method_12_code
def yL_counter : MethodName := ⟨RL, "counter", "(LAdmissionDesk;II[J)I"⟩
abbrev cL_meets : ByteArray := method_13_code
def yL_meets : MethodName := ⟨RL, "meets", "(LAdmissionDesk;II[J)I"⟩
abbrev cL_noted : ByteArray := method_14_code
def yL_noted : MethodName := ⟨RL, "noted", "(LAdmissionDesk;I[J)I"⟩
abbrev cL_wins : ByteArray := method_15_code
def yL_wins : MethodName := ⟨RL, "wins", "(LAdmissionDesk;II[J)I"⟩
abbrev cL_tell : ByteArray := method_16_code
def yL_tell : MethodName := ⟨RL, "tell", "(LAdmissionDesk;II[J)I"⟩
abbrev cL_again : ByteArray := method_17_code
def yL_again : MethodName := ⟨RL, "again", "(LAdmissionDesk;I[J)I"⟩
abbrev cL_plain : ByteArray := method_18_code
def yL_plain : MethodName := ⟨RL, "plain", "(LAdmissionDesk;I[J)I"⟩
abbrev cL_ideal : ByteArray := method_19_code
def yL_ideal : MethodName := ⟨RL, "ideal", "(LAdmissionDesk;I[J)I"⟩
abbrev cL_needed : ByteArray := method_20_code
def yL_needed : MethodName := ⟨RL, "needed", "(LAdmissionDesk;II[J)I"⟩
abbrev cL_twin : ByteArray := method_21_code
def yL_twin : MethodName := ⟨RL, "twin", "(LAdmissionDesk;I[J)I"⟩
abbrev cL_past : ByteArray := method_22_code
def yL_past : MethodName := ⟨RL, "past", "(LAdmissionDesk;I[J)I"⟩
abbrev cL_asked : ByteArray := method_23_code
def yL_asked : MethodName := ⟨RL, "asked", "(LAdmissionDesk;I[J)I"⟩
abbrev cL_back : ByteArray := method_24_code
def yL_back : MethodName := ⟨RL, "back", "(LAdmissionDesk;[J)I"⟩
abbrev cL_law_ : ByteArray := code
def yL_law_ : MethodName := ⟨RL, "law", "([I)Z"⟩
/-- the classes whose objects the pure heap holds -/
def pm_cl : List vw_C := [(RX0, TX0, 5), (RX1, TX1, 4), (RX2, TX2, 18), (RX3, TX3, 3), (RX4, TX4, 2), (RX5, TX5, 3), (RX6, TX6, 2), (RX7, TX7, 3), (RX8, TX8, 7), (RX9, TX9, 6), (RX10, TX10, 2), (RX11, TX11, 10), (RX12, TX12, 23)]
def pm_ty (ci : Nat) : Nat → FieldType := match ci with
  | 0 => tyX0
  | 1 => tyX1
  | 2 => tyX2
  | 3 => tyX3
  | 4 => tyX4
  | 5 => tyX5
  | 6 => tyX6
  | 7 => tyX7
  | 8 => tyX8
  | 9 => tyX9
  | 10 => tyX10
  | 11 => tyX11
  | _ => tyX12
theorem pm_u0 : ∀ w ∈ u_ws RX0 TX0 5, w ∈ lw_tbl ∧ goodWord w = true := by decide +kernel
theorem pm_u1 : ∀ w ∈ u_ws RX1 TX1 4, w ∈ lw_tbl ∧ goodWord w = true := by decide +kernel
theorem pm_u2 : ∀ w ∈ u_ws RX2 TX2 18, w ∈ lw_tbl ∧ goodWord w = true := by decide +kernel
theorem pm_u3 : ∀ w ∈ u_ws RX3 TX3 3, w ∈ lw_tbl ∧ goodWord w = true := by decide +kernel
theorem pm_u4 : ∀ w ∈ u_ws RX4 TX4 2, w ∈ lw_tbl ∧ goodWord w = true := by decide +kernel
theorem pm_u5 : ∀ w ∈ u_ws RX5 TX5 3, w ∈ lw_tbl ∧ goodWord w = true := by decide +kernel
theorem pm_u6 : ∀ w ∈ u_ws RX6 TX6 2, w ∈ lw_tbl ∧ goodWord w = true := by decide +kernel
theorem pm_u7 : ∀ w ∈ u_ws RX7 TX7 3, w ∈ lw_tbl ∧ goodWord w = true := by decide +kernel
theorem pm_u8 : ∀ w ∈ u_ws RX8 TX8 7, w ∈ lw_tbl ∧ goodWord w = true := by decide +kernel
theorem pm_u9 : ∀ w ∈ u_ws RX9 TX9 6, w ∈ lw_tbl ∧ goodWord w = true := by decide +kernel
theorem pm_u10 : ∀ w ∈ u_ws RX10 TX10 2, w ∈ lw_tbl ∧ goodWord w = true := by decide +kernel
theorem pm_u11 : ∀ w ∈ u_ws RX11 TX11 10, w ∈ lw_tbl ∧ goodWord w = true := by decide +kernel
theorem pm_u12 : ∀ w ∈ u_ws RX12 TX12 23, w ∈ lw_tbl ∧ goodWord w = true := by decide +kernel
theorem pm_clOK : ∀ ci q, pm_cl[ci]? = some q → (∀ w ∈ u_ws q.1 q.2.1 q.2.2, w ∈ lw_tbl ∧ goodWord w = true) ∧ (∀ k, k < q.2.2 → parseFieldDescriptor (q.2.1 k).2.2.1 = some (pm_ty ci k)) ∧ (∀ a, a < q.2.2 → ∀ b, b < q.2.2 → a ≠ b → (q.2.1 a).2.1 ≠ (q.2.1 b).2.1) ∧ (∀ k, k < q.2.2 → (q.2.1 k).1 = q.1) := by
  intro ci q h
  match ci, h with
  | 0, h => cases h; exact ⟨pm_u0, tyX0_ok, nmX0, by decide +kernel⟩
  | 1, h => cases h; exact ⟨pm_u1, tyX1_ok, nmX1, by decide +kernel⟩
  | 2, h => cases h; exact ⟨pm_u2, tyX2_ok, nmX2, by decide +kernel⟩
  | 3, h => cases h; exact ⟨pm_u3, tyX3_ok, nmX3, by decide +kernel⟩
  | 4, h => cases h; exact ⟨pm_u4, tyX4_ok, nmX4, by decide +kernel⟩
  | 5, h => cases h; exact ⟨pm_u5, tyX5_ok, nmX5, by decide +kernel⟩
  | 6, h => cases h; exact ⟨pm_u6, tyX6_ok, nmX6, by decide +kernel⟩
  | 7, h => cases h; exact ⟨pm_u7, tyX7_ok, nmX7, by decide +kernel⟩
  | 8, h => cases h; exact ⟨pm_u8, tyX8_ok, nmX8, by decide +kernel⟩
  | 9, h => cases h; exact ⟨pm_u9, tyX9_ok, nmX9, by decide +kernel⟩
  | 10, h => cases h; exact ⟨pm_u10, tyX10_ok, nmX10, by decide +kernel⟩
  | 11, h => cases h; exact ⟨pm_u11, tyX11_ok, nmX11, by decide +kernel⟩
  | 12, h => cases h; exact ⟨pm_u12, tyX12_ok, nmX12, by decide +kernel⟩
  | _ + 13, h => simp [pm_cl] at h
