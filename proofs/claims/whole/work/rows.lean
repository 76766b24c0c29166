section
-- ===== PART A: goes FIRST, ahead of the names: the tables' words, and 'selects' of the private methods out of them =====
/-- a private method of a class that the tables say can be made, by its rows of tables_1 -/
def lw_okq (q : MethodName × Nat) : Prop := (q.1.cls ≠ "java/lang/invoke/MethodHandle" ∧ q.1.cls ≠ "java/lang/invoke/VarHandle") ∧ Cond.instantiable q.1.cls q.2 ∈ tables_1 ∧ Cond.privateMethod q.1 ∈ tables_1 ∧ Cond.instanceMethod q.1 ∈ tables_1
theorem lw_p0 : lw_okq (⟨"CobblePorts$RouteSearch", "planTrips", "(LCobblePorts$State;)V"⟩, 7) := ⟨⟨by decide +kernel, by decide +kernel⟩, List.mem_of_getElem? (i := 321) (by decide +kernel), List.mem_of_getElem? (i := 440) (by decide +kernel), List.mem_of_getElem? (i := 441) (by decide +kernel)⟩
theorem lw_p1 : lw_okq (⟨"CobblePorts$RouteSearch", "tryLegs", "(LCobblePorts$World;LCobblePorts$State;I)V"⟩, 7) := ⟨⟨by decide +kernel, by decide +kernel⟩, List.mem_of_getElem? (i := 321) (by decide +kernel), List.mem_of_getElem? (i := 445) (by decide +kernel), List.mem_of_getElem? (i := 446) (by decide +kernel)⟩
theorem lw_p2 : lw_okq (⟨"CobblePorts$RouteSearch", "judge", "(LCobblePorts$World;LCobblePorts$State;)V"⟩, 7) := ⟨⟨by decide +kernel, by decide +kernel⟩, List.mem_of_getElem? (i := 321) (by decide +kernel), List.mem_of_getElem? (i := 449) (by decide +kernel), List.mem_of_getElem? (i := 450) (by decide +kernel)⟩
theorem lw_p3 : lw_okq (⟨"CobblePorts$RouteSearch", "judgeMud", "(LCobblePorts$World;LCobblePorts$State;)V"⟩, 7) := ⟨⟨by decide +kernel, by decide +kernel⟩, List.mem_of_getElem? (i := 321) (by decide +kernel), List.mem_of_getElem? (i := 453) (by decide +kernel), List.mem_of_getElem? (i := 454) (by decide +kernel)⟩
theorem lw_p4 : lw_okq (⟨"CobblePorts$RouteSearch", "keepTried", "()V"⟩, 7) := ⟨⟨by decide +kernel, by decide +kernel⟩, List.mem_of_getElem? (i := 321) (by decide +kernel), List.mem_of_getElem? (i := 469) (by decide +kernel), List.mem_of_getElem? (i := 470) (by decide +kernel)⟩
theorem lw_p5 : lw_okq (⟨"CobblePorts$Streets", "squarestPlace", "(LCobblePorts$World;I)I"⟩, 3) := ⟨⟨by decide +kernel, by decide +kernel⟩, List.mem_of_getElem? (i := 193) (by decide +kernel), List.mem_of_getElem? (i := 494) (by decide +kernel), List.mem_of_getElem? (i := 495) (by decide +kernel)⟩
theorem lw_p6 : lw_okq (⟨"CobblePorts$Streets", "lastPlaceOfOrigin", "(LCobblePorts$World;II)I"⟩, 3) := ⟨⟨by decide +kernel, by decide +kernel⟩, List.mem_of_getElem? (i := 193) (by decide +kernel), List.mem_of_getElem? (i := 502) (by decide +kernel), List.mem_of_getElem? (i := 503) (by decide +kernel)⟩
theorem lw_p7 : lw_okq (⟨"CobblePorts", "keepLoads", "()V"⟩, 9) := ⟨⟨by decide +kernel, by decide +kernel⟩, List.mem_of_getElem? (i := 25) (by decide +kernel), List.mem_of_getElem? (i := 507) (by decide +kernel), List.mem_of_getElem? (i := 508) (by decide +kernel)⟩
theorem lw_p8 : lw_okq (⟨"java/lang/Throwable", "fillInStackTrace", "(I)Ljava/lang/Throwable;"⟩, 6) := ⟨⟨by decide +kernel, by decide +kernel⟩, List.mem_of_getElem? (i := 579) (by decide +kernel), List.mem_of_getElem? (i := 577) (by decide +kernel), List.mem_of_getElem? (i := 578) (by decide +kernel)⟩
theorem lw_p9 : lw_okq (⟨"CobblePorts$WorldParser", "takeLine", "()Z"⟩, 5) := ⟨⟨by decide +kernel, by decide +kernel⟩, List.mem_of_getElem? (i := 33) (by decide +kernel), List.mem_of_getElem? (i := 636) (by decide +kernel), List.mem_of_getElem? (i := 637) (by decide +kernel)⟩
theorem lw_p10 : lw_okq (⟨"CobblePorts$WorldParser", "takePortLine", "()Z"⟩, 5) := ⟨⟨by decide +kernel, by decide +kernel⟩, List.mem_of_getElem? (i := 33) (by decide +kernel), List.mem_of_getElem? (i := 693) (by decide +kernel), List.mem_of_getElem? (i := 694) (by decide +kernel)⟩
theorem lw_p11 : lw_okq (⟨"CobblePorts$WorldParser", "refuse", "(I)Z"⟩, 5) := ⟨⟨by decide +kernel, by decide +kernel⟩, List.mem_of_getElem? (i := 33) (by decide +kernel), List.mem_of_getElem? (i := 697) (by decide +kernel), List.mem_of_getElem? (i := 698) (by decide +kernel)⟩
theorem lw_p12 : lw_okq (⟨"CobblePorts$WorldParser", "takeNumber", "(II)Z"⟩, 5) := ⟨⟨by decide +kernel, by decide +kernel⟩, List.mem_of_getElem? (i := 33) (by decide +kernel), List.mem_of_getElem? (i := 702) (by decide +kernel), List.mem_of_getElem? (i := 703) (by decide +kernel)⟩
theorem lw_p13 : lw_okq (⟨"CobblePorts$WorldParser", "takeStonesLine", "()Z"⟩, 5) := ⟨⟨by decide +kernel, by decide +kernel⟩, List.mem_of_getElem? (i := 33) (by decide +kernel), List.mem_of_getElem? (i := 712) (by decide +kernel), List.mem_of_getElem? (i := 713) (by decide +kernel)⟩
theorem lw_p14 : lw_okq (⟨"CobblePorts$WorldParser", "takeToldPort", "()Z"⟩, 5) := ⟨⟨by decide +kernel, by decide +kernel⟩, List.mem_of_getElem? (i := 33) (by decide +kernel), List.mem_of_getElem? (i := 716) (by decide +kernel), List.mem_of_getElem? (i := 717) (by decide +kernel)⟩
theorem lw_p15 : lw_okq (⟨"CobblePorts$WorldParser", "takeTariffLine", "()Z"⟩, 5) := ⟨⟨by decide +kernel, by decide +kernel⟩, List.mem_of_getElem? (i := 33) (by decide +kernel), List.mem_of_getElem? (i := 726) (by decide +kernel), List.mem_of_getElem? (i := 727) (by decide +kernel)⟩
def lw_privs_1 : List (MethodName × Nat) := [(⟨"CobblePorts$RouteSearch", "planTrips", "(LCobblePorts$State;)V"⟩, 7), (⟨"CobblePorts$RouteSearch", "tryLegs", "(LCobblePorts$World;LCobblePorts$State;I)V"⟩, 7), (⟨"CobblePorts$RouteSearch", "judge", "(LCobblePorts$World;LCobblePorts$State;)V"⟩, 7), (⟨"CobblePorts$RouteSearch", "judgeMud", "(LCobblePorts$World;LCobblePorts$State;)V"⟩, 7), (⟨"CobblePorts$RouteSearch", "keepTried", "()V"⟩, 7), (⟨"CobblePorts$Streets", "squarestPlace", "(LCobblePorts$World;I)I"⟩, 3), (⟨"CobblePorts$Streets", "lastPlaceOfOrigin", "(LCobblePorts$World;II)I"⟩, 3), (⟨"CobblePorts", "keepLoads", "()V"⟩, 9), (⟨"java/lang/Throwable", "fillInStackTrace", "(I)Ljava/lang/Throwable;"⟩, 6), (⟨"CobblePorts$WorldParser", "takeLine", "()Z"⟩, 5), (⟨"CobblePorts$WorldParser", "takePortLine", "()Z"⟩, 5), (⟨"CobblePorts$WorldParser", "refuse", "(I)Z"⟩, 5), (⟨"CobblePorts$WorldParser", "takeNumber", "(II)Z"⟩, 5), (⟨"CobblePorts$WorldParser", "takeStonesLine", "()Z"⟩, 5), (⟨"CobblePorts$WorldParser", "takeToldPort", "()Z"⟩, 5), (⟨"CobblePorts$WorldParser", "takeTariffLine", "()Z"⟩, 5)]
theorem lw_r1 : ∀ q ∈ lw_privs_1, lw_okq q := List.forall_mem_cons.mpr ⟨lw_p0, List.forall_mem_cons.mpr ⟨lw_p1, List.forall_mem_cons.mpr ⟨lw_p2, List.forall_mem_cons.mpr ⟨lw_p3, List.forall_mem_cons.mpr ⟨lw_p4, List.forall_mem_cons.mpr ⟨lw_p5, List.forall_mem_cons.mpr ⟨lw_p6, List.forall_mem_cons.mpr ⟨lw_p7, List.forall_mem_cons.mpr ⟨lw_p8, List.forall_mem_cons.mpr ⟨lw_p9, List.forall_mem_cons.mpr ⟨lw_p10, List.forall_mem_cons.mpr ⟨lw_p11, List.forall_mem_cons.mpr ⟨lw_p12, List.forall_mem_cons.mpr ⟨lw_p13, List.forall_mem_cons.mpr ⟨lw_p14, List.forall_mem_cons.mpr ⟨lw_p15, fun _ h => absurd h List.not_mem_nil⟩⟩⟩⟩⟩⟩⟩⟩⟩⟩⟩⟩⟩⟩⟩⟩
theorem lw_p16 : lw_okq (⟨"CobblePorts$WorldParser", "takeExpr", "(I)Z"⟩, 5) := ⟨⟨by decide +kernel, by decide +kernel⟩, List.mem_of_getElem? (i := 33) (by decide +kernel), List.mem_of_getElem? (i := 730) (by decide +kernel), List.mem_of_getElem? (i := 731) (by decide +kernel)⟩
theorem lw_p17 : lw_okq (⟨"CobblePorts$WorldParser", "takeAnd", "(I)Z"⟩, 5) := ⟨⟨by decide +kernel, by decide +kernel⟩, List.mem_of_getElem? (i := 33) (by decide +kernel), List.mem_of_getElem? (i := 738) (by decide +kernel), List.mem_of_getElem? (i := 739) (by decide +kernel)⟩
theorem lw_p18 : lw_okq (⟨"CobblePorts$WorldParser", "takeNot", "(I)Z"⟩, 5) := ⟨⟨by decide +kernel, by decide +kernel⟩, List.mem_of_getElem? (i := 33) (by decide +kernel), List.mem_of_getElem? (i := 742) (by decide +kernel), List.mem_of_getElem? (i := 743) (by decide +kernel)⟩
theorem lw_p19 : lw_okq (⟨"CobblePorts$WorldParser", "takeTest", "(I)Z"⟩, 5) := ⟨⟨by decide +kernel, by decide +kernel⟩, List.mem_of_getElem? (i := 33) (by decide +kernel), List.mem_of_getElem? (i := 747) (by decide +kernel), List.mem_of_getElem? (i := 748) (by decide +kernel)⟩
theorem lw_p20 : lw_okq (⟨"CobblePorts$WorldParser", "takeSum", "(I)Z"⟩, 5) := ⟨⟨by decide +kernel, by decide +kernel⟩, List.mem_of_getElem? (i := 33) (by decide +kernel), List.mem_of_getElem? (i := 751) (by decide +kernel), List.mem_of_getElem? (i := 752) (by decide +kernel)⟩
theorem lw_p21 : lw_okq (⟨"CobblePorts$WorldParser", "takeProduct", "(I)Z"⟩, 5) := ⟨⟨by decide +kernel, by decide +kernel⟩, List.mem_of_getElem? (i := 33) (by decide +kernel), List.mem_of_getElem? (i := 755) (by decide +kernel), List.mem_of_getElem? (i := 756) (by decide +kernel)⟩
theorem lw_p22 : lw_okq (⟨"CobblePorts$WorldParser", "takePart", "(I)Z"⟩, 5) := ⟨⟨by decide +kernel, by decide +kernel⟩, List.mem_of_getElem? (i := 33) (by decide +kernel), List.mem_of_getElem? (i := 759) (by decide +kernel), List.mem_of_getElem? (i := 760) (by decide +kernel)⟩
theorem lw_p23 : lw_okq (⟨"CobblePorts$WorldParser", "takeSign", "(C)Z"⟩, 5) := ⟨⟨by decide +kernel, by decide +kernel⟩, List.mem_of_getElem? (i := 33) (by decide +kernel), List.mem_of_getElem? (i := 763) (by decide +kernel), List.mem_of_getElem? (i := 764) (by decide +kernel)⟩
theorem lw_p24 : lw_okq (⟨"CobblePorts$WorldParser", "valueNamed", "()I"⟩, 5) := ⟨⟨by decide +kernel, by decide +kernel⟩, List.mem_of_getElem? (i := 33) (by decide +kernel), List.mem_of_getElem? (i := 771) (by decide +kernel), List.mem_of_getElem? (i := 772) (by decide +kernel)⟩
theorem lw_p25 : lw_okq (⟨"CobblePorts$WorldParser", "kindNamed", "()I"⟩, 5) := ⟨⟨by decide +kernel, by decide +kernel⟩, List.mem_of_getElem? (i := 33) (by decide +kernel), List.mem_of_getElem? (i := 783) (by decide +kernel), List.mem_of_getElem? (i := 784) (by decide +kernel)⟩
theorem lw_p26 : lw_okq (⟨"CobblePorts$WorldParser", "takeShipLine", "(I)Z"⟩, 5) := ⟨⟨by decide +kernel, by decide +kernel⟩, List.mem_of_getElem? (i := 33) (by decide +kernel), List.mem_of_getElem? (i := 791) (by decide +kernel), List.mem_of_getElem? (i := 792) (by decide +kernel)⟩
theorem lw_p27 : lw_okq (⟨"CobblePorts", "mustBePort", "(I)V"⟩, 9) := ⟨⟨by decide +kernel, by decide +kernel⟩, List.mem_of_getElem? (i := 25) (by decide +kernel), List.mem_of_getElem? (i := 861) (by decide +kernel), List.mem_of_getElem? (i := 862) (by decide +kernel)⟩
theorem lw_p28 : lw_okq (⟨"CobblePorts", "mustBeStone", "(I)V"⟩, 9) := ⟨⟨by decide +kernel, by decide +kernel⟩, List.mem_of_getElem? (i := 25) (by decide +kernel), List.mem_of_getElem? (i := 880) (by decide +kernel), List.mem_of_getElem? (i := 881) (by decide +kernel)⟩
theorem lw_p29 : lw_okq (⟨"CobblePorts$Voyages", "hasLaid", "(II)Z"⟩, 6) := ⟨⟨by decide +kernel, by decide +kernel⟩, List.mem_of_getElem? (i := 212) (by decide +kernel), List.mem_of_getElem? (i := 893) (by decide +kernel), List.mem_of_getElem? (i := 894) (by decide +kernel)⟩
theorem lw_p30 : lw_okq (⟨"CobblePorts", "mustBeShip", "(I)V"⟩, 9) := ⟨⟨by decide +kernel, by decide +kernel⟩, List.mem_of_getElem? (i := 25) (by decide +kernel), List.mem_of_getElem? (i := 923) (by decide +kernel), List.mem_of_getElem? (i := 924) (by decide +kernel)⟩
theorem lw_p31 : lw_okq (⟨"CobblePorts$Voyages", "noteLaid", "(LCobblePorts$World;LCobblePorts$Streets;LCobblePorts$Trip;)I"⟩, 6) := ⟨⟨by decide +kernel, by decide +kernel⟩, List.mem_of_getElem? (i := 212) (by decide +kernel), List.mem_of_getElem? (i := 947) (by decide +kernel), List.mem_of_getElem? (i := 948) (by decide +kernel)⟩
def lw_privs_2 : List (MethodName × Nat) := [(⟨"CobblePorts$WorldParser", "takeExpr", "(I)Z"⟩, 5), (⟨"CobblePorts$WorldParser", "takeAnd", "(I)Z"⟩, 5), (⟨"CobblePorts$WorldParser", "takeNot", "(I)Z"⟩, 5), (⟨"CobblePorts$WorldParser", "takeTest", "(I)Z"⟩, 5), (⟨"CobblePorts$WorldParser", "takeSum", "(I)Z"⟩, 5), (⟨"CobblePorts$WorldParser", "takeProduct", "(I)Z"⟩, 5), (⟨"CobblePorts$WorldParser", "takePart", "(I)Z"⟩, 5), (⟨"CobblePorts$WorldParser", "takeSign", "(C)Z"⟩, 5), (⟨"CobblePorts$WorldParser", "valueNamed", "()I"⟩, 5), (⟨"CobblePorts$WorldParser", "kindNamed", "()I"⟩, 5), (⟨"CobblePorts$WorldParser", "takeShipLine", "(I)Z"⟩, 5), (⟨"CobblePorts", "mustBePort", "(I)V"⟩, 9), (⟨"CobblePorts", "mustBeStone", "(I)V"⟩, 9), (⟨"CobblePorts$Voyages", "hasLaid", "(II)Z"⟩, 6), (⟨"CobblePorts", "mustBeShip", "(I)V"⟩, 9), (⟨"CobblePorts$Voyages", "noteLaid", "(LCobblePorts$World;LCobblePorts$Streets;LCobblePorts$Trip;)I"⟩, 6)]
theorem lw_r2 : ∀ q ∈ lw_privs_2, lw_okq q := List.forall_mem_cons.mpr ⟨lw_p16, List.forall_mem_cons.mpr ⟨lw_p17, List.forall_mem_cons.mpr ⟨lw_p18, List.forall_mem_cons.mpr ⟨lw_p19, List.forall_mem_cons.mpr ⟨lw_p20, List.forall_mem_cons.mpr ⟨lw_p21, List.forall_mem_cons.mpr ⟨lw_p22, List.forall_mem_cons.mpr ⟨lw_p23, List.forall_mem_cons.mpr ⟨lw_p24, List.forall_mem_cons.mpr ⟨lw_p25, List.forall_mem_cons.mpr ⟨lw_p26, List.forall_mem_cons.mpr ⟨lw_p27, List.forall_mem_cons.mpr ⟨lw_p28, List.forall_mem_cons.mpr ⟨lw_p29, List.forall_mem_cons.mpr ⟨lw_p30, List.forall_mem_cons.mpr ⟨lw_p31, fun _ h => absurd h List.not_mem_nil⟩⟩⟩⟩⟩⟩⟩⟩⟩⟩⟩⟩⟩⟩⟩⟩
theorem lw_p32 : lw_okq (⟨"CobblePorts$Tariff", "doStep", "(I)V"⟩, 5) := ⟨⟨by decide +kernel, by decide +kernel⟩, List.mem_of_getElem? (i := 78) (by decide +kernel), List.mem_of_getElem? (i := 961) (by decide +kernel), List.mem_of_getElem? (i := 962) (by decide +kernel)⟩
theorem lw_p33 : lw_okq (⟨"CobblePorts$Tariff", "push", "(I)V"⟩, 5) := ⟨⟨by decide +kernel, by decide +kernel⟩, List.mem_of_getElem? (i := 78) (by decide +kernel), List.mem_of_getElem? (i := 965) (by decide +kernel), List.mem_of_getElem? (i := 966) (by decide +kernel)⟩
theorem lw_p34 : lw_okq (⟨"CobblePorts$Tariff", "pop", "()I"⟩, 5) := ⟨⟨by decide +kernel, by decide +kernel⟩, List.mem_of_getElem? (i := 78) (by decide +kernel), List.mem_of_getElem? (i := 969) (by decide +kernel), List.mem_of_getElem? (i := 970) (by decide +kernel)⟩
theorem lw_p35 : lw_okq (⟨"CobblePorts$Voyages", "notePrices", "(LCobblePorts$World;LCobblePorts$Streets;)V"⟩, 6) := ⟨⟨by decide +kernel, by decide +kernel⟩, List.mem_of_getElem? (i := 212) (by decide +kernel), List.mem_of_getElem? (i := 976) (by decide +kernel), List.mem_of_getElem? (i := 977) (by decide +kernel)⟩
theorem lw_p36 : lw_okq (⟨"CobblePortsModel", "fail", "(I)I"⟩, 63) := ⟨⟨by decide +kernel, by decide +kernel⟩, List.mem_of_getElem? (i := 1102) (by decide +kernel), List.mem_of_getElem? (i := 1322) (by decide +kernel), List.mem_of_getElem? (i := 1323) (by decide +kernel)⟩
theorem lw_p37 : lw_okq (⟨"CobblePortsModel", "stepOn", "()V"⟩, 63) := ⟨⟨by decide +kernel, by decide +kernel⟩, List.mem_of_getElem? (i := 1102) (by decide +kernel), List.mem_of_getElem? (i := 1326) (by decide +kernel), List.mem_of_getElem? (i := 1327) (by decide +kernel)⟩
theorem lw_p38 : lw_okq (⟨"CobblePortsModel", "byteAt", "(I)I"⟩, 63) := ⟨⟨by decide +kernel, by decide +kernel⟩, List.mem_of_getElem? (i := 1102) (by decide +kernel), List.mem_of_getElem? (i := 1330) (by decide +kernel), List.mem_of_getElem? (i := 1331) (by decide +kernel)⟩
theorem lw_p39 : lw_okq (⟨"CobblePortsModel", "readLine", "(Z)Z"⟩, 63) := ⟨⟨by decide +kernel, by decide +kernel⟩, List.mem_of_getElem? (i := 1102) (by decide +kernel), List.mem_of_getElem? (i := 1345) (by decide +kernel), List.mem_of_getElem? (i := 1346) (by decide +kernel)⟩
theorem lw_p40 : lw_okq (⟨"CobblePortsModel", "which", "([Ljava/lang/String;)I"⟩, 63) := ⟨⟨by decide +kernel, by decide +kernel⟩, List.mem_of_getElem? (i := 1102) (by decide +kernel), List.mem_of_getElem? (i := 1349) (by decide +kernel), List.mem_of_getElem? (i := 1350) (by decide +kernel)⟩
theorem lw_p41 : lw_okq (⟨"CobblePortsModel", "is", "(Ljava/lang/String;)Z"⟩, 63) := ⟨⟨by decide +kernel, by decide +kernel⟩, List.mem_of_getElem? (i := 1102) (by decide +kernel), List.mem_of_getElem? (i := 1353) (by decide +kernel), List.mem_of_getElem? (i := 1354) (by decide +kernel)⟩
theorem lw_p42 : lw_okq (⟨"CobblePortsModel", "wrong", "(I)V"⟩, 63) := ⟨⟨by decide +kernel, by decide +kernel⟩, List.mem_of_getElem? (i := 1102) (by decide +kernel), List.mem_of_getElem? (i := 1360) (by decide +kernel), List.mem_of_getElem? (i := 1361) (by decide +kernel)⟩
theorem lw_p43 : lw_okq (⟨"CobblePortsModel", "readShip", "(I)V"⟩, 63) := ⟨⟨by decide +kernel, by decide +kernel⟩, List.mem_of_getElem? (i := 1102) (by decide +kernel), List.mem_of_getElem? (i := 1364) (by decide +kernel), List.mem_of_getElem? (i := 1365) (by decide +kernel)⟩
theorem lw_p44 : lw_okq (⟨"CobblePortsModel", "readNumber", "(II)I"⟩, 63) := ⟨⟨by decide +kernel, by decide +kernel⟩, List.mem_of_getElem? (i := 1102) (by decide +kernel), List.mem_of_getElem? (i := 1368) (by decide +kernel), List.mem_of_getElem? (i := 1369) (by decide +kernel)⟩
theorem lw_p45 : lw_okq (⟨"CobblePortsModel", "numberNow", "(II)I"⟩, 63) := ⟨⟨by decide +kernel, by decide +kernel⟩, List.mem_of_getElem? (i := 1102) (by decide +kernel), List.mem_of_getElem? (i := 1372) (by decide +kernel), List.mem_of_getElem? (i := 1373) (by decide +kernel)⟩
theorem lw_p46 : lw_okq (⟨"CobblePortsModel", "readPort", "()I"⟩, 63) := ⟨⟨by decide +kernel, by decide +kernel⟩, List.mem_of_getElem? (i := 1102) (by decide +kernel), List.mem_of_getElem? (i := 1376) (by decide +kernel), List.mem_of_getElem? (i := 1377) (by decide +kernel)⟩
theorem lw_p47 : lw_okq (⟨"CobblePortsModel", "readNewPort", "()V"⟩, 63) := ⟨⟨by decide +kernel, by decide +kernel⟩, List.mem_of_getElem? (i := 1102) (by decide +kernel), List.mem_of_getElem? (i := 1381) (by decide +kernel), List.mem_of_getElem? (i := 1382) (by decide +kernel)⟩
def lw_privs_3 : List (MethodName × Nat) := [(⟨"CobblePorts$Tariff", "doStep", "(I)V"⟩, 5), (⟨"CobblePorts$Tariff", "push", "(I)V"⟩, 5), (⟨"CobblePorts$Tariff", "pop", "()I"⟩, 5), (⟨"CobblePorts$Voyages", "notePrices", "(LCobblePorts$World;LCobblePorts$Streets;)V"⟩, 6), (⟨"CobblePortsModel", "fail", "(I)I"⟩, 63), (⟨"CobblePortsModel", "stepOn", "()V"⟩, 63), (⟨"CobblePortsModel", "byteAt", "(I)I"⟩, 63), (⟨"CobblePortsModel", "readLine", "(Z)Z"⟩, 63), (⟨"CobblePortsModel", "which", "([Ljava/lang/String;)I"⟩, 63), (⟨"CobblePortsModel", "is", "(Ljava/lang/String;)Z"⟩, 63), (⟨"CobblePortsModel", "wrong", "(I)V"⟩, 63), (⟨"CobblePortsModel", "readShip", "(I)V"⟩, 63), (⟨"CobblePortsModel", "readNumber", "(II)I"⟩, 63), (⟨"CobblePortsModel", "numberNow", "(II)I"⟩, 63), (⟨"CobblePortsModel", "readPort", "()I"⟩, 63), (⟨"CobblePortsModel", "readNewPort", "()V"⟩, 63)]
theorem lw_r3 : ∀ q ∈ lw_privs_3, lw_okq q := List.forall_mem_cons.mpr ⟨lw_p32, List.forall_mem_cons.mpr ⟨lw_p33, List.forall_mem_cons.mpr ⟨lw_p34, List.forall_mem_cons.mpr ⟨lw_p35, List.forall_mem_cons.mpr ⟨lw_p36, List.forall_mem_cons.mpr ⟨lw_p37, List.forall_mem_cons.mpr ⟨lw_p38, List.forall_mem_cons.mpr ⟨lw_p39, List.forall_mem_cons.mpr ⟨lw_p40, List.forall_mem_cons.mpr ⟨lw_p41, List.forall_mem_cons.mpr ⟨lw_p42, List.forall_mem_cons.mpr ⟨lw_p43, List.forall_mem_cons.mpr ⟨lw_p44, List.forall_mem_cons.mpr ⟨lw_p45, List.forall_mem_cons.mpr ⟨lw_p46, List.forall_mem_cons.mpr ⟨lw_p47, fun _ h => absurd h List.not_mem_nil⟩⟩⟩⟩⟩⟩⟩⟩⟩⟩⟩⟩⟩⟩⟩⟩
theorem lw_p48 : lw_okq (⟨"CobblePortsModel", "passes", "(Ljava/lang/String;)Z"⟩, 63) := ⟨⟨by decide +kernel, by decide +kernel⟩, List.mem_of_getElem? (i := 1102) (by decide +kernel), List.mem_of_getElem? (i := 1386) (by decide +kernel), List.mem_of_getElem? (i := 1387) (by decide +kernel)⟩
theorem lw_p49 : lw_okq (⟨"CobblePortsModel", "readStones", "()V"⟩, 63) := ⟨⟨by decide +kernel, by decide +kernel⟩, List.mem_of_getElem? (i := 1102) (by decide +kernel), List.mem_of_getElem? (i := 1391) (by decide +kernel), List.mem_of_getElem? (i := 1392) (by decide +kernel)⟩
theorem lw_p50 : lw_okq (⟨"CobblePortsModel", "readExpression", "(I)V"⟩, 63) := ⟨⟨by decide +kernel, by decide +kernel⟩, List.mem_of_getElem? (i := 1102) (by decide +kernel), List.mem_of_getElem? (i := 1395) (by decide +kernel), List.mem_of_getElem? (i := 1396) (by decide +kernel)⟩
theorem lw_p51 : lw_okq (⟨"CobblePortsModel", "isMarked", "(I)Z"⟩, 63) := ⟨⟨by decide +kernel, by decide +kernel⟩, List.mem_of_getElem? (i := 1102) (by decide +kernel), List.mem_of_getElem? (i := 1399) (by decide +kernel), List.mem_of_getElem? (i := 1400) (by decide +kernel)⟩
theorem lw_p52 : lw_okq (⟨"CobblePortsModel", "readAnd", "(I)V"⟩, 63) := ⟨⟨by decide +kernel, by decide +kernel⟩, List.mem_of_getElem? (i := 1102) (by decide +kernel), List.mem_of_getElem? (i := 1403) (by decide +kernel), List.mem_of_getElem? (i := 1404) (by decide +kernel)⟩
theorem lw_p53 : lw_okq (⟨"CobblePortsModel", "readNot", "(I)V"⟩, 63) := ⟨⟨by decide +kernel, by decide +kernel⟩, List.mem_of_getElem? (i := 1102) (by decide +kernel), List.mem_of_getElem? (i := 1407) (by decide +kernel), List.mem_of_getElem? (i := 1408) (by decide +kernel)⟩
theorem lw_p54 : lw_okq (⟨"CobblePortsModel", "readSum", "(I)V"⟩, 63) := ⟨⟨by decide +kernel, by decide +kernel⟩, List.mem_of_getElem? (i := 1102) (by decide +kernel), List.mem_of_getElem? (i := 1412) (by decide +kernel), List.mem_of_getElem? (i := 1413) (by decide +kernel)⟩
theorem lw_p55 : lw_okq (⟨"CobblePortsModel", "readProduct", "(I)V"⟩, 63) := ⟨⟨by decide +kernel, by decide +kernel⟩, List.mem_of_getElem? (i := 1102) (by decide +kernel), List.mem_of_getElem? (i := 1416) (by decide +kernel), List.mem_of_getElem? (i := 1417) (by decide +kernel)⟩
theorem lw_p56 : lw_okq (⟨"CobblePortsModel", "readPart", "(I)V"⟩, 63) := ⟨⟨by decide +kernel, by decide +kernel⟩, List.mem_of_getElem? (i := 1102) (by decide +kernel), List.mem_of_getElem? (i := 1420) (by decide +kernel), List.mem_of_getElem? (i := 1421) (by decide +kernel)⟩
theorem lw_p57 : lw_okq (⟨"CobblePortsModel", "lay", "(I)V"⟩, 63) := ⟨⟨by decide +kernel, by decide +kernel⟩, List.mem_of_getElem? (i := 1102) (by decide +kernel), List.mem_of_getElem? (i := 1424) (by decide +kernel), List.mem_of_getElem? (i := 1425) (by decide +kernel)⟩
theorem lw_p58 : lw_okq (⟨"CobblePortsModel", "mark", "(I)V"⟩, 63) := ⟨⟨by decide +kernel, by decide +kernel⟩, List.mem_of_getElem? (i := 1102) (by decide +kernel), List.mem_of_getElem? (i := 1428) (by decide +kernel), List.mem_of_getElem? (i := 1429) (by decide +kernel)⟩
theorem lw_p59 : lw_okq (⟨"CobblePortsModel", "take", "()V"⟩, 63) := ⟨⟨by decide +kernel, by decide +kernel⟩, List.mem_of_getElem? (i := 1102) (by decide +kernel), List.mem_of_getElem? (i := 1434) (by decide +kernel), List.mem_of_getElem? (i := 1435) (by decide +kernel)⟩
theorem lw_p60 : lw_okq (⟨"CobblePortsModel", "allMud", "([I)I"⟩, 63) := ⟨⟨by decide +kernel, by decide +kernel⟩, List.mem_of_getElem? (i := 1102) (by decide +kernel), List.mem_of_getElem? (i := 1449) (by decide +kernel), List.mem_of_getElem? (i := 1450) (by decide +kernel)⟩
theorem lw_p61 : lw_okq (⟨"CobblePortsModel", "mudOf", "([II)I"⟩, 63) := ⟨⟨by decide +kernel, by decide +kernel⟩, List.mem_of_getElem? (i := 1102) (by decide +kernel), List.mem_of_getElem? (i := 1453) (by decide +kernel), List.mem_of_getElem? (i := 1454) (by decide +kernel)⟩
theorem lw_p62 : lw_okq (⟨"CobblePortsModel", "stonesIn", "([II)I"⟩, 63) := ⟨⟨by decide +kernel, by decide +kernel⟩, List.mem_of_getElem? (i := 1102) (by decide +kernel), List.mem_of_getElem? (i := 1457) (by decide +kernel), List.mem_of_getElem? (i := 1458) (by decide +kernel)⟩
theorem lw_p63 : lw_okq (⟨"CobblePortsModel", "tolls", "()I"⟩, 63) := ⟨⟨by decide +kernel, by decide +kernel⟩, List.mem_of_getElem? (i := 1102) (by decide +kernel), List.mem_of_getElem? (i := 1462) (by decide +kernel), List.mem_of_getElem? (i := 1463) (by decide +kernel)⟩
def lw_privs_4 : List (MethodName × Nat) := [(⟨"CobblePortsModel", "passes", "(Ljava/lang/String;)Z"⟩, 63), (⟨"CobblePortsModel", "readStones", "()V"⟩, 63), (⟨"CobblePortsModel", "readExpression", "(I)V"⟩, 63), (⟨"CobblePortsModel", "isMarked", "(I)Z"⟩, 63), (⟨"CobblePortsModel", "readAnd", "(I)V"⟩, 63), (⟨"CobblePortsModel", "readNot", "(I)V"⟩, 63), (⟨"CobblePortsModel", "readSum", "(I)V"⟩, 63), (⟨"CobblePortsModel", "readProduct", "(I)V"⟩, 63), (⟨"CobblePortsModel", "readPart", "(I)V"⟩, 63), (⟨"CobblePortsModel", "lay", "(I)V"⟩, 63), (⟨"CobblePortsModel", "mark", "(I)V"⟩, 63), (⟨"CobblePortsModel", "take", "()V"⟩, 63), (⟨"CobblePortsModel", "allMud", "([I)I"⟩, 63), (⟨"CobblePortsModel", "mudOf", "([II)I"⟩, 63), (⟨"CobblePortsModel", "stonesIn", "([II)I"⟩, 63), (⟨"CobblePortsModel", "tolls", "()I"⟩, 63)]
theorem lw_r4 : ∀ q ∈ lw_privs_4, lw_okq q := List.forall_mem_cons.mpr ⟨lw_p48, List.forall_mem_cons.mpr ⟨lw_p49, List.forall_mem_cons.mpr ⟨lw_p50, List.forall_mem_cons.mpr ⟨lw_p51, List.forall_mem_cons.mpr ⟨lw_p52, List.forall_mem_cons.mpr ⟨lw_p53, List.forall_mem_cons.mpr ⟨lw_p54, List.forall_mem_cons.mpr ⟨lw_p55, List.forall_mem_cons.mpr ⟨lw_p56, List.forall_mem_cons.mpr ⟨lw_p57, List.forall_mem_cons.mpr ⟨lw_p58, List.forall_mem_cons.mpr ⟨lw_p59, List.forall_mem_cons.mpr ⟨lw_p60, List.forall_mem_cons.mpr ⟨lw_p61, List.forall_mem_cons.mpr ⟨lw_p62, List.forall_mem_cons.mpr ⟨lw_p63, fun _ h => absurd h List.not_mem_nil⟩⟩⟩⟩⟩⟩⟩⟩⟩⟩⟩⟩⟩⟩⟩⟩
theorem lw_p64 : lw_okq (⟨"CobblePortsModel", "isPort", "(I)Z"⟩, 63) := ⟨⟨by decide +kernel, by decide +kernel⟩, List.mem_of_getElem? (i := 1102) (by decide +kernel), List.mem_of_getElem? (i := 1470) (by decide +kernel), List.mem_of_getElem? (i := 1471) (by decide +kernel)⟩
theorem lw_p65 : lw_okq (⟨"CobblePortsModel", "ofOrigin", "([III)I"⟩, 63) := ⟨⟨by decide +kernel, by decide +kernel⟩, List.mem_of_getElem? (i := 1102) (by decide +kernel), List.mem_of_getElem? (i := 1477) (by decide +kernel), List.mem_of_getElem? (i := 1478) (by decide +kernel)⟩
theorem lw_p66 : lw_okq (⟨"CobblePortsModel", "isStone", "(I)Z"⟩, 63) := ⟨⟨by decide +kernel, by decide +kernel⟩, List.mem_of_getElem? (i := 1102) (by decide +kernel), List.mem_of_getElem? (i := 1485) (by decide +kernel), List.mem_of_getElem? (i := 1486) (by decide +kernel)⟩
theorem lw_p67 : lw_okq (⟨"CobblePortsModel", "stoneAt", "(II)I"⟩, 63) := ⟨⟨by decide +kernel, by decide +kernel⟩, List.mem_of_getElem? (i := 1102) (by decide +kernel), List.mem_of_getElem? (i := 1493) (by decide +kernel), List.mem_of_getElem? (i := 1494) (by decide +kernel)⟩
theorem lw_p68 : lw_okq (⟨"CobblePortsModel", "isShip", "(I)Z"⟩, 63) := ⟨⟨by decide +kernel, by decide +kernel⟩, List.mem_of_getElem? (i := 1102) (by decide +kernel), List.mem_of_getElem? (i := 1501) (by decide +kernel), List.mem_of_getElem? (i := 1502) (by decide +kernel)⟩
theorem lw_p69 : lw_okq (⟨"CobblePortsModel", "go", "([IIIII)I"⟩, 63) := ⟨⟨by decide +kernel, by decide +kernel⟩, List.mem_of_getElem? (i := 1102) (by decide +kernel), List.mem_of_getElem? (i := 1509) (by decide +kernel), List.mem_of_getElem? (i := 1510) (by decide +kernel)⟩
theorem lw_p70 : lw_okq (⟨"CobblePortsModel", "takes", "([II)I"⟩, 63) := ⟨⟨by decide +kernel, by decide +kernel⟩, List.mem_of_getElem? (i := 1102) (by decide +kernel), List.mem_of_getElem? (i := 1513) (by decide +kernel), List.mem_of_getElem? (i := 1514) (by decide +kernel)⟩
theorem lw_p71 : lw_okq (⟨"CobblePortsModel", "wish", "(III)I"⟩, 63) := ⟨⟨by decide +kernel, by decide +kernel⟩, List.mem_of_getElem? (i := 1102) (by decide +kernel), List.mem_of_getElem? (i := 1517) (by decide +kernel), List.mem_of_getElem? (i := 1518) (by decide +kernel)⟩
theorem lw_p72 : lw_okq (⟨"CobblePortsModel", "lift", "([II)V"⟩, 63) := ⟨⟨by decide +kernel, by decide +kernel⟩, List.mem_of_getElem? (i := 1102) (by decide +kernel), List.mem_of_getElem? (i := 1521) (by decide +kernel), List.mem_of_getElem? (i := 1522) (by decide +kernel)⟩
theorem lw_p73 : lw_okq (⟨"CobblePortsModel", "tollOf", "(IIII)I"⟩, 63) := ⟨⟨by decide +kernel, by decide +kernel⟩, List.mem_of_getElem? (i := 1102) (by decide +kernel), List.mem_of_getElem? (i := 1525) (by decide +kernel), List.mem_of_getElem? (i := 1526) (by decide +kernel)⟩
theorem lw_p74 : lw_okq (⟨"CobblePortsModel", "tariff", "()I"⟩, 63) := ⟨⟨by decide +kernel, by decide +kernel⟩, List.mem_of_getElem? (i := 1102) (by decide +kernel), List.mem_of_getElem? (i := 1529) (by decide +kernel), List.mem_of_getElem? (i := 1530) (by decide +kernel)⟩
theorem lw_p75 : lw_okq (⟨"CobblePortsModel", "loadAll", "(II)V"⟩, 63) := ⟨⟨by decide +kernel, by decide +kernel⟩, List.mem_of_getElem? (i := 1102) (by decide +kernel), List.mem_of_getElem? (i := 1568) (by decide +kernel), List.mem_of_getElem? (i := 1569) (by decide +kernel)⟩
theorem lw_p76 : lw_okq (⟨"CobblePortsModel", "loadOn", "(III)V"⟩, 63) := ⟨⟨by decide +kernel, by decide +kernel⟩, List.mem_of_getElem? (i := 1102) (by decide +kernel), List.mem_of_getElem? (i := 1572) (by decide +kernel), List.mem_of_getElem? (i := 1573) (by decide +kernel)⟩
theorem lw_p77 : lw_okq (⟨"CobblePortsModel", "rate", "(I)V"⟩, 63) := ⟨⟨by decide +kernel, by decide +kernel⟩, List.mem_of_getElem? (i := 1102) (by decide +kernel), List.mem_of_getElem? (i := 1579) (by decide +kernel), List.mem_of_getElem? (i := 1580) (by decide +kernel)⟩
theorem lw_p78 : lw_okq (⟨"CobblePortsModel", "fitsRead", "()Z"⟩, 63) := ⟨⟨by decide +kernel, by decide +kernel⟩, List.mem_of_getElem? (i := 1102) (by decide +kernel), List.mem_of_getElem? (i := 1583) (by decide +kernel), List.mem_of_getElem? (i := 1584) (by decide +kernel)⟩
theorem lw_p79 : lw_okq (⟨"CobblePortsModel", "findRow", "()V"⟩, 63) := ⟨⟨by decide +kernel, by decide +kernel⟩, List.mem_of_getElem? (i := 1102) (by decide +kernel), List.mem_of_getElem? (i := 1587) (by decide +kernel), List.mem_of_getElem? (i := 1588) (by decide +kernel)⟩
def lw_privs_5 : List (MethodName × Nat) := [(⟨"CobblePortsModel", "isPort", "(I)Z"⟩, 63), (⟨"CobblePortsModel", "ofOrigin", "([III)I"⟩, 63), (⟨"CobblePortsModel", "isStone", "(I)Z"⟩, 63), (⟨"CobblePortsModel", "stoneAt", "(II)I"⟩, 63), (⟨"CobblePortsModel", "isShip", "(I)Z"⟩, 63), (⟨"CobblePortsModel", "go", "([IIIII)I"⟩, 63), (⟨"CobblePortsModel", "takes", "([II)I"⟩, 63), (⟨"CobblePortsModel", "wish", "(III)I"⟩, 63), (⟨"CobblePortsModel", "lift", "([II)V"⟩, 63), (⟨"CobblePortsModel", "tollOf", "(IIII)I"⟩, 63), (⟨"CobblePortsModel", "tariff", "()I"⟩, 63), (⟨"CobblePortsModel", "loadAll", "(II)V"⟩, 63), (⟨"CobblePortsModel", "loadOn", "(III)V"⟩, 63), (⟨"CobblePortsModel", "rate", "(I)V"⟩, 63), (⟨"CobblePortsModel", "fitsRead", "()Z"⟩, 63), (⟨"CobblePortsModel", "findRow", "()V"⟩, 63)]
theorem lw_r5 : ∀ q ∈ lw_privs_5, lw_okq q := List.forall_mem_cons.mpr ⟨lw_p64, List.forall_mem_cons.mpr ⟨lw_p65, List.forall_mem_cons.mpr ⟨lw_p66, List.forall_mem_cons.mpr ⟨lw_p67, List.forall_mem_cons.mpr ⟨lw_p68, List.forall_mem_cons.mpr ⟨lw_p69, List.forall_mem_cons.mpr ⟨lw_p70, List.forall_mem_cons.mpr ⟨lw_p71, List.forall_mem_cons.mpr ⟨lw_p72, List.forall_mem_cons.mpr ⟨lw_p73, List.forall_mem_cons.mpr ⟨lw_p74, List.forall_mem_cons.mpr ⟨lw_p75, List.forall_mem_cons.mpr ⟨lw_p76, List.forall_mem_cons.mpr ⟨lw_p77, List.forall_mem_cons.mpr ⟨lw_p78, List.forall_mem_cons.mpr ⟨lw_p79, fun _ h => absurd h List.not_mem_nil⟩⟩⟩⟩⟩⟩⟩⟩⟩⟩⟩⟩⟩⟩⟩⟩
theorem lw_p80 : lw_okq (⟨"CobblePortsModel", "keep", "()V"⟩, 63) := ⟨⟨by decide +kernel, by decide +kernel⟩, List.mem_of_getElem? (i := 1102) (by decide +kernel), List.mem_of_getElem? (i := 1591) (by decide +kernel), List.mem_of_getElem? (i := 1592) (by decide +kernel)⟩
theorem lw_p81 : lw_okq (⟨"CobblePortsModel", "draw", "(I)I"⟩, 63) := ⟨⟨by decide +kernel, by decide +kernel⟩, List.mem_of_getElem? (i := 1102) (by decide +kernel), List.mem_of_getElem? (i := 1618) (by decide +kernel), List.mem_of_getElem? (i := 1619) (by decide +kernel)⟩
def lw_privs_6 : List (MethodName × Nat) := [(⟨"CobblePortsModel", "keep", "()V"⟩, 63), (⟨"CobblePortsModel", "draw", "(I)I"⟩, 63)]
theorem lw_r6 : ∀ q ∈ lw_privs_6, lw_okq q := List.forall_mem_cons.mpr ⟨lw_p80, List.forall_mem_cons.mpr ⟨lw_p81, fun _ h => absurd h List.not_mem_nil⟩⟩
def lw_privs : List (MethodName × Nat) := lw_privs_1 ++ (lw_privs_2 ++ (lw_privs_3 ++ (lw_privs_4 ++ (lw_privs_5 ++ (lw_privs_6)))))
def lw_tbl : List Cond := k2_sels lw_privs ++ tables_1
theorem lw_privs_ok : ∀ q ∈ lw_privs, lw_okq q := by
  show ∀ q ∈ lw_privs_1 ++ (lw_privs_2 ++ (lw_privs_3 ++ (lw_privs_4 ++ (lw_privs_5 ++ (lw_privs_6))))), lw_okq q
  exact List.forall_mem_append.mpr ⟨lw_r1, List.forall_mem_append.mpr ⟨lw_r2, List.forall_mem_append.mpr ⟨lw_r3, List.forall_mem_append.mpr ⟨lw_r4, List.forall_mem_append.mpr ⟨lw_r5, lw_r6⟩⟩⟩⟩⟩
end
section
/-! ===== BEGIN words of one list among another's, by their places ===== -/
theorem goodIn_r {big : List Cond} (ws : List Cond) (ps : List Nat) (hp : ws = ps.filterMap (fun i => big[i]?)) (h : ws.all goodWord = true) : GoodIn big ws := by
  intro w hw
  have h1 := List.all_eq_true.mp h w hw
  rw [hp] at hw
  obtain ⟨i, -, hi⟩ := List.mem_filterMap.mp hw
  have hm : w ∈ big := by first | exact List.mem_of_getElem? hi | exact List.getElem?_mem hi
  exact ⟨hm, good_of_word h1⟩
theorem goodIn_app {big a b : List Cond} (ha : GoodIn big a) (hb : GoodIn big b) : GoodIn big (a ++ b) := fun w h => (List.mem_append.mp h).elim (ha w) (hb w)
theorem goodIn_ca {big a b : List Cond} {c : Cond} (ha : GoodIn big (c :: a)) (hb : GoodIn big b) : GoodIn big (c :: (a ++ b)) := fun w h => (List.mem_cons.mp h).elim (fun e => ha w (List.mem_cons.mpr (Or.inl e))) (fun h => (List.mem_append.mp h).elim (fun h => ha w (List.mem_cons.mpr (Or.inr h))) (hb w))
theorem goodIn_sub {big ws : List Cond} (hm : ∀ w ∈ ws, w ∈ big) (h : ws.all goodWord = true) : GoodIn big ws := fun w hw => ⟨hm w hw, good_of_word (List.all_eq_true.mp h w hw)⟩
/-! ===== END ===== -/

/-! ===== BEGIN exceptions that leave a method, and their catching by the caller (launches without stack traces) ===== -/
section VXA
/-! The laws vx_back, vx_callV, vx_callS, vx_callSW, vx_throw0, vx_throwS follow proofs of the library, with one case more: JvmDerived/Free/Laws.lean (Back.of_free), Shelf42/LK1.lean (callV, callS), Shelf/KitTraced.lean (throwNew0V, throwNewS). -/
/-- where a method has thrown q: the class by its name, the cell, what was written, the world -/
def vx_T (XC : String → State → State → Prop) (st : State) (q : Addr) (t : State) (mc ms : Nat) (free : Addr → Prop) : Prop :=
  ∃ (E : String) (ce : Cell) (L : List Loc), XC E st t ∧ t.heap[q]? = some ce ∧ ce.vm = .none ∧ st.vm.findClass E = some ce.cls ∧ st.WarmedH t.vm ∧ st.sameButNew ({ t with vm := st.vm } : State) L mc ms ∧ ∀ z ∈ L, free z.base
def vx_Q (Qc : Array Value → State → Outcome → State → Prop) (XC : String → State → State → Prop) (mc ms : Nat) (free : Addr → Prop) : Array Value → State → Outcome → State → Prop := fun a st o t =>
  (Qc a st o t ∧ ∃ L, FrameEnd st o t L mc ms ∧ ∀ q ∈ L, free q.base) ∨ ∃ q, o = .threw q ∧ vx_T XC st q t mc ms free
/-- a callee that returns or throws -/
def vx_Met (l : Launch) (y : MethodName) (ws : List Cond) (rm : Room) (Pc : Array Value → State → Prop) (Qc : Array Value → State → Outcome → State → Prop) (XC : String → State → State → Prop) (mc ms : Nat) (free : Addr → Prop) : Prop :=
  MetFree l y (headSpec ws rm) Pc (fun _ _ _ _ _ => True) (vx_Q Qc XC mc ms free)
def vx_Post (XC : String → State → State → Prop) (mc ms : Nat) (free : Addr → Prop) : Pt → Array Value → Addr → Pt → Prop := fun A a q B =>
  ∃ (g : JFrame) (mk : MethodId) (t : State) (L : List Loc) (E : String) (ce : Cell), B.U.heap = t.heap ∧ B.U.vm = t.vm ∧ XC E (A.U.calling g mk a) t ∧ t.heap[q]? = some ce ∧ ce.vm = .none ∧ A.U.vm.findClass E = some ce.cls ∧ B.locs = A.locs ++ L ∧ (∀ z ∈ L, free z.base) ∧ B.cells = A.cells + mc ∧ B.slots = A.slots + ms
def vx_Back (l : Launch) (R : Room) (p : Program) (e : Env) (below : List Frame) (s : State) (sargs : Array Value) (y : MethodName) (len W9 : Nat)
    (Pre : Pt → Array Value → Prop) (Post : Pt → Array Value → Option Value → Pt → Prop) (PostX : Pt → Array Value → Addr → Pt → Prop) : Prop :=
  ∀ (m : MethodId) (meth : Method) (c : Code) (A : Pt) (g : JFrame) (ig : Instr) (mk : MethodId) (a : Array Value),
    Stand p l e R s m sargs below meth c A.U A.locs A.cells A.slots → g.method = m → g.locals.size = c.maxLocals → decode c.code g.pc = .ok (ig, len) →
    2 * g.monitorRoom + (g.stack.map fun v => v.category).sum ≤ W9 → A.U.methodNamed? y = some mk → Pre A a →
    (∃ (v : Option Value) (B : Pt), Stand p l e R s m sargs below meth c B.U B.locs B.cells B.slots ∧ Post A a v B ∧
      Steps p.tables e below (doInvoke e (A.U.setTop g) [] mk a).1 (B.U.setTop { g with pc := g.pc + len, stack := v.toList ++ g.stack })) ∨
    (∃ (q : Addr) (B : Pt), Stand p l e R s m sargs below meth c B.U B.locs B.cells B.slots ∧ PostX A a q B ∧
      Steps p.tables e below (doInvoke e (A.U.setTop g) [] mk a).1 ((B.U.setTop g).pushFrame (.throwing q)))
section Payer
variable {l : Launch} {R : Room} {p : Program} {e : Env} {below : List Frame} {s : State} {sargs : Array Value} {y : MethodName} {len W9 : Nat}
theorem vx_back {ws : List Cond} {rm : Room} {Pc : Array Value → State → Prop} {Qc : Array Value → State → Outcome → State → Prop} {XC : String → State → State → Prop} {mc ms : Nat} {free : Addr → Prop} {bytes : ByteArray} {maxL : Nat} {ret : Option FieldType}
    (hM : vx_Met l y ws rm Pc Qc XC mc ms free) (hblind : FrameBlind Pc) (hrc : rm.cells = mc) (hrs : rm.slots = ms)
    (hframes : rm.frames + 1 ≤ R.frames) (hlocals : W9 + (maxL + 11) + rm.locals ≤ R.locals)
    (hws : ∀ w ∈ ws, ∀ a' U, s.WarmedH U.vm → w.before a' U = true) (hcode : Cond.code y bytes maxL ret ∈ ws) (hinit : ∀ a' U, s.WarmedH U.vm → (Cond.initialized y.cls).before a' U = true) :
    vx_Back l R p e below s sargs y len W9 (PreOf R mc ms Pc) (PostOf Qc mc ms free) (vx_Post XC mc ms free) := by
  intro m meth c A g ig mk a X hg hsize hdg hW hn hp
  have h1 : (headSpec ws rm).pre.before a A.U = true := atoms_intro fun w hw => hws w hw _ _ X.warmed
  have h2 : (Cond.code y bytes maxL ret).before a A.U = true := hws _ hcode _ _ X.warmed
  have h3 : (Cond.initialized y.cls).before a A.U = true := hinit _ _ X.warmed
  have h4 : A.cells + (headSpec ws rm).room.cells ≤ R.cells := by rw [show (headSpec ws rm).room.cells = mc from hrc]; exact hp.1
  have h5 : A.slots + (headSpec ws rm).room.slots ≤ R.slots := by rw [show (headSpec ws rm).room.slots = ms from hrs]; exact hp.2.1
  have hPc : Pc a (A.U.calling g mk a) := hblind _ _ _ _ hp.2.2
  obtain ⟨U, Ls, c0, s0⟩ := A
  dsimp only [Pt.U, Pt.locs, Pt.cells, Pt.slots] at h1 h2 h3 h4 h5 X hn hPc ⊢
  obtain ⟨methY, cY, hmY, hcY, -, hlY, -, -, -, -⟩ := Cond.code_spec hn h2
  obtain ⟨kY, hkY, -⟩ := className_of_methodNamed hn
  have hinitY : kY.init = .initialized := Cond.initialized_spec (findClass_of_methodNamed hn) hkY h3
  have h : At U g.method c below := by rw [hg]; exact X.here
  have hlocals9 : W9 + (maxL + 11) + (headSpec ws rm).room.locals ≤ R.locals := hlocals
  have happ : (headSpec ws rm).appliesLoose y e.platform (U.calling g mk a) = true :=
    Spec.appliesLoose_calling (g := g) h hdg hn hkY hinitY
      (X.room_calling (g := g) (R' := (headSpec ws rm).room) hsize hmY hcY hframes (by rw [hlY]; omega) h4 h5) h1
  obtain ⟨mid, hmid⟩ := h.above
  have hfr : (U.setTop g).frames = (.java g :: mid) ++ below := by rw [State.frames_setTop' g h.top, hmid]; rfl
  obtain ⟨o, s₂, hsteps, -, hend, hq⟩ := Steps.callFree hM p X.admits X.cas X.clock (acts := []) hfr happ hPc trivial
  have hq' : vx_Q Qc XC mc ms free a (U.calling g mk a) o s₂ := hq
  rw [State.frames_setTop' g h.top] at hend
  obtain ⟨g₀, hg0⟩ := Option.isSome_iff_exists.mp h.top
  obtain ⟨r, hr⟩ := State.topJava?_eq_some.mp hg0
  have hr' : (({ U with heap := s₂.heap, slotsUsed := s₂.slotsUsed } : State).setVm s₂.vm).frames = .java g₀ :: r := hr
  rcases hq' with ⟨hqc, L, hfe, hL⟩ | ⟨q, rfl, E, ce, L, hx, hce, hcv, hcl, hW₂, hsm, hL⟩
  · obtain ⟨⟨v, rfl⟩, hW₂, e2, q2, q3, q4, q5, q6⟩ := id hfe
    have e3 : s₂ = ({ (U.calling g mk a).setFrames s₂.frames with heap := s₂.heap, slotsUsed := s₂.slotsUsed } : State).setVm s₂.vm := by
      have : s₂ = ({ s₂ with vm := (U.calling g mk a).vm } : State).setVm s₂.vm := rfl
      rw [e2] at this
      exact this
    obtain ⟨c₂, i₂, len₂, hc₂, hd₂, hf₂⟩ := hend
    have hW' : U.WarmedH s₂.vm := hW₂
    have hcc : c₂ = c := by
      have h1 : s₂.code? g.method = U.code? g.method := by
        rw [State.code?_eq, State.code?_eq, hW'.alike.method?]
      exact Option.some.inj (hc₂.symm.trans (h1.trans h.code))
    subst hcc
    have hlen : len₂ = len := by rw [hdg] at hd₂; cases hd₂; rfl
    subst hlen
    have hs₂ : s₂ = (({ U with heap := s₂.heap, slotsUsed := s₂.slotsUsed } : State).setVm s₂.vm).setTop { g with pc := g.pc + len₂, stack := v.toList ++ g.stack } := by
      refine e3.trans ?_
      rw [hf₂, State.calling_eq h.top, State.setFrames_setFrames, State.setTop_of_frames _ hr', hr]
      rfl
    have hsame : U.sameButNew ({ U with heap := s₂.heap, slotsUsed := s₂.slotsUsed } : State) L mc ms := by
      refine ⟨?_, q2, q3, q4, q5, q6⟩
      obtain ⟨t, ht, -⟩ := State.frames_cons hr
      show ({ U with heap := s₂.heap, slotsUsed := s₂.slotsUsed } : State) = { U.setFrames U.frames with heap := s₂.heap, slotsUsed := s₂.slotsUsed }
      rw [State.setFrames_self ht]
    subst hg
    refine Or.inl ⟨v, ⟨(({ U with heap := s₂.heap, slotsUsed := s₂.slotsUsed } : State).setVm s₂.vm), Ls ++ L, c0 + mc, s0 + ms⟩,
      ⟨X.admits, X.cas, X.clock, X.frames, X.room, X.hears, X.method, X.code, (X.here.setHeapUsed s₂.heap s₂.slotsUsed).setVm hW'.alike, X.tail, State.WarmedH.trans X.warmed hW', X.limits, X.bytes, X.same.trans (hsame.setVm s.vm)⟩,
      ⟨g, mk, s₂, L, rfl, rfl, hqc, rfl, hL, rfl, rfl⟩, ?_⟩
    show Steps p.tables e below _ ((({ U with heap := s₂.heap, slotsUsed := s₂.slotsUsed } : State).setVm s₂.vm).setTop { g with pc := g.pc + len₂, stack := v.toList ++ g.stack })
    rw [← hs₂]
    exact hsteps
  · obtain ⟨e2, q2, q3, q4, q5, q6⟩ := id hsm
    have e3 : s₂ = ({ (U.calling g mk a).setFrames s₂.frames with heap := s₂.heap, slotsUsed := s₂.slotsUsed } : State).setVm s₂.vm := by
      have : s₂ = ({ s₂ with vm := (U.calling g mk a).vm } : State).setVm s₂.vm := rfl
      rw [e2] at this
      exact this
    have hf₂ : s₂.frames = .throwing q :: .java g :: U.frames.tail := hend
    have hW' : U.WarmedH s₂.vm := hW₂
    have hs₂ : s₂ = ((({ U with heap := s₂.heap, slotsUsed := s₂.slotsUsed } : State).setVm s₂.vm).setTop g).pushFrame (.throwing q) := by
      refine e3.trans ?_
      rw [hf₂, State.calling_eq h.top, State.setFrames_setFrames, State.pushFrame, State.frames_setTop _ hr', State.setTop_of_frames _ hr', State.setFrames_setFrames, hr]
      rfl
    have hsame : U.sameButNew ({ U with heap := s₂.heap, slotsUsed := s₂.slotsUsed } : State) L mc ms := by
      refine ⟨?_, q2, q3, q4, q5, q6⟩
      obtain ⟨t, ht, -⟩ := State.frames_cons hr
      show ({ U with heap := s₂.heap, slotsUsed := s₂.slotsUsed } : State) = { U.setFrames U.frames with heap := s₂.heap, slotsUsed := s₂.slotsUsed }
      rw [State.setFrames_self ht]
    subst hg
    refine Or.inr ⟨q, ⟨(({ U with heap := s₂.heap, slotsUsed := s₂.slotsUsed } : State).setVm s₂.vm), Ls ++ L, c0 + mc, s0 + ms⟩,
      ⟨X.admits, X.cas, X.clock, X.frames, X.room, X.hears, X.method, X.code, (X.here.setHeapUsed s₂.heap s₂.slotsUsed).setVm hW'.alike, X.tail, State.WarmedH.trans X.warmed hW', X.limits, X.bytes, X.same.trans (hsame.setVm s.vm)⟩,
      ⟨g, mk, s₂, L, E, ce, rfl, rfl, hx, hce, hcv, hcl, rfl, hL, rfl, rfl⟩, ?_⟩
    show Steps p.tables e below _ (((({ U with heap := s₂.heap, slotsUsed := s₂.slotsUsed } : State).setVm s₂.vm).setTop g).pushFrame (.throwing q))
    rw [← hs₂]
    exact hsteps
end Payer
section Calls
variable {p : Program} {l : Launch} {e : Env} {R : Room} {s : State} {m : MethodId} {args : Array Value} {below : List Frame} {meth : Method} {c : Code} {T : State} {locs : List Loc} {cells slots : Nat}
theorem vx_callV (X : Stand p l e R s m args below meth c T locs cells slots) (hexec : p.tables.exec = Jvm.exec) {own C : String} {index : Nat} {y : MethodName} {bytes : ByteArray} {maxL : Nat} {ret : Option FieldType}
    (hown : s.vm.findClass own = some m.cls) (hlink : (Cond.methodLink own index y).before args s = true) (hinst : (Cond.instanceMethod y).before args s = true) (hsel : (Cond.selects C y y).before args s = true)
    (hcode : (Cond.code y bytes maxL ret).before args s = true) (hy : y.cls ≠ "java/lang/invoke/MethodHandle" ∧ y.cls ≠ "java/lang/invoke/VarHandle")
    {W9 : Nat} {Pre : Pt → Array Value → Prop} {Post : Pt → Array Value → Option Value → Pt → Prop} {PostX : Pt → Array Value → Addr → Pt → Prop} (hK : vx_Back l R p e below s args y 3 W9 Pre Post PostX)
    {b : Addr} {cellB : Cell} (hcell : T.heap[b]? = some cellB) (hobj : cellB.vm.isStatics = false) (hcls : s.vm.findClass C = some cellB.cls)
    {g : JFrame} (hg : g.method = m) (hsize : g.locals.size = c.maxLocals) {argsL rest : List Value} (hlen : ∀ sig, parseMethodDescriptor y.desc = some sig → argsL.length = sig.parameters.length)
    (hstack : g.stack = argsL.reverse ++ .ref b :: rest) (hW : 2 * g.monitorRoom + (rest.map fun v => v.category).sum ≤ W9) (hdg : decode c.code g.pc = .ok (.invokevirtual index, 3))
    (hpre : ∀ vm₁, s.WarmedH vm₁ → Pre ⟨T.setVm vm₁, locs, cells, slots⟩ (Value.ref b :: argsL).toArray) :
    (∃ (v : Option Value) (vm₁ : Vm) (B : Pt), s.WarmedH vm₁ ∧ Stand p l e R s m args below meth c B.U B.locs B.cells B.slots ∧ Post ⟨T.setVm vm₁, locs, cells, slots⟩ (Value.ref b :: argsL).toArray v B ∧
      ∀ target, Steps p.tables e below (B.U.setTop { g with pc := g.pc + 3, stack := v.toList ++ rest }) target → Steps p.tables e below (T.setTop g) target) ∨
    (∃ (q : Addr) (vm₁ : Vm) (B : Pt), s.WarmedH vm₁ ∧ Stand p l e R s m args below meth c B.U B.locs B.cells B.slots ∧ PostX ⟨T.setVm vm₁, locs, cells, slots⟩ (Value.ref b :: argsL).toArray q B ∧
      Steps p.tables e below (T.setTop g) ((B.U.setTop { g with stack := rest }).pushFrame (.throwing q))) := by
  obtain ⟨mk, methM, hnamed, hmethM, hstM, habM⟩ := Cond.instanceMethod_spec hinst
  obtain ⟨methM', cM, hmethM', -, -, -, -, -, -, hsigM⟩ := Cond.code_spec hnamed hcode
  cases hmethM.symm.trans hmethM'
  obtain ⟨c2, r2, m2, q1, q2, q3, q4, kP, hkP, hkPi⟩ := Cond.selects_spec hsel
  cases hcls.symm.trans q1
  cases (State.methodFound?_of_named hnamed hy).symm.trans q2
  cases hnamed.symm.trans q3
  have hselP : selectMethod e.platform s.vm cellB.cls mk = .method mk := by rw [Launch.admits_selectMethod X.admits]; exact q4
  obtain ⟨vm₁, X₁, hstep₁⟩ := X.invokevirtual hexec hown hlink hnamed hmethM hstM hkP hkPi hy (a := b) (cell := cellB) hcell
    (fun z h => by rw [h] at hobj; cases hobj) hselP hmethM habM hkP hkPi (g := g) hg (argsL := argsL) (rest := rest) (hlen _ hsigM) hstack hdg
  rcases hK m meth c ⟨T.setVm vm₁, locs, cells, slots⟩ { g with stack := rest } (.invokevirtual index) mk (Value.ref b :: argsL).toArray X₁ hg hsize hdg hW (X₁.named hnamed) (hpre vm₁ X₁.warmed) with ⟨v, B, X', hpost, hsteps⟩ | ⟨q, B, X', hpost, hsteps⟩
  · exact Or.inl ⟨v, vm₁, B, X₁.warmed, X', hpost, fun target h => hstep₁ _ fun acts => by rw [doInvoke_state]; exact hsteps.trans h⟩
  · exact Or.inr ⟨q, vm₁, B, X₁.warmed, X', hpost, hstep₁ _ fun acts => by rw [doInvoke_state]; exact hsteps⟩
theorem vx_callS (X : Stand p l e R s m args below meth c T locs cells slots) (hexec : p.tables.exec = Jvm.exec) {own : String} {index : Nat} {y : MethodName} {bytes : ByteArray} {maxL : Nat} {ret : Option FieldType}
    (hown : s.vm.findClass own = some m.cls) (hlink : (Cond.methodLink own index y).before args s = true) (hstat : (Cond.static y).before args s = true) (hinit : (Cond.initialized y.cls).before args s = true)
    (hcode : (Cond.code y bytes maxL ret).before args s = true) (hy : y.cls ≠ "java/lang/invoke/MethodHandle" ∧ y.cls ≠ "java/lang/invoke/VarHandle")
    {W9 : Nat} {Pre : Pt → Array Value → Prop} {Post : Pt → Array Value → Option Value → Pt → Prop} {PostX : Pt → Array Value → Addr → Pt → Prop} (hK : vx_Back l R p e below s args y 3 W9 Pre Post PostX)
    {g : JFrame} (hg : g.method = m) (hsize : g.locals.size = c.maxLocals) {argsL rest : List Value} (hlen : ∀ sig, parseMethodDescriptor y.desc = some sig → argsL.length = sig.parameters.length)
    (hstack : g.stack = argsL.reverse ++ rest) (hW : 2 * g.monitorRoom + (rest.map fun v => v.category).sum ≤ W9) (hdg : decode c.code g.pc = .ok (.invokestatic index, 3))
    (hpre : ∀ vm₁, s.WarmedH vm₁ → Pre ⟨T.setVm vm₁, locs, cells, slots⟩ argsL.toArray) :
    (∃ (v : Option Value) (vm₁ : Vm) (B : Pt), s.WarmedH vm₁ ∧ Stand p l e R s m args below meth c B.U B.locs B.cells B.slots ∧ Post ⟨T.setVm vm₁, locs, cells, slots⟩ argsL.toArray v B ∧
      ∀ target, Steps p.tables e below (B.U.setTop { g with pc := g.pc + 3, stack := v.toList ++ rest }) target → Steps p.tables e below (T.setTop g) target) ∨
    (∃ (q : Addr) (vm₁ : Vm) (B : Pt), s.WarmedH vm₁ ∧ Stand p l e R s m args below meth c B.U B.locs B.cells B.slots ∧ PostX ⟨T.setVm vm₁, locs, cells, slots⟩ argsL.toArray q B ∧
      Steps p.tables e below (T.setTop g) ((B.U.setTop { g with stack := rest }).pushFrame (.throwing q))) := by
  obtain ⟨mk, hnamed⟩ := Cond.code_named hcode
  obtain ⟨methM, cM, hmethM, -, -, -, -, -, -, hsigM⟩ := Cond.code_spec hnamed hcode
  have hstatic : methM.isStatic = true := Cond.static_spec hnamed hmethM hstat
  obtain ⟨kP, hkP, -⟩ := className_of_methodNamed hnamed
  have hinitP : kP.init = .initialized := Cond.initialized_spec (findClass_of_methodNamed hnamed) hkP hinit
  obtain ⟨vm₁, X₁, hstep₁⟩ := X.invokestatic hexec hown hlink hnamed hmethM hstatic hkP hinitP hy (g := g) hg (argsL := argsL) (rest := rest) (hlen _ hsigM) hstack hdg
  rcases hK m meth c ⟨T.setVm vm₁, locs, cells, slots⟩ { g with stack := rest } (.invokestatic index) mk argsL.toArray X₁ hg hsize hdg hW (X₁.named hnamed) (hpre vm₁ X₁.warmed) with ⟨v, B, X', hpost, hsteps⟩ | ⟨q, B, X', hpost, hsteps⟩
  · exact Or.inl ⟨v, vm₁, B, X₁.warmed, X', hpost, fun target h => hstep₁ _ fun acts => by rw [doInvoke_state]; exact hsteps.trans h⟩
  · exact Or.inr ⟨q, vm₁, B, X₁.warmed, X', hpost, hstep₁ _ fun acts => by rw [doInvoke_state]; exact hsteps⟩
end Calls
theorem vx_cls {s : State} {T : State} {vm₁ : Vm} {E : String} {k : ClassId} (hW : s.WarmedH vm₁) (h : (T.setVm vm₁).vm.findClass E = some k) : s.vm.findClass E = some k := by
  have h1 : vm₁.findClass E = some k := h
  rw [hW.alike.findClass] at h1
  exact h1
/-- the method's frame g, with q thrown over it -/
def vx_W (p : Program) (l : Launch) (e : Env) (R : Room) (s : State) (m : MethodId) (args : Array Value) (below : List Frame) (meth : Method) (c : Code) (H : Heap) (locs : List Loc) (cells slots : Nat) (Q : State → Prop) (g : JFrame) (q : Addr) : Prop :=
  ∀ T : State, T.heap = H → Stand p l e R s m args below meth c T locs cells slots → ∃ t, Steps p.tables e below ((T.setTop g).pushFrame (.throwing q)) t ∧ Q t
def vx_Run (p : Program) (l : Launch) (e : Env) (R : Room) (s : State) (m : MethodId) (args : Array Value) (below : List Frame) (meth : Method) (c : Code) (H : Heap) (locs : List Loc) (cells slots mc ms : Nat) (g : JFrame) (rest : List Value) (Qa : State → Outcome → State → Prop) (XC : String → State → State → Prop) (free : Addr → Prop) : Prop :=
  ∀ T : State, T.heap = H → Stand p l e R s m args below meth c T locs cells slots →
    (∃ (v : Option Value) (st₀ t T' : State) (L : List Loc), st₀.heap = H ∧ Stand p l e R s m args below meth c T' (locs ++ L) (cells + mc) (slots + ms) ∧ (∀ q ∈ L, free q.base) ∧ T'.heap = t.heap ∧ T'.vm = t.vm ∧ Qa st₀ (.returned v) t ∧
      Goes p e below T g T' { g with pc := g.pc + 3, stack := v.toList ++ rest }) ∨
    (∃ (q : Addr) (st₀ t T' : State) (L : List Loc) (E : String) (ce : Cell), st₀.heap = H ∧ Stand p l e R s m args below meth c T' (locs ++ L) (cells + mc) (slots + ms) ∧ (∀ z ∈ L, free z.base) ∧ T'.heap = t.heap ∧ T'.vm = t.vm ∧ XC E st₀ t ∧ t.heap[q]? = some ce ∧ ce.vm = .none ∧ s.vm.findClass E = some ce.cls ∧
      Steps p.tables e below (T.setTop g) ((T'.setTop { g with stack := rest }).pushFrame (.throwing q)))
def vx_X {S : Type} (px : S → Prop) (B : String → S → State → Prop) (A : Nat → Prop) : String → State → State → Prop := fun E st t => ∃ u : S, px u ∧ B E u t ∧ va_F A st t
section Runs
variable {p : Program} {l : Launch} {e : Env} {R : Room} {s : State} {m : MethodId} {args : Array Value} {below : List Frame} {meth : Method} {c : Code} {H : Heap} {locs : List Loc} {cells slots : Nat}
variable {y : MethodName} {bytes cc : ByteArray} {maxL nL mc ms n index : Nat} {ret : Option FieldType} {ws : List Cond} {rm : Room} {Pc : Array Value → State → Prop} {Qc : Array Value → State → Outcome → State → Prop} {XC : String → State → State → Prop} {free : Addr → Prop} {Ts : List Cond} {own C : String} {b : Addr} {As rest : List Value} {g : JFrame}
theorem vx_callBack (cb : CallB R s args own index y bytes maxL ret ws rm mc ms n) (hM : vx_Met l y ws rm Pc Qc XC mc ms free) (hbl : FrameBlind Pc) : vx_Back l R p e below s args y 3 8 (PreOf R mc ms Pc) (PostOf Qc mc ms free) (vx_Post XC mc ms free) := by
  obtain ⟨hrc, hrs, hfr, hlo, hws, hcw, -, hini, -⟩ := cb
  exact vx_back (bytes := bytes) (maxL := maxL) (ret := ret) hM hbl hrc hrs hfr hlo hws hcw (fun a' U hW => word_at hW (Or.inl (by first | rfl | simp [Cond.onTables, Cond.keeps, Cond.steady])) hini)
theorem vx_runV (S : CallFix p m c cc nL s args Ts own) (hM : vx_Met l y ws rm Pc Qc XC mc ms free) (cw : CallW R s args own C index y bytes maxL ret ws rm mc ms n) (hp : PreV s H C b Pc As)
    (hg : g.method = m) (hn : As.length = n) (hsize : g.locals.size = nL) (hstack : g.stack = As.reverse ++ .ref b :: rest) (hW : 2 * g.monitorRoom + (rest.map fun v => v.category).sum ≤ 8) (hdg : decode cc g.pc = .ok (.invokevirtual index, 3)) (hf : cells + mc ≤ R.cells ∧ slots + ms ≤ R.slots) :
    vx_Run p l e R s m args below meth c H locs cells slots mc ms g rest (Qc (Value.ref b :: As).toArray) XC free := by
  have hK : vx_Back l R p e below s args y 3 8 (PreOf R mc ms Pc) (PostOf Qc mc ms free) (vx_Post XC mc ms free) := vx_callBack cw.1 hM hp.1
  obtain ⟨⟨-, -, -, -, -, -, hcode, -, hy, hlen, hl⟩, hin, hse⟩ := cw
  obtain ⟨hx, hb, hml, ho, -⟩ := S
  obtain ⟨-, ⟨cellB, hcB, hoB, hclB⟩, hPc⟩ := hp
  intro T hT X
  rcases vx_callV X hx (C := C) (bytes := bytes) (maxL := maxL) (ret := ret) ho hl hin hse hcode hy hK (by rw [hT]; exact hcB) hoB hclB hg (hsize.trans hml.symm) (argsL := As) (rest := rest) (fun sig h => hn.trans (hlen sig h)) hstack hW (by rw [hb]; exact hdg)
    (fun vm₁ hW₁ => ⟨hf.1, hf.2, hPc (T.setVm vm₁) hT hW₁⟩) with ⟨v, vm₁, ⟨U', l2, c2, s2⟩, hW₁, X', ⟨g', mk, t, L, e1, e2, hq, h1, hL, h2, h3⟩, st⟩ | ⟨q, vm₁, ⟨U', l2, c2, s2⟩, hW₁, X', ⟨g', mk, t, L, E, ce, e1, e2, hq, hce, hcv, hcl, h1, hL, h2, h3⟩, st⟩
  · dsimp only [Pt.U, Pt.locs, Pt.cells, Pt.slots] at X' e1 e2 h1 h2 h3 st
    subst h1; subst h2; subst h3
    exact Or.inl ⟨v, (T.setVm vm₁).calling g' mk (Value.ref b :: As).toArray, t, U', L, hT, X', hL, e1, e2, hq, st⟩
  · dsimp only [Pt.U, Pt.locs, Pt.cells, Pt.slots] at X' e1 e2 h1 h2 h3 st hcl
    subst h1; subst h2; subst h3
    exact Or.inr ⟨q, (T.setVm vm₁).calling g' mk (Value.ref b :: As).toArray, t, U', L, E, ce, hT, X', hL, e1, e2, hq, hce, hcv, vx_cls hW₁ hcl, st⟩
theorem vx_runS (S : CallFix p m c cc nL s args Ts own) (hM : vx_Met l y ws rm Pc Qc XC mc ms free) (cw : CallB R s args own index y bytes maxL ret ws rm mc ms n ∧ (Cond.static y).before args s = true) (hp : PreS s H Pc As)
    (hg : g.method = m) (hn : As.length = n) (hsize : g.locals.size = nL) (hstack : g.stack = As.reverse ++ rest) (hW : 2 * g.monitorRoom + (rest.map fun v => v.category).sum ≤ 8) (hdg : decode cc g.pc = .ok (.invokestatic index, 3)) (hf : cells + mc ≤ R.cells ∧ slots + ms ≤ R.slots) :
    vx_Run p l e R s m args below meth c H locs cells slots mc ms g rest (Qc As.toArray) XC free := by
  have hK : vx_Back l R p e below s args y 3 8 (PreOf R mc ms Pc) (PostOf Qc mc ms free) (vx_Post XC mc ms free) := vx_callBack cw.1 hM hp.1
  obtain ⟨⟨-, -, -, -, -, -, hcode, hini, hy, hlen, hl⟩, hstt⟩ := cw
  obtain ⟨hx, hb, hml, ho, -⟩ := S
  intro T hT X
  rcases vx_callS X hx (bytes := bytes) (maxL := maxL) (ret := ret) ho hl hstt hini hcode hy hK hg (hsize.trans hml.symm) (argsL := As) (rest := rest) (fun sig h => hn.trans (hlen sig h)) hstack hW (by rw [hb]; exact hdg)
    (fun vm₁ hW₁ => ⟨hf.1, hf.2, hp.2 (T.setVm vm₁) hT hW₁⟩) with ⟨v, vm₁, ⟨U', l2, c2, s2⟩, hW₁, X', ⟨g', mk, t, L, e1, e2, hq, h1, hL, h2, h3⟩, st⟩ | ⟨q, vm₁, ⟨U', l2, c2, s2⟩, hW₁, X', ⟨g', mk, t, L, E, ce, e1, e2, hq, hce, hcv, hcl, h1, hL, h2, h3⟩, st⟩
  · dsimp only [Pt.U, Pt.locs, Pt.cells, Pt.slots] at X' e1 e2 h1 h2 h3 st
    subst h1; subst h2; subst h3
    exact Or.inl ⟨v, (T.setVm vm₁).calling g' mk As.toArray, t, U', L, hT, X', hL, e1, e2, hq, st⟩
  · dsimp only [Pt.U, Pt.locs, Pt.cells, Pt.slots] at X' e1 e2 h1 h2 h3 st hcl
    subst h1; subst h2; subst h3
    exact Or.inr ⟨q, (T.setVm vm₁).calling g' mk As.toArray, t, U', L, E, ce, hT, X', hL, e1, e2, hq, hce, hcv, vx_cls hW₁ hcl, st⟩
end Runs
section Rows
variable {p : Program} {l : Launch} {e : Env} {R : Room} {s : State} {m : MethodId} {args : Array Value} {below : List Frame} {meth : Method} {c : Code} {H : Heap} {locs : List Loc} {cells slots : Nat} {Q : State → Prop}
variable {mc ms : Nat} {free : Addr → Prop} {A0 A1 : Nat → Prop} {H0 : Heap} {a : Array Value} {pc : Nat} {ls : Array Slot} {st0 rest : List Value}
theorem vx_keep {st₀ t T' : State} {L : List Loc} (h0 : st₀.heap = H) (e1 : T'.heap = t.heap) (hS : va_S A0 H0 H locs) (hA : ∀ q, q < H.size → A1 q → A0 q) (hf : ∀ q, free q → A0 q) (hL : ∀ q ∈ L, free q.base) (hF : va_F A1 st₀ t) :
    H.size ≤ T'.heap.size ∧ (∀ q : Nat, q < H.size → ¬ A1 q → T'.heap[q]? = H[q]?) ∧ va_S A0 H0 T'.heap (locs ++ L) := by
  obtain ⟨hz, hk⟩ := hF
  rw [h0] at hz hk
  exact ⟨by rw [e1]; exact hz, fun q h1 h2 => by rw [e1]; exact hk q h1 h2,
    ⟨Nat.le_trans hS.1 (by rw [e1]; exact hz), fun q h1 h2 => by rw [e1, hk q (Nat.lt_of_lt_of_le h1 hS.1) (fun z => h2 (hA q (Nat.lt_of_lt_of_le h1 hS.1) z))]; exact hS.2.1 q h1 h2, fun q hq => by
      rcases List.mem_append.mp hq with h | h
      · exact hS.2.2 q h
      · exact hf _ (hL q h)⟩⟩
theorem vx_calli {S SX : Type} {post : Int32 → S → Prop} {px : SX → Prop} {B : S → State → Prop} {BX : String → SX → State → Prop} {AX : Nat → Prop} (hr : vx_Run p l e R s m args below meth c H locs cells slots mc ms (F0 m pc ls st0) rest (va_Qi post B A1 a) (vx_X px BX AX) free) (hS : va_S A0 H0 H locs) (hA : ∀ q, q < H.size → A1 q → A0 q) (hf : ∀ q, free q → A0 q) (hAX : ∀ q, q < H.size → AX q → A0 q)
    (kx : ∀ (E : String) (ce : Cell) (q9 : Addr) (u : SX) (t : State) (H1 : Heap) (locs1 : List Loc), t.heap = H1 → s.vm.Alike t.vm → px u → BX E u t → H.size ≤ H1.size → (∀ q : Nat, q < H.size → ¬ AX q → H1[q]? = H[q]?) → va_S A0 H0 H1 locs1 → H1[q9]? = some ce → ce.vm = .none → s.vm.findClass E = some ce.cls → vx_W p l e R s m args below meth c H1 locs1 (cells + mc) (slots + ms) Q (F0 m pc ls rest) q9)
    (kk : ∀ (r : Int32) (u : S) (t : State) (H1 : Heap) (locs1 : List Loc), t.heap = H1 → s.vm.Alike t.vm → post r u → B u t → H.size ≤ H1.size → (∀ q : Nat, q < H.size → ¬ A1 q → H1[q]? = H[q]?) → va_S A0 H0 H1 locs1 → W p l e R s m args below meth c H1 locs1 (cells + mc) (slots + ms) Q (F0 m (pc + 3) ls (.int r :: rest))) : W p l e R s m args below meth c H locs cells slots Q (F0 m pc ls st0) := by
  intro T hT X
  rcases hr T hT X with ⟨v, st₀, t, T', L, h0, X', hL, e1, e2, ⟨⟨r, u, hv, hp, hb⟩, hF⟩, st⟩ | ⟨q, st₀, t, T', L, E, ce, h0, X', hL, e1, e2, ⟨u, hp, hb, hF⟩, hce, hcv, hcl, st⟩
  · cases hv
    obtain ⟨k1, k2, k3⟩ := vx_keep h0 e1 hS hA hf hL hF
    obtain ⟨t2, a1, b1⟩ := kk r u t T'.heap (locs ++ L) e1.symm (by rw [← e2]; exact X'.warmed.alike) hp hb k1 k2 k3 T' rfl X'
    exact ⟨t2, st t2 a1, b1⟩
  · obtain ⟨k1, k2, k3⟩ := vx_keep h0 e1 hS hAX hf hL hF
    obtain ⟨t2, a1, b1⟩ := kx E ce q u t T'.heap (locs ++ L) e1.symm (by rw [← e2]; exact X'.warmed.alike) hp hb k1 k2 k3 (by rw [e1]; exact hce) hcv hcl T' rfl X'
    exact ⟨t2, st.trans a1, b1⟩
theorem vx_calll {S SX : Type} {post : Int64 → S → Prop} {px : SX → Prop} {B : S → State → Prop} {BX : String → SX → State → Prop} {AX : Nat → Prop} (hr : vx_Run p l e R s m args below meth c H locs cells slots mc ms (F0 m pc ls st0) rest (va_Ql post B A1 a) (vx_X px BX AX) free) (hS : va_S A0 H0 H locs) (hA : ∀ q, q < H.size → A1 q → A0 q) (hf : ∀ q, free q → A0 q) (hAX : ∀ q, q < H.size → AX q → A0 q)
    (kx : ∀ (E : String) (ce : Cell) (q9 : Addr) (u : SX) (t : State) (H1 : Heap) (locs1 : List Loc), t.heap = H1 → s.vm.Alike t.vm → px u → BX E u t → H.size ≤ H1.size → (∀ q : Nat, q < H.size → ¬ AX q → H1[q]? = H[q]?) → va_S A0 H0 H1 locs1 → H1[q9]? = some ce → ce.vm = .none → s.vm.findClass E = some ce.cls → vx_W p l e R s m args below meth c H1 locs1 (cells + mc) (slots + ms) Q (F0 m pc ls rest) q9)
    (kk : ∀ (r : Int64) (u : S) (t : State) (H1 : Heap) (locs1 : List Loc), t.heap = H1 → s.vm.Alike t.vm → post r u → B u t → H.size ≤ H1.size → (∀ q : Nat, q < H.size → ¬ A1 q → H1[q]? = H[q]?) → va_S A0 H0 H1 locs1 → W p l e R s m args below meth c H1 locs1 (cells + mc) (slots + ms) Q (F0 m (pc + 3) ls (.long r :: rest))) : W p l e R s m args below meth c H locs cells slots Q (F0 m pc ls st0) := by
  intro T hT X
  rcases hr T hT X with ⟨v, st₀, t, T', L, h0, X', hL, e1, e2, ⟨⟨r, u, hv, hp, hb⟩, hF⟩, st⟩ | ⟨q, st₀, t, T', L, E, ce, h0, X', hL, e1, e2, ⟨u, hp, hb, hF⟩, hce, hcv, hcl, st⟩
  · cases hv
    obtain ⟨k1, k2, k3⟩ := vx_keep h0 e1 hS hA hf hL hF
    obtain ⟨t2, a1, b1⟩ := kk r u t T'.heap (locs ++ L) e1.symm (by rw [← e2]; exact X'.warmed.alike) hp hb k1 k2 k3 T' rfl X'
    exact ⟨t2, st t2 a1, b1⟩
  · obtain ⟨k1, k2, k3⟩ := vx_keep h0 e1 hS hAX hf hL hF
    obtain ⟨t2, a1, b1⟩ := kx E ce q u t T'.heap (locs ++ L) e1.symm (by rw [← e2]; exact X'.warmed.alike) hp hb k1 k2 k3 (by rw [e1]; exact hce) hcv hcl T' rfl X'
    exact ⟨t2, st.trans a1, b1⟩
theorem vx_callf {S SX : Type} {post : UInt32 → S → Prop} {px : SX → Prop} {B : S → State → Prop} {BX : String → SX → State → Prop} {AX : Nat → Prop} (hr : vx_Run p l e R s m args below meth c H locs cells slots mc ms (F0 m pc ls st0) rest (va_Qf post B A1 a) (vx_X px BX AX) free) (hS : va_S A0 H0 H locs) (hA : ∀ q, q < H.size → A1 q → A0 q) (hf : ∀ q, free q → A0 q) (hAX : ∀ q, q < H.size → AX q → A0 q)
    (kx : ∀ (E : String) (ce : Cell) (q9 : Addr) (u : SX) (t : State) (H1 : Heap) (locs1 : List Loc), t.heap = H1 → s.vm.Alike t.vm → px u → BX E u t → H.size ≤ H1.size → (∀ q : Nat, q < H.size → ¬ AX q → H1[q]? = H[q]?) → va_S A0 H0 H1 locs1 → H1[q9]? = some ce → ce.vm = .none → s.vm.findClass E = some ce.cls → vx_W p l e R s m args below meth c H1 locs1 (cells + mc) (slots + ms) Q (F0 m pc ls rest) q9)
    (kk : ∀ (r : UInt32) (u : S) (t : State) (H1 : Heap) (locs1 : List Loc), t.heap = H1 → s.vm.Alike t.vm → post r u → B u t → H.size ≤ H1.size → (∀ q : Nat, q < H.size → ¬ A1 q → H1[q]? = H[q]?) → va_S A0 H0 H1 locs1 → W p l e R s m args below meth c H1 locs1 (cells + mc) (slots + ms) Q (F0 m (pc + 3) ls (.float r :: rest))) : W p l e R s m args below meth c H locs cells slots Q (F0 m pc ls st0) := by
  intro T hT X
  rcases hr T hT X with ⟨v, st₀, t, T', L, h0, X', hL, e1, e2, ⟨⟨r, u, hv, hp, hb⟩, hF⟩, st⟩ | ⟨q, st₀, t, T', L, E, ce, h0, X', hL, e1, e2, ⟨u, hp, hb, hF⟩, hce, hcv, hcl, st⟩
  · cases hv
    obtain ⟨k1, k2, k3⟩ := vx_keep h0 e1 hS hA hf hL hF
    obtain ⟨t2, a1, b1⟩ := kk r u t T'.heap (locs ++ L) e1.symm (by rw [← e2]; exact X'.warmed.alike) hp hb k1 k2 k3 T' rfl X'
    exact ⟨t2, st t2 a1, b1⟩
  · obtain ⟨k1, k2, k3⟩ := vx_keep h0 e1 hS hAX hf hL hF
    obtain ⟨t2, a1, b1⟩ := kx E ce q u t T'.heap (locs ++ L) e1.symm (by rw [← e2]; exact X'.warmed.alike) hp hb k1 k2 k3 (by rw [e1]; exact hce) hcv hcl T' rfl X'
    exact ⟨t2, st.trans a1, b1⟩
theorem vx_calld {S SX : Type} {post : UInt64 → S → Prop} {px : SX → Prop} {B : S → State → Prop} {BX : String → SX → State → Prop} {AX : Nat → Prop} (hr : vx_Run p l e R s m args below meth c H locs cells slots mc ms (F0 m pc ls st0) rest (va_Qd post B A1 a) (vx_X px BX AX) free) (hS : va_S A0 H0 H locs) (hA : ∀ q, q < H.size → A1 q → A0 q) (hf : ∀ q, free q → A0 q) (hAX : ∀ q, q < H.size → AX q → A0 q)
    (kx : ∀ (E : String) (ce : Cell) (q9 : Addr) (u : SX) (t : State) (H1 : Heap) (locs1 : List Loc), t.heap = H1 → s.vm.Alike t.vm → px u → BX E u t → H.size ≤ H1.size → (∀ q : Nat, q < H.size → ¬ AX q → H1[q]? = H[q]?) → va_S A0 H0 H1 locs1 → H1[q9]? = some ce → ce.vm = .none → s.vm.findClass E = some ce.cls → vx_W p l e R s m args below meth c H1 locs1 (cells + mc) (slots + ms) Q (F0 m pc ls rest) q9)
    (kk : ∀ (r : UInt64) (u : S) (t : State) (H1 : Heap) (locs1 : List Loc), t.heap = H1 → s.vm.Alike t.vm → post r u → B u t → H.size ≤ H1.size → (∀ q : Nat, q < H.size → ¬ A1 q → H1[q]? = H[q]?) → va_S A0 H0 H1 locs1 → W p l e R s m args below meth c H1 locs1 (cells + mc) (slots + ms) Q (F0 m (pc + 3) ls (.double r :: rest))) : W p l e R s m args below meth c H locs cells slots Q (F0 m pc ls st0) := by
  intro T hT X
  rcases hr T hT X with ⟨v, st₀, t, T', L, h0, X', hL, e1, e2, ⟨⟨r, u, hv, hp, hb⟩, hF⟩, st⟩ | ⟨q, st₀, t, T', L, E, ce, h0, X', hL, e1, e2, ⟨u, hp, hb, hF⟩, hce, hcv, hcl, st⟩
  · cases hv
    obtain ⟨k1, k2, k3⟩ := vx_keep h0 e1 hS hA hf hL hF
    obtain ⟨t2, a1, b1⟩ := kk r u t T'.heap (locs ++ L) e1.symm (by rw [← e2]; exact X'.warmed.alike) hp hb k1 k2 k3 T' rfl X'
    exact ⟨t2, st t2 a1, b1⟩
  · obtain ⟨k1, k2, k3⟩ := vx_keep h0 e1 hS hAX hf hL hF
    obtain ⟨t2, a1, b1⟩ := kx E ce q u t T'.heap (locs ++ L) e1.symm (by rw [← e2]; exact X'.warmed.alike) hp hb k1 k2 k3 (by rw [e1]; exact hce) hcv hcl T' rfl X'
    exact ⟨t2, st.trans a1, b1⟩
theorem vx_callv {S SX : Type} {post : S → Prop} {px : SX → Prop} {B : S → State → Prop} {BX : String → SX → State → Prop} {AX : Nat → Prop} (hr : vx_Run p l e R s m args below meth c H locs cells slots mc ms (F0 m pc ls st0) rest (va_Qv post B A1 a) (vx_X px BX AX) free) (hS : va_S A0 H0 H locs) (hA : ∀ q, q < H.size → A1 q → A0 q) (hf : ∀ q, free q → A0 q) (hAX : ∀ q, q < H.size → AX q → A0 q)
    (kx : ∀ (E : String) (ce : Cell) (q9 : Addr) (u : SX) (t : State) (H1 : Heap) (locs1 : List Loc), t.heap = H1 → s.vm.Alike t.vm → px u → BX E u t → H.size ≤ H1.size → (∀ q : Nat, q < H.size → ¬ AX q → H1[q]? = H[q]?) → va_S A0 H0 H1 locs1 → H1[q9]? = some ce → ce.vm = .none → s.vm.findClass E = some ce.cls → vx_W p l e R s m args below meth c H1 locs1 (cells + mc) (slots + ms) Q (F0 m pc ls rest) q9)
    (kk : ∀ (u : S) (t : State) (H1 : Heap) (locs1 : List Loc), t.heap = H1 → s.vm.Alike t.vm → post u → B u t → H.size ≤ H1.size → (∀ q : Nat, q < H.size → ¬ A1 q → H1[q]? = H[q]?) → va_S A0 H0 H1 locs1 → W p l e R s m args below meth c H1 locs1 (cells + mc) (slots + ms) Q (F0 m (pc + 3) ls (rest))) : W p l e R s m args below meth c H locs cells slots Q (F0 m pc ls st0) := by
  intro T hT X
  rcases hr T hT X with ⟨v, st₀, t, T', L, h0, X', hL, e1, e2, ⟨⟨u, hv, hp, hb⟩, hF⟩, st⟩ | ⟨q, st₀, t, T', L, E, ce, h0, X', hL, e1, e2, ⟨u, hp, hb, hF⟩, hce, hcv, hcl, st⟩
  · cases hv
    obtain ⟨k1, k2, k3⟩ := vx_keep h0 e1 hS hA hf hL hF
    obtain ⟨t2, a1, b1⟩ := kk u t T'.heap (locs ++ L) e1.symm (by rw [← e2]; exact X'.warmed.alike) hp hb k1 k2 k3 T' rfl X'
    exact ⟨t2, st t2 a1, b1⟩
  · obtain ⟨k1, k2, k3⟩ := vx_keep h0 e1 hS hAX hf hL hF
    obtain ⟨t2, a1, b1⟩ := kx E ce q u t T'.heap (locs ++ L) e1.symm (by rw [← e2]; exact X'.warmed.alike) hp hb k1 k2 k3 (by rw [e1]; exact hce) hcv hcl T' rfl X'
    exact ⟨t2, st.trans a1, b1⟩
/-- caught by the row x of this method's table; the rows ahead don't take it -/
theorem vx_catch {own name : String} {E : String} {ce : Cell} {q : Addr} (hown : s.vm.findClass own = some m.cls) (pre : List ExceptionTableEntry) (x : ExceptionTableEntry) (suf : List ExceptionTableEntry) (hsplit : c.exceptionTable.toList = pre ++ x :: suf)
    (hpass : ∀ z ∈ pre, covers z pc = false ∨ (z.catchType ≠ 0 ∧ ∃ nm : String, (Cond.classLink own z.catchType nm).before args s = true ∧ va_Nc E nm s)) (hx : covers x pc = true) (h0 : x.catchType ≠ 0)
    (hlink : (Cond.classLink own x.catchType name).before args s = true) (hcast : (Cond.castable E name).before args s = true) (hcell : H[q]? = some ce) (hv : ce.vm = .none) (hcl : s.vm.findClass E = some ce.cls)
    (kk : W p l e R s m args below meth c H locs cells slots Q (F0 m x.handlerPc ls [.ref q])) : vx_W p l e R s m args below meth c H locs cells slots Q (F0 m pc ls rest) q := by
  intro T hT X
  have hpl : e.platform.magicAccessors = ({} : Platform).magicAccessors := by rw [X.admits.platform]
  obtain ⟨c3, c4, hc3, hc4, hasg⟩ := Cond.castable_spec hcast
  cases Option.some.inj (hc3.symm.trans hcl)
  obtain ⟨c5, hc5, hcl5⟩ := Cond.classLink_spec hown hlink e.platform hpl
  cases Option.some.inj (hc4.symm.trans hc5)
  obtain ⟨vm', X', st⟩ := Jvm.Stand.thenCaughtThrough X q (g := F0 m pc ls rest) rfl (Steps.refl _) (by rw [hT]; exact hcell) (by rw [hv]; rfl) (by obtain ⟨k9, h9, -⟩ := Vm.findClass_spec hcl; exact ⟨k9, h9⟩) pre x suf hsplit
    (fun z hz => by
      rcases hpass z hz with h | ⟨hz0, nm, hl1, hn1⟩
      · exact Or.inl h
      · obtain ⟨c6, hc6, hcl6⟩ := Cond.classLink_spec hown hl1 e.platform hpl
        obtain ⟨a8, b8, h1, h2, h3⟩ := hn1
        cases Option.some.inj (h1.symm.trans hcl)
        cases Option.some.inj (h2.symm.trans hc6)
        exact Or.inr ⟨hz0, _, hcl6, h3⟩) hx (Or.inr ⟨h0, c4, hcl5, hasg⟩)
  obtain ⟨t, a1, b1⟩ := kk (T.setVm vm') hT X'
  exact ⟨t, st.trans a1, b1⟩
end Rows
section Ends
variable {p : Program} {l : Launch} {e : Env} {R : Room} {s : State} {m : MethodId} {args : Array Value} {below : List Frame} {meth : Method} {c : Code} {H : Heap} {locs : List Loc} {cells slots : Nat} {Q : State → Prop}
variable {mc ms : Nat} {free : Addr → Prop} {A0 A1 : Nat → Prop} {H0 : Heap} {a : Array Value} {ls : Array Slot} {st0 rest : List Value}
variable {Qc : Array Value → State → Outcome → State → Prop} {XC : String → State → State → Prop}
/-- what a body that may throw owes at its end -/
def vx_MQ (below : List Frame) (Qc : Array Value → State → Outcome → State → Prop) (XC : String → State → State → Prop) (a : Array Value) (s : State) (mc ms : Nat) (free : Addr → Prop) : State → Prop := fun t =>
  ∃ o, t.status = .running ∧ Ended t below o ∧ vx_Q Qc XC mc ms free a s o t
theorem vx_ret {g : JFrame} {mc ms : Nat} (k : W p l e R s m args below meth c H locs cells slots (MQ below Qc args s mc ms free) g) : W p l e R s m args below meth c H locs cells slots (vx_MQ below Qc XC args s mc ms free) g := by
  intro T hT X
  obtain ⟨t, a1, o, b1, b2, b3, b4⟩ := k T hT X
  exact ⟨t, a1, o, b1, b2, Or.inl ⟨b3, b4⟩⟩
/-- not caught here: it goes on to the caller -/
theorem vx_widen {g : JFrame} {q : Addr} {k n : Nat} (h1 : cells ≤ k) (h2 : slots ≤ n) (kk : vx_W p l e R s m args below meth c H locs k n Q g q) : vx_W p l e R s m args below meth c H locs cells slots Q g q := fun T hT X => kk T hT (stand_widen X h1 h2)
theorem vx_out {pc : Nat} {E : String} {ce : Cell} {q : Addr} {mc ms : Nat} (hout : ∀ x ∈ c.exceptionTable.toList, covers x pc = false) (hlocks : meth.locks = false) (hcell : H[q]? = some ce) (hv : ce.vm = .none) (hcl : s.vm.findClass E = some ce.cls)
    (hx : ∀ t : State, t.heap = H → s.vm.Alike t.vm → XC E s t) (hf : ∀ z ∈ locs, free z.base) (hc : cells ≤ mc) (hs : slots ≤ ms) :
    vx_W p l e R s m args below meth c H locs cells slots (vx_MQ below Qc XC args s mc ms free) (F0 m pc ls rest) q := by
  intro T hT X
  obtain ⟨st1, hrun, hend, hW, hsm⟩ := X.leaveThrown q (g := F0 m pc ls rest) rfl rfl rfl hout hlocks
  have hcell9 : (T.setFrames (.throwing q :: below)).heap[q]? = some ce := by
    show T.heap[q]? = some ce
    rw [hT]; exact hcell
  exact ⟨_, st1, .threw q, hrun, hend, Or.inr ⟨q, rfl, E, ce, locs, hx _ hT hW.alike, hcell9, hv, hcl, hW, hsm.mono hc hs, hf⟩⟩
theorem vx_frame {U : State} {k n : Nat} (h : s.sameButNew ({ U with vm := s.vm } : State) locs k n) : s.heap.size ≤ U.heap.size ∧ ∀ q : Nat, q < s.heap.size → (∀ z ∈ locs, z.base ≠ q) → U.heap[q]? = s.heap[q]? := by
  obtain ⟨-, h2, -, -, -, h6⟩ := h
  refine ⟨h2, fun q hq hz => ?_⟩
  obtain ⟨c9, e1, e2, e3, e4⟩ := h6 q _ (Array.getElem?_eq_getElem hq)
  have hs : c9.slots = (s.heap[q]).slots := Array.ext_getElem? fun i => e4 i fun hm => hz _ hm rfl
  have h9 : c9 = s.heap[q] := by
    rw [hs] at e2
    exact e2
  have e5 : U.heap[q]? = some c9 := e1
  rw [e5, h9, Array.getElem?_eq_getElem hq]
/-- the words of a throw but the four that speak of the heap -/
def vx_no (w : Cond) : Bool := decide (w ≠ .isRef (.static Bundle.tN "UNASSIGNED_STACK" Bundle.steD)) && decide (w ≠ .isRef (.static Bundle.tN "SUPPRESSED_SENTINEL" Bundle.listD)) && decide (w ≠ .laysStatic Bundle.tN "UNASSIGNED_STACK" Bundle.steD) && decide (w ≠ .laysStatic Bundle.tN "SUPPRESSED_SENTINEL" Bundle.listD)
def vx_at0 (own : String) (ic : Nat) (X : String) (names : List String) : List Cond := (Bundle.ownAtoms0 own ic X names).filter vx_no
def vx_atS (own : String) (ic : Nat) (X : String) (names : List String) : List Cond := (Bundle.ownAtoms own ic X names).filter vx_no
/-- a word that the tables alone decide, or a good one -/
def vx_ot (w : Cond) : Bool := w.onTables || goodWord w
theorem vx_ot_at {args a' : Array Value} {s U : State} {w : Cond} (hW : s.WarmedH U.vm) (hvm : s.vm = U.vm) (hg : vx_ot w = true) (h : w.before args s = true) : w.before a' U = true := by
  simp only [vx_ot, Bool.or_eq_true] at hg
  rcases hg with hg | hg
  · exact va_tabs hg hvm h
  · exact word_at hW (good_of_word hg) h
/-- a list's words: the good ones out of the method's own list, the others by premises of their own -/
theorem vx_hat {args : Array Value} {s : State} {L B : List Cond} (h1 : ∀ w ∈ L.filter goodWord, w.before args s = true) (h2 : ∀ w ∈ L.filter (fun w => !goodWord w), w ∈ B) (h3 : ∀ w ∈ B, w.before args s = true) : ∀ w ∈ L, w.before args s = true := by
  intro w hw
  by_cases g : goodWord w = true
  · exact h1 w (List.mem_filter.mpr ⟨hw, g⟩)
  · refine h3 w (h2 w (List.mem_filter.mpr ⟨hw, ?_⟩))
    show (!goodWord w) = true
    cases hgw : goodWord w
    · rfl
    · exact absurd hgw g
theorem vx_c {args : Array Value} {s : State} {w : Cond} {B : List Cond} (h : w.before args s = true) (t : ∀ w ∈ B, w.before args s = true) : ∀ w' ∈ w :: B, w'.before args s = true := fun w' h' => (List.mem_cons.mp h').elim (fun e => by rw [e]; exact h) (t w')
theorem vx_n {args : Array Value} {s : State} : ∀ w ∈ ([] : List Cond), w.before args s = true := fun _ h => nomatch h
theorem vx_own {args : Array Value} {s : State} {L : List Cond} (h1 : ∀ w ∈ L.filter vx_no, w.before args s = true)
    (hU : (Cond.isRef (.static Bundle.tN "UNASSIGNED_STACK" Bundle.steD)).before args s = true) (hN : (Cond.isRef (.static Bundle.tN "SUPPRESSED_SENTINEL" Bundle.listD)).before args s = true)
    (lU : (Cond.laysStatic Bundle.tN "UNASSIGNED_STACK" Bundle.steD).before args s = true) (lN : (Cond.laysStatic Bundle.tN "SUPPRESSED_SENTINEL" Bundle.listD).before args s = true) : ∀ w ∈ L, w.before args s = true := by
  intro w hw
  by_cases e1 : w = .isRef (.static Bundle.tN "UNASSIGNED_STACK" Bundle.steD)
  · rw [e1]; exact hU
  · by_cases e2 : w = .isRef (.static Bundle.tN "SUPPRESSED_SENTINEL" Bundle.listD)
    · rw [e2]; exact hN
    · by_cases e3 : w = .laysStatic Bundle.tN "UNASSIGNED_STACK" Bundle.steD
      · rw [e3]; exact lU
      · by_cases e4 : w = .laysStatic Bundle.tN "SUPPRESSED_SENTINEL" Bundle.listD
        · rw [e4]; exact lN
        · exact h1 w (List.mem_filter.mpr ⟨hw, by unfold vx_no; rw [decide_eq_true e1, decide_eq_true e2, decide_eq_true e3, decide_eq_true e4]; rfl⟩)
/-- where a static field lies, its class's statics cell in H -/
def vx_L (C n d : String) (A : Nat → Prop) (U : State) (H : Heap) : Prop := ∃ (c : ClassId) (k : Class) (i : Nat) (f : Field) (a : Nat) (cell : Cell), U.vm.findClass C = some c ∧ U.fieldFound? C n d = some (c, k, i, f) ∧ f.isStatic = true ∧ k.statics = some a ∧ H[a]? = some cell ∧ cell.vm.isStatics = true ∧ cell.cls = c ∧ f.slot < cell.slots.size ∧ k.staticTypes[f.slot]? = some f.type ∧ ¬ A a
theorem vx_L.moved {C n d : String} {A : Nat → Prop} {u U : State} {H : Heap} (hvm : u.vm.Alike U.vm) (h : vx_L C n d A u H) : vx_L C n d A U H := by
  obtain ⟨c, k, i, f, a, cell, h1, h2, h3, h4, h5, h6, h7, h8, h9, h10⟩ := h
  obtain ⟨k', hi', he⟩ := State.fieldFound?_setVm hvm h2
  exact ⟨c, k', i, f, a, cell, by rw [hvm.findClass]; exact h1, hi', h3, by rw [he]; exact h4, h5, h6, h7, h8, by rw [he]; exact h9, h10⟩
theorem vx_L.kept {C n d : String} {A : Nat → Prop} {U : State} {H H1 : Heap} (h : vx_L C n d A U H) (hq : ∀ a : Nat, a < H.size → ¬ A a → H1[a]? = H[a]?) : vx_L C n d A U H1 := by
  obtain ⟨c, k, i, f, a, cell, h1, h2, h3, h4, h5, h6, h7, h8, h9, h10⟩ := h
  exact ⟨c, k, i, f, a, cell, h1, h2, h3, h4, by rw [hq a (Array.getElem?_eq_some_iff.mp h5).1 h10]; exact h5, h6, h7, h8, h9, h10⟩
theorem vx_L.narrow {C n d : String} {A B : Nat → Prop} {U : State} {H : Heap} (h : vx_L C n d A U H) (hAB : ∀ q, B q → A q) : vx_L C n d B U H := by
  obtain ⟨c, k, i, f, a, cell, h1, h2, h3, h4, h5, h6, h7, h8, h9, h10⟩ := h
  exact ⟨c, k, i, f, a, cell, h1, h2, h3, h4, h5, h6, h7, h8, h9, fun z => h10 (hAB _ z)⟩
theorem vx_L.word {C n d : String} {A : Nat → Prop} {s : State} {args : Array Value} (h : vx_L C n d A s s.heap) : (Cond.laysStatic C n d).before args s = true := by
  obtain ⟨c, k, i, f, a, cell, h1, h2, h3, h4, h5, h6, h7, h8, h9, -⟩ := h
  show (Cond.laysStatic C n d).holds args s none s [] = true
  exact Cond.laysStatic_of h1 h2 h3 h4 h5 h6 h7 h8 h9
/-- .. and what it holds: null or some reference -/
def vx_Zq (C n d : String) (A : Nat → Prop) (U : State) (H : Heap) : Prop := va_Zq C n d A U H ∧ vx_L C n d A U H
theorem vx_Zq.moved {C n d : String} {A : Nat → Prop} {u U : State} {H : Heap} (hvm : u.vm.Alike U.vm) (h : vx_Zq C n d A u H) : vx_Zq C n d A U H := ⟨va_Zq.moved hvm h.1, vx_L.moved hvm h.2⟩
theorem vx_Zq.kept {C n d : String} {A : Nat → Prop} {U : State} {H H1 : Heap} (h : vx_Zq C n d A U H) (hq : ∀ a : Nat, a < H.size → ¬ A a → H1[a]? = H[a]?) : vx_Zq C n d A U H1 := ⟨va_Zq.kept h.1 hq, vx_L.kept h.2 hq⟩
theorem vx_Zq.narrow {C n d : String} {A B : Nat → Prop} {U : State} {H : Heap} (h : vx_Zq C n d A U H) (hAB : ∀ q, B q → A q) : vx_Zq C n d B U H := ⟨va_Zq.narrow h.1 hAB, vx_L.narrow h.2 hAB⟩
theorem vx_Zqof {args : Array Value} {s : State} {C n d : String} {A : Nat → Prop} (hl : (Cond.laysStatic C n d).before args s = true) (hini : (Cond.initialized C).before args s = true) (h : (Cond.isRef (.static C n d)).before args s = true) (hA : ∀ a : Nat, a < s.heap.size → ¬ A a) : vx_Zq C n d A s s.heap := by
  refine ⟨va_Zqof hl hini h hA, ?_⟩
  obtain ⟨c, k, i, f, a, cell, h1, h2, h3, h4, h5, h6, h7, h8, h9⟩ := Cond.laysStatic_spec hl
  exact ⟨c, k, i, f, a, cell, h1, h2, h3, h4, h5, h6, h7, h8, h9, hA a (Array.getElem?_eq_some_iff.mp h5).1⟩
theorem vx_isRef {C n d : String} {v : Value} {A : Nat → Prop} {s : State} {args : Array Value} (h : va_Z C n d v A s s.heap) (hv : v.isRef = true) : (Cond.isRef (.static C n d)).before args s = true := by
  obtain ⟨cf, kf, fi, f, a, cell, h1, h2, h3, h4, h5, h6, h7, -⟩ := h
  have he : (Term.static C n d).eval args s none [] s = some v := by
    simp [Term.eval, State.fieldNamed?, h1, h2, h4, h5, h6, h7]
  simp only [Cond.before, Cond.holds, Cond.value, he]
  cases v <;> simp_all [Value.isRef]
theorem vx_isRefq {C n d : String} {A : Nat → Prop} {s : State} {args : Array Value} (h : va_Zq C n d A s s.heap) : (Cond.isRef (.static C n d)).before args s = true := by
  rcases h with h | ⟨t, h⟩
  · exact vx_isRef h rfl
  · exact vx_isRef h rfl
/-- the same frame, seen from here: as if the method were called anew in this heap -/
theorem vx_rebase {T : State} (X : Stand p l e R s m args below meth c T locs cells slots) {R' : Room} (hf : R'.frames ≤ R.frames) (hl : R'.locals ≤ R.locals) (hc : cells + R'.cells ≤ R.cells) (hs : slots + R'.slots ≤ R.slots) :
    Stand p l e R' ((T.setVm s.vm).setFrames (.invoking m args :: below)) m args below meth c T [] 0 0 := by
  have htop : (T.setVm s.vm).topJava?.isSome := X.here.top
  have hF : ((T.setVm s.vm).setFrames (.invoking m args :: below)).frames = .invoking m args :: below := State.frames_setFrames _ (State.cur_lt_of_top htop)
  obtain ⟨g₀, hg0⟩ := Option.isSome_iff_exists.mp htop
  obtain ⟨r, hr⟩ := State.topJava?_eq_some.mp hg0
  have hl9 : e.platform.stackLimits (T.setVm s.vm).me = e.platform.stackLimits s.me := X.limits
  have hb9 : (T.setVm s.vm).me.stackBytes = s.me.stackBytes := X.bytes
  refine ⟨X.admits, X.cas, X.clock, hF, ?_, X.hears, X.method, X.code, X.here, X.tail, X.warmed, ?_, ?_, ?_⟩
  · have h := X.room
    have hU : ((T.setVm s.vm).setFrames (.invoking m args :: below)).localsInUse = s.localsInUse := by
      rw [State.localsInUse_invoking hF (meth := meth) (c := c) X.method X.code, State.localsInUse_invoking X.frames X.method X.code]
    simp only [State.hasRoom, Bool.and_eq_true, decide_eq_true_eq] at h ⊢
    obtain ⟨⟨⟨⟨h1, h2, h3, h4, h5, h6⟩, h7⟩, h8⟩, h9⟩ := h
    rw [X.frames, List.length_cons] at h2 h3
    have q1 := X.heapSize
    have q2 := X.used
    simp only [hF, hU, List.length_cons, State.stackLimits_setFrames, State.stackBytes_setFrames, hl9, hb9]
    refine ⟨⟨⟨⟨by omega, by omega, by omega, by omega, by omega, h6⟩, ?_⟩, ?_⟩, X.book⟩
    · show T.heap.size + R'.cells ≤ e.platform.maxCells
      omega
    · show T.slotsUsed + R'.slots ≤ e.platform.maxSlots
      omega
  · rw [State.stackLimits_setFrames]; rfl
  · rw [State.stackBytes_setFrames]; rfl
  · refine ⟨?_, Nat.le_refl _, Nat.le_refl _, ?_, ?_, fun a c9 h9 => ⟨c9, h9, rfl, rfl, fun _ _ => rfl⟩⟩
    · obtain ⟨t, ht, -⟩ := State.frames_cons hr
      show T.setVm s.vm = { ((T.setVm s.vm).setFrames (.invoking m args :: below)).setFrames (T.setVm s.vm).frames with heap := T.heap, slotsUsed := T.slotsUsed }
      rw [State.setFrames_setFrames, State.setFrames_self ht]
      rfl
    · show T.slotsUsed = T.slotsUsed + ((T.heap.toList.drop T.heap.size).map (·.slots.size)).sum
      rw [List.drop_eq_nil_of_le (Nat.le_of_eq Array.length_toList)]
      rfl
    · show ((T.heap.toList.drop T.heap.size).map (·.slots.size)).sum ≤ 0
      rw [List.drop_eq_nil_of_le (Nat.le_of_eq Array.length_toList)]
      exact Nat.le_refl _
/-- 'throw new E()': new; dup; invokespecial; athrow -/
theorem vx_throw0 {cc : ByteArray} {pc : Nat} (hexec : p.tables.exec = Jvm.exec) (hb : c.code = cc) (hl : l.stackTraces = false) {own cls : String} {names : List String} {ik ic mc ms : Nat} {A : Nat → Prop}
    (hown : s.vm.findClass own = some m.cls) (hcls : Bundle.fit cls = true) (hnames : ∀ n ∈ names, Bundle.fit n = true)
    (hk : (Cond.classLink own ik cls).before args s = true) (hini : (Cond.initialized cls).before args s = true) (hat : ∀ w ∈ vx_at0 own ic cls names, w.before args s = true)
    (hgood : ∀ w ∈ Cond.classLink own ik cls :: Cond.initialized cls :: vx_at0 own ic cls names, vx_ot w = true)
    (hU : vx_Zq Bundle.tN "UNASSIGNED_STACK" Bundle.steD A s s.heap) (hN : vx_Zq Bundle.tN "SUPPRESSED_SENTINEL" Bundle.listD A s s.heap) (hS : va_S A s.heap H locs) (hsize : ls.size = c.maxLocals)
    (d0 : decode cc pc = .ok (.new ik, 3)) (d3 : decode cc (pc + 3) = .ok (.dup, 1)) (d4 : decode cc (pc + 4) = .ok (.invokespecial ic, 3)) (d7 : decode cc (pc + 7) = .ok (.athrow, 1))
    (hout : ∀ x ∈ c.exceptionTable.toList, covers x (pc + 7) = false)
    (hRframes : names.length + 3 < R.frames) (hRlocals : (rest.map fun v => v.category).sum + (13 * (names.length + 1) + 42) ≤ R.locals) (hRcells : cells + 1 ≤ R.cells) (hRslots : slots + 6 ≤ R.slots) (hlocks : meth.locks = false)
    (hx : ∀ t : State, s.vm.Alike t.vm → H.size ≤ t.heap.size → (∀ q : Nat, q < H.size → t.heap[q]? = H[q]?) → XC cls s t)
    (hf : ∀ z ∈ locs, free z.base) (hc : cells + 1 ≤ mc) (hs : slots + 6 ≤ ms) :
    W p l e R s m args below meth c H locs cells slots (vx_MQ below Qc XC args s mc ms free) (F0 m pc ls rest) := by
  intro T hT X
  have htr : e.platform.stackTraces = false := (show e.platform.stackTraces = l.stackTraces by rw [X.admits.platform]).trans hl
  have Y := vx_rebase X (R' := { frames := R.frames, locals := R.locals, cells := 1, slots := 6 }) (Nat.le_refl _) (Nat.le_refl _) hRcells hRslots
  obtain ⟨s', hA⟩ : ∃ z, z = (T.setVm s.vm).setFrames (.invoking m args :: below) := ⟨_, rfl⟩
  rw [← hA] at Y
  have hvm : s'.vm = s.vm := by rw [hA]; rfl
  have hhp : s'.heap = H := by rw [hA]; exact hT
  have hW0 : s.WarmedH s'.vm := by rw [hvm]; exact State.WarmedH.refl s
  have hat' : ∀ w ∈ vx_at0 own ic cls names, w.before args s' = true := fun w hw => vx_ot_at hW0 hvm.symm (hgood w (List.mem_cons_of_mem _ (List.mem_cons_of_mem _ hw))) (hat w hw)
  have hk' : (Cond.classLink own ik cls).before args s' = true := vx_ot_at hW0 hvm.symm (hgood _ List.mem_cons_self) hk
  have hini' : (Cond.initialized cls).before args s' = true := vx_ot_at hW0 hvm.symm (hgood _ (List.mem_cons_of_mem _ List.mem_cons_self)) hini
  have hU' : vx_Zq Bundle.tN "UNASSIGNED_STACK" Bundle.steD A s' s'.heap := by rw [hhp]; exact vx_Zq.moved hW0.alike (hU.kept hS.2.1)
  have hN' : vx_Zq Bundle.tN "SUPPRESSED_SENTINEL" Bundle.listD A s' s'.heap := by rw [hhp]; exact vx_Zq.moved hW0.alike (hN.kept hS.2.1)
  have h : ∀ w ∈ Bundle.ownAtoms0 own ic cls names, w.before args s' = true := vx_own hat' (vx_isRefq hU'.1) (vx_isRefq hN'.1) hU'.2.word hN'.2.word
  have hown' : s'.vm.findClass own = some m.cls := by rw [hvm]; exact hown
  have hins : (Cond.instantiable cls 6).before args s' = true := h _ (by simp [Bundle.ownAtoms0])
  obtain ⟨vm₁, cX, kX, hfX, hkX, -, -, X₁, st1⟩ := Y.newCold hexec (own := own) (C := cls) (index := ik) (n := 6) hown' hk' hins hini'
    (g := F0 m pc ls rest) rfl (by rw [hb]; exact d0) (Nat.le_refl _) (Nat.le_refl _)
  generalize hT1 : (T.setVm vm₁).pushCell { cls := cX, slots := kX.instanceTypes.map defaultValue, vm := .none } = T1 at X₁ st1
  have hcat : (Value.ref T.heap.size).category = 1 := rfl
  have hcellA : T1.heap[T.heap.size]? = some (freshCell cX kX) := by rw [← hT1]; exact State.heap_pushCell_size _ _
  have d3' : decode c.code (pc + 3) = .ok (.dup, 1) := by rw [hb]; exact d3
  obtain ⟨U, hsteps, hrun, hend, hW, hsame, ce, hce, hO⟩ := X₁.ctorThrow0 hexec htr (own := own) (cls := cls) (names := names) (ic := ic) hown' hcls hnames h (fun x hx => nomatch hx) hfX hkX hcellA (by rw [hhp, hT]; exact Nat.le_refl _)
    (g := { method := m, pc := pc + 4, locals := ls, stack := .ref T.heap.size :: .ref T.heap.size :: rest, locked := none }) rfl hsize rfl rfl (rest := rest) rfl
    (by rw [hb]; exact d4) (by rw [hb]; exact d7) hout hRframes (by simp only [List.map_cons, List.sum_cons, hcat]; omega) hlocks
  obtain ⟨f1, f2⟩ := vx_frame hsame
  rw [hhp] at f1 f2
  have hWs : s.WarmedH U.vm := State.WarmedH.trans hW0 hW
  have hcl : s.vm.findClass cls = some ce.cls := by
    have h9 := hO.cls
    rw [hvm] at h9
    exact h9
  have hall : s.sameButNew ({ U with vm := s.vm } : State) locs mc ms := by
    subst hA
    obtain ⟨e1, e2⟩ := hsame
    rw [State.setFrames_setFrames] at e1
    have h2 : (T.setVm s.vm).sameButNew ({ U with vm := s.vm } : State) [] (0 + 1) (0 + 6) := ⟨e1, e2⟩
    have h3 := X.same.trans h2
    rw [List.append_nil] at h3
    exact h3.mono hc hs
  refine ⟨U, ?_, .threw T.heap.size, hrun, hend, Or.inr ⟨T.heap.size, rfl, cls, ce, locs, hx U hWs.alike f1 (fun q hq => f2 q hq (fun z hz => nomatch hz)), hce, hO.vm, hcl, hWs, hall, hf⟩⟩
  refine st1 _ ?_
  show Steps p.tables e below (T1.setTop { method := m, pc := pc + 3, locals := ls, stack := .ref T.heap.size :: rest, locked := none }) _
  jvm_step X₁.here [X₁.here.top, hexec, d3', Value.category]
  exact hsteps
/-- 'throw new E("text")': new; dup; ldc; invokespecial; athrow -/
theorem vx_throwS {cc : ByteArray} {pc : Nat} (hexec : p.tables.exec = Jvm.exec) (hb : c.code = cc) (hl : l.stackTraces = false) {own cls text : String} {names : List String} {ik is ic mc ms sa : Nat} {A : Nat → Prop}
    (hown : s.vm.findClass own = some m.cls) (hcls : Bundle.fit cls = true) (hnames : ∀ n ∈ names, Bundle.fit n = true)
    (hk : (Cond.classLink own ik cls).before args s = true) (hini : (Cond.initialized cls).before args s = true) (hstr : vk_R own is text sa s) (hat : ∀ w ∈ vx_atS own ic cls names, w.before args s = true)
    (hgood : ∀ w ∈ Cond.classLink own ik cls :: Cond.initialized cls :: vx_atS own ic cls names, vx_ot w = true)
    (hU : vx_Zq Bundle.tN "UNASSIGNED_STACK" Bundle.steD A s s.heap) (hN : vx_Zq Bundle.tN "SUPPRESSED_SENTINEL" Bundle.listD A s s.heap) (hS : va_S A s.heap H locs) (hsize : ls.size = c.maxLocals)
    (d0 : decode cc pc = .ok (.new ik, 3)) (d3 : decode cc (pc + 3) = .ok (.dup, 1)) (d4 : decode cc (pc + 4) = .ok (.ldc is, 2)) (d6 : decode cc (pc + 6) = .ok (.invokespecial ic, 3)) (d9 : decode cc (pc + 9) = .ok (.athrow, 1))
    (hout : ∀ x ∈ c.exceptionTable.toList, covers x (pc + 9) = false)
    (hRframes : names.length + 3 < R.frames) (hRlocals : (rest.map fun v => v.category).sum + (13 * (names.length + 1) + 43) ≤ R.locals) (hRcells : cells + 1 ≤ R.cells) (hRslots : slots + 6 ≤ R.slots) (hlocks : meth.locks = false)
    (hx : ∀ t : State, s.vm.Alike t.vm → H.size ≤ t.heap.size → (∀ q : Nat, q < H.size → t.heap[q]? = H[q]?) → XC cls s t)
    (hf : ∀ z ∈ locs, free z.base) (hc : cells + 1 ≤ mc) (hs : slots + 6 ≤ ms) :
    W p l e R s m args below meth c H locs cells slots (vx_MQ below Qc XC args s mc ms free) (F0 m pc ls rest) := by
  intro T hT X
  have htr : e.platform.stackTraces = false := (show e.platform.stackTraces = l.stackTraces by rw [X.admits.platform]).trans hl
  have Y := vx_rebase X (R' := { frames := R.frames, locals := R.locals, cells := 1, slots := 6 }) (Nat.le_refl _) (Nat.le_refl _) hRcells hRslots
  obtain ⟨s', hA⟩ : ∃ z, z = (T.setVm s.vm).setFrames (.invoking m args :: below) := ⟨_, rfl⟩
  rw [← hA] at Y
  have hvm : s'.vm = s.vm := by rw [hA]; rfl
  have hhp : s'.heap = H := by rw [hA]; exact hT
  have hW0 : s.WarmedH s'.vm := by rw [hvm]; exact State.WarmedH.refl s
  have hat' : ∀ w ∈ vx_atS own ic cls names, w.before args s' = true := fun w hw => vx_ot_at hW0 hvm.symm (hgood w (List.mem_cons_of_mem _ (List.mem_cons_of_mem _ hw))) (hat w hw)
  have hk' : (Cond.classLink own ik cls).before args s' = true := vx_ot_at hW0 hvm.symm (hgood _ List.mem_cons_self) hk
  have hini' : (Cond.initialized cls).before args s' = true := vx_ot_at hW0 hvm.symm (hgood _ (List.mem_cons_of_mem _ List.mem_cons_self)) hini
  have hU' : vx_Zq Bundle.tN "UNASSIGNED_STACK" Bundle.steD A s' s'.heap := by rw [hhp]; exact vx_Zq.moved hW0.alike (hU.kept hS.2.1)
  have hN' : vx_Zq Bundle.tN "SUPPRESSED_SENTINEL" Bundle.listD A s' s'.heap := by rw [hhp]; exact vx_Zq.moved hW0.alike (hN.kept hS.2.1)
  have h : ∀ w ∈ Bundle.ownAtoms own ic cls names, w.before args s' = true := vx_own hat' (vx_isRefq hU'.1) (vx_isRefq hN'.1) hU'.2.word hN'.2.word
  have hown' : s'.vm.findClass own = some m.cls := by rw [hvm]; exact hown
  have hins : (Cond.instantiable cls 6).before args s' = true := h _ (by simp [Bundle.ownAtoms])
  obtain ⟨vm₁, cX, kX, hfX, hkX, -, -, X₁, st1⟩ := Y.newCold hexec (own := own) (C := cls) (index := ik) (n := 6) hown' hk' hins hini'
    (g := F0 m pc ls rest) rfl (by rw [hb]; exact d0) (Nat.le_refl _) (Nat.le_refl _)
  generalize hT1 : (T.setVm vm₁).pushCell { cls := cX, slots := kX.instanceTypes.map defaultValue, vm := .none } = T1 at X₁ st1
  have hcat : (Value.ref T.heap.size).category = 1 := rfl
  have hcellA : T1.heap[T.heap.size]? = some (freshCell cX kX) := by rw [← hT1]; exact State.heap_pushCell_size _ _
  have d3' : decode c.code (pc + 3) = .ok (.dup, 1) := by rw [hb]; exact d3
  have d4' : decode c.code (pc + 4) = .ok (.ldc is, 2) := by rw [hb]; exact d4
  have hstr' : vk_R own is text sa s' := vk_R.warm hW0 hstr
  obtain ⟨U, hsteps, hrun, hend, hW, hsame, ce, hce, hO⟩ := X₁.ctorThrowS hexec htr (own := own) (cls := cls) (names := names) (ic := ic) hown' hcls hnames h (fun x hx => nomatch hx) hfX hkX hcellA (by rw [hhp, hT]; exact Nat.le_refl _) (msg := .ref sa) rfl
    (g := { method := m, pc := pc + 6, locals := ls, stack := .ref sa :: .ref T.heap.size :: .ref T.heap.size :: rest, locked := none }) rfl hsize rfl rfl (rest := rest) rfl
    (by rw [hb]; exact d6) (by rw [hb]; exact d9) hout hRframes (by simp only [List.map_cons, List.sum_cons, hcat]; omega) hlocks
  obtain ⟨f1, f2⟩ := vx_frame hsame
  rw [hhp] at f1 f2
  have hWs : s.WarmedH U.vm := State.WarmedH.trans hW0 hW
  have hcl : s.vm.findClass cls = some ce.cls := by
    have h9 := hO.cls
    rw [hvm] at h9
    exact h9
  have hall : s.sameButNew ({ U with vm := s.vm } : State) locs mc ms := by
    subst hA
    obtain ⟨e1, e2⟩ := hsame
    rw [State.setFrames_setFrames] at e1
    have h2 : (T.setVm s.vm).sameButNew ({ U with vm := s.vm } : State) [] (0 + 1) (0 + 6) := ⟨e1, e2⟩
    have h3 := X.same.trans h2
    rw [List.append_nil] at h3
    exact h3.mono hc hs
  refine ⟨U, ?_, .threw T.heap.size, hrun, hend, Or.inr ⟨T.heap.size, rfl, cls, ce, locs, hx U hWs.alike f1 (fun q hq => f2 q hq (fun z hz => nomatch hz)), hce, hO.vm, hcl, hWs, hall, hf⟩⟩
  refine st1 _ ?_
  show Steps p.tables e below (T1.setTop { method := m, pc := pc + 3, locals := ls, stack := .ref T.heap.size :: rest, locked := none }) _
  jvm_step X₁.here [X₁.here.top, hexec, d3', Value.category]
  exact X₁.ldcString hexec (own := own) (text := text) (index := is) (a := sa) hown' hstr'.1 hstr'.2
    (g := { method := m, pc := pc + 4, locals := ls, stack := .ref T.heap.size :: .ref T.heap.size :: rest, locked := none }) rfl d4' _ hsteps
/-- 'throw new E("text")', the text by a wide index -/
theorem vx_throwSW {cc : ByteArray} {pc : Nat} (hexec : p.tables.exec = Jvm.exec) (hb : c.code = cc) (hl : l.stackTraces = false) {own cls text : String} {names : List String} {ik is ic mc ms sa : Nat} {A : Nat → Prop}
    (hown : s.vm.findClass own = some m.cls) (hcls : Bundle.fit cls = true) (hnames : ∀ n ∈ names, Bundle.fit n = true)
    (hk : (Cond.classLink own ik cls).before args s = true) (hini : (Cond.initialized cls).before args s = true) (hstr : vk_R own is text sa s) (hat : ∀ w ∈ vx_atS own ic cls names, w.before args s = true)
    (hgood : ∀ w ∈ Cond.classLink own ik cls :: Cond.initialized cls :: vx_atS own ic cls names, vx_ot w = true)
    (hU : vx_Zq Bundle.tN "UNASSIGNED_STACK" Bundle.steD A s s.heap) (hN : vx_Zq Bundle.tN "SUPPRESSED_SENTINEL" Bundle.listD A s s.heap) (hS : va_S A s.heap H locs) (hsize : ls.size = c.maxLocals)
    (d0 : decode cc pc = .ok (.new ik, 3)) (d3 : decode cc (pc + 3) = .ok (.dup, 1)) (d4 : decode cc (pc + 4) = .ok (.ldc_w is, 3)) (d7 : decode cc (pc + 7) = .ok (.invokespecial ic, 3)) (d10 : decode cc (pc + 10) = .ok (.athrow, 1))
    (hout : ∀ x ∈ c.exceptionTable.toList, covers x (pc + 10) = false)
    (hRframes : names.length + 3 < R.frames) (hRlocals : (rest.map fun v => v.category).sum + (13 * (names.length + 1) + 43) ≤ R.locals) (hRcells : cells + 1 ≤ R.cells) (hRslots : slots + 6 ≤ R.slots) (hlocks : meth.locks = false)
    (hx : ∀ t : State, s.vm.Alike t.vm → H.size ≤ t.heap.size → (∀ q : Nat, q < H.size → t.heap[q]? = H[q]?) → XC cls s t)
    (hf : ∀ z ∈ locs, free z.base) (hc : cells + 1 ≤ mc) (hs : slots + 6 ≤ ms) :
    W p l e R s m args below meth c H locs cells slots (vx_MQ below Qc XC args s mc ms free) (F0 m pc ls rest) := by
  intro T hT X
  have htr : e.platform.stackTraces = false := (show e.platform.stackTraces = l.stackTraces by rw [X.admits.platform]).trans hl
  have Y := vx_rebase X (R' := { frames := R.frames, locals := R.locals, cells := 1, slots := 6 }) (Nat.le_refl _) (Nat.le_refl _) hRcells hRslots
  obtain ⟨s', hA⟩ : ∃ z, z = (T.setVm s.vm).setFrames (.invoking m args :: below) := ⟨_, rfl⟩
  rw [← hA] at Y
  have hvm : s'.vm = s.vm := by rw [hA]; rfl
  have hhp : s'.heap = H := by rw [hA]; exact hT
  have hW0 : s.WarmedH s'.vm := by rw [hvm]; exact State.WarmedH.refl s
  have hat' : ∀ w ∈ vx_atS own ic cls names, w.before args s' = true := fun w hw => vx_ot_at hW0 hvm.symm (hgood w (List.mem_cons_of_mem _ (List.mem_cons_of_mem _ hw))) (hat w hw)
  have hk' : (Cond.classLink own ik cls).before args s' = true := vx_ot_at hW0 hvm.symm (hgood _ List.mem_cons_self) hk
  have hini' : (Cond.initialized cls).before args s' = true := vx_ot_at hW0 hvm.symm (hgood _ (List.mem_cons_of_mem _ List.mem_cons_self)) hini
  have hU' : vx_Zq Bundle.tN "UNASSIGNED_STACK" Bundle.steD A s' s'.heap := by rw [hhp]; exact vx_Zq.moved hW0.alike (hU.kept hS.2.1)
  have hN' : vx_Zq Bundle.tN "SUPPRESSED_SENTINEL" Bundle.listD A s' s'.heap := by rw [hhp]; exact vx_Zq.moved hW0.alike (hN.kept hS.2.1)
  have h : ∀ w ∈ Bundle.ownAtoms own ic cls names, w.before args s' = true := vx_own hat' (vx_isRefq hU'.1) (vx_isRefq hN'.1) hU'.2.word hN'.2.word
  have hown' : s'.vm.findClass own = some m.cls := by rw [hvm]; exact hown
  have hins : (Cond.instantiable cls 6).before args s' = true := h _ (by simp [Bundle.ownAtoms])
  obtain ⟨vm₁, cX, kX, hfX, hkX, -, -, X₁, st1⟩ := Y.newCold hexec (own := own) (C := cls) (index := ik) (n := 6) hown' hk' hins hini'
    (g := F0 m pc ls rest) rfl (by rw [hb]; exact d0) (Nat.le_refl _) (Nat.le_refl _)
  generalize hT1 : (T.setVm vm₁).pushCell { cls := cX, slots := kX.instanceTypes.map defaultValue, vm := .none } = T1 at X₁ st1
  have hcat : (Value.ref T.heap.size).category = 1 := rfl
  have hcellA : T1.heap[T.heap.size]? = some (freshCell cX kX) := by rw [← hT1]; exact State.heap_pushCell_size _ _
  have d3' : decode c.code (pc + 3) = .ok (.dup, 1) := by rw [hb]; exact d3
  have d4' : decode c.code (pc + 4) = .ok (.ldc_w is, 3) := by rw [hb]; exact d4
  have hstr' : vk_R own is text sa s' := vk_R.warm hW0 hstr
  obtain ⟨U, hsteps, hrun, hend, hW, hsame, ce, hce, hO⟩ := X₁.ctorThrowS hexec htr (own := own) (cls := cls) (names := names) (ic := ic) hown' hcls hnames h (fun x hx => nomatch hx) hfX hkX hcellA (by rw [hhp, hT]; exact Nat.le_refl _) (msg := .ref sa) rfl
    (g := { method := m, pc := pc + 7, locals := ls, stack := .ref sa :: .ref T.heap.size :: .ref T.heap.size :: rest, locked := none }) rfl hsize rfl rfl (rest := rest) rfl
    (by rw [hb]; exact d7) (by rw [hb]; exact d10) hout hRframes (by simp only [List.map_cons, List.sum_cons, hcat]; omega) hlocks
  obtain ⟨f1, f2⟩ := vx_frame hsame
  rw [hhp] at f1 f2
  have hWs : s.WarmedH U.vm := State.WarmedH.trans hW0 hW
  have hcl : s.vm.findClass cls = some ce.cls := by
    have h9 := hO.cls
    rw [hvm] at h9
    exact h9
  have hall : s.sameButNew ({ U with vm := s.vm } : State) locs mc ms := by
    subst hA
    obtain ⟨e1, e2⟩ := hsame
    rw [State.setFrames_setFrames] at e1
    have h2 : (T.setVm s.vm).sameButNew ({ U with vm := s.vm } : State) [] (0 + 1) (0 + 6) := ⟨e1, e2⟩
    have h3 := X.same.trans h2
    rw [List.append_nil] at h3
    exact h3.mono hc hs
  refine ⟨U, ?_, .threw T.heap.size, hrun, hend, Or.inr ⟨T.heap.size, rfl, cls, ce, locs, hx U hWs.alike f1 (fun q hq => f2 q hq (fun z hz => nomatch hz)), hce, hO.vm, hcl, hWs, hall, hf⟩⟩
  refine st1 _ ?_
  show Steps p.tables e below (T1.setTop { method := m, pc := pc + 3, locals := ls, stack := .ref T.heap.size :: rest, locked := none }) _
  jvm_step X₁.here [X₁.here.top, hexec, d3', Value.category]
  exact X₁.ldcStringW hexec (own := own) (text := text) (index := is) (a := sa) hown' hstr'.1 hstr'.2
    (g := { method := m, pc := pc + 4, locals := ls, stack := .ref T.heap.size :: .ref T.heap.size :: rest, locked := none }) rfl d4' _ hsteps
end Ends
section Bodies
variable {l : Launch}
theorem vx_ofW {y : MethodName} {ws ws' : List Cond} {rm : Room} {Pc : Array Value → State → Prop} {Qc : Array Value → State → Outcome → State → Prop} {XC : String → State → State → Prop} {mc ms : Nat} {free : Addr → Prop} {cc : ByteArray} {maxL : Nat} {ret : Option FieldType}
    (hy : plainName y.cls = true) (hw : ws = Cond.code y cc maxL ret :: ws')
    (body : ∀ p e s m args below meth c s₁, BodyLoose p l y (headSpec ws rm) cc maxL ret e s m args below meth c s₁ → c.maxLocals = maxL → (∀ x ∈ c.exceptionTable.toList, False) → Pc args s →
      W p l e (headSpec ws rm).room s m args below meth c s.heap [] 0 0 (vx_MQ below Qc XC args s mc ms free) (entryFrame m args maxL)) : vx_Met l y ws rm Pc Qc XC mc ms free := by
  refine MetFree.of_bodyS (code := cc) (maxLocals := maxL) (ret := ret) hy ?_ ?_
  · intro args s m h hn
    obtain ⟨meth, c, h1, h2, h3, h4, h5, h6, -, -⟩ := Cond.code_spec hn (atoms_spec (ws := ws) h _ (by rw [hw]; exact List.mem_cons_self))
    exact ⟨meth, c, h1, h2, h3, h4, h5, h6⟩
  · intro p e s m args below meth c s₁ B hml hP _
    have hh0 : s₁.heap = s.heap := by rw [B.state]; rfl
    have ht : ∀ x ∈ c.exceptionTable.toList, False := by
      obtain ⟨meth9, c9, h1, h2, -, -, -, -, h7, -⟩ := Cond.code_spec B.named (atoms_spec (ws := ws) B.pre _ (by rw [hw]; exact List.mem_cons_self))
      cases Option.some.inj (h1.symm.trans B.method)
      cases Option.some.inj (h2.symm.trans (Stand.of_body B).code)
      intro x hx
      rw [Array.isEmpty_iff.mp h7] at hx
      cases hx
    obtain ⟨t, a1, o, b1, b2, b3⟩ := body p e s m args below meth c s₁ B hml ht hP s₁ hh0 (Stand.of_body B)
    exact ⟨t, o, a1, b1, b2, b3⟩
/-- the table of a body with handlers -/
theorem vx_table {p : Program} {x y : MethodName} {S : Spec} {cc bytes : ByteArray} {maxL maxL' : Nat} {ret ret' : Option FieldType} {e : Env} {s s₁ : State} {m : MethodId} {args : Array Value} {below : List Frame} {meth : Method} {c : Code} {hh : List (Nat × Nat × Nat × Nat)}
    (B : BodyLoose p l y S cc maxL ret e s m args below meth c s₁) (h : (Cond.codeWith y bytes maxL' ret' hh).before args s = true) : c.exceptionTable.toList = tableOf hh := by
  obtain ⟨m9, meth9, c9, hn9, h1, h2, -, -, h6, -⟩ := Cond.codeWith_spec h
  cases Option.some.inj (hn9.symm.trans B.named)
  cases Option.some.inj (h1.symm.trans B.method)
  cases Option.some.inj (h2.symm.trans (Stand.of_body B).code)
  rw [← h6, table_eq]
end Bodies
end VXA
/-! ===== END ===== -/
/-! ===== BEGIN a static call of a method with an exception table ===== -/
section VXS
variable {p : Program} {l : Launch} {e : Env} {R : Room} {s : State} {m : MethodId} {args : Array Value} {below : List Frame} {meth : Method} {c : Code} {T : State} {H : Heap} {locs : List Loc} {cells slots : Nat}
abbrev vx_CSW (R : Room) (s : State) (args : Array Value) (own : String) (index : Nat) (y : MethodName) (bytes : ByteArray) (maxL : Nat) (ret : Option FieldType) (hh : List (Nat × Nat × Nat × Nat)) (ws : List Cond) (rm : Room) (mc ms n : Nat) : Prop :=
  (rm.cells = mc ∧ rm.slots = ms ∧ rm.frames + 1 ≤ R.frames ∧ 8 + (maxL + 11) + rm.locals ≤ R.locals ∧ (∀ w ∈ ws, ∀ (a' : Array Value) (U : State), s.WarmedH U.vm → w.before a' U = true) ∧ Cond.codeWith y bytes maxL ret hh ∈ ws) ∧
  (Cond.codeWith y bytes maxL ret hh).before args s = true ∧ (Cond.initialized y.cls).before args s = true ∧ (y.cls ≠ "java/lang/invoke/MethodHandle" ∧ y.cls ≠ "java/lang/invoke/VarHandle") ∧
  (∀ sig, parseMethodDescriptor y.desc = some sig → n = sig.parameters.length) ∧ (Cond.methodLink own index y).before args s = true ∧ (Cond.static y).before args s = true
theorem vx_cwSW {own : String} {index maxL mc ms : Nat} {y : MethodName} {bytes : ByteArray} {ret : Option FieldType} {hh : List (Nat × Nat × Nat × Nat)} {Ts ws ws' : List Cond} {rm : Room} (n : Nat) (ht : ∀ w ∈ Ts, w.before args s = true) (hT : GoodIn Ts (va_wsS own index y ws)) (hw : ws = Cond.codeWith y bytes maxL ret hh :: ws') (hrc : rm.cells = mc) (hrs : rm.slots = ms)
    (hd : y.cls ≠ "java/lang/invoke/MethodHandle" ∧ y.cls ≠ "java/lang/invoke/VarHandle" ∧ (parseMethodDescriptor y.desc).map (fun d => d.parameters.length) = some n) (hR : rm.frames + 1 ≤ R.frames ∧ 8 + (maxL + 11) + rm.locals ≤ R.locals) :
    vx_CSW R s args own index y bytes maxL ret hh ws rm mc ms n := by
  have ok : ∀ w ∈ va_wsS own index y ws, w.before args s = true := fun w h => ht w (hT w h).1
  have hG : GoodIn Ts ws := fun w h => hT w (by unfold va_wsS; exact List.mem_append_right _ h)
  have hc : Cond.codeWith y bytes maxL ret hh ∈ ws := by rw [hw]; exact List.mem_cons_self
  refine ⟨⟨hrc, hrs, hR.1, hR.2, pay_in ht hG, hc⟩, ht _ (hG _ hc).1, ok _ (by simp [va_wsS]), ⟨hd.1, hd.2.1⟩, fun sig h => ?_, ok _ (by simp [va_wsS]), ok _ (by simp [va_wsS])⟩
  have h2 := hd.2.2
  rw [h] at h2
  exact (Option.some.inj h2).symm
theorem vx_callSW (X : Stand p l e R s m args below meth c T locs cells slots) (hexec : p.tables.exec = Jvm.exec) {own : String} {index : Nat} {y : MethodName} {bytes : ByteArray} {maxL : Nat} {ret : Option FieldType} {hh : List (Nat × Nat × Nat × Nat)}
    (hown : s.vm.findClass own = some m.cls) (hlink : (Cond.methodLink own index y).before args s = true) (hstat : (Cond.static y).before args s = true) (hinit : (Cond.initialized y.cls).before args s = true)
    (hcode : (Cond.codeWith y bytes maxL ret hh).before args s = true) (hy : y.cls ≠ "java/lang/invoke/MethodHandle" ∧ y.cls ≠ "java/lang/invoke/VarHandle")
    {W9 : Nat} {Pre : Pt → Array Value → Prop} {Post : Pt → Array Value → Option Value → Pt → Prop} (hK : Back l R p e below s args y 3 W9 Pre Post)
    {g : JFrame} (hg : g.method = m) (hsize : g.locals.size = c.maxLocals) {argsL rest : List Value} (hlen : ∀ sig, parseMethodDescriptor y.desc = some sig → argsL.length = sig.parameters.length)
    (hstack : g.stack = argsL.reverse ++ rest) (hW : 2 * g.monitorRoom + (rest.map fun v => v.category).sum ≤ W9) (hdg : decode c.code g.pc = .ok (.invokestatic index, 3))
    (hpre : ∀ vm₁, s.WarmedH vm₁ → Pre ⟨T.setVm vm₁, locs, cells, slots⟩ argsL.toArray) :
    ∃ (v : Option Value) (vm₁ : Vm) (B : Pt), s.WarmedH vm₁ ∧ Stand p l e R s m args below meth c B.U B.locs B.cells B.slots ∧ Post ⟨T.setVm vm₁, locs, cells, slots⟩ argsL.toArray v B ∧
      ∀ target, Steps p.tables e below (B.U.setTop { g with pc := g.pc + 3, stack := v.toList ++ rest }) target → Steps p.tables e below (T.setTop g) target := by
  obtain ⟨mk, methM, cM, hnamed, hmethM, -, -, -, -, -, -, hsigM⟩ := Cond.codeWith_spec hcode
  have hstatic : methM.isStatic = true := Cond.static_spec hnamed hmethM hstat
  obtain ⟨kP, hkP, -⟩ := className_of_methodNamed hnamed
  have hinitP : kP.init = .initialized := Cond.initialized_spec (findClass_of_methodNamed hnamed) hkP hinit
  obtain ⟨vm₁, X₁, hstep₁⟩ := X.invokestatic hexec hown hlink hnamed hmethM hstatic hkP hinitP hy (g := g) hg (argsL := argsL) (rest := rest) (hlen _ hsigM) hstack hdg
  obtain ⟨v, B, X', hpost, hsteps⟩ := hK m meth c ⟨T.setVm vm₁, locs, cells, slots⟩ { g with stack := rest } (.invokestatic index) mk argsL.toArray X₁ hg hsize hdg hW (X₁.named hnamed) (hpre vm₁ X₁.warmed)
  exact ⟨v, vm₁, B, X₁.warmed, X', hpost, fun target h => hstep₁ _ fun acts => by rw [doInvoke_state]; exact hsteps.trans h⟩
theorem vx_runSW {y : MethodName} {bytes cc : ByteArray} {maxL nL mc ms n index : Nat} {ret : Option FieldType} {hh : List (Nat × Nat × Nat × Nat)} {ws : List Cond} {rm : Room} {Pc : Array Value → State → Prop} {Qc : Array Value → State → Outcome → State → Prop} {free : Addr → Prop} {Ts : List Cond} {own : String} {As rest : List Value} {g : JFrame}
    (S : CallFix p m c cc nL s args Ts own) (hM : Met l y ws rm Pc Qc mc ms free) (cw : vx_CSW R s args own index y bytes maxL ret hh ws rm mc ms n) (hp : PreS s H Pc As)
    (hg : g.method = m) (hn : As.length = n) (hsize : g.locals.size = nL) (hstack : g.stack = As.reverse ++ rest) (hW : 2 * g.monitorRoom + (rest.map fun v => v.category).sum ≤ 8) (hdg : decode cc g.pc = .ok (.invokestatic index, 3)) (hf : cells + mc ≤ R.cells ∧ slots + ms ≤ R.slots) :
    va_Run p l e R s m args below meth c H locs cells slots mc ms g rest (Qc As.toArray) (free) := by
  obtain ⟨⟨hrc, hrs, hfr, hlo, hws, hcw⟩, hcode, hini, hy, hlen, hl, hstt⟩ := cw
  have hK : Back l R p e below s args y 3 8 (PreOf R mc ms Pc) (PostOf Qc mc ms free) := va_backW (hh := hh) (bytes := bytes) (maxL := maxL) (ret := ret) hM hp.1 hrc hrs hfr hlo hws hcw (fun a' U hW => word_at hW (Or.inl (by first | rfl | simp [Cond.onTables, Cond.keeps, Cond.steady])) hini)
  obtain ⟨hx, hb, hml, ho, -⟩ := S
  intro T hT X
  obtain ⟨v, vm₁, ⟨U', l2, c2, s2⟩, hW₁, X', ⟨g', mk, t, L, e1, e2, hq, h1, hL, h2, h3⟩, st⟩ := vx_callSW X hx (hh := hh) (bytes := bytes) (maxL := maxL) (ret := ret) ho hl hstt hini hcode hy hK hg (hsize.trans hml.symm) (argsL := As) (rest := rest) (fun sig h => hn.trans (hlen sig h)) hstack hW (by rw [hb]; exact hdg)
    (fun vm₁ hW₁ => ⟨hf.1, hf.2, hp.2 (T.setVm vm₁) hT hW₁⟩)
  dsimp only [Pt.U, Pt.locs, Pt.cells, Pt.slots] at X' e1 e2 h1 h2 h3 st
  subst h1; subst h2; subst h3
  exact ⟨v, (T.setVm vm₁).calling g' mk As.toArray, t, U', L, hT, X', hL, e1, e2, hq, st⟩
/-- not caught here, past rows that name other classes: it goes on to the caller -/
theorem vx_outP {p : Program} {l : Launch} {e : Env} {R : Room} {s : State} {m : MethodId} {args : Array Value} {below : List Frame} {meth : Method} {c : Code} {H : Heap} {locs : List Loc} {cells slots : Nat} {free : Addr → Prop} {ls : Array Slot} {rest : List Value} {Qc : Array Value → State → Outcome → State → Prop} {XC : String → State → State → Prop}
    {pc : Nat} {own E : String} {ce : Cell} {q : Addr} {mc ms : Nat} (hown : s.vm.findClass own = some m.cls) (hlocks : meth.locks = false)
    (hpass : ∀ z ∈ c.exceptionTable.toList, covers z pc = false ∨ (z.catchType ≠ 0 ∧ ∃ nm : String, (Cond.classLink own z.catchType nm).before args s = true ∧ va_Nc E nm s)) (hcell : H[q]? = some ce) (hv : ce.vm = .none) (hcl : s.vm.findClass E = some ce.cls)
    (hx : ∀ t : State, t.heap = H → s.vm.Alike t.vm → XC E s t) (hf : ∀ z ∈ locs, free z.base) (hc : cells ≤ mc) (hs : slots ≤ ms) :
    vx_W p l e R s m args below meth c H locs cells slots (vx_MQ below Qc XC args s mc ms free) (F0 m pc ls rest) q := by
  intro T hT X
  have hpl : e.platform.magicAccessors = ({} : Platform).magicAccessors := by rw [X.admits.platform]
  obtain ⟨vm', hW', X', st⟩ := Jvm.Stand.outThrough X hlocks q (g := F0 m pc ls rest) rfl rfl rfl (cell := ce) (by rw [hT]; exact hcell) (by rw [hv]; rfl)
    (by obtain ⟨k9, h9, -⟩ := Vm.findClass_spec hcl; exact ⟨k9, h9⟩) (fun z hz => by
      rcases hpass z hz with h | ⟨hz0, nm, hl1, hn1⟩
      · exact Or.inl h
      · obtain ⟨c6, hc6, hcl6⟩ := Cond.classLink_spec hown hl1 e.platform hpl
        obtain ⟨a8, b8, h1, h2, h3⟩ := hn1
        cases Option.some.inj (h1.symm.trans hcl)
        cases Option.some.inj (h2.symm.trans hc6)
        exact Or.inr ⟨hz0, _, hcl6, h3⟩)
  obtain ⟨g₀, hfr⟩ := X'.frames_eq
  have hcell9 : ((T.setVm vm').setFrames (.throwing q :: below)).heap[q]? = some ce := by
    show T.heap[q]? = some ce
    rw [hT]; exact hcell
  have hend : Ended ((T.setVm vm').setFrames (.throwing q :: below)) below (.threw q) := State.frames_setFrames _ (State.cur_lt_of_frames hfr)
  refine ⟨(T.setVm vm').setFrames (.throwing q :: below), ?_, .threw q, X'.here.running, hend, Or.inr ⟨q, rfl, E, ce, locs, hx _ hT (X'.ends _).1.alike, hcell9, hv, hcl, (X'.ends _).1, (X'.ends _).2.mono hc hs, hf⟩⟩
  rw [X.pushThrowing_eq]
  exact st
/-- a thing of a world lies in the heap -/
theorem vx_lt {D : va_G} {cl : List vw_C} {ws : va_W} {H1 : Heap} (h : va_P D cl ws H1) {k : Nat} {q : Nat × va_E} (hk : ws[k]? = some q) : q.1 < H1.size := (h k q hk).lt
end VXS
/-! ===== END ===== -/
/-! ===== BEGIN methods with a table of their own: called by a name, returning or throwing ===== -/
section VXH
/-! vx_backW, vx_callVX, vx_callSX, vx_callVW, vx_runVW, vx_runVX, vx_runSX, vx_ofWH follow the same proofs as their sisters above (Free/Laws.lean, Shelf42/LK1.lean); vx_outP calls Shelf42/NT130.lean (outThrough). -/
section
variable {l : Launch} {R : Room} {p : Program} {e : Env} {below : List Frame} {s : State} {sargs : Array Value} {y : MethodName} {len W9 : Nat}
theorem vx_backW {ws : List Cond} {rm : Room} {Pc : Array Value → State → Prop} {Qc : Array Value → State → Outcome → State → Prop} {XC : String → State → State → Prop} {mc ms : Nat} {free : Addr → Prop} {bytes : ByteArray} {maxL : Nat} {ret : Option FieldType} {hh : List (Nat × Nat × Nat × Nat)}
    (hM : vx_Met l y ws rm Pc Qc XC mc ms free) (hblind : FrameBlind Pc) (hrc : rm.cells = mc) (hrs : rm.slots = ms)
    (hframes : rm.frames + 1 ≤ R.frames) (hlocals : W9 + (maxL + 11) + rm.locals ≤ R.locals)
    (hws : ∀ w ∈ ws, ∀ a' U, s.WarmedH U.vm → w.before a' U = true) (hcode : Cond.codeWith y bytes maxL ret hh ∈ ws) (hinit : ∀ a' U, s.WarmedH U.vm → (Cond.initialized y.cls).before a' U = true) :
    vx_Back l R p e below s sargs y len W9 (PreOf R mc ms Pc) (PostOf Qc mc ms free) (vx_Post XC mc ms free) := by
  intro m meth c A g ig mk a X hg hsize hdg hW hn hp
  have h1 : (headSpec ws rm).pre.before a A.U = true := atoms_intro fun w hw => hws w hw _ _ X.warmed
  have h2 : (Cond.codeWith y bytes maxL ret hh).before a A.U = true := hws _ hcode _ _ X.warmed
  have h3 : (Cond.initialized y.cls).before a A.U = true := hinit _ _ X.warmed
  have h4 : A.cells + (headSpec ws rm).room.cells ≤ R.cells := by rw [show (headSpec ws rm).room.cells = mc from hrc]; exact hp.1
  have h5 : A.slots + (headSpec ws rm).room.slots ≤ R.slots := by rw [show (headSpec ws rm).room.slots = ms from hrs]; exact hp.2.1
  have hPc : Pc a (A.U.calling g mk a) := hblind _ _ _ _ hp.2.2
  obtain ⟨U, Ls, c0, s0⟩ := A
  dsimp only [Pt.U, Pt.locs, Pt.cells, Pt.slots] at h1 h2 h3 h4 h5 X hn hPc ⊢
  obtain ⟨m9, methY, cY, hn9, hmY, hcY, -, hlY, -⟩ := Cond.codeWith_spec h2
  cases Option.some.inj (hn9.symm.trans hn)
  obtain ⟨kY, hkY, -⟩ := className_of_methodNamed hn
  have hinitY : kY.init = .initialized := Cond.initialized_spec (findClass_of_methodNamed hn) hkY h3
  have h : At U g.method c below := by rw [hg]; exact X.here
  have hlocals9 : W9 + (maxL + 11) + (headSpec ws rm).room.locals ≤ R.locals := hlocals
  have happ : (headSpec ws rm).appliesLoose y e.platform (U.calling g mk a) = true :=
    Spec.appliesLoose_calling (g := g) h hdg hn hkY hinitY
      (X.room_calling (g := g) (R' := (headSpec ws rm).room) hsize hmY hcY hframes (by rw [hlY]; omega) h4 h5) h1
  obtain ⟨mid, hmid⟩ := h.above
  have hfr : (U.setTop g).frames = (.java g :: mid) ++ below := by rw [State.frames_setTop' g h.top, hmid]; rfl
  obtain ⟨o, s₂, hsteps, -, hend, hq⟩ := Steps.callFree hM p X.admits X.cas X.clock (acts := []) hfr happ hPc trivial
  have hq' : vx_Q Qc XC mc ms free a (U.calling g mk a) o s₂ := hq
  rw [State.frames_setTop' g h.top] at hend
  obtain ⟨g₀, hg0⟩ := Option.isSome_iff_exists.mp h.top
  obtain ⟨r, hr⟩ := State.topJava?_eq_some.mp hg0
  have hr' : (({ U with heap := s₂.heap, slotsUsed := s₂.slotsUsed } : State).setVm s₂.vm).frames = .java g₀ :: r := hr
  rcases hq' with ⟨hqc, L, hfe, hL⟩ | ⟨q, rfl, E, ce, L, hx, hce, hcv, hcl, hW₂, hsm, hL⟩
  · obtain ⟨⟨v, rfl⟩, hW₂, e2, q2, q3, q4, q5, q6⟩ := id hfe
    have e3 : s₂ = ({ (U.calling g mk a).setFrames s₂.frames with heap := s₂.heap, slotsUsed := s₂.slotsUsed } : State).setVm s₂.vm := by
      have : s₂ = ({ s₂ with vm := (U.calling g mk a).vm } : State).setVm s₂.vm := rfl
      rw [e2] at this
      exact this
    obtain ⟨c₂, i₂, len₂, hc₂, hd₂, hf₂⟩ := hend
    have hW' : U.WarmedH s₂.vm := hW₂
    have hcc : c₂ = c := by
      have h1 : s₂.code? g.method = U.code? g.method := by
        rw [State.code?_eq, State.code?_eq, hW'.alike.method?]
      exact Option.some.inj (hc₂.symm.trans (h1.trans h.code))
    subst hcc
    have hlen : len₂ = len := by rw [hdg] at hd₂; cases hd₂; rfl
    subst hlen
    have hs₂ : s₂ = (({ U with heap := s₂.heap, slotsUsed := s₂.slotsUsed } : State).setVm s₂.vm).setTop { g with pc := g.pc + len₂, stack := v.toList ++ g.stack } := by
      refine e3.trans ?_
      rw [hf₂, State.calling_eq h.top, State.setFrames_setFrames, State.setTop_of_frames _ hr', hr]
      rfl
    have hsame : U.sameButNew ({ U with heap := s₂.heap, slotsUsed := s₂.slotsUsed } : State) L mc ms := by
      refine ⟨?_, q2, q3, q4, q5, q6⟩
      obtain ⟨t, ht, -⟩ := State.frames_cons hr
      show ({ U with heap := s₂.heap, slotsUsed := s₂.slotsUsed } : State) = { U.setFrames U.frames with heap := s₂.heap, slotsUsed := s₂.slotsUsed }
      rw [State.setFrames_self ht]
    subst hg
    refine Or.inl ⟨v, ⟨(({ U with heap := s₂.heap, slotsUsed := s₂.slotsUsed } : State).setVm s₂.vm), Ls ++ L, c0 + mc, s0 + ms⟩,
      ⟨X.admits, X.cas, X.clock, X.frames, X.room, X.hears, X.method, X.code, (X.here.setHeapUsed s₂.heap s₂.slotsUsed).setVm hW'.alike, X.tail, State.WarmedH.trans X.warmed hW', X.limits, X.bytes, X.same.trans (hsame.setVm s.vm)⟩,
      ⟨g, mk, s₂, L, rfl, rfl, hqc, rfl, hL, rfl, rfl⟩, ?_⟩
    show Steps p.tables e below _ ((({ U with heap := s₂.heap, slotsUsed := s₂.slotsUsed } : State).setVm s₂.vm).setTop { g with pc := g.pc + len₂, stack := v.toList ++ g.stack })
    rw [← hs₂]
    exact hsteps
  · obtain ⟨e2, q2, q3, q4, q5, q6⟩ := id hsm
    have e3 : s₂ = ({ (U.calling g mk a).setFrames s₂.frames with heap := s₂.heap, slotsUsed := s₂.slotsUsed } : State).setVm s₂.vm := by
      have : s₂ = ({ s₂ with vm := (U.calling g mk a).vm } : State).setVm s₂.vm := rfl
      rw [e2] at this
      exact this
    have hf₂ : s₂.frames = .throwing q :: .java g :: U.frames.tail := hend
    have hW' : U.WarmedH s₂.vm := hW₂
    have hs₂ : s₂ = ((({ U with heap := s₂.heap, slotsUsed := s₂.slotsUsed } : State).setVm s₂.vm).setTop g).pushFrame (.throwing q) := by
      refine e3.trans ?_
      rw [hf₂, State.calling_eq h.top, State.setFrames_setFrames, State.pushFrame, State.frames_setTop _ hr', State.setTop_of_frames _ hr', State.setFrames_setFrames, hr]
      rfl
    have hsame : U.sameButNew ({ U with heap := s₂.heap, slotsUsed := s₂.slotsUsed } : State) L mc ms := by
      refine ⟨?_, q2, q3, q4, q5, q6⟩
      obtain ⟨t, ht, -⟩ := State.frames_cons hr
      show ({ U with heap := s₂.heap, slotsUsed := s₂.slotsUsed } : State) = { U.setFrames U.frames with heap := s₂.heap, slotsUsed := s₂.slotsUsed }
      rw [State.setFrames_self ht]
    subst hg
    refine Or.inr ⟨q, ⟨(({ U with heap := s₂.heap, slotsUsed := s₂.slotsUsed } : State).setVm s₂.vm), Ls ++ L, c0 + mc, s0 + ms⟩,
      ⟨X.admits, X.cas, X.clock, X.frames, X.room, X.hears, X.method, X.code, (X.here.setHeapUsed s₂.heap s₂.slotsUsed).setVm hW'.alike, X.tail, State.WarmedH.trans X.warmed hW', X.limits, X.bytes, X.same.trans (hsame.setVm s.vm)⟩,
      ⟨g, mk, s₂, L, E, ce, rfl, rfl, hx, hce, hcv, hcl, rfl, hL, rfl, rfl⟩, ?_⟩
    show Steps p.tables e below _ (((({ U with heap := s₂.heap, slotsUsed := s₂.slotsUsed } : State).setVm s₂.vm).setTop g).pushFrame (.throwing q))
    rw [← hs₂]
    exact hsteps
end
variable {p : Program} {l : Launch} {e : Env} {R : Room} {s : State} {m : MethodId} {args : Array Value} {below : List Frame} {meth : Method} {c : Code} {T : State} {H : Heap} {locs : List Loc} {cells slots : Nat}
theorem vx_callVX (X : Stand p l e R s m args below meth c T locs cells slots) (hexec : p.tables.exec = Jvm.exec) {own C : String} {index : Nat} {y : MethodName} {bytes : ByteArray} {maxL : Nat} {ret : Option FieldType} {hh : List (Nat × Nat × Nat × Nat)}
    (hown : s.vm.findClass own = some m.cls) (hlink : (Cond.methodLink own index y).before args s = true) (hinst : (Cond.instanceMethod y).before args s = true) (hsel : (Cond.selects C y y).before args s = true)
    (hcode : (Cond.codeWith y bytes maxL ret hh).before args s = true) (hy : y.cls ≠ "java/lang/invoke/MethodHandle" ∧ y.cls ≠ "java/lang/invoke/VarHandle")
    {W9 : Nat} {Pre : Pt → Array Value → Prop} {Post : Pt → Array Value → Option Value → Pt → Prop} {PostX : Pt → Array Value → Addr → Pt → Prop} (hK : vx_Back l R p e below s args y 3 W9 Pre Post PostX)
    {b : Addr} {cellB : Cell} (hcell : T.heap[b]? = some cellB) (hobj : cellB.vm.isStatics = false) (hcls : s.vm.findClass C = some cellB.cls)
    {g : JFrame} (hg : g.method = m) (hsize : g.locals.size = c.maxLocals) {argsL rest : List Value} (hlen : ∀ sig, parseMethodDescriptor y.desc = some sig → argsL.length = sig.parameters.length)
    (hstack : g.stack = argsL.reverse ++ .ref b :: rest) (hW : 2 * g.monitorRoom + (rest.map fun v => v.category).sum ≤ W9) (hdg : decode c.code g.pc = .ok (.invokevirtual index, 3))
    (hpre : ∀ vm₁, s.WarmedH vm₁ → Pre ⟨T.setVm vm₁, locs, cells, slots⟩ (Value.ref b :: argsL).toArray) :
    (∃ (v : Option Value) (vm₁ : Vm) (B : Pt), s.WarmedH vm₁ ∧ Stand p l e R s m args below meth c B.U B.locs B.cells B.slots ∧ Post ⟨T.setVm vm₁, locs, cells, slots⟩ (Value.ref b :: argsL).toArray v B ∧
      ∀ target, Steps p.tables e below (B.U.setTop { g with pc := g.pc + 3, stack := v.toList ++ rest }) target → Steps p.tables e below (T.setTop g) target) ∨
    (∃ (q : Addr) (vm₁ : Vm) (B : Pt), s.WarmedH vm₁ ∧ Stand p l e R s m args below meth c B.U B.locs B.cells B.slots ∧ PostX ⟨T.setVm vm₁, locs, cells, slots⟩ (Value.ref b :: argsL).toArray q B ∧
      Steps p.tables e below (T.setTop g) ((B.U.setTop { g with stack := rest }).pushFrame (.throwing q))) := by
  obtain ⟨mk, methM, hnamed, hmethM, hstM, habM⟩ := Cond.instanceMethod_spec hinst
  obtain ⟨m8, methM', cM, hn8, hmethM', -, -, -, -, -, -, hsigM⟩ := Cond.codeWith_spec hcode
  cases Option.some.inj (hn8.symm.trans hnamed)
  cases hmethM.symm.trans hmethM'
  obtain ⟨c2, r2, m2, q1, q2, q3, q4, kP, hkP, hkPi⟩ := Cond.selects_spec hsel
  cases hcls.symm.trans q1
  cases (State.methodFound?_of_named hnamed hy).symm.trans q2
  cases hnamed.symm.trans q3
  have hselP : selectMethod e.platform s.vm cellB.cls mk = .method mk := by rw [Launch.admits_selectMethod X.admits]; exact q4
  obtain ⟨vm₁, X₁, hstep₁⟩ := X.invokevirtual hexec hown hlink hnamed hmethM hstM hkP hkPi hy (a := b) (cell := cellB) hcell
    (fun z h => by rw [h] at hobj; cases hobj) hselP hmethM habM hkP hkPi (g := g) hg (argsL := argsL) (rest := rest) (hlen _ hsigM) hstack hdg
  rcases hK m meth c ⟨T.setVm vm₁, locs, cells, slots⟩ { g with stack := rest } (.invokevirtual index) mk (Value.ref b :: argsL).toArray X₁ hg hsize hdg hW (X₁.named hnamed) (hpre vm₁ X₁.warmed) with ⟨v, B, X', hpost, hsteps⟩ | ⟨q, B, X', hpost, hsteps⟩
  · exact Or.inl ⟨v, vm₁, B, X₁.warmed, X', hpost, fun target h => hstep₁ _ fun acts => by rw [doInvoke_state]; exact hsteps.trans h⟩
  · exact Or.inr ⟨q, vm₁, B, X₁.warmed, X', hpost, hstep₁ _ fun acts => by rw [doInvoke_state]; exact hsteps⟩
theorem vx_callSX (X : Stand p l e R s m args below meth c T locs cells slots) (hexec : p.tables.exec = Jvm.exec) {own : String} {index : Nat} {y : MethodName} {bytes : ByteArray} {maxL : Nat} {ret : Option FieldType} {hh : List (Nat × Nat × Nat × Nat)}
    (hown : s.vm.findClass own = some m.cls) (hlink : (Cond.methodLink own index y).before args s = true) (hstat : (Cond.static y).before args s = true) (hinit : (Cond.initialized y.cls).before args s = true)
    (hcode : (Cond.codeWith y bytes maxL ret hh).before args s = true) (hy : y.cls ≠ "java/lang/invoke/MethodHandle" ∧ y.cls ≠ "java/lang/invoke/VarHandle")
    {W9 : Nat} {Pre : Pt → Array Value → Prop} {Post : Pt → Array Value → Option Value → Pt → Prop} {PostX : Pt → Array Value → Addr → Pt → Prop} (hK : vx_Back l R p e below s args y 3 W9 Pre Post PostX)
    {g : JFrame} (hg : g.method = m) (hsize : g.locals.size = c.maxLocals) {argsL rest : List Value} (hlen : ∀ sig, parseMethodDescriptor y.desc = some sig → argsL.length = sig.parameters.length)
    (hstack : g.stack = argsL.reverse ++ rest) (hW : 2 * g.monitorRoom + (rest.map fun v => v.category).sum ≤ W9) (hdg : decode c.code g.pc = .ok (.invokestatic index, 3))
    (hpre : ∀ vm₁, s.WarmedH vm₁ → Pre ⟨T.setVm vm₁, locs, cells, slots⟩ argsL.toArray) :
    (∃ (v : Option Value) (vm₁ : Vm) (B : Pt), s.WarmedH vm₁ ∧ Stand p l e R s m args below meth c B.U B.locs B.cells B.slots ∧ Post ⟨T.setVm vm₁, locs, cells, slots⟩ argsL.toArray v B ∧
      ∀ target, Steps p.tables e below (B.U.setTop { g with pc := g.pc + 3, stack := v.toList ++ rest }) target → Steps p.tables e below (T.setTop g) target) ∨
    (∃ (q : Addr) (vm₁ : Vm) (B : Pt), s.WarmedH vm₁ ∧ Stand p l e R s m args below meth c B.U B.locs B.cells B.slots ∧ PostX ⟨T.setVm vm₁, locs, cells, slots⟩ argsL.toArray q B ∧
      Steps p.tables e below (T.setTop g) ((B.U.setTop { g with stack := rest }).pushFrame (.throwing q))) := by
  obtain ⟨mk, methM, cM, hnamed, hmethM, -, -, -, -, -, -, hsigM⟩ := Cond.codeWith_spec hcode
  have hstatic : methM.isStatic = true := Cond.static_spec hnamed hmethM hstat
  obtain ⟨kP, hkP, -⟩ := className_of_methodNamed hnamed
  have hinitP : kP.init = .initialized := Cond.initialized_spec (findClass_of_methodNamed hnamed) hkP hinit
  obtain ⟨vm₁, X₁, hstep₁⟩ := X.invokestatic hexec hown hlink hnamed hmethM hstatic hkP hinitP hy (g := g) hg (argsL := argsL) (rest := rest) (hlen _ hsigM) hstack hdg
  rcases hK m meth c ⟨T.setVm vm₁, locs, cells, slots⟩ { g with stack := rest } (.invokestatic index) mk argsL.toArray X₁ hg hsize hdg hW (X₁.named hnamed) (hpre vm₁ X₁.warmed) with ⟨v, B, X', hpost, hsteps⟩ | ⟨q, B, X', hpost, hsteps⟩
  · exact Or.inl ⟨v, vm₁, B, X₁.warmed, X', hpost, fun target h => hstep₁ _ fun acts => by rw [doInvoke_state]; exact hsteps.trans h⟩
  · exact Or.inr ⟨q, vm₁, B, X₁.warmed, X', hpost, hstep₁ _ fun acts => by rw [doInvoke_state]; exact hsteps⟩
theorem vx_callVW (X : Stand p l e R s m args below meth c T locs cells slots) (hexec : p.tables.exec = Jvm.exec) {own C : String} {index : Nat} {y : MethodName} {bytes : ByteArray} {maxL : Nat} {ret : Option FieldType} {hh : List (Nat × Nat × Nat × Nat)}
    (hown : s.vm.findClass own = some m.cls) (hlink : (Cond.methodLink own index y).before args s = true) (hinst : (Cond.instanceMethod y).before args s = true) (hsel : (Cond.selects C y y).before args s = true)
    (hcode : (Cond.codeWith y bytes maxL ret hh).before args s = true) (hy : y.cls ≠ "java/lang/invoke/MethodHandle" ∧ y.cls ≠ "java/lang/invoke/VarHandle")
    {W9 : Nat} {Pre : Pt → Array Value → Prop} {Post : Pt → Array Value → Option Value → Pt → Prop} (hK : Back l R p e below s args y 3 W9 Pre Post)
    {b : Addr} {cellB : Cell} (hcell : T.heap[b]? = some cellB) (hobj : cellB.vm.isStatics = false) (hcls : s.vm.findClass C = some cellB.cls)
    {g : JFrame} (hg : g.method = m) (hsize : g.locals.size = c.maxLocals) {argsL rest : List Value} (hlen : ∀ sig, parseMethodDescriptor y.desc = some sig → argsL.length = sig.parameters.length)
    (hstack : g.stack = argsL.reverse ++ .ref b :: rest) (hW : 2 * g.monitorRoom + (rest.map fun v => v.category).sum ≤ W9) (hdg : decode c.code g.pc = .ok (.invokevirtual index, 3))
    (hpre : ∀ vm₁, s.WarmedH vm₁ → Pre ⟨T.setVm vm₁, locs, cells, slots⟩ (Value.ref b :: argsL).toArray) :
    ∃ (v : Option Value) (vm₁ : Vm) (B : Pt), s.WarmedH vm₁ ∧ Stand p l e R s m args below meth c B.U B.locs B.cells B.slots ∧ Post ⟨T.setVm vm₁, locs, cells, slots⟩ (Value.ref b :: argsL).toArray v B ∧
      ∀ target, Steps p.tables e below (B.U.setTop { g with pc := g.pc + 3, stack := v.toList ++ rest }) target → Steps p.tables e below (T.setTop g) target := by
  obtain ⟨mk, methM, hnamed, hmethM, hstM, habM⟩ := Cond.instanceMethod_spec hinst
  obtain ⟨m8, methM', cM, hn8, hmethM', -, -, -, -, -, -, hsigM⟩ := Cond.codeWith_spec hcode
  cases Option.some.inj (hn8.symm.trans hnamed)
  cases hmethM.symm.trans hmethM'
  obtain ⟨c2, r2, m2, q1, q2, q3, q4, kP, hkP, hkPi⟩ := Cond.selects_spec hsel
  cases hcls.symm.trans q1
  cases (State.methodFound?_of_named hnamed hy).symm.trans q2
  cases hnamed.symm.trans q3
  have hselP : selectMethod e.platform s.vm cellB.cls mk = .method mk := by rw [Launch.admits_selectMethod X.admits]; exact q4
  obtain ⟨vm₁, X₁, hstep₁⟩ := X.invokevirtual hexec hown hlink hnamed hmethM hstM hkP hkPi hy (a := b) (cell := cellB) hcell
    (fun z h => by rw [h] at hobj; cases hobj) hselP hmethM habM hkP hkPi (g := g) hg (argsL := argsL) (rest := rest) (hlen _ hsigM) hstack hdg
  obtain ⟨v, B, X', hpost, hsteps⟩ := hK m meth c ⟨T.setVm vm₁, locs, cells, slots⟩ { g with stack := rest } (.invokevirtual index) mk (Value.ref b :: argsL).toArray X₁ hg hsize hdg hW (X₁.named hnamed) (hpre vm₁ X₁.warmed)
  exact ⟨v, vm₁, B, X₁.warmed, X', hpost, fun target h => hstep₁ _ fun acts => by rw [doInvoke_state]; exact hsteps.trans h⟩
abbrev vx_CVW (R : Room) (s : State) (args : Array Value) (own C : String) (index : Nat) (y : MethodName) (bytes : ByteArray) (maxL : Nat) (ret : Option FieldType) (hh : List (Nat × Nat × Nat × Nat)) (ws : List Cond) (rm : Room) (mc ms n : Nat) : Prop :=
  (rm.cells = mc ∧ rm.slots = ms ∧ rm.frames + 1 ≤ R.frames ∧ 8 + (maxL + 11) + rm.locals ≤ R.locals ∧ (∀ w ∈ ws, ∀ (a' : Array Value) (U : State), s.WarmedH U.vm → w.before a' U = true) ∧ Cond.codeWith y bytes maxL ret hh ∈ ws) ∧
  (Cond.codeWith y bytes maxL ret hh).before args s = true ∧ (Cond.initialized y.cls).before args s = true ∧ (y.cls ≠ "java/lang/invoke/MethodHandle" ∧ y.cls ≠ "java/lang/invoke/VarHandle") ∧
  (∀ sig, parseMethodDescriptor y.desc = some sig → n = sig.parameters.length) ∧ (Cond.methodLink own index y).before args s = true ∧ (Cond.instanceMethod y).before args s = true ∧ (Cond.selects C y y).before args s = true
theorem vx_cwVW {own C : String} {index maxL mc ms : Nat} {y : MethodName} {bytes : ByteArray} {ret : Option FieldType} {hh : List (Nat × Nat × Nat × Nat)} {Ts ws ws' : List Cond} {rm : Room} (n : Nat) (ht : ∀ w ∈ Ts, w.before args s = true) (hT : GoodIn Ts (wsV own index C y ws)) (hw : ws = Cond.codeWith y bytes maxL ret hh :: ws') (hrc : rm.cells = mc) (hrs : rm.slots = ms)
    (hd : y.cls = C ∧ y.cls ≠ "java/lang/invoke/MethodHandle" ∧ y.cls ≠ "java/lang/invoke/VarHandle" ∧ (parseMethodDescriptor y.desc).map (fun d => d.parameters.length) = some n) (hR : rm.frames + 1 ≤ R.frames ∧ 8 + (maxL + 11) + rm.locals ≤ R.locals) :
    vx_CVW R s args own C index y bytes maxL ret hh ws rm mc ms n := by
  obtain ⟨hC, hd⟩ := hd
  subst hC
  have ok : ∀ w ∈ wsV own index y.cls y ws, w.before args s = true := fun w h => ht w (hT w h).1
  have hG : GoodIn Ts ws := fun w h => hT w (by unfold wsV; exact List.mem_append_right _ h)
  have hc : Cond.codeWith y bytes maxL ret hh ∈ ws := by rw [hw]; exact List.mem_cons_self
  refine ⟨⟨hrc, hrs, hR.1, hR.2, pay_in ht hG, hc⟩, ht _ (hG _ hc).1, ok _ (by simp [wsV]), ⟨hd.1, hd.2.1⟩, fun sig h => ?_, ok _ (by simp [wsV]), ok _ (by simp [wsV]), ok _ (by simp [wsV])⟩
  have h2 := hd.2.2
  rw [h] at h2
  exact (Option.some.inj h2).symm
theorem vx_runVW {y : MethodName} {bytes cc : ByteArray} {maxL nL mc ms n index : Nat} {ret : Option FieldType} {hh : List (Nat × Nat × Nat × Nat)} {ws : List Cond} {rm : Room} {Pc : Array Value → State → Prop} {Qc : Array Value → State → Outcome → State → Prop} {free : Addr → Prop} {Ts : List Cond} {own C : String} {b : Addr} {As rest : List Value} {g : JFrame}
    (S : CallFix p m c cc nL s args Ts own) (hM : Met l y ws rm Pc Qc mc ms free) (cw : vx_CVW R s args own C index y bytes maxL ret hh ws rm mc ms n) (hp : PreV s H C b Pc As)
    (hg : g.method = m) (hn : As.length = n) (hsize : g.locals.size = nL) (hstack : g.stack = As.reverse ++ .ref b :: rest) (hW : 2 * g.monitorRoom + (rest.map fun v => v.category).sum ≤ 8) (hdg : decode cc g.pc = .ok (.invokevirtual index, 3)) (hf : cells + mc ≤ R.cells ∧ slots + ms ≤ R.slots) :
    va_Run p l e R s m args below meth c H locs cells slots mc ms g rest (Qc (Value.ref b :: As).toArray) free := by
  obtain ⟨⟨hrc, hrs, hfr, hlo, hws, hcw⟩, hcode, hini, hy, hlen, hl, hin, hse⟩ := cw
  have hK : Back l R p e below s args y 3 8 (PreOf R mc ms Pc) (PostOf Qc mc ms free) := va_backW (hh := hh) (bytes := bytes) (maxL := maxL) (ret := ret) hM hp.1 hrc hrs hfr hlo hws hcw (fun a' U hW => word_at hW (Or.inl (by first | rfl | simp [Cond.onTables, Cond.keeps, Cond.steady])) hini)
  obtain ⟨hx, hb, hml, ho, -⟩ := S
  obtain ⟨-, ⟨cellB, hcB, hoB, hclB⟩, hPc⟩ := hp
  intro T hT X
  obtain ⟨v, vm₁, ⟨U', l2, c2, s2⟩, hW₁, X', ⟨g', mk, t, L, e1, e2, hq, h1, hL, h2, h3⟩, st⟩ := vx_callVW X hx (C := C) (hh := hh) (bytes := bytes) (maxL := maxL) (ret := ret) ho hl hin hse hcode hy hK (by rw [hT]; exact hcB) hoB hclB hg (hsize.trans hml.symm) (argsL := As) (rest := rest) (fun sig h => hn.trans (hlen sig h)) hstack hW (by rw [hb]; exact hdg)
    (fun vm₁ hW₁ => ⟨hf.1, hf.2, hPc (T.setVm vm₁) hT hW₁⟩)
  dsimp only [Pt.U, Pt.locs, Pt.cells, Pt.slots] at X' e1 e2 h1 h2 h3 st
  subst h1; subst h2; subst h3
  exact ⟨v, (T.setVm vm₁).calling g' mk (Value.ref b :: As).toArray, t, U', L, hT, X', hL, e1, e2, hq, st⟩
section
variable {y : MethodName} {bytes cc : ByteArray} {maxL nL mc ms n index : Nat} {ret : Option FieldType} {ws : List Cond} {rm : Room} {Pc : Array Value → State → Prop} {Qc : Array Value → State → Outcome → State → Prop} {XC : String → State → State → Prop} {free : Addr → Prop} {Ts : List Cond} {own C : String} {b : Addr} {As rest : List Value} {g : JFrame}
theorem vx_runVX {hh : List (Nat × Nat × Nat × Nat)} (S : CallFix p m c cc nL s args Ts own) (hM : vx_Met l y ws rm Pc Qc XC mc ms free) (cw : vx_CVW R s args own C index y bytes maxL ret hh ws rm mc ms n) (hp : PreV s H C b Pc As)
    (hg : g.method = m) (hn : As.length = n) (hsize : g.locals.size = nL) (hstack : g.stack = As.reverse ++ .ref b :: rest) (hW : 2 * g.monitorRoom + (rest.map fun v => v.category).sum ≤ 8) (hdg : decode cc g.pc = .ok (.invokevirtual index, 3)) (hf : cells + mc ≤ R.cells ∧ slots + ms ≤ R.slots) :
    vx_Run p l e R s m args below meth c H locs cells slots mc ms g rest (Qc (Value.ref b :: As).toArray) XC free := by
  obtain ⟨⟨hrc, hrs, hfr, hlo, hws, hcw⟩, hcode, hini, hy, hlen, hl, hin, hse⟩ := cw
  have hK : vx_Back l R p e below s args y 3 8 (PreOf R mc ms Pc) (PostOf Qc mc ms free) (vx_Post XC mc ms free) := vx_backW (hh := hh) (bytes := bytes) (maxL := maxL) (ret := ret) hM hp.1 hrc hrs hfr hlo hws hcw (fun a' U hW => word_at hW (Or.inl (by first | rfl | simp [Cond.onTables, Cond.keeps, Cond.steady])) hini)
  obtain ⟨hx, hb, hml, ho, -⟩ := S
  obtain ⟨-, ⟨cellB, hcB, hoB, hclB⟩, hPc⟩ := hp
  intro T hT X
  rcases vx_callVX X hx (C := C) (hh := hh) (bytes := bytes) (maxL := maxL) (ret := ret) ho hl hin hse hcode hy hK (by rw [hT]; exact hcB) hoB hclB hg (hsize.trans hml.symm) (argsL := As) (rest := rest) (fun sig h => hn.trans (hlen sig h)) hstack hW (by rw [hb]; exact hdg)
    (fun vm₁ hW₁ => ⟨hf.1, hf.2, hPc (T.setVm vm₁) hT hW₁⟩) with ⟨v, vm₁, ⟨U', l2, c2, s2⟩, hW₁, X', ⟨g', mk, t, L, e1, e2, hq, h1, hL, h2, h3⟩, st⟩ | ⟨q, vm₁, ⟨U', l2, c2, s2⟩, hW₁, X', ⟨g', mk, t, L, E, ce, e1, e2, hq, hce, hcv, hcl, h1, hL, h2, h3⟩, st⟩
  · dsimp only [Pt.U, Pt.locs, Pt.cells, Pt.slots] at X' e1 e2 h1 h2 h3 st
    subst h1; subst h2; subst h3
    exact Or.inl ⟨v, (T.setVm vm₁).calling g' mk (Value.ref b :: As).toArray, t, U', L, hT, X', hL, e1, e2, hq, st⟩
  · dsimp only [Pt.U, Pt.locs, Pt.cells, Pt.slots] at X' e1 e2 h1 h2 h3 st hcl
    subst h1; subst h2; subst h3
    exact Or.inr ⟨q, (T.setVm vm₁).calling g' mk (Value.ref b :: As).toArray, t, U', L, E, ce, hT, X', hL, e1, e2, hq, hce, hcv, vx_cls hW₁ hcl, st⟩
theorem vx_runSX {hh : List (Nat × Nat × Nat × Nat)} (S : CallFix p m c cc nL s args Ts own) (hM : vx_Met l y ws rm Pc Qc XC mc ms free) (cw : vx_CSW R s args own index y bytes maxL ret hh ws rm mc ms n) (hp : PreS s H Pc As)
    (hg : g.method = m) (hn : As.length = n) (hsize : g.locals.size = nL) (hstack : g.stack = As.reverse ++ rest) (hW : 2 * g.monitorRoom + (rest.map fun v => v.category).sum ≤ 8) (hdg : decode cc g.pc = .ok (.invokestatic index, 3)) (hf : cells + mc ≤ R.cells ∧ slots + ms ≤ R.slots) :
    vx_Run p l e R s m args below meth c H locs cells slots mc ms g rest (Qc As.toArray) XC free := by
  obtain ⟨⟨hrc, hrs, hfr, hlo, hws, hcw⟩, hcode, hini, hy, hlen, hl, hstt⟩ := cw
  have hK : vx_Back l R p e below s args y 3 8 (PreOf R mc ms Pc) (PostOf Qc mc ms free) (vx_Post XC mc ms free) := vx_backW (hh := hh) (bytes := bytes) (maxL := maxL) (ret := ret) hM hp.1 hrc hrs hfr hlo hws hcw (fun a' U hW => word_at hW (Or.inl (by first | rfl | simp [Cond.onTables, Cond.keeps, Cond.steady])) hini)
  obtain ⟨hx, hb, hml, ho, -⟩ := S
  intro T hT X
  rcases vx_callSX X hx (hh := hh) (bytes := bytes) (maxL := maxL) (ret := ret) ho hl hstt hini hcode hy hK hg (hsize.trans hml.symm) (argsL := As) (rest := rest) (fun sig h => hn.trans (hlen sig h)) hstack hW (by rw [hb]; exact hdg)
    (fun vm₁ hW₁ => ⟨hf.1, hf.2, hp.2 (T.setVm vm₁) hT hW₁⟩) with ⟨v, vm₁, ⟨U', l2, c2, s2⟩, hW₁, X', ⟨g', mk, t, L, e1, e2, hq, h1, hL, h2, h3⟩, st⟩ | ⟨q, vm₁, ⟨U', l2, c2, s2⟩, hW₁, X', ⟨g', mk, t, L, E, ce, e1, e2, hq, hce, hcv, hcl, h1, hL, h2, h3⟩, st⟩
  · dsimp only [Pt.U, Pt.locs, Pt.cells, Pt.slots] at X' e1 e2 h1 h2 h3 st
    subst h1; subst h2; subst h3
    exact Or.inl ⟨v, (T.setVm vm₁).calling g' mk As.toArray, t, U', L, hT, X', hL, e1, e2, hq, st⟩
  · dsimp only [Pt.U, Pt.locs, Pt.cells, Pt.slots] at X' e1 e2 h1 h2 h3 st hcl
    subst h1; subst h2; subst h3
    exact Or.inr ⟨q, (T.setVm vm₁).calling g' mk As.toArray, t, U', L, E, ce, hT, X', hL, e1, e2, hq, hce, hcv, vx_cls hW₁ hcl, st⟩
end
end VXH
theorem vx_ofWH {l : Launch} {y : MethodName} {ws ws' : List Cond} {rm : Room} {Pc : Array Value → State → Prop} {Qc : Array Value → State → Outcome → State → Prop} {XC : String → State → State → Prop} {mc ms : Nat} {free : Addr → Prop} {cc : ByteArray} {maxL : Nat} {ret : Option FieldType} {hh : List (Nat × Nat × Nat × Nat)}
    (hy : plainName y.cls = true) (hw : ws = Cond.codeWith y cc maxL ret hh :: ws')
    (body : ∀ p e s m args below meth c s₁, BodyLoose p l y (headSpec ws rm) cc maxL ret e s m args below meth c s₁ → c.maxLocals = maxL → Pc args s →
      W p l e (headSpec ws rm).room s m args below meth c s.heap [] 0 0 (vx_MQ below Qc XC args s mc ms free) (entryFrame m args maxL)) : vx_Met l y ws rm Pc Qc XC mc ms free := by
  refine MetFree.of_bodyS (code := cc) (maxLocals := maxL) (ret := ret) hy ?_ ?_
  · intro args s m h hn
    obtain ⟨m9, meth, c, hn9, h1, h2, h3, h4, -, h5, h6, -⟩ := Cond.codeWith_spec (atoms_spec (ws := ws) h _ (by rw [hw]; exact List.mem_cons_self))
    cases hn.symm.trans hn9
    exact ⟨meth, c, h1, h2, h3, h4, h5, h6⟩
  · intro p e s m args below meth c s₁ B hml hP _
    have hh0 : s₁.heap = s.heap := by rw [B.state]; rfl
    obtain ⟨t, a1, o, b1, b2, b3⟩ := body p e s m args below meth c s₁ B hml hP s₁ hh0 (Stand.of_body B)
    exact ⟨t, o, a1, b1, b2, b3⟩
/-! ===== END ===== -/
end
section
/-! tables: classes, fields, methods, links, by number -/
def zCN : List String := ["CobblePorts$RouteSearch", "CobblePorts$State", "CobblePorts$Streets", "CobblePorts$Tape", "CobblePorts$Tariff", "CobblePorts$Trip", "CobblePorts$Voyages", "CobblePorts$World", "CobblePorts$WorldParser", "CobblePorts", "CobblePortsModel", "CobblePortsLaw", "java/lang/String", "java/lang/StringLatin1", "jdk/internal/util/Preconditions", "java/util/Arrays"]
def zFs0 : List (String × String × String × Bool) := [("CobblePorts$RouteSearch", "found", "[I", true), ("CobblePorts$RouteSearch", "tried", "[I", true), ("CobblePorts$RouteSearch", "trips", "[LCobblePorts$Trip;", true), ("CobblePorts$RouteSearch", "pavedPort", "I", false), ("CobblePorts$RouteSearch", "leastMud", "I", false), ("CobblePorts$RouteSearch", "mostCargo", "I", false), ("CobblePorts$RouteSearch", "fitting", "I", false)]
def zTs0 : List FieldType := [.array .int, .array .int, .array (.object "CobblePorts$Trip"), .int, .int, .int, .int]
def zFs1 : List (String × String × String × Bool) := [("CobblePorts$State", "streets", "LCobblePorts$Streets;", true), ("CobblePorts$State", "voyages", "LCobblePorts$Voyages;", true), ("CobblePorts$State", "shipAt", "[I", true), ("CobblePorts$State", "legShip", "[I", true), ("CobblePorts$State", "legTo", "[I", true), ("CobblePorts$State", "readPort", "[I", true), ("CobblePorts$State", "readOrigin", "[I", true), ("CobblePorts$State", "readMany", "[I", true), ("CobblePorts$State", "status", "[I", true), ("CobblePorts$State", "legs", "I", false), ("CobblePorts$State", "reads", "I", false), ("CobblePorts$State", "trip", "LCobblePorts$Trip;", true)]
def zTs1 : List FieldType := [.object "CobblePorts$Streets", .object "CobblePorts$Voyages", .array .int, .array .int, .array .int, .array .int, .array .int, .array .int, .array .int, .int, .int, .object "CobblePorts$Trip"]
def zFs2 : List (String × String × String × Bool) := [("CobblePorts$Streets", "lengths", "[I", true), ("CobblePorts$Streets", "rows", "[I", true), ("CobblePorts$Streets", "ofOrigin", "[I", true)]
def zTs2 : List FieldType := [.array .int, .array .int, .array .int]
def zFs3 : List (String × String × String × Bool) := [("CobblePorts$Tape", "bytes", "[B", true), ("CobblePorts$Tape", "length", "I", false), ("CobblePorts$Tape", "kind", "I", false), ("CobblePorts$Tape", "start", "I", false), ("CobblePorts$Tape", "number", "I", false), ("CobblePorts$Tape", "end", "I", false), ("CobblePorts$Tape", "textLength", "I", false)]
def zTs3 : List FieldType := [.array .byte, .int, .int, .int, .int, .int, .int]
def zFs4 : List (String × String × String × Bool) := [("CobblePorts$Tariff", "steps", "[I", true), ("CobblePorts$Tariff", "values", "[I", true), ("CobblePorts$Tariff", "stack", "[I", true), ("CobblePorts$Tariff", "length", "I", false), ("CobblePorts$Tariff", "waiting", "I", false)]
def zTs4 : List FieldType := [.array .int, .array .int, .array .int, .int, .int]
def zFs5 : List (String × String × String × Bool) := [("CobblePorts$Trip", "ship", "I", false), ("CobblePorts$Trip", "from", "I", false), ("CobblePorts$Trip", "to", "I", false), ("CobblePorts$Trip", "many", "I", false), ("CobblePorts$Trip", "places", "[I", true)]
def zTs5 : List FieldType := [.int, .int, .int, .int, .array .int]
def zFs6 : List (String × String × String × Bool) := [("CobblePorts$Voyages", "count", "I", false), ("CobblePorts$Voyages", "fixed", "I", false), ("CobblePorts$Voyages", "facts", "[I", true), ("CobblePorts$Voyages", "laid", "[J", true), ("CobblePorts$Voyages", "places", "[I", true), ("CobblePorts$Voyages", "prices", "[I", true)]
def zTs6 : List FieldType := [.int, .int, .array .int, .array .long, .array .int, .array .int]
def zFs7 : List (String × String × String × Bool) := [("CobblePorts$World", "need", "[I", true), ("CobblePorts$World", "weight", "[I", true), ("CobblePorts$World", "origin", "[I", true), ("CobblePorts$World", "square", "[I", true), ("CobblePorts$World", "kind", "[I", true), ("CobblePorts$World", "hold", "[I", true), ("CobblePorts$World", "home", "[I", true), ("CobblePorts$World", "tariff", "LCobblePorts$Tariff;", true), ("CobblePorts$World", "ports", "I", false), ("CobblePorts$World", "stones", "I", false), ("CobblePorts$World", "ships", "I", false)]
def zTs7 : List FieldType := [.array .int, .array .int, .array .int, .array .int, .array .int, .array .int, .array .int, .object "CobblePorts$Tariff", .int, .int, .int]
def zFs8 : List (String × String × String × Bool) := [("CobblePorts$WorldParser", "tape", "LCobblePorts$Tape;", true), ("CobblePorts$WorldParser", "draft", "LCobblePorts$World;", true), ("CobblePorts$WorldParser", "fault", "I", false), ("CobblePorts$WorldParser", "faultPlace", "I", false), ("CobblePorts$WorldParser", "taken", "I", false)]
def zTs8 : List FieldType := [.object "CobblePorts$Tape", .object "CobblePorts$World", .int, .int, .int]
def zFs9 : List (String × String × String × Bool) := [("CobblePorts", "parser", "LCobblePorts$WorldParser;", true), ("CobblePorts", "told", "LCobblePorts$World;", true), ("CobblePorts", "now", "LCobblePorts$State;", true), ("CobblePorts", "kept", "LCobblePorts$State;", true), ("CobblePorts", "search", "LCobblePorts$RouteSearch;", true), ("CobblePorts", "loads", "[I", true), ("CobblePorts", "hasImage", "Z", false), ("CobblePorts", "faultPlace", "I", false), ("CobblePorts", "loadCount", "I", false)]
def zTs9 : List FieldType := [.object "CobblePorts$WorldParser", .object "CobblePorts$World", .object "CobblePorts$State", .object "CobblePorts$State", .object "CobblePorts$RouteSearch", .array .int, .boolean, .int, .int]
def zFs10 : List (String × String × String × Bool) := [("CobblePortsModel", "kinds", "[Ljava/lang/String;", true), ("CobblePortsModel", "values", "[Ljava/lang/String;", true), ("CobblePortsModel", "code", "I", false), ("CobblePortsModel", "told", "[I", true), ("CobblePortsModel", "need", "[I", true), ("CobblePortsModel", "weight", "[I", true), ("CobblePortsModel", "origin", "[I", true), ("CobblePortsModel", "square", "[I", true), ("CobblePortsModel", "kind", "[I", true), ("CobblePortsModel", "hold", "[I", true), ("CobblePortsModel", "home", "[I", true), ("CobblePortsModel", "signs", "[I", true), ("CobblePortsModel", "status", "[I", true), ("CobblePortsModel", "tape", "[I", true), ("CobblePortsModel", "taped", "I", false), ("CobblePortsModel", "at", "I", false), ("CobblePortsModel", "size", "I", false), ("CobblePortsModel", "token", "I", false), ("CobblePortsModel", "number", "I", false), ("CobblePortsModel", "begins", "I", false), ("CobblePortsModel", "ends", "I", false), ("CobblePortsModel", "bad", "I", false), ("CobblePortsModel", "badPlace", "I", false), ("CobblePortsModel", "faultPlace", "I", false), ("CobblePortsModel", "now", "[I", true), ("CobblePortsModel", "trial", "[I", true), ("CobblePortsModel", "past", "[I", true), ("CobblePortsModel", "taken", "[I", true), ("CobblePortsModel", "asked", "[I", true), ("CobblePortsModel", "stack", "[I", true), ("CobblePortsModel", "voyages", "I", false), ("CobblePortsModel", "bound", "I", false), ("CobblePortsModel", "legs", "I", false), ("CobblePortsModel", "reads", "I", false), ("CobblePortsModel", "log", "[I", true), ("CobblePortsModel", "legShip", "[I", true), ("CobblePortsModel", "legTo", "[I", true), ("CobblePortsModel", "rowTry", "[I", true), ("CobblePortsModel", "rowBest", "[I", true), ("CobblePortsModel", "loads", "[I", true), ("CobblePortsModel", "readPort", "[I", true), ("CobblePortsModel", "readOrigin", "[I", true), ("CobblePortsModel", "readMany", "[I", true), ("CobblePortsModel", "shipThen", "[I", true), ("CobblePortsModel", "loadMany", "I", false), ("CobblePortsModel", "found", "I", false), ("CobblePortsModel", "leastMud", "I", false), ("CobblePortsModel", "mostCargo", "I", false), ("CobblePortsModel", "seedNow", "I", false), ("CobblePortsModel", "hasImage", "Z", false), ("CobblePortsModel", "voyagesThen", "I", false), ("CobblePortsModel", "boundThen", "I", false), ("CobblePortsModel", "legsThen", "I", false), ("CobblePortsModel", "readsThen", "I", false), ("CobblePortsModel", "nowThen", "[I", true), ("CobblePortsModel", "pastThen", "[I", true), ("CobblePortsModel", "logThen", "[I", true), ("CobblePortsModel", "legShipThen", "[I", true), ("CobblePortsModel", "legToThen", "[I", true), ("CobblePortsModel", "readPortThen", "[I", true), ("CobblePortsModel", "readOriginThen", "[I", true), ("CobblePortsModel", "readManyThen", "[I", true), ("CobblePortsModel", "statusThen", "[I", true)]
def zTs10 : List FieldType := [.array (.object "java/lang/String"), .array (.object "java/lang/String"), .int, .array .int, .array .int, .array .int, .array .int, .array .int, .array .int, .array .int, .array .int, .array .int, .array .int, .array .int, .int, .int, .int, .int, .int, .int, .int, .int, .int, .int, .array .int, .array .int, .array .int, .array .int, .array .int, .array .int, .int, .int, .int, .int, .array .int, .array .int, .array .int, .array .int, .array .int, .array .int, .array .int, .array .int, .array .int, .array .int, .int, .int, .int, .int, .int, .boolean, .int, .int, .int, .int, .array .int, .array .int, .array .int, .array .int, .array .int, .array .int, .array .int, .array .int, .array .int]
def zFs : List (List (String × String × String × Bool)) := [zFs0, zFs1, zFs2, zFs3, zFs4, zFs5, zFs6, zFs7, zFs8, zFs9, zFs10]
def zTs : List (List FieldType) := [zTs0, zTs1, zTs2, zTs3, zTs4, zTs5, zTs6, zTs7, zTs8, zTs9, zTs10]
def zT (ci : Nat) : u_T := fun k => (zFs.getD ci []).getD k ("", "", "", false)
def zNF (ci : Nat) : Nat := (zFs.getD ci []).length
def zty (ci k : Nat) : FieldType := (zTs.getD ci []).getD k .int
def zcl : List vw_C := (List.range 11).map (fun ci => (zCN.getD ci "", zT ci, zNF ci))
/-- name, code, locals, answer, handlers; class, parameters, cells, slots, constructor -/
abbrev zMI : Type := MethodName × ByteArray × Nat × Option FieldType × List (Nat × Nat × Nat × Nat) × Nat × Nat × Nat × Nat × Bool
def zm0 : zMI := (⟨"CobblePorts$RouteSearch", "<init>", "()V"⟩, prog_2_method_1_code, 2, none, [], 0, 0, 11, 64, true)
def zm1 : zMI := (⟨"CobblePorts$RouteSearch", "seekFitting", "(LCobblePorts$World;LCobblePorts$State;)I"⟩, prog_2_method_3_code, 3, (some .int), [], 0, 2, 0, 0, false)
def zm2 : zMI := (⟨"CobblePorts$RouteSearch", "planTrips", "(LCobblePorts$State;)V"⟩, prog_2_method_4_code, 6, none, [], 0, 1, 0, 0, false)
def zm3 : zMI := (⟨"CobblePorts$RouteSearch", "tryLegs", "(LCobblePorts$World;LCobblePorts$State;I)V"⟩, prog_2_method_5_code, 7, none, [], 0, 3, 0, 0, false)
def zm4 : zMI := (⟨"CobblePorts$RouteSearch", "judge", "(LCobblePorts$World;LCobblePorts$State;)V"⟩, prog_2_method_6_code, 3, none, [], 0, 2, 0, 0, false)
def zm5 : zMI := (⟨"CobblePorts$RouteSearch", "judgeMud", "(LCobblePorts$World;LCobblePorts$State;)V"⟩, prog_2_method_7_code, 6, none, [], 0, 2, 0, 0, false)
def zm6 : zMI := (⟨"CobblePorts$RouteSearch", "keepTried", "()V"⟩, prog_2_method_8_code, 1, none, [], 0, 0, 0, 0, false)
def zm7 : zMI := (⟨"CobblePorts$RouteSearch", "seekBest", "(LCobblePorts$World;LCobblePorts$State;I)I"⟩, prog_2_method_2_code, 4, (some .int), [], 0, 3, 0, 0, false)
def zm8 : zMI := (⟨"CobblePorts$State", "<init>", "()V"⟩, prog_3_method_1_code, 1, none, [], 1, 0, 18, 986, true)
def zm9 : zMI := (⟨"CobblePorts$State", "undoVoyage", "(LCobblePorts$World;)V"⟩, prog_3_method_4_code, 2, none, [], 1, 1, 0, 0, false)
def zm10 : zMI := (⟨"CobblePorts$State", "isAsRead", "()Z"⟩, prog_3_method_7_code, 2, (some .boolean), [], 1, 0, 0, 0, false)
def zm11 : zMI := (⟨"CobblePorts$State", "copyFrom", "(LCobblePorts$State;)V"⟩, prog_3_method_8_code, 2, none, [], 1, 1, 0, 0, false)
def zm12 : zMI := (⟨"CobblePorts$State", "begin", "(LCobblePorts$World;)V"⟩, prog_3_method_2_code, 2, none, [], 1, 1, 0, 0, false)
def zm13 : zMI := (⟨"CobblePorts$State", "makeVoyage", "(LCobblePorts$World;III)I"⟩, prog_3_method_3_code, 5, (some .int), [], 1, 4, 0, 0, false)
def zm14 : zMI := (⟨"CobblePorts$State", "addLeg", "(II)V"⟩, prog_3_method_5_code, 3, none, [], 1, 2, 0, 0, false)
def zm15 : zMI := (⟨"CobblePorts$State", "addRead", "(III)V"⟩, prog_3_method_6_code, 4, none, [], 1, 3, 0, 0, false)
def zm16 : zMI := (⟨"CobblePorts$Streets", "<init>", "()V"⟩, prog_4_method_1_code, 1, none, [], 2, 0, 3, 282, true)
def zm17 : zMI := (⟨"CobblePorts$Streets", "lift", "(LCobblePorts$World;II)I"⟩, prog_4_method_9_code, 7, (some .int), [], 2, 3, 0, 0, false)
def zm18 : zMI := (⟨"CobblePorts$Streets", "insert", "(LCobblePorts$World;III)V"⟩, prog_4_method_8_code, 7, none, [], 2, 4, 0, 0, false)
def zm19 : zMI := (⟨"CobblePorts$Streets", "mudOf", "(LCobblePorts$World;I)I"⟩, prog_4_method_6_code, 3, (some .int), [], 2, 2, 0, 0, false)
def zm20 : zMI := (⟨"CobblePorts$Streets", "mudOfAll", "(LCobblePorts$World;)I"⟩, prog_4_method_7_code, 4, (some .int), [], 2, 1, 0, 0, false)
def zm21 : zMI := (⟨"CobblePorts$Streets", "manyOf", "(II)I"⟩, prog_4_method_4_code, 3, (some .int), [], 2, 2, 0, 0, false)
def zm22 : zMI := (⟨"CobblePorts$Streets", "placeToTake", "(LCobblePorts$World;II)I"⟩, prog_4_method_10_code, 5, (some .int), [], 2, 3, 0, 0, false)
def zm23 : zMI := (⟨"CobblePorts$Streets", "squarestPlace", "(LCobblePorts$World;I)I"⟩, prog_4_method_14_code, 7, (some .int), [], 2, 2, 0, 0, false)
def zm24 : zMI := (⟨"CobblePorts$Streets", "stoneAt", "(II)I"⟩, prog_4_method_3_code, 3, (some .int), [], 2, 2, 0, 0, false)
def zm25 : zMI := (⟨"CobblePorts$Streets", "lastPlaceOfOrigin", "(LCobblePorts$World;II)I"⟩, prog_4_method_15_code, 5, (some .int), [], 2, 3, 0, 0, false)
def zm26 : zMI := (⟨"CobblePorts$Streets", "copyFrom", "(LCobblePorts$Streets;)V"⟩, prog_4_method_13_code, 2, none, [], 2, 1, 0, 0, false)
def zm27 : zMI := (⟨"CobblePorts$Streets", "begin", "(LCobblePorts$World;)V"⟩, prog_4_method_2_code, 4, none, [], 2, 1, 0, 0, false)
def zm28 : zMI := (⟨"CobblePorts$Streets", "placeOf", "(I)I"⟩, prog_4_method_5_code, 4, (some .int), [], 2, 1, 0, 0, false)
def zm29 : zMI := (⟨"CobblePorts$Streets", "leastWay", "(LCobblePorts$World;II)I"⟩, prog_4_method_11_code, 10, (some .int), [], 2, 3, 0, 0, false)
def zm30 : zMI := (⟨"CobblePorts$Streets", "shuffle", "(III)V"⟩, prog_4_method_12_code, 11, none, [], 2, 3, 0, 0, false)
def zm31 : zMI := (⟨"CobblePorts$Tape", "<init>", "()V"⟩, prog_5_method_1_code, 1, none, [], 3, 0, 1, 600, true)
def zm32 : zMI := (⟨"CobblePorts$Tape", "putNumber", "(I)V"⟩, prog_5_method_2_code, 3, none, [], 3, 1, 0, 0, false)
def zm33 : zMI := (⟨"CobblePorts$Tape", "openText", "(I)V"⟩, prog_5_method_3_code, 2, none, [], 3, 1, 0, 0, false)
def zm34 : zMI := (⟨"CobblePorts$Tape", "nextToken", "()V"⟩, prog_5_method_4_code, 1, none, [], 3, 0, 0, 0, false)
def zm35 : zMI := (⟨"CobblePorts$Tape", "isBlank", "(I)Z"⟩, prog_5_method_7_code, 1, (some .boolean), [], 3, 1, 0, 0, false)
def zm36 : zMI := (⟨"CobblePorts$Tape", "isLetter", "(I)Z"⟩, prog_5_method_8_code, 1, (some .boolean), [], 3, 1, 0, 0, false)
def zm37 : zMI := (⟨"CobblePorts$Tape", "isDigit", "(I)Z"⟩, prog_5_method_9_code, 1, (some .boolean), [], 3, 1, 0, 0, false)
def zm38 : zMI := (⟨"CobblePorts$Tape", "isWord", "(Ljava/lang/String;)Z"⟩, prog_5_method_5_code, 3, (some .boolean), [], 3, 1, 0, 0, false)
def zm39 : zMI := (⟨"CobblePorts$Tape", "isSign", "(C)Z"⟩, prog_5_method_6_code, 2, (some .boolean), [], 3, 1, 0, 0, false)
def zm40 : zMI := (⟨"CobblePorts$Tariff", "<init>", "()V"⟩, prog_6_method_1_code, 1, none, [], 4, 0, 3, 646, true)
def zm41 : zMI := (⟨"CobblePorts$Tariff", "addStep", "(I)V"⟩, prog_6_method_2_code, 2, none, [], 4, 1, 0, 0, false)
def zm42 : zMI := (⟨"CobblePorts$Tariff", "copyFrom", "(LCobblePorts$Tariff;)V"⟩, prog_6_method_5_code, 2, none, [], 4, 1, 0, 0, false)
def zm43 : zMI := (⟨"CobblePorts$Tariff", "setValue", "(II)V"⟩, prog_6_method_3_code, 4, none, [], 4, 2, 0, 0, false)
def zm44 : zMI := (⟨"CobblePorts$Tariff", "result", "()I"⟩, prog_6_method_4_code, 2, (some .int), [], 4, 0, 0, 0, false)
def zm45 : zMI := (⟨"CobblePorts$Tariff", "doStep", "(I)V"⟩, prog_6_method_6_code, 4, none, [], 4, 1, 0, 0, false)
def zm46 : zMI := (⟨"CobblePorts$Tariff", "push", "(I)V"⟩, prog_6_method_8_code, 2, none, [], 4, 1, 0, 0, false)
def zm47 : zMI := (⟨"CobblePorts$Tariff", "pop", "()I"⟩, prog_6_method_9_code, 1, (some .int), [], 4, 0, 0, 0, false)
def zm48 : zMI := (⟨"CobblePorts$Tariff", "join", "(III)I"⟩, prog_6_method_7_code, 3, (some .int), [], 4, 3, 0, 0, false)
def zm49 : zMI := (⟨"CobblePorts$Trip", "<init>", "()V"⟩, prog_7_method_1_code, 1, none, [], 5, 0, 1, 8, true)
def zm50 : zMI := (⟨"CobblePorts$Trip", "begin", "(III)V"⟩, prog_7_method_2_code, 4, none, [], 5, 3, 0, 0, false)
def zm51 : zMI := (⟨"CobblePorts$Trip", "carryBack", "(LCobblePorts$World;LCobblePorts$Streets;)V"⟩, prog_7_method_4_code, 5, none, [], 5, 2, 0, 0, false)
def zm52 : zMI := (⟨"CobblePorts$Trip", "carryUpTo", "(LCobblePorts$World;LCobblePorts$Streets;I)V"⟩, prog_7_method_3_code, 7, none, [], 5, 3, 0, 0, false)
def zm53 : zMI := (⟨"CobblePorts$Voyages", "<init>", "()V"⟩, prog_8_method_1_code, 1, none, [], 6, 0, 4, 636, true)
def zm54 : zMI := (⟨"CobblePorts$Voyages", "removeLast", "(LCobblePorts$Trip;)V"⟩, prog_8_method_6_code, 2, none, [], 6, 1, 0, 0, false)
def zm55 : zMI := (⟨"CobblePorts$Voyages", "factOf", "(II)I"⟩, prog_8_method_3_code, 3, (some .int), [], 6, 2, 0, 0, false)
def zm56 : zMI := (⟨"CobblePorts$Voyages", "copyFrom", "(LCobblePorts$Voyages;)V"⟩, prog_8_method_14_code, 2, none, [], 6, 1, 0, 0, false)
def zm57 : zMI := (⟨"CobblePorts$Voyages", "begin", "()V"⟩, prog_8_method_2_code, 2, none, [], 6, 0, 0, 0, false)
def zm58 : zMI := (⟨"CobblePorts$Voyages", "tollOfAll", "()I"⟩, prog_8_method_7_code, 3, (some .int), [], 6, 0, 0, 0, false)
def zm59 : zMI := (⟨"CobblePorts$Voyages", "priceIn", "(I)I"⟩, prog_8_method_4_code, 2, (some .int), [], 6, 1, 0, 0, false)
def zm60 : zMI := (⟨"CobblePorts$Voyages", "portOf", "(LCobblePorts$World;II)I"⟩, prog_8_method_11_code, 5, (some .int), [], 6, 3, 0, 0, false)
def zm61 : zMI := (⟨"CobblePorts$Voyages", "lastThatLaid", "(II)I"⟩, prog_8_method_10_code, 4, (some .int), [], 6, 2, 0, 0, false)
def zm62 : zMI := (⟨"CobblePorts$Voyages", "hasLaid", "(II)Z"⟩, prog_8_method_15_code, 3, (some .boolean), [], 6, 2, 0, 0, false)
def zm63 : zMI := (⟨"CobblePorts$Voyages", "portsOf", "(LCobblePorts$World;I)I"⟩, prog_8_method_12_code, 5, (some .int), [], 6, 2, 0, 0, false)
def zm64 : zMI := (⟨"CobblePorts$Voyages", "add", "(LCobblePorts$World;LCobblePorts$Streets;LCobblePorts$Trip;I)V"⟩, prog_8_method_5_code, 6, none, [], 6, 4, 0, 0, false)
def zm65 : zMI := (⟨"CobblePorts$Voyages", "noteLaid", "(LCobblePorts$World;LCobblePorts$Streets;LCobblePorts$Trip;)I"⟩, prog_8_method_16_code, 9, (some .int), [], 6, 3, 0, 0, false)
def zm66 : zMI := (⟨"CobblePorts$Voyages", "notePrices", "(LCobblePorts$World;LCobblePorts$Streets;)V"⟩, prog_8_method_17_code, 6, none, [], 6, 2, 0, 0, false)
def zm67 : zMI := (⟨"CobblePorts$Voyages", "laidBetween", "(II)I"⟩, prog_8_method_8_code, 5, (some .int), [], 6, 2, 0, 0, false)
def zm68 : zMI := (⟨"CobblePorts$Voyages", "firstMeeting", "(LCobblePorts$World;II)I"⟩, prog_8_method_13_code, 5, (some .int), [], 6, 3, 0, 0, false)
def zm69 : zMI := (⟨"CobblePorts$Voyages", "tookFrom", "(II)Z"⟩, prog_8_method_9_code, 3, (some .boolean), [], 6, 2, 0, 0, false)
def zm70 : zMI := (⟨"CobblePorts$World", "<init>", "()V"⟩, prog_9_method_1_code, 1, none, [], 7, 0, 11, 758, true)
def zm71 : zMI := (⟨"CobblePorts$World", "stonesWanted", "(II)I"⟩, prog_9_method_6_code, 4, (some .int), [], 7, 2, 0, 0, false)
def zm72 : zMI := (⟨"CobblePorts$World", "clear", "()V"⟩, prog_9_method_2_code, 1, none, [], 7, 0, 0, 0, false)
def zm73 : zMI := (⟨"CobblePorts$World", "addPort", "(II)V"⟩, prog_9_method_3_code, 3, none, [], 7, 2, 0, 0, false)
def zm74 : zMI := (⟨"CobblePorts$World", "addStones", "(III)V"⟩, prog_9_method_4_code, 5, none, [], 7, 3, 0, 0, false)
def zm75 : zMI := (⟨"CobblePorts$World", "addShip", "(III)V"⟩, prog_9_method_5_code, 4, none, [], 7, 3, 0, 0, false)
def zm76 : zMI := (⟨"CobblePorts$World", "copyFrom", "(LCobblePorts$World;)V"⟩, prog_9_method_7_code, 2, none, [], 7, 1, 0, 0, false)
def zm77 : zMI := (⟨"CobblePorts$WorldParser", "<init>", "()V"⟩, prog_10_method_1_code, 1, none, [], 8, 0, 14, 1376, true)
def zm78 : zMI := (⟨"CobblePorts$WorldParser", "readWorld", "(I)Z"⟩, prog_10_method_2_code, 3, (some .boolean), [], 8, 1, 0, 0, false)
def zm79 : zMI := (⟨"CobblePorts$WorldParser", "takeLine", "()Z"⟩, prog_10_method_3_code, 2, (some .boolean), [], 8, 0, 0, 0, false)
def zm80 : zMI := (⟨"CobblePorts$WorldParser", "takePortLine", "()Z"⟩, prog_10_method_4_code, 3, (some .boolean), [], 8, 0, 0, 0, false)
def zm81 : zMI := (⟨"CobblePorts$WorldParser", "refuse", "(I)Z"⟩, prog_10_method_20_code, 2, (some .boolean), [], 8, 1, 0, 0, false)
def zm82 : zMI := (⟨"CobblePorts$WorldParser", "takeNumber", "(II)Z"⟩, prog_10_method_17_code, 3, (some .boolean), [], 8, 2, 0, 0, false)
def zm83 : zMI := (⟨"CobblePorts$WorldParser", "takeStonesLine", "()Z"⟩, prog_10_method_5_code, 3, (some .boolean), [], 8, 0, 0, 0, false)
def zm84 : zMI := (⟨"CobblePorts$WorldParser", "takeToldPort", "()Z"⟩, prog_10_method_18_code, 1, (some .boolean), [], 8, 0, 0, 0, false)
def zm85 : zMI := (⟨"CobblePorts$WorldParser", "takeTariffLine", "()Z"⟩, prog_10_method_8_code, 1, (some .boolean), [], 8, 0, 0, 0, false)
def zm86 : zMI := (⟨"CobblePorts$WorldParser", "takeExpr", "(I)Z"⟩, prog_10_method_9_code, 4, (some .boolean), [], 8, 1, 0, 0, false)
def zm87 : zMI := (⟨"CobblePorts$WorldParser", "takeAnd", "(I)Z"⟩, prog_10_method_10_code, 4, (some .boolean), [], 8, 1, 0, 0, false)
def zm88 : zMI := (⟨"CobblePorts$WorldParser", "takeNot", "(I)Z"⟩, prog_10_method_11_code, 4, (some .boolean), [], 8, 1, 0, 0, false)
def zm89 : zMI := (⟨"CobblePorts$WorldParser", "takeTest", "(I)Z"⟩, prog_10_method_12_code, 4, (some .boolean), [], 8, 1, 0, 0, false)
def zm90 : zMI := (⟨"CobblePorts$WorldParser", "takeSum", "(I)Z"⟩, prog_10_method_13_code, 5, (some .boolean), [], 8, 1, 0, 0, false)
def zm91 : zMI := (⟨"CobblePorts$WorldParser", "takeProduct", "(I)Z"⟩, prog_10_method_14_code, 5, (some .boolean), [], 8, 1, 0, 0, false)
def zm92 : zMI := (⟨"CobblePorts$WorldParser", "takePart", "(I)Z"⟩, prog_10_method_15_code, 3, (some .boolean), [], 8, 1, 0, 0, false)
def zm93 : zMI := (⟨"CobblePorts$WorldParser", "takeSign", "(C)Z"⟩, prog_10_method_19_code, 2, (some .boolean), [], 8, 1, 0, 0, false)
def zm94 : zMI := (⟨"CobblePorts$WorldParser", "valueNamed", "()I"⟩, prog_10_method_16_code, 1, (some .int), [], 8, 0, 0, 0, false)
def zm95 : zMI := (⟨"CobblePorts$WorldParser", "kindNamed", "()I"⟩, prog_10_method_6_code, 1, (some .int), [], 8, 0, 0, 0, false)
def zm96 : zMI := (⟨"CobblePorts$WorldParser", "takeShipLine", "(I)Z"⟩, prog_10_method_7_code, 3, (some .boolean), [], 8, 1, 0, 0, false)
def zm97 : zMI := (⟨"CobblePorts", "<init>", "()V"⟩, prog_1_method_1_code, 1, none, [], 9, 0, 78, 4221, true)
def zm98 : zMI := (⟨"CobblePorts", "feed", "(IIIII)I"⟩, prog_1_method_2_code, 7, (some .int), [], 9, 5, 0, 0, false)
def zm99 : zMI := (⟨"CobblePorts", "fault", "()I"⟩, prog_1_method_4_code, 1, (some .int), [], 9, 0, 0, 0, false)
def zm100 : zMI := (⟨"CobblePorts", "undo", "()I"⟩, prog_1_method_11_code, 1, (some .int), [], 9, 0, 0, 0, false)
def zm101 : zMI := (⟨"CobblePorts", "forget", "()V"⟩, prog_1_method_17_code, 1, none, [], 9, 0, 0, 0, false)
def zm102 : zMI := (⟨"CobblePorts", "fits", "()I"⟩, prog_1_method_20_code, 2, (some .int), [], 9, 0, 0, 0, false)
def zm103 : zMI := (⟨"CobblePorts", "keepLoads", "()V"⟩, prog_1_method_30_code, 1, none, [], 9, 0, 0, 0, false)
def zm104 : zMI := (⟨"CobblePorts", "image", "()V"⟩, prog_1_method_24_code, 1, none, [], 9, 0, 0, 0, false)
def zm105 : zMI := (⟨"CobblePorts", "restore", "()Z"⟩, prog_1_method_25_code, 1, (some .boolean), [], 9, 0, 0, 0, false)
def zm106 : zMI := (⟨"CobblePorts", "world", "(I)I"⟩, prog_1_method_3_code, 3, (some .int), [], 9, 1, 1, 6, false)
def zm107 : zMI := (⟨"CobblePorts", "count", "(I)I"⟩, prog_1_method_5_code, 2, (some .int), [], 9, 1, 1, 6, false)
def zm108 : zMI := (⟨"CobblePorts", "port", "(II)I"⟩, prog_1_method_6_code, 3, (some .int), [], 9, 2, 2, 12, false)
def zm109 : zMI := (⟨"CobblePorts", "mustBePort", "(I)V"⟩, prog_1_method_26_code, 2, none, [], 9, 1, 1, 6, false)
def zm110 : zMI := (⟨"CobblePorts", "stone", "(II)I"⟩, prog_1_method_7_code, 3, (some .int), [], 9, 2, 2, 12, false)
def zm111 : zMI := (⟨"CobblePorts", "mustBeStone", "(I)V"⟩, prog_1_method_27_code, 2, none, [], 9, 1, 1, 6, false)
def zm112 : zMI := (⟨"CobblePorts", "street", "(II)I"⟩, prog_1_method_8_code, 3, (some .int), [], 9, 2, 2, 12, false)
def zm113 : zMI := (⟨"CobblePorts", "ship", "(II)I"⟩, prog_1_method_9_code, 3, (some .int), [], 9, 2, 2, 12, false)
def zm114 : zMI := (⟨"CobblePorts", "mustBeShip", "(I)V"⟩, prog_1_method_28_code, 2, none, [], 9, 1, 1, 6, false)
def zm115 : zMI := (⟨"CobblePorts", "sail", "(III)I"⟩, prog_1_method_10_code, 5, (some .int), [], 9, 3, 2, 12, false)
def zm116 : zMI := (⟨"CobblePorts", "voyage", "(II)I"⟩, prog_1_method_12_code, 3, (some .int), [], 9, 2, 2, 12, false)
def zm117 : zMI := (⟨"CobblePorts", "mustBeBelow", "(II)V"⟩, prog_1_method_29_code, 2, none, [], 9, 2, 1, 6, false)
def zm118 : zMI := (⟨"CobblePorts", "gap", "(II)I"⟩, prog_1_method_13_code, 3, (some .int), [], 9, 2, 2, 12, false)
def zm119 : zMI := (⟨"CobblePorts", "met", "(II)I"⟩, prog_1_method_14_code, 3, (some .int), [], 9, 2, 2, 12, false)
def zm120 : zMI := (⟨"CobblePorts", "horse", "(II)I"⟩, prog_1_method_15_code, 3, (some .int), [], 9, 2, 2, 12, false)
def zm121 : zMI := (⟨"CobblePorts", "leg", "(II)I"⟩, prog_1_method_16_code, 3, (some .int), [], 9, 2, 2, 12, false)
def zm122 : zMI := (⟨"CobblePorts", "best", "(I)I"⟩, prog_1_method_18_code, 3, (some .int), [], 9, 1, 1, 6, false)
def zm123 : zMI := (⟨"CobblePorts", "read", "(III)I"⟩, prog_1_method_19_code, 4, (some .int), [], 9, 3, 2, 12, false)
def zm124 : zMI := (⟨"CobblePorts", "load", "(I)I"⟩, prog_1_method_21_code, 2, (some .int), [], 9, 1, 1, 6, false)
def zm125 : zMI := (⟨"CobblePorts", "took", "(IIIII)I"⟩, prog_1_method_22_code, 10, (some .int), [], 9, 5, 4, 24, false)
def zm126 : zMI := (⟨"CobblePorts", "partOfFraction", "(III)I"⟩, prog_1_method_31_code, 4, (some .int), [], 9, 3, 0, 0, false)
def zm127 : zMI := (⟨"CobblePorts", "greatestDivisor", "(II)I"⟩, prog_1_method_32_code, 6, (some .int), [], 9, 2, 0, 0, false)
def zm128 : zMI := (⟨"CobblePorts", "flood", "(III)I"⟩, prog_1_method_23_code, 4, (some .int), [], 9, 3, 2, 12, false)
def zm129 : zMI := (⟨"CobblePortsModel", "<init>", "()V"⟩, prog_12_method_1_code, 1, none, [], 10, 0, 38, 13342, true)
def zm130 : zMI := (⟨"CobblePortsModel", "thrown", "()I"⟩, prog_12_method_2_code, 1, (some .int), [], 10, 0, 0, 0, false)
def zm131 : zMI := (⟨"CobblePortsModel", "feed", "(IIIII)I"⟩, prog_12_method_8_code, 8, (some .int), [], 10, 5, 0, 0, false)
def zm132 : zMI := (⟨"CobblePortsModel", "world", "(I)I"⟩, prog_12_method_34_code, 3, (some .int), [], 10, 1, 0, 0, false)
def zm133 : zMI := (⟨"CobblePortsModel", "fail", "(I)I"⟩, prog_12_method_3_code, 2, (some .int), [], 10, 1, 0, 0, false)
def zm134 : zMI := (⟨"CobblePortsModel", "stepOn", "()V"⟩, prog_12_method_13_code, 2, none, [], 10, 0, 0, 0, false)
def zm135 : zMI := (⟨"CobblePortsModel", "byteAt", "(I)I"⟩, prog_12_method_9_code, 2, (some .int), [], 10, 1, 0, 0, false)
def zm136 : zMI := (⟨"CobblePortsModel", "isLetter", "(I)Z"⟩, prog_12_method_10_code, 1, (some .boolean), [], 10, 1, 0, 0, false)
def zm137 : zMI := (⟨"CobblePortsModel", "isDigit", "(I)Z"⟩, prog_12_method_11_code, 1, (some .boolean), [], 10, 1, 0, 0, false)
def zm138 : zMI := (⟨"CobblePortsModel", "isMark", "(I)Z"⟩, prog_12_method_12_code, 1, (some .boolean), [], 10, 1, 0, 0, false)
def zm139 : zMI := (⟨"CobblePortsModel", "readLine", "(Z)Z"⟩, prog_12_method_33_code, 4, (some .boolean), [], 10, 1, 0, 0, false)
def zm140 : zMI := (⟨"CobblePortsModel", "which", "([Ljava/lang/String;)I"⟩, prog_12_method_16_code, 3, (some .int), [], 10, 1, 0, 0, false)
def zm141 : zMI := (⟨"CobblePortsModel", "is", "(Ljava/lang/String;)Z"⟩, prog_12_method_15_code, 4, (some .boolean), [], 10, 1, 0, 0, false)
def zm142 : zMI := (⟨"CobblePortsModel", "wrong", "(I)V"⟩, prog_12_method_14_code, 2, none, [], 10, 1, 0, 0, false)
def zm143 : zMI := (⟨"CobblePortsModel", "readShip", "(I)V"⟩, prog_12_method_32_code, 3, none, [], 10, 1, 0, 0, false)
def zm144 : zMI := (⟨"CobblePortsModel", "readNumber", "(II)I"⟩, prog_12_method_21_code, 4, (some .int), [], 10, 2, 0, 0, false)
def zm145 : zMI := (⟨"CobblePortsModel", "numberNow", "(II)I"⟩, prog_12_method_20_code, 3, (some .int), [], 10, 2, 0, 0, false)
def zm146 : zMI := (⟨"CobblePortsModel", "readPort", "()I"⟩, prog_12_method_22_code, 2, (some .int), [], 10, 0, 0, 0, false)
def zm147 : zMI := (⟨"CobblePortsModel", "readNewPort", "()V"⟩, prog_12_method_30_code, 2, none, [], 10, 0, 0, 0, false)
def zm148 : zMI := (⟨"CobblePortsModel", "passes", "(Ljava/lang/String;)Z"⟩, prog_12_method_17_code, 3, (some .boolean), [], 10, 1, 0, 0, false)
def zm149 : zMI := (⟨"CobblePortsModel", "readStones", "()V"⟩, prog_12_method_31_code, 5, none, [], 10, 0, 0, 0, false)
def zm150 : zMI := (⟨"CobblePortsModel", "readExpression", "(I)V"⟩, prog_12_method_29_code, 3, none, [], 10, 1, 0, 0, false)
def zm151 : zMI := (⟨"CobblePortsModel", "isMarked", "(I)Z"⟩, prog_12_method_18_code, 2, (some .boolean), [], 10, 1, 0, 0, false)
def zm152 : zMI := (⟨"CobblePortsModel", "readAnd", "(I)V"⟩, prog_12_method_28_code, 2, none, [], 10, 1, 0, 0, false)
def zm153 : zMI := (⟨"CobblePortsModel", "readNot", "(I)V"⟩, prog_12_method_27_code, 4, none, [], 10, 1, 0, 0, false)
def zm154 : zMI := (⟨"CobblePortsModel", "readSum", "(I)V"⟩, prog_12_method_26_code, 3, none, [], 10, 1, 0, 0, false)
def zm155 : zMI := (⟨"CobblePortsModel", "readProduct", "(I)V"⟩, prog_12_method_25_code, 3, none, [], 10, 1, 0, 0, false)
def zm156 : zMI := (⟨"CobblePortsModel", "readPart", "(I)V"⟩, prog_12_method_24_code, 3, none, [], 10, 1, 0, 0, false)
def zm157 : zMI := (⟨"CobblePortsModel", "lay", "(I)V"⟩, prog_12_method_23_code, 2, none, [], 10, 1, 0, 0, false)
def zm158 : zMI := (⟨"CobblePortsModel", "mark", "(I)V"⟩, prog_12_method_19_code, 2, none, [], 10, 1, 0, 0, false)
def zm159 : zMI := (⟨"CobblePortsModel", "take", "()V"⟩, prog_12_method_36_code, 3, none, [], 10, 0, 0, 0, false)
def zm160 : zMI := (⟨"CobblePortsModel", "takeHalf", "([I)V"⟩, prog_12_method_35_code, 2, none, [], 10, 1, 0, 0, false)
def zm161 : zMI := (⟨"CobblePortsModel", "fault", "()I"⟩, prog_12_method_37_code, 1, (some .int), [], 10, 0, 0, 0, false)
def zm162 : zMI := (⟨"CobblePortsModel", "count", "(I)I"⟩, prog_12_method_50_code, 2, (some .int), [], 10, 1, 0, 0, false)
def zm163 : zMI := (⟨"CobblePortsModel", "allMud", "([I)I"⟩, prog_12_method_41_code, 4, (some .int), [], 10, 1, 0, 0, false)
def zm164 : zMI := (⟨"CobblePortsModel", "mudOf", "([II)I"⟩, prog_12_method_40_code, 3, (some .int), [], 10, 2, 0, 0, false)
def zm165 : zMI := (⟨"CobblePortsModel", "stonesIn", "([II)I"⟩, prog_12_method_39_code, 5, (some .int), [], 10, 2, 0, 0, false)
def zm166 : zMI := (⟨"CobblePortsModel", "tolls", "()I"⟩, prog_12_method_51_code, 3, (some .int), [], 10, 0, 0, 0, false)
def zm167 : zMI := (⟨"CobblePortsModel", "port", "(II)I"⟩, prog_12_method_52_code, 3, (some .int), [], 10, 2, 0, 0, false)
def zm168 : zMI := (⟨"CobblePortsModel", "isPort", "(I)Z"⟩, prog_12_method_5_code, 2, (some .boolean), [], 10, 1, 0, 0, false)
def zm169 : zMI := (⟨"CobblePortsModel", "isIn", "(III)Z"⟩, prog_12_method_4_code, 3, (some .boolean), [], 10, 3, 0, 0, false)
def zm170 : zMI := (⟨"CobblePortsModel", "ofOrigin", "([III)I"⟩, prog_12_method_42_code, 6, (some .int), [], 10, 3, 0, 0, false)
def zm171 : zMI := (⟨"CobblePortsModel", "stone", "(II)I"⟩, prog_12_method_53_code, 3, (some .int), [], 10, 2, 0, 0, false)
def zm172 : zMI := (⟨"CobblePortsModel", "isStone", "(I)Z"⟩, prog_12_method_6_code, 2, (some .boolean), [], 10, 1, 0, 0, false)
def zm173 : zMI := (⟨"CobblePortsModel", "street", "(II)I"⟩, prog_12_method_55_code, 4, (some .int), [], 10, 2, 0, 0, false)
def zm174 : zMI := (⟨"CobblePortsModel", "stoneAt", "(II)I"⟩, prog_12_method_54_code, 4, (some .int), [], 10, 2, 0, 0, false)
def zm175 : zMI := (⟨"CobblePortsModel", "ship", "(II)I"⟩, prog_12_method_56_code, 3, (some .int), [], 10, 2, 0, 0, false)
def zm176 : zMI := (⟨"CobblePortsModel", "isShip", "(I)Z"⟩, prog_12_method_7_code, 2, (some .boolean), [], 10, 1, 0, 0, false)
def zm177 : zMI := (⟨"CobblePortsModel", "sail", "(III)I"⟩, prog_12_method_57_code, 7, (some .int), [], 10, 3, 0, 0, false)
def zm178 : zMI := (⟨"CobblePortsModel", "go", "([IIIII)I"⟩, prog_12_method_46_code, 11, (some .int), [], 10, 5, 0, 0, false)
def zm179 : zMI := (⟨"CobblePortsModel", "takes", "([II)I"⟩, prog_12_method_44_code, 6, (some .int), [], 10, 2, 0, 0, false)
def zm180 : zMI := (⟨"CobblePortsModel", "wish", "(III)I"⟩, prog_12_method_43_code, 5, (some .int), [], 10, 3, 0, 0, false)
def zm181 : zMI := (⟨"CobblePortsModel", "lift", "([II)V"⟩, prog_12_method_45_code, 4, none, [], 10, 2, 0, 0, false)
def zm182 : zMI := (⟨"CobblePortsModel", "tollOf", "(IIII)I"⟩, prog_12_method_49_code, 7, (some .int), [], 10, 4, 0, 0, false)
def zm183 : zMI := (⟨"CobblePortsModel", "tariff", "()I"⟩, prog_12_method_48_code, 4, (some .int), [], 10, 0, 0, 0, false)
def zm184 : zMI := (⟨"CobblePortsModel", "reckon", "(III)I"⟩, prog_12_method_47_code, 3, (some .int), [], 10, 3, 0, 0, false)
def zm185 : zMI := (⟨"CobblePortsModel", "undo", "()I"⟩, prog_12_method_58_code, 2, (some .int), [], 10, 0, 0, 0, false)
def zm186 : zMI := (⟨"CobblePortsModel", "voyage", "(II)I"⟩, prog_12_method_59_code, 3, (some .int), [], 10, 2, 0, 0, false)
def zm187 : zMI := (⟨"CobblePortsModel", "gap", "(II)I"⟩, prog_12_method_60_code, 5, (some .int), [], 10, 2, 0, 0, false)
def zm188 : zMI := (⟨"CobblePortsModel", "met", "(II)I"⟩, prog_12_method_61_code, 4, (some .int), [], 10, 2, 0, 0, false)
def zm189 : zMI := (⟨"CobblePortsModel", "horse", "(II)I"⟩, prog_12_method_62_code, 10, (some .int), [], 10, 2, 0, 0, false)
def zm190 : zMI := (⟨"CobblePortsModel", "leg", "(II)I"⟩, prog_12_method_63_code, 3, (some .int), [], 10, 2, 0, 0, false)
def zm191 : zMI := (⟨"CobblePortsModel", "forget", "()V"⟩, prog_12_method_64_code, 1, none, [], 10, 0, 0, 0, false)
def zm192 : zMI := (⟨"CobblePortsModel", "best", "(I)I"⟩, prog_12_method_71_code, 2, (some .int), [], 10, 1, 0, 0, false)
def zm193 : zMI := (⟨"CobblePortsModel", "loadAll", "(II)V"⟩, prog_12_method_66_code, 4, none, [], 10, 2, 0, 0, false)
def zm194 : zMI := (⟨"CobblePortsModel", "loadOn", "(III)V"⟩, prog_12_method_65_code, 7, none, [], 10, 3, 0, 0, false)
def zm195 : zMI := (⟨"CobblePortsModel", "be", "([I[I)V"⟩, prog_12_method_38_code, 3, none, [], 10, 2, 0, 0, false)
def zm196 : zMI := (⟨"CobblePortsModel", "rate", "(I)V"⟩, prog_12_method_67_code, 5, none, [], 10, 1, 0, 0, false)
def zm197 : zMI := (⟨"CobblePortsModel", "fitsRead", "()Z"⟩, prog_12_method_68_code, 2, (some .boolean), [], 10, 0, 0, 0, false)
def zm198 : zMI := (⟨"CobblePortsModel", "findRow", "()V"⟩, prog_12_method_69_code, 1, none, [], 10, 0, 0, 0, false)
def zm199 : zMI := (⟨"CobblePortsModel", "keep", "()V"⟩, prog_12_method_70_code, 1, none, [], 10, 0, 0, 0, false)
def zm200 : zMI := (⟨"CobblePortsModel", "read", "(III)I"⟩, prog_12_method_72_code, 4, (some .int), [], 10, 3, 0, 0, false)
def zm201 : zMI := (⟨"CobblePortsModel", "fits", "()I"⟩, prog_12_method_73_code, 1, (some .int), [], 10, 0, 0, 0, false)
def zm202 : zMI := (⟨"CobblePortsModel", "load", "(I)I"⟩, prog_12_method_74_code, 2, (some .int), [], 10, 1, 0, 0, false)
def zm203 : zMI := (⟨"CobblePortsModel", "took", "(IIIII)I"⟩, prog_12_method_76_code, 9, (some .int), [], 10, 5, 0, 0, false)
def zm204 : zMI := (⟨"CobblePortsModel", "common", "(II)I"⟩, prog_12_method_75_code, 5, (some .int), [], 10, 2, 0, 0, false)
def zm205 : zMI := (⟨"CobblePortsModel", "flood", "(III)I"⟩, prog_12_method_78_code, 9, (some .int), [], 10, 3, 0, 0, false)
def zm206 : zMI := (⟨"CobblePortsModel", "draw", "(I)I"⟩, prog_12_method_77_code, 2, (some .int), [], 10, 1, 0, 0, false)
def zm207 : zMI := (⟨"CobblePortsModel", "image", "()V"⟩, prog_12_method_79_code, 1, none, [], 10, 0, 0, 0, false)
def zm208 : zMI := (⟨"CobblePortsModel", "restore", "()Z"⟩, prog_12_method_80_code, 1, (some .boolean), [], 10, 0, 0, 0, false)
def zm209 : zMI := (⟨"CobblePortsLaw", "world", "(LCobblePorts;I[J)I"⟩, method_3_code, 4, (some .int), [(0, 9, 12, 13)], 11, 3, 1, 6, false)
def zm210 : zMI := (⟨"CobblePortsLaw", "count", "(LCobblePorts;I[J)I"⟩, method_4_code, 4, (some .int), [(0, 9, 12, 18)], 11, 3, 1, 6, false)
def zm211 : zMI := (⟨"CobblePortsLaw", "port", "(LCobblePorts;II[J)I"⟩, method_5_code, 5, (some .int), [(0, 10, 13, 18)], 11, 4, 2, 12, false)
def zm212 : zMI := (⟨"CobblePortsLaw", "stone", "(LCobblePorts;II[J)I"⟩, method_6_code, 5, (some .int), [(0, 10, 13, 18)], 11, 4, 2, 12, false)
def zm213 : zMI := (⟨"CobblePortsLaw", "street", "(LCobblePorts;II[J)I"⟩, method_7_code, 5, (some .int), [(0, 10, 13, 18)], 11, 4, 2, 12, false)
def zm214 : zMI := (⟨"CobblePortsLaw", "ship", "(LCobblePorts;II[J)I"⟩, method_8_code, 5, (some .int), [(0, 10, 13, 18)], 11, 4, 2, 12, false)
def zm215 : zMI := (⟨"CobblePortsLaw", "sail", "(LCobblePorts;III[J)I"⟩, method_9_code, 6, (some .int), [(0, 12, 15, 18)], 11, 5, 2, 12, false)
def zm216 : zMI := (⟨"CobblePortsLaw", "voyage", "(LCobblePorts;II[J)I"⟩, method_10_code, 5, (some .int), [(0, 10, 13, 18)], 11, 4, 2, 12, false)
def zm217 : zMI := (⟨"CobblePortsLaw", "gap", "(LCobblePorts;II[J)I"⟩, method_11_code, 5, (some .int), [(0, 10, 13, 18)], 11, 4, 2, 12, false)
def zm218 : zMI := (⟨"CobblePortsLaw", "met", "(LCobblePorts;II[J)I"⟩, method_12_code, 5, (some .int), [(0, 10, 13, 18)], 11, 4, 2, 12, false)
def zm219 : zMI := (⟨"CobblePortsLaw", "horse", "(LCobblePorts;II[J)I"⟩, method_13_code, 5, (some .int), [(0, 10, 13, 18)], 11, 4, 2, 12, false)
def zm220 : zMI := (⟨"CobblePortsLaw", "leg", "(LCobblePorts;II[J)I"⟩, method_14_code, 5, (some .int), [(0, 10, 13, 18)], 11, 4, 2, 12, false)
def zm221 : zMI := (⟨"CobblePortsLaw", "best", "(LCobblePorts;I[J)I"⟩, method_15_code, 4, (some .int), [(0, 9, 12, 18)], 11, 3, 1, 6, false)
def zm222 : zMI := (⟨"CobblePortsLaw", "read", "(LCobblePorts;III[J)I"⟩, method_16_code, 6, (some .int), [(0, 12, 15, 18)], 11, 5, 2, 12, false)
def zm223 : zMI := (⟨"CobblePortsLaw", "load", "(LCobblePorts;I[J)I"⟩, method_17_code, 4, (some .int), [(0, 9, 12, 18)], 11, 3, 1, 6, false)
def zm224 : zMI := (⟨"CobblePortsLaw", "took", "(LCobblePorts;IIIII[J)I"⟩, method_18_code, 8, (some .int), [(0, 16, 19, 18), (0, 16, 23, 13)], 11, 7, 4, 24, false)
def zm225 : zMI := (⟨"CobblePortsLaw", "flood", "(LCobblePorts;III[J)I"⟩, method_19_code, 6, (some .int), [(0, 12, 15, 18), (0, 12, 19, 13)], 11, 5, 2, 12, false)
def zm226 : zMI := (⟨"java/lang/String", "length", "()I"⟩, prog_20_method_54_code, 1, (some .int), [], 12, 0, 0, 0, false)
def zm227 : zMI := (⟨"java/lang/String", "coder", "()B"⟩, prog_20_method_152_code, 1, (some .byte), [], 12, 0, 0, 0, false)
def zm228 : zMI := (⟨"java/lang/String", "charAt", "(I)C"⟩, prog_20_method_56_code, 2, (some .char), [], 12, 1, 0, 0, false)
def zm229 : zMI := (⟨"java/lang/String", "isLatin1", "()Z"⟩, prog_20_method_154_code, 1, (some .boolean), [], 12, 0, 0, 0, false)
def zm230 : zMI := (⟨"java/lang/String", "checkIndex", "(II)V"⟩, prog_20_method_155_code, 2, none, [], 12, 2, 0, 0, false)
def zm231 : zMI := (⟨"java/lang/StringLatin1", "charAt", "([BI)C"⟩, prog_21_method_2_code, 2, (some .char), [], 13, 2, 0, 0, false)
def zm232 : zMI := (⟨"jdk/internal/util/Preconditions", "checkIndex", "(IILjava/util/function/BiFunction;)I"⟩, prog_29_method_11_code, 3, (some .int), [], 14, 3, 0, 0, false)
def zm233 : zMI := (⟨"java/util/Arrays", "fill", "([II)V"⟩, prog_27_method_103_code, 4, none, [], 15, 2, 0, 0, false)
def zm234 : zMI := (⟨"CobblePortsLaw", "law", "([I)Z"⟩, code, 7, (some .boolean), [], 11, 1, 601024, 7293034, false)
def zM : List zMI := [zm0, zm1, zm2, zm3, zm4, zm5, zm6, zm7, zm8, zm9, zm10, zm11, zm12, zm13, zm14, zm15, zm16, zm17, zm18, zm19, zm20, zm21, zm22, zm23, zm24, zm25, zm26, zm27, zm28, zm29, zm30, zm31, zm32, zm33, zm34, zm35, zm36, zm37, zm38, zm39, zm40, zm41, zm42, zm43, zm44, zm45, zm46, zm47, zm48, zm49, zm50, zm51, zm52, zm53, zm54, zm55, zm56, zm57, zm58, zm59, zm60, zm61, zm62, zm63, zm64, zm65, zm66, zm67, zm68, zm69, zm70, zm71, zm72, zm73, zm74, zm75, zm76, zm77, zm78, zm79, zm80, zm81, zm82, zm83, zm84, zm85, zm86, zm87, zm88, zm89, zm90, zm91, zm92, zm93, zm94, zm95, zm96, zm97, zm98, zm99, zm100, zm101, zm102, zm103, zm104, zm105, zm106, zm107, zm108, zm109, zm110, zm111, zm112, zm113, zm114, zm115, zm116, zm117, zm118, zm119, zm120, zm121, zm122, zm123, zm124, zm125, zm126, zm127, zm128, zm129, zm130, zm131, zm132, zm133, zm134, zm135, zm136, zm137, zm138, zm139, zm140, zm141, zm142, zm143, zm144, zm145, zm146, zm147, zm148, zm149, zm150, zm151, zm152, zm153, zm154, zm155, zm156, zm157, zm158, zm159, zm160, zm161, zm162, zm163, zm164, zm165, zm166, zm167, zm168, zm169, zm170, zm171, zm172, zm173, zm174, zm175, zm176, zm177, zm178, zm179, zm180, zm181, zm182, zm183, zm184, zm185, zm186, zm187, zm188, zm189, zm190, zm191, zm192, zm193, zm194, zm195, zm196, zm197, zm198, zm199, zm200, zm201, zm202, zm203, zm204, zm205, zm206, zm207, zm208, zm209, zm210, zm211, zm212, zm213, zm214, zm215, zm216, zm217, zm218, zm219, zm220, zm221, zm222, zm223, zm224, zm225, zm226, zm227, zm228, zm229, zm230, zm231, zm232, zm233, zm234]
abbrev zMI.y (q : zMI) : MethodName := q.1
abbrev zMI.cc (q : zMI) : ByteArray := q.2.1
abbrev zMI.nL (q : zMI) : Nat := q.2.2.1
abbrev zMI.rt (q : zMI) : Option FieldType := q.2.2.2.1
abbrev zMI.hh (q : zMI) : List (Nat × Nat × Nat × Nat) := q.2.2.2.2.1
abbrev zMI.cn (q : zMI) : Nat := q.2.2.2.2.2.1
abbrev zMI.np (q : zMI) : Nat := q.2.2.2.2.2.2.1
abbrev zMI.mc (q : zMI) : Nat := q.2.2.2.2.2.2.2.1
abbrev zMI.ms (q : zMI) : Nat := q.2.2.2.2.2.2.2.2.1
abbrev zMI.ini (q : zMI) : Bool := q.2.2.2.2.2.2.2.2.2
def zFL : List (Nat × Nat) := [(30009, 300), (30015, 301), (90059, 301), (30019, 302), (80042, 302), (30022, 303), (80187, 303), (30025, 304), (80184, 304), (30028, 305), (30031, 306), (40009, 400), (40015, 401), (40018, 402), (40021, 403), (70050, 403), (80131, 403), (40025, 404), (70009, 700), (20044, 700), (90142, 700), (60118, 700), (70015, 701), (90145, 701), (70018, 702), (20033, 702), (90168, 702), (60076, 702), (70021, 703), (90171, 703), (20072, 703), (60108, 703), (70024, 704), (90197, 704), (20059, 704), (70027, 705), (74, 705), (90200, 705), (70030, 706), (10067, 706), (90203, 706), (20065, 706), (70036, 707), (80128, 707), (60085, 707), (70040, 708), (80080, 708), (90096, 708), (20052, 708), (60115, 708), (70044, 709), (20027, 709), (80102, 709), (90099, 709), (70047, 710), (90102, 710), (80122, 710), (80012, 800), (90055, 800), (80021, 801), (90086, 801), (80025, 802), (90083, 802), (80029, 803), (90079, 803), (80032, 804), (20009, 200), (50037, 200), (90148, 200), (60095, 200), (20015, 201), (20018, 202), (60009, 600), (90109, 600), (60015, 601), (90215, 601), (60018, 602), (60022, 603), (60026, 604), (60029, 605), (50009, 500), (10104, 500), (60032, 500), (79, 500), (50015, 501), (10107, 501), (68, 501), (60037, 501), (50018, 502), (71, 502), (60040, 502), (50021, 503), (10093, 503), (60043, 503), (50024, 504), (60050, 504), (10012, 100), (82, 100), (90120, 100), (10021, 101), (90105, 101), (10025, 102), (54, 102), (90206, 102), (10029, 103), (51, 103), (10032, 104), (57, 104), (10035, 105), (10038, 106), (10041, 107), (10044, 108), (90080, 108), (10047, 109), (46, 109), (90114, 109), (10051, 110), (90117, 110), (10057, 111), (9, 0), (90285, 0), (15, 1), (20, 2), (24, 3), (28, 4), (31, 5), (34, 6), (90010, 900), (90019, 901), (90026, 902), (90030, 903), (90036, 904), (90040, 905), (90044, 906), (90048, 907), (90052, 908), (100017, 1000), (100035, 1001), (100152, 1002), (100038, 1003), (100042, 1004), (100045, 1005), (100048, 1006), (100050, 1007), (100052, 1008), (100055, 1009), (100058, 1010), (100061, 1011), (100064, 1012), (100067, 1013), (100159, 1014), (100165, 1015), (100162, 1016), (100175, 1017), (100185, 1018), (100172, 1019), (100198, 1020), (100201, 1021), (100204, 1022), (100070, 1023), (100074, 1024), (100077, 1025), (100080, 1026), (100083, 1027), (100086, 1028), (100089, 1029), (100304, 1030), (100307, 1031), (100310, 1032), (100313, 1033), (100092, 1034), (100095, 1035), (100098, 1036), (100101, 1037), (100104, 1038), (100107, 1039), (100110, 1040), (100113, 1041), (100116, 1042), (100119, 1043), (100122, 1044), (100395, 1045), (100398, 1046), (100401, 1047), (100414, 1048), (100316, 1049), (100421, 1050), (100424, 1051), (100427, 1052), (100430, 1053), (100125, 1054), (100128, 1055), (100131, 1056), (100134, 1057), (100137, 1058), (100140, 1059), (100143, 1060), (100146, 1061), (100149, 1062), (120009, 9900), (120015, 9901)]
def zFLp : List Nat := [126, 127, 128, 129, 130, 131, 132, 133, 134, 135, 136, 165, 166, 167, 168, 169, 170, 171, 184, 185, 186, 187, 188, 189, 190, 191, 192, 193, 194, 195, 196, 197, 198, 199, 200, 201, 202, 203, 204, 205, 206, 207, 208, 209, 210, 211, 212, 213, 214, 215, 216, 217, 218, 219, 220, 221, 222, 246, 247, 248, 249, 250, 251, 252, 253, 254, 280, 281, 282, 283, 284, 285, 299, 300, 301, 302, 303, 304, 305, 306, 327, 328, 329, 330, 331, 332, 333, 334, 335, 336, 337, 338, 339, 340, 341, 342, 354, 355, 356, 357, 358, 359, 360, 361, 362, 363, 364, 365, 366, 367, 368, 369, 370, 371, 372, 373, 374, 375, 376, 411, 412, 413, 414, 415, 416, 417, 418, 434, 435, 436, 437, 438, 439, 440, 441, 442, 1201, 1202, 1203, 1204, 1205, 1206, 1207, 1208, 1209, 1210, 1211, 1212, 1213, 1214, 1215, 1216, 1217, 1218, 1219, 1220, 1221, 1222, 1223, 1224, 1225, 1226, 1227, 1228, 1229, 1230, 1231, 1232, 1233, 1234, 1235, 1236, 1237, 1238, 1239, 1240, 1241, 1242, 1243, 1244, 1245, 1246, 1247, 1248, 1249, 1250, 1251, 1252, 1253, 1254, 1255, 1256, 1257, 1258, 1259, 1260, 1261, 1262, 1263, 1728, 1729]
def zML : List (Nat × Nat) := [(110068, 97), (90001, 1000), (80003, 1000), (30003, 1000), (70003, 1000), (40003, 1000), (10003, 1000), (20003, 1000), (60003, 1000), (50003, 1000), (90035, 0), (3, 1000), (110072, 98), (90064, 32), (110086, 99), (110110, 100), (90218, 9), (10096, 54), (60061, 55), (60065, 50), (60051, 1003), (10100, 51), (50034, 17), (50040, 18), (110129, 101), (110139, 102), (90253, 1), (38, 2), (60, 50), (42, 3), (64, 4), (98, 5), (108, 19), (20047, 1002), (114, 20), (20055, 19), (105, 6), (118, 1003), (101, 10), (10110, 21), (86, 71), (90, 52), (50028, 22), (20062, 23), (20040, 24), (20068, 25), (94, 51), (90246, 103), (90288, 1003), (110153, 104), (90274, 11), (10113, 26), (20079, 1003), (10117, 56), (10072, 1003), (110157, 105), (110076, 209), (110007, 106), (90072, 1011), (90075, 78), (80035, 72), (80038, 33), (30034, 1001), (30040, 34), (30043, 35), (30047, 36), (30050, 37), (80045, 79), (80051, 38), (30053, 226), (120335, 227), (30058, 228), (120492, 229), (120495, 231), (130009, 230), (121059, 232), (80055, 80), (80083, 81), (80086, 34), (80089, 82), (80095, 73), (80060, 83), (80099, 84), (80104, 1001), (80110, 74), (80065, 85), (80136, 86), (80139, 39), (80142, 87), (80150, 88), (80157, 89), (80160, 90), (80163, 91), (80166, 92), (80076, 93), (80147, 41), (80169, 94), (80068, 95), (80072, 96), (80125, 75), (90089, 76), (70053, 1003), (70059, 42), (40036, 1003), (90093, 12), (10061, 27), (20021, 233), (20036, 18), (10065, 57), (110090, 210), (110015, 107), (90124, 20), (90130, 58), (90138, 1010), (110093, 211), (110020, 108), (90139, 109), (90151, 19), (90155, 59), (90159, 21), (110097, 212), (110024, 110), (90165, 111), (90174, 60), (60073, 61), (60069, 62), (90178, 28), (90181, 61), (90184, 63), (110100, 213), (110027, 112), (90191, 24), (110103, 214), (110030, 113), (90194, 114), (110106, 215), (110033, 115), (90211, 13), (10078, 50), (10081, 71), (10085, 52), (10089, 64), (60046, 65), (60091, 43), (60100, 1002), (60105, 24), (60111, 44), (40028, 45), (40042, 46), (40032, 47), (40045, 48), (60057, 66), (60121, 1001), (110114, 216), (110037, 116), (90223, 117), (90227, 55), (110117, 217), (110040, 118), (90230, 67), (110120, 218), (110043, 119), (90233, 68), (60081, 60), (110123, 219), (110046, 120), (90236, 29), (20075, 1001), (110126, 220), (110049, 121), (90239, 14), (110133, 221), (110052, 122), (90242, 7), (110136, 222), (110055, 123), (90249, 15), (110143, 223), (110058, 124), (110146, 224), (110061, 125), (90261, 69), (90265, 126), (90294, 127), (90297, 1002), (110150, 225), (110065, 128), (90271, 30), (110071, 129), (100001, 1000), (110082, 130), (110075, 131), (110081, 132), (100290, 133), (100219, 134), (100168, 135), (100178, 136), (100182, 137), (100189, 1001), (100195, 138), (100293, 139), (100238, 140), (100215, 141), (100207, 226), (100211, 228), (100225, 142), (100277, 143), (100232, 144), (100229, 145), (100273, 146), (100282, 147), (100270, 148), (100287, 149), (100245, 150), (100222, 151), (100264, 152), (100259, 153), (100256, 154), (100251, 155), (100248, 156), (100235, 157), (100242, 158), (100297, 159), (100300, 160), (110089, 161), (110092, 162), (100346, 163), (100327, 164), (100320, 165), (100324, 1002), (100350, 166), (110096, 167), (100353, 168), (100155, 169), (100356, 170), (110099, 171), (100360, 172), (110102, 173), (100363, 174), (110105, 175), (100366, 176), (110109, 177), (100369, 178), (100334, 179), (100330, 180), (100337, 181), (100373, 182), (100344, 183), (100341, 184), (110113, 185), (110116, 186), (110119, 187), (110122, 188), (110125, 189), (110128, 190), (110132, 191), (110135, 192), (100404, 193), (100391, 194), (100377, 195), (100381, 196), (100384, 197), (100388, 198), (100408, 199), (110138, 200), (110142, 201), (110145, 202), (110149, 203), (100411, 204), (110152, 205), (100418, 206), (110156, 207), (110161, 208)]
def zMLp : List Nat := [108, 111, 119, 125, 158, 164, 273, 279, 298, 326, 404, 407, 462, 466, 470, 474, 478, 482, 486, 490, 494, 497, 501, 505, 509, 513, 517, 521, 525, 526, 530, 534, 538, 542, 545, 549, 550, 554, 555, 559, 563, 567, 571, 575, 579, 583, 587, 588, 592, 593, 597, 601, 605, 606, 610, 611, 615, 619, 664, 689, 693, 697, 701, 704, 708, 711, 714, 717, 722, 726, 730, 736, 740, 744, 747, 752, 774, 778, 782, 783, 788, 793, 797, 801, 802, 807, 811, 815, 819, 823, 828, 832, 836, 840, 844, 848, 852, 864, 872, 876, 880, 884, 885, 889, 890, 894, 898, 901, 902, 906, 910, 914, 915, 929, 935, 938, 942, 947, 948, 952, 954, 957, 961, 966, 970, 974, 978, 982, 983, 988, 991, 996, 997, 1000, 1004, 1010, 1013, 1017, 1021, 1022, 1023, 1024, 1028, 1032, 1036, 1037, 1038, 1042, 1046, 1050, 1054, 1057, 1061, 1062, 1065, 1070, 1074, 1075, 1078, 1082, 1086, 1089, 1093, 1097, 1098, 1101, 1105, 1109, 1110, 1113, 1117, 1121, 1124, 1128, 1132, 1135, 1139, 1143, 1146, 1151, 1154, 1159, 1163, 1166, 1169, 1170, 1173, 1178, 1185, 1188, 1391, 1395, 1399, 1403, 1407, 1411, 1415, 1418, 1422, 1423, 1426, 1430, 1434, 1438, 1439, 1441, 1445, 1449, 1453, 1457, 1462, 1467, 1472, 1476, 1480, 1484, 1488, 1493, 1497, 1501, 1505, 1509, 1515, 1519, 1522, 1526, 1530, 1534, 1538, 1542, 1543, 1547, 1551, 1555, 1558, 1562, 1566, 1570, 1574, 1578, 1582, 1586, 1590, 1594, 1598, 1602, 1606, 1610, 1614, 1617, 1621, 1625, 1629, 1633, 1637, 1641, 1645, 1649, 1653, 1657, 1660, 1664, 1668, 1672, 1676, 1680, 1684, 1688, 1692, 1695, 1699, 1704, 1708]
def zNL : List (Nat × Nat) := [(90009, 77), (80011, 31), (80020, 70), (70035, 40), (90018, 70), (90025, 8), (10011, 16), (10020, 53), (10056, 49), (37, 49)]
def zNLp : List Nat := [116, 122, 155, 161, 267, 270, 276, 295, 323, 410]
def zCL : List (Nat × Nat) := [(110008, 9), (90007, 8), (80009, 3), (80018, 7), (70033, 4), (90016, 7), (90023, 1), (10009, 2), (10018, 6), (10054, 5), (90033, 0), (18, 5), (110069, 10), (100007, 12)]
def zCLp : List Nat := [106, 114, 120, 153, 159, 266, 268, 274, 293, 321, 402, 408, 1183, 1189]
def zEL : List (Nat × Nat) := [(110013, 1), (90068, 1), (110018, 0), (90134, 0)]
def zELp : List Nat := [618, 623, 909, 919]
def zSL : List (Nat × Nat) := [(90070, 0), (80049, 1), (80093, 2), (80058, 3), (80063, 4), (80155, 5), (80172, 6), (80174, 7), (80176, 8), (80178, 9), (80180, 10), (80182, 11), (80153, 12), (80145, 13), (80114, 14), (80116, 15), (80118, 16), (80120, 17), (90136, 18), (90277, 19), (90163, 20), (90279, 21), (90187, 22), (90189, 23), (90281, 24), (90209, 25), (90221, 26), (90283, 27), (90257, 28), (90259, 29), (90269, 30), (100009, 31), (100011, 32), (100013, 33), (100015, 34), (100023, 35), (100025, 36), (100027, 37), (100029, 38), (100031, 39), (100033, 40), (100275, 41), (100280, 42), (100269, 43), (100285, 44), (100254, 45), (100262, 46), (100267, 47)]
def zSLp : List Nat := [663, 721, 787, 792, 806, 827, 856, 857, 858, 859, 860, 861, 862, 863, 868, 869, 870, 871, 928, 946, 953, 965, 987, 995, 1008, 1009, 1069, 1073, 1150, 1158, 1177, 1191, 1192, 1193, 1194, 1195, 1196, 1197, 1198, 1199, 1200, 1440, 1461, 1466, 1471, 1492, 1513, 1514]
def zIL : List (Nat × Nat) := [(20078, 0), (100188, 1), (100417, 2)]
def zILp : List Nat := [1182, 1421, 1703]
def zGL : List (Nat × Nat) := [(120038, 0), (121053, 1)]
def zGLp : List Nat := [734, 750]
def zIC : List Int32 := [1103515245, 100000, 1103515245]
/-- texts: who names them, under which number, what they say -/
def zStr : List (String × Nat × String) := [("CobblePorts", 70, "the tape has not so many bytes"), ("CobblePorts$WorldParser", 49, "port"), ("CobblePorts$WorldParser", 93, "weight"), ("CobblePorts$WorldParser", 58, "stones"), ("CobblePorts$WorldParser", 63, "tariff"), ("CobblePorts$WorldParser", 155, "not"), ("CobblePorts$WorldParser", 172, "square"), ("CobblePorts$WorldParser", 174, "origin"), ("CobblePorts$WorldParser", 176, "from"), ("CobblePorts$WorldParser", 178, "to"), ("CobblePorts$WorldParser", 180, "many"), ("CobblePorts$WorldParser", 182, "month"), ("CobblePorts$WorldParser", 153, "and"), ("CobblePorts$WorldParser", 145, "or"), ("CobblePorts$WorldParser", 114, "plain"), ("CobblePorts$WorldParser", 116, "picky"), ("CobblePorts$WorldParser", 118, "homesick"), ("CobblePorts$WorldParser", 120, "proud"), ("CobblePorts", 136, "nothing such is counted"), ("CobblePorts", 277, "no such port"), ("CobblePorts", 163, "nothing such is known of a port"), ("CobblePorts", 279, "no such stone"), ("CobblePorts", 187, "nothing such is known of a stone"), ("CobblePorts", 189, "no such place"), ("CobblePorts", 281, "no such ship"), ("CobblePorts", 209, "nothing such is known of a ship"), ("CobblePorts", 221, "no such voyage"), ("CobblePorts", 283, "nothing such is known"), ("CobblePorts", 257, "no such load is kept"), ("CobblePorts", 259, "there are no such voyages between"), ("CobblePorts", 269, "not so many floods"), ("CobblePortsModel", 9, "plain"), ("CobblePortsModel", 11, "picky"), ("CobblePortsModel", 13, "homesick"), ("CobblePortsModel", 15, "proud"), ("CobblePortsModel", 23, "square"), ("CobblePortsModel", 25, "origin"), ("CobblePortsModel", 27, "from"), ("CobblePortsModel", 29, "to"), ("CobblePortsModel", 31, "many"), ("CobblePortsModel", 33, "month"), ("CobblePortsModel", 275, "tariff"), ("CobblePortsModel", 280, "port"), ("CobblePortsModel", 269, "weight"), ("CobblePortsModel", 285, "stones"), ("CobblePortsModel", 254, "not"), ("CobblePortsModel", 262, "and"), ("CobblePortsModel", 267, "or")]
def zByt : List (List Int32) := [[116, 104, 101, 32, 116, 97, 112, 101, 32, 104, 97, 115, 32, 110, 111, 116, 32, 115, 111, 32, 109, 97, 110, 121, 32, 98, 121, 116, 101, 115], [112, 111, 114, 116], [119, 101, 105, 103, 104, 116], [115, 116, 111, 110, 101, 115], [116, 97, 114, 105, 102, 102], [110, 111, 116], [115, 113, 117, 97, 114, 101], [111, 114, 105, 103, 105, 110], [102, 114, 111, 109], [116, 111], [109, 97, 110, 121], [109, 111, 110, 116, 104], [97, 110, 100], [111, 114], [112, 108, 97, 105, 110], [112, 105, 99, 107, 121], [104, 111, 109, 101, 115, 105, 99, 107], [112, 114, 111, 117, 100], [110, 111, 116, 104, 105, 110, 103, 32, 115, 117, 99, 104, 32, 105, 115, 32, 99, 111, 117, 110, 116, 101, 100], [110, 111, 32, 115, 117, 99, 104, 32, 112, 111, 114, 116], [110, 111, 116, 104, 105, 110, 103, 32, 115, 117, 99, 104, 32, 105, 115, 32, 107, 110, 111, 119, 110, 32, 111, 102, 32, 97, 32, 112, 111, 114, 116], [110, 111, 32, 115, 117, 99, 104, 32, 115, 116, 111, 110, 101], [110, 111, 116, 104, 105, 110, 103, 32, 115, 117, 99, 104, 32, 105, 115, 32, 107, 110, 111, 119, 110, 32, 111, 102, 32, 97, 32, 115, 116, 111, 110, 101], [110, 111, 32, 115, 117, 99, 104, 32, 112, 108, 97, 99, 101], [110, 111, 32, 115, 117, 99, 104, 32, 115, 104, 105, 112], [110, 111, 116, 104, 105, 110, 103, 32, 115, 117, 99, 104, 32, 105, 115, 32, 107, 110, 111, 119, 110, 32, 111, 102, 32, 97, 32, 115, 104, 105, 112], [110, 111, 32, 115, 117, 99, 104, 32, 118, 111, 121, 97, 103, 101], [110, 111, 116, 104, 105, 110, 103, 32, 115, 117, 99, 104, 32, 105, 115, 32, 107, 110, 111, 119, 110], [110, 111, 32, 115, 117, 99, 104, 32, 108, 111, 97, 100, 32, 105, 115, 32, 107, 101, 112, 116], [116, 104, 101, 114, 101, 32, 97, 114, 101, 32, 110, 111, 32, 115, 117, 99, 104, 32, 118, 111, 121, 97, 103, 101, 115, 32, 98, 101, 116, 119, 101, 101, 110], [110, 111, 116, 32, 115, 111, 32, 109, 97, 110, 121, 32, 102, 108, 111, 111, 100, 115], [112, 108, 97, 105, 110], [112, 105, 99, 107, 121], [104, 111, 109, 101, 115, 105, 99, 107], [112, 114, 111, 117, 100], [115, 113, 117, 97, 114, 101], [111, 114, 105, 103, 105, 110], [102, 114, 111, 109], [116, 111], [109, 97, 110, 121], [109, 111, 110, 116, 104], [116, 97, 114, 105, 102, 102], [112, 111, 114, 116], [119, 101, 105, 103, 104, 116], [115, 116, 111, 110, 101, 115], [110, 111, 116], [97, 110, 100], [111, 114]]
def zMp : List Nat := [406, 520, 524, 529, 533, 537, 553, 1131, 272, 481, 558, 600, 893, 1020, 1120, 1142, 278, 504, 508, 541, 548, 562, 574, 578, 582, 586, 604, 897, 981, 1108, 1181, 124, 469, 700, 707, 710, 713, 716, 725, 818, 163, 851, 888, 1035, 1041, 1045, 1049, 1053, 1056, 325, 493, 500, 570, 297, 485, 489, 609, 905, 918, 951, 969, 973, 977, 986, 1027, 1031, 1060, 1085, 1096, 1162, 157, 566, 696, 791, 805, 879, 883, 118, 692, 720, 777, 781, 786, 796, 800, 810, 814, 822, 826, 831, 835, 839, 843, 847, 855, 867, 875, 110, 465, 473, 477, 512, 516, 591, 596, 614, 622, 913, 941, 945, 960, 964, 994, 1003, 1007, 1016, 1068, 1072, 1081, 1092, 1104, 1116, 1127, 1138, 1149, 1157, 1165, 1168, 1176, 1187, 1394, 1398, 1402, 1406, 1410, 1414, 1417, 1420, 1425, 1429, 1433, 1437, 1444, 1448, 1452, 1456, 1460, 1465, 1470, 1475, 1479, 1483, 1487, 1491, 1496, 1500, 1504, 1508, 1512, 1518, 1521, 1525, 1529, 1533, 1537, 1541, 1546, 1550, 1554, 1557, 1561, 1565, 1569, 1573, 1577, 1581, 1585, 1589, 1593, 1597, 1601, 1605, 1609, 1613, 1616, 1620, 1624, 1628, 1632, 1636, 1640, 1644, 1648, 1652, 1656, 1659, 1663, 1667, 1671, 1675, 1679, 1683, 1687, 1691, 1694, 1698, 1702, 1707, 1711, 617, 908, 937, 956, 990, 999, 1012, 1064, 1077, 1088, 1100, 1112, 1123, 1134, 1145, 1153, 1172, 729, 733, 739, 743, 749, 746, 754, 900]
def zMi : List Nat := [92, 92, 92, 92, 92, 92, 92, 92, 88, 88, 88, 88, 88, 88, 88, 88, 89, 89, 89, 89, 89, 89, 89, 89, 89, 89, 89, 89, 89, 89, 89, 85, 85, 85, 85, 85, 85, 85, 85, 85, 87, 87, 87, 87, 87, 87, 87, 87, 87, 91, 91, 91, 91, 90, 90, 90, 90, 90, 90, 90, 90, 90, 90, 90, 90, 90, 90, 90, 90, 90, 86, 86, 86, 86, 86, 86, 86, 84, 84, 84, 84, 84, 84, 84, 84, 84, 84, 84, 84, 84, 84, 84, 84, 84, 84, 84, 84, 83, 83, 83, 83, 83, 83, 83, 83, 83, 83, 83, 83, 83, 83, 83, 83, 83, 83, 83, 83, 83, 83, 83, 83, 83, 83, 83, 83, 83, 83, 83, 83, 93, 93, 93, 93, 93, 93, 93, 93, 93, 93, 93, 93, 93, 93, 93, 93, 93, 93, 93, 93, 93, 93, 93, 93, 93, 93, 93, 93, 93, 93, 93, 93, 93, 93, 93, 93, 93, 93, 93, 93, 93, 93, 93, 93, 93, 93, 93, 93, 93, 93, 93, 93, 93, 93, 93, 93, 93, 93, 93, 93, 93, 93, 93, 93, 93, 93, 93, 93, 93, 93, 93, 93, 93, 93, 93, 93, 93, 93, 93, 93, 82, 82, 82, 82, 82, 82, 82, 82, 82, 82, 82, 82, 82, 82, 82, 82, 82, 99, 99, 99, 99, 99, 100, 101, 104]
/-- instance methods: their word, their selects; static ones: their word -/
def zMv : List (Nat × Nat) := [(405, 9999), (518, 519), (523, 0), (528, 1), (532, 2), (536, 3), (552, 4), (1129, 1130), (271, 9999), (479, 480), (556, 557), (598, 599), (891, 892), (1018, 1019), (1118, 1119), (1140, 1141), (277, 9999), (502, 503), (506, 507), (539, 540), (546, 547), (560, 561), (572, 573), (577, 5), (580, 581), (585, 6), (602, 603), (895, 896), (979, 980), (1106, 1107), (1179, 1180), (123, 9999), (467, 468), (698, 699), (705, 706), (9999, 9999), (9999, 9999), (9999, 9999), (723, 724), (816, 817), (162, 9999), (849, 850), (886, 887), (1033, 1034), (1039, 1040), (1044, 32), (1048, 33), (1052, 34), (9999, 9999), (324, 9999), (491, 492), (498, 499), (568, 569), (296, 9999), (483, 484), (487, 488), (607, 608), (903, 904), (916, 917), (949, 950), (967, 968), (971, 972), (976, 29), (984, 985), (1025, 1026), (1030, 31), (1059, 35), (1083, 1084), (1094, 1095), (1160, 1161), (156, 9999), (564, 565), (694, 695), (789, 790), (803, 804), (877, 878), (881, 882), (117, 9999), (690, 691), (719, 9), (776, 10), (780, 11), (785, 12), (795, 13), (799, 14), (809, 15), (813, 16), (821, 17), (825, 18), (830, 19), (834, 20), (838, 21), (842, 22), (846, 23), (854, 24), (866, 25), (874, 26), (109, 9999), (463, 464), (471, 472), (475, 476), (510, 511), (514, 515), (590, 7), (594, 595), (612, 613), (620, 621), (911, 912), (939, 940), (944, 27), (958, 959), (963, 28), (992, 993), (1001, 1002), (1006, 30), (1014, 1015), (1066, 1067), (9999, 9999), (1079, 1080), (1090, 1091), (1102, 1103), (1114, 1115), (1125, 1126), (1136, 1137), (1147, 1148), (1155, 1156), (9999, 9999), (9999, 9999), (1174, 1175), (1186, 9999), (1392, 1393), (1396, 1397), (1400, 1401), (1405, 36), (1409, 37), (1413, 38), (9999, 9999), (9999, 9999), (9999, 9999), (1428, 39), (1432, 40), (1436, 41), (1443, 42), (1447, 43), (1451, 44), (1455, 45), (1459, 46), (1464, 47), (1469, 48), (1474, 49), (1478, 50), (1482, 51), (1486, 52), (1490, 53), (1495, 54), (1499, 55), (1503, 56), (1507, 57), (1511, 58), (1517, 59), (9999, 9999), (1523, 1524), (1527, 1528), (1532, 60), (1536, 61), (1540, 62), (1545, 63), (1548, 1549), (1553, 64), (9999, 9999), (1560, 65), (1563, 1564), (1568, 66), (1571, 1572), (1576, 67), (1579, 1580), (1584, 68), (1587, 1588), (1592, 69), (1596, 70), (1600, 71), (1604, 72), (1608, 73), (1612, 74), (9999, 9999), (1618, 1619), (1622, 1623), (1626, 1627), (1630, 1631), (1634, 1635), (1638, 1639), (1642, 1643), (1646, 1647), (1651, 75), (1655, 76), (9999, 9999), (1662, 77), (1666, 78), (1670, 79), (1674, 80), (1677, 1678), (1681, 1682), (1685, 1686), (1689, 1690), (9999, 9999), (1696, 1697), (1701, 81), (1705, 1706), (1709, 1710), (9999, 9999), (9999, 9999), (9999, 9999), (9999, 9999), (9999, 9999), (9999, 9999), (9999, 9999), (9999, 9999), (9999, 9999), (9999, 9999), (9999, 9999), (9999, 9999), (9999, 9999), (9999, 9999), (9999, 9999), (9999, 9999), (9999, 9999), (727, 728), (731, 732), (737, 738), (741, 742), (9999, 9999), (9999, 9999), (9999, 9999), (9999, 9999)]
def zMs : List Nat := [9999, 9999, 9999, 9999, 9999, 9999, 9999, 9999, 9999, 9999, 9999, 9999, 9999, 9999, 9999, 9999, 9999, 9999, 9999, 9999, 9999, 9999, 9999, 9999, 9999, 9999, 9999, 9999, 9999, 9999, 9999, 9999, 9999, 9999, 9999, 709, 712, 715, 9999, 9999, 9999, 9999, 9999, 9999, 9999, 9999, 9999, 9999, 1055, 9999, 9999, 9999, 9999, 9999, 9999, 9999, 9999, 9999, 9999, 9999, 9999, 9999, 9999, 9999, 9999, 9999, 9999, 9999, 9999, 9999, 9999, 9999, 9999, 9999, 9999, 9999, 9999, 9999, 9999, 9999, 9999, 9999, 9999, 9999, 9999, 9999, 9999, 9999, 9999, 9999, 9999, 9999, 9999, 9999, 9999, 9999, 9999, 9999, 9999, 9999, 9999, 9999, 9999, 9999, 9999, 9999, 9999, 9999, 9999, 9999, 9999, 9999, 9999, 9999, 9999, 9999, 9999, 1071, 9999, 9999, 9999, 9999, 9999, 9999, 9999, 9999, 1164, 1167, 9999, 9999, 9999, 9999, 9999, 9999, 9999, 9999, 1416, 1419, 1424, 9999, 9999, 9999, 9999, 9999, 9999, 9999, 9999, 9999, 9999, 9999, 9999, 9999, 9999, 9999, 9999, 9999, 9999, 9999, 9999, 9999, 1520, 9999, 9999, 9999, 9999, 9999, 9999, 9999, 9999, 1556, 9999, 9999, 9999, 9999, 9999, 9999, 9999, 9999, 9999, 9999, 9999, 9999, 9999, 9999, 1615, 9999, 9999, 9999, 9999, 9999, 9999, 9999, 9999, 9999, 9999, 1658, 9999, 9999, 9999, 9999, 9999, 9999, 9999, 9999, 1693, 9999, 9999, 9999, 9999, 616, 907, 936, 955, 989, 998, 1011, 1063, 1076, 1087, 1099, 1111, 1122, 1133, 1144, 1152, 1171, 9999, 9999, 9999, 9999, 748, 745, 753, 899]
def zLp : List (List Nat) := [[419, 421, 423, 425, 427, 429, 431], [377, 379, 381, 383, 385, 387, 389, 391, 393, 395, 397, 399], [286, 288, 290], [137, 139, 141, 143, 145, 147, 149], [172, 174, 176, 178, 180], [343, 345, 347, 349, 351], [307, 309, 311, 313, 315, 317], [223, 225, 227, 229, 231, 233, 235, 237, 239, 241, 243], [255, 257, 259, 261, 263], [443, 445, 447, 449, 451, 453, 455, 457, 459], [1264, 1266, 1268, 1270, 1272, 1274, 1276, 1278, 1280, 1282, 1284, 1286, 1288, 1290, 1292, 1294, 1296, 1298, 1300, 1302, 1304, 1306, 1308, 1310, 1312, 1314, 1316, 1318, 1320, 1322, 1324, 1326, 1328, 1330, 1332, 1334, 1336, 1338, 1340, 1342, 1344, 1346, 1348, 1350, 1352, 1354, 1356, 1358, 1360, 1362, 1364, 1366, 1368, 1370, 1372, 1374, 1376, 1378, 1380, 1382, 1384, 1386, 1388]]
def zIp : List Nat := [403, 269, 275, 121, 160, 322, 294, 154, 115, 107, 1184]
def zCi : List Nat := [92, 88, 89, 85, 87, 91, 90, 86, 84, 83, 93, 82, 99, 100, 101, 104]
end
section
/-! A MACHINE OF ITS OWN: what the bytecode does, over cells that are numbered in the order in which they were made. Addresses below 1000: cells made here; 1000 + i: the i-th text constant; 2000 + i: its row of bytes; 3000: the script. -/
def zlk (k : Nat) : List (Nat × Nat) → Option Nat
  | [] => none
  | (j, a) :: t => if j = k then some a else zlk k t
theorem zlk_mem {k a : Nat} : ∀ {t : List (Nat × Nat)}, zlk k t = some a → (k, a) ∈ t
  | [], h => by simp [zlk] at h
  | (j, b) :: t, h => by
    simp only [zlk] at h
    split at h
    · next e => cases h; rw [e]; exact List.mem_cons_self
    · exact List.mem_cons_of_mem _ (zlk_mem h)
def zisV (r : Nat) : Bool := decide ((zMv.getD r (9999, 9999)).1 ≠ 9999 ∧ (zMv.getD r (9999, 9999)).2 ≠ 9999)
def zisI (r : Nat) : Bool := decide ((zMv.getD r (9999, 9999)).1 ≠ 9999)
def zisS (r : Nat) : Bool := decide (zMs.getD r 9999 ≠ 9999)
/-- an instruction, its links by their numbers -/
def zres (cn : Nat) (i : Instr) : Instr := match i with
  | .getfield k => match zlk (cn * 10000 + k) zFL with
    | some r => .getfield r
    | none => .nop
  | .putfield k => match zlk (cn * 10000 + k) zFL with
    | some r => .putfield r
    | none => .nop
  | .getstatic k => match zlk (cn * 10000 + k) zGL with
    | some r => .getstatic r
    | none => .nop
  | .new k => match zlk (cn * 10000 + k) zCL with
    | some r => .new r
    | none => match zlk (cn * 10000 + k) zEL with
      | some r => .new (100 + r)
      | none => .nop
  | .anewarray k => match zlk (cn * 10000 + k) zCL with
    | some r => .anewarray r
    | none => .nop
  | .invokevirtual k => match zlk (cn * 10000 + k) zML with
    | some r => if zisV r = true then .invokevirtual r else .nop
    | none => .nop
  | .invokestatic k => match zlk (cn * 10000 + k) zML with
    | some r => if zisS r = true ∨ 1000 ≤ r then .invokestatic r else .nop
    | none => .nop
  | .invokespecial k => match zlk (cn * 10000 + k) zML with
    | some r => if zisI r = true ∨ 1000 ≤ r then .invokespecial r else .nop
    | none => match zlk (cn * 10000 + k) zNL with
      | some r => if zisI r = true then .invokespecial (2000 + r) else .nop
      | none => .nop
  | .ldc k => match zlk (cn * 10000 + k) zSL with
    | some r => .ldc r
    | none => match zlk (cn * 10000 + k) zIL with
      | some r => .ldc (1000 + r)
      | none => .nop
  | .ldc_w k => match zlk (cn * 10000 + k) zSL with
    | some r => .ldc_w r
    | none => match zlk (cn * 10000 + k) zIL with
      | some r => .ldc_w (1000 + r)
      | none => .nop
  | .nop => .jsr 0
  | i => i
/-- the lengths that instructions have here -/
def zil (i : Instr) (n : Nat) : Bool := match i with
  | .bipush _ => n == 2
  | .ldc k => n == 2 && decide (k < 10000)
  | .newarray _ => n == 2
  | .iload _ => n == 2
  | .aload _ => n == 2
  | .istore _ => n == 2
  | .astore _ => n == 2
  | .sipush _ => n == 3
  | .getfield k => n == 3 && decide (k < 10000)
  | .putfield k => n == 3 && decide (k < 10000)
  | .getstatic k => n == 3 && decide (k < 10000)
  | .new k => n == 3 && decide (k < 10000)
  | .anewarray k => n == 3 && decide (k < 10000)
  | .invokevirtual k => n == 3 && decide (k < 10000)
  | .invokestatic k => n == 3 && decide (k < 10000)
  | .invokespecial k => n == 3 && decide (k < 10000)
  | .ldc_w k => n == 3 && decide (k < 10000)
  | .goto _ => n == 3
  | .if_icmp _ _ => n == 3
  | .ifCond _ _ => n == 3
  | .iinc _ _ => n == 3
  | .tableswitch _ _ _ _ => true
  | _ => n == 1
/-- jumps stay within the method -/
def zjk (i : Instr) (pc : Nat) : Bool := match i with
  | .if_icmp _ off => decide (0 ≤ (pc : Int) + off)
  | .ifCond _ off => decide (0 ≤ (pc : Int) + off)
  | _ => true
def zop (mi pc : Nat) : Option (Instr × Nat) := match zM[mi]? with
  | none => none
  | some q => match decode q.cc pc with
    | .ok (i, n) => if zil i n = true ∧ zjk i pc = true then some (zres q.cn i, n) else none
    | _ => none
theorem zop_spec {mi pc n : Nat} {i : Instr} {q : zMI} (hq : zM[mi]? = some q) (h : zop mi pc = some (i, n)) : ∃ r, decode q.cc pc = .ok (r, n) ∧ zil r n = true ∧ zjk r pc = true ∧ zres q.cn r = i := by
  simp only [zop, hq] at h
  split at h
  · next r k e =>
    split at h
    · next hl => cases h; exact ⟨r, e, hl.1, hl.2, rfl⟩
    · cases h
  · cases h
/-- cells: a row of a type, or an object of a class -/
abbrev zC : Type := (FieldType × vp_A) ⊕ (Nat × List Value)
/-- how a method ends: with an answer, with none, or with an exception (0 NoSuchElement, 1 IllegalArgument) -/
abbrev zRes : Type := Option Value ⊕ Nat
abbrev zS : Type := Nat × List Value × List Value × List zC × Nat × Nat
/-- a reference of which nothing is known (retAddr 1: or null) -/
abbrev zJ : Value := .retAddr 0
abbrev zPost : Type := zRes → List zC → Prop
def zin (i : Int32) (n : Nat) : Bool := decide (¬ (i < 0 ∨ n ≤ i.toNatClampNeg))
theorem zin_in {i : Int32} {n : Nat} : zin i n = true ↔ vp_in i n := by simp [zin, vp_in]
def zcmp (c : Jvm.ClassFile.Cond) (x y : Int32) : Bool := match c with
  | .eq => decide (x = y)
  | .ne => decide (¬ x = y)
  | .lt => decide (x < y)
  | .ge => decide (y ≤ x)
  | .gt => decide (y < x)
  | .le => decide (x ≤ y)
def zgo (pc : Nat) (off : Int) : Option Nat := if 0 ≤ (pc : Int) + off then some ((pc : Int) + off).toNat else none
def zbr (b : Bool) (pc n : Nat) (off : Int) : Option Nat := if b = true then zgo pc off else some (pc + n)
def zsw (dflt lo hi : Int) (offs : Array Int) (x : Int32) : Option Int :=
  if x.toInt < lo ∨ hi < x.toInt then some dflt else offs[(x.toInt - lo).toNat]?
/-- may a field of this type hold this value? -/
def zfit (ty : FieldType) (v : Value) : Bool := match ty, v with
  | .int, .int _ => true
  | .boolean, .int x => decide (x = 0 ∨ x = 1)
  | .object _, .ref _ => true
  | .array _, .ref _ => true
  | _, _ => false
def zdef (ty : FieldType) : Value := defaultValue ty
def zsplitR (a : Nat) : Nat := a / 100
/-- a field's value -/
def zget (ws : List zC) (a r : Nat) : Option Value :=
  if a < 1000 then match ws[a]? with
    | some (.inr (ci, fs)) => if ci = r / 100 then fs[r % 100]? else none
    | _ => none
  else if a - 1000 < 48 then (if r = 9900 then some (.ref (a + 1000)) else if r = 9901 then some (.int 0) else none) else none
def zput (q : zMI) (ws : List zC) (a r : Nat) (v : Value) : Option (List zC) :=
  if a < 1000 then match ws[a]? with
    | some (.inr (ci, fs)) => if ci = r / 100 ∧ r % 100 < zNF ci ∧ r % 100 < fs.length ∧ zfit (zty ci (r % 100)) v = true ∧ ((zT ci (r % 100)).2.2.2 = true → q.ini = true ∧ q.cn = ci) then some (ws.set a (.inr (ci, fs.set (r % 100) v))) else none
    | _ => none
  else none
/-- a row that is read only -/
def zext (sc : Nat × (Nat → Int32)) (a : Nat) : Option (FieldType × Nat × (Nat → Int32)) :=
  if a = 3000 then some (.int, sc.1, sc.2)
  else if 2000 ≤ a ∧ a - 2000 < 48 then some (.byte, (zByt.getD (a - 2000) []).length, fun j => (zByt.getD (a - 2000) []).getD j 0) else none
def zald (sc : Nat × (Nat → Int32)) (ty : FieldType) (ws : List zC) (a : Nat) (i : Int32) : Option Value :=
  if a < 1000 then match ws[a]? with
    | some (.inl (ty', n, .inl f)) => if ty' = ty ∧ zin i n = true then some (.int (f i.toNatClampNeg)) else none
    | _ => none
  else match zext sc a with
    | some (ty', n, f) => if ty' = ty ∧ zin i n = true then some (.int (f i.toNatClampNeg)) else none
    | none => none
def zlal (ws : List zC) (a : Nat) (i : Int32) : Option Value :=
  if a < 1000 then match ws[a]? with
    | some (.inl (.long, n, .inr (.inl f))) => if zin i n = true then some (.long (f i.toNatClampNeg)) else none
    | _ => none
  else none
def zaal (ws : List zC) (a : Nat) (i : Int32) : Option Value :=
  if a < 1000 then match ws[a]? with
    | some (.inl (.object _, n, .inr (.inr (.inr (.inr f))))) => if zin i n = true then (match f i.toNatClampNeg with
      | some k => some (.ref k)
      | none => none) else none
    | _ => none
  else none
def zlen (sc : Nat × (Nat → Int32)) (ws : List zC) (a : Nat) : Option Value :=
  if a < 1000 then match ws[a]? with
    | some (.inl (_, x)) => some (.int (Int32.ofNat x.1))
    | _ => none
  else match zext sc a with
    | some (_, n, _) => some (.int (Int32.ofNat n))
    | none => none
def zast (ty : FieldType) (ws : List zC) (a : Nat) (i x : Int32) : Option (List zC) :=
  if a < 1000 then match ws[a]? with
    | some (.inl (ty', n, .inl f)) => if ty' = ty ∧ zin i n = true then some (ws.set a (.inl (ty', n, .inl (upd f i.toNatClampNeg x)))) else none
    | _ => none
  else none
def zlas (ws : List zC) (a : Nat) (i : Int32) (x : Int64) : Option (List zC) :=
  if a < 1000 then match ws[a]? with
    | some (.inl (.long, n, .inr (.inl f))) => if zin i n = true then some (ws.set a (.inl (.long, n, .inr (.inl (vp_updL f i.toNatClampNeg x))))) else none
    | _ => none
  else none
/-- may this reference lie in a row of that class? -/
def zmay (ws : List zC) (k : Nat) (C : String) : Bool :=
  if k < 1000 then match ws[k]? with
    | some (.inr (ci, _)) => decide (ci < 11 ∧ zCN.getD ci "" = C)
    | _ => false
  else decide (k - 1000 < 48 ∧ C = "java/lang/String")
def zaas (ws : List zC) (a : Nat) (i : Int32) (k : Nat) : Option (List zC) :=
  if a < 1000 then match ws[a]? with
    | some (.inl (.object C, n, .inr (.inr (.inr (.inr f))))) => if zin i n = true ∧ zmay ws k C = true then some (ws.set a (.inl (.object C, n, .inr (.inr (.inr (.inr (va_up f i.toNatClampNeg (some k)))))))) else none
    | _ => none
  else none
/-- System.arraycopy, between two rows of ints or of longs -/
def zcpy (ws : List zC) (a0 : Nat) (sp : Int32) (a1 : Nat) (dp n : Int32) : Option (List zC) :=
  if a0 < 1000 ∧ a1 < 1000 ∧ ¬ sp < 0 ∧ ¬ dp < 0 ∧ ¬ n < 0 then match ws[a0]?, ws[a1]? with
    | some (.inl (.int, n0, .inl f)), some (.inl (.int, n1, .inl g)) => if sp.toNatClampNeg + n.toNatClampNeg ≤ n0 ∧ dp.toNatClampNeg + n.toNatClampNeg ≤ n1 then some (ws.set a1 (.inl (.int, n1, .inl (va_cpy f g sp.toNatClampNeg dp.toNatClampNeg n.toNatClampNeg)))) else none
    | some (.inl (.long, n0, .inr (.inl f))), some (.inl (.long, n1, .inr (.inl g))) => if sp.toNatClampNeg + n.toNatClampNeg ≤ n0 ∧ dp.toNatClampNeg + n.toNatClampNeg ≤ n1 then some (ws.set a1 (.inl (.long, n1, .inr (.inl (va_cpy f g sp.toNatClampNeg dp.toNatClampNeg n.toNatClampNeg))))) else none
    | _, _ => none
  else none
def znew (ty : FieldType) (n : Nat) : Option zC := match ty with
  | .int => some (.inl (.int, n, .inl (fun _ => 0)))
  | .byte => some (.inl (.byte, n, .inl (fun _ => 0)))
  | .long => some (.inl (.long, n, .inr (.inl (fun _ => 0))))
  | _ => none
/-- words that the values below a call's arguments take -/
def zwd (st : List Value) : Nat := (st.map fun v => v.category).sum
/-- one step that is neither a call, nor an end, nor a throw -/
def znx (sc : Nat × (Nat → Int32)) (q : zMI) (d : Nat) (i : Instr) (n pc : Nat) (ls st : List Value) (ws : List zC) (kc ks : Nat) : Option zS :=
  match i with
  | .iconst k => some (pc + n, ls, .int (Int32.ofInt k) :: st, ws, kc, ks)
  | .bipush k => some (pc + n, ls, .int (Int8.ofInt k).toInt32 :: st, ws, kc, ks)
  | .sipush k => some (pc + n, ls, .int (Int16.ofInt k).toInt32 :: st, ws, kc, ks)
  | .lconst k => some (pc + n, ls, .long (Int64.ofNat (k : Nat)) :: st, ws, kc, ks)
  | .iload k => match ls[k]? with
    | some (.int x) => some (pc + n, ls, .int x :: st, ws, kc, ks)
    | _ => none
  | .iload_n k => match ls[(k : Nat)]? with
    | some (.int x) => some (pc + n, ls, .int x :: st, ws, kc, ks)
    | _ => none
  | .aload k => match ls[k]? with
    | some (.ref x) => some (pc + n, ls, .ref x :: st, ws, kc, ks)
    | _ => none
  | .aload_n k => match ls[(k : Nat)]? with
    | some (.ref x) => some (pc + n, ls, .ref x :: st, ws, kc, ks)
    | _ => none
  | .istore k => match st with
    | .int x :: r => if k < ls.length then some (pc + n, ls.set k (.int x), r, ws, kc, ks) else none
    | _ => none
  | .istore_n k => match st with
    | .int x :: r => if (k : Nat) < ls.length then some (pc + n, ls.set (k : Nat) (.int x), r, ws, kc, ks) else none
    | _ => none
  | .astore k => match st with
    | .ref x :: r => if k < ls.length then some (pc + n, ls.set k (.ref x), r, ws, kc, ks) else none
    | .retAddr j :: r => if j = 0 ∧ k < ls.length then some (pc + n, ls.set k zJ, r, ws, kc, ks) else none
    | _ => none
  | .astore_n k => match st with
    | .ref x :: r => if (k : Nat) < ls.length then some (pc + n, ls.set (k : Nat) (.ref x), r, ws, kc, ks) else none
    | .retAddr j :: r => if j = 0 ∧ (k : Nat) < ls.length then some (pc + n, ls.set (k : Nat) zJ, r, ws, kc, ks) else none
    | _ => none
  | .iinc k c => match ls[k]? with
    | some (.int x) => some (pc + n, ls.set k (.int (x + Int32.ofInt c)), st, ws, kc, ks)
    | _ => none
  | .iadd => match st with
    | .int y :: .int x :: r => some (pc + n, ls, .int (x + y) :: r, ws, kc, ks)
    | _ => none
  | .isub => match st with
    | .int y :: .int x :: r => some (pc + n, ls, .int (x - y) :: r, ws, kc, ks)
    | _ => none
  | .imul => match st with
    | .int y :: .int x :: r => some (pc + n, ls, .int (x * y) :: r, ws, kc, ks)
    | _ => none
  | .idiv => match st with
    | .int y :: .int x :: r => if y = 0 then none else some (pc + n, ls, .int (x / y) :: r, ws, kc, ks)
    | _ => none
  | .irem => match st with
    | .int y :: .int x :: r => if y = 0 then none else some (pc + n, ls, .int (x - x / y * y) :: r, ws, kc, ks)
    | _ => none
  | .iand => match st with
    | .int y :: .int x :: r => some (pc + n, ls, .int (x &&& y) :: r, ws, kc, ks)
    | _ => none
  | .ior => match st with
    | .int y :: .int x :: r => some (pc + n, ls, .int (x ||| y) :: r, ws, kc, ks)
    | _ => none
  | .ishl => match st with
    | .int y :: .int x :: r => some (pc + n, ls, .int (x <<< (y &&& 31)) :: r, ws, kc, ks)
    | _ => none
  | .ishr => match st with
    | .int y :: .int x :: r => some (pc + n, ls, .int (x >>> (y &&& 31)) :: r, ws, kc, ks)
    | _ => none
  | .iushr => match st with
    | .int y :: .int x :: r => some (pc + n, ls, .int (x.toUInt32 >>> (y.toUInt32 &&& Int32.toUInt32 31)).toInt32 :: r, ws, kc, ks)
    | _ => none
  | .i2l => match st with
    | .int x :: r => some (pc + n, ls, .long x.toInt64 :: r, ws, kc, ks)
    | _ => none
  | .i2b => match st with
    | .int x :: r => some (pc + n, ls, .int x.toInt8.toInt32 :: r, ws, kc, ks)
    | _ => none
  | .i2c => match st with
    | .int x :: r => some (pc + n, ls, .int (x.toUInt32 % 65536).toInt32 :: r, ws, kc, ks)
    | _ => none
  | .lshl => match st with
    | .int y :: .long x :: r => some (pc + n, ls, .long (x <<< (y.toInt64 &&& 63)) :: r, ws, kc, ks)
    | _ => none
  | .lushr => match st with
    | .int y :: .long x :: r => some (pc + n, ls, .long (x.toUInt64 >>> (y.toInt64.toUInt64 &&& Int64.toUInt64 63)).toInt64 :: r, ws, kc, ks)
    | _ => none
  | .land => match st with
    | .long y :: .long x :: r => some (pc + n, ls, .long (x &&& y) :: r, ws, kc, ks)
    | _ => none
  | .lor => match st with
    | .long y :: .long x :: r => some (pc + n, ls, .long (x ||| y) :: r, ws, kc, ks)
    | _ => none
  | .lcmp => match st with
    | .long y :: .long x :: r => some (pc + n, ls, .int (lg_cmp x y) :: r, ws, kc, ks)
    | _ => none
  | .dup => match st with
    | .int x :: r => some (pc + n, ls, .int x :: .int x :: r, ws, kc, ks)
    | .ref x :: r => some (pc + n, ls, .ref x :: .ref x :: r, ws, kc, ks)
    | _ => none
  | .dup2 => match st with
    | .int x :: .ref y :: r => some (pc + n, ls, .int x :: .ref y :: .int x :: .ref y :: r, ws, kc, ks)
    | _ => none
  | .pop => match st with
    | .int _ :: r => some (pc + n, ls, r, ws, kc, ks)
    | _ => none
  | .goto off => match zgo pc off with
    | some t => some (t, ls, st, ws, kc, ks)
    | none => none
  | .if_icmp c off => match st with
    | .int y :: .int x :: r => match zbr (zcmp c x y) pc n off with
      | some t => some (t, ls, r, ws, kc, ks)
      | none => none
    | _ => none
  | .ifCond c off => match st with
    | .int x :: r => match zbr (zcmp c x 0) pc n off with
      | some t => some (t, ls, r, ws, kc, ks)
      | none => none
    | _ => none
  | .tableswitch dflt lo hi offs => match st with
    | .int x :: r => match zsw dflt lo hi offs x with
      | some off => match zgo pc off with
        | some t => some (t, ls, r, ws, kc, ks)
        | none => none
      | none => none
    | _ => none
  | .getfield r => match st with
    | .ref a :: s' => match zget ws a r with
      | some v => some (pc + n, ls, v :: s', ws, kc, ks)
      | none => none
    | _ => none
  | .putfield r => match st with
    | v :: .ref a :: s' => match zput q ws a r v with
      | some ws' => some (pc + n, ls, s', ws', kc, ks)
      | none => none
    | _ => none
  | .getstatic r => if r = 0 then some (pc + n, ls, .int 1 :: st, ws, kc, ks) else if r = 1 then some (pc + n, ls, .retAddr 1 :: st, ws, kc, ks) else none
  | .iaload => match st with
    | .int i :: .ref a :: r => match zald sc .int ws a i with
      | some v => some (pc + n, ls, v :: r, ws, kc, ks)
      | none => none
    | _ => none
  | .baload => match st with
    | .int i :: .ref a :: r => match zald sc .byte ws a i with
      | some v => some (pc + n, ls, v :: r, ws, kc, ks)
      | none => none
    | _ => none
  | .laload => match st with
    | .int i :: .ref a :: r => match zlal ws a i with
      | some v => some (pc + n, ls, v :: r, ws, kc, ks)
      | none => none
    | _ => none
  | .aaload => match st with
    | .int i :: .ref a :: r => match zaal ws a i with
      | some v => some (pc + n, ls, v :: r, ws, kc, ks)
      | none => none
    | _ => none
  | .arraylength => match st with
    | .ref a :: r => match zlen sc ws a with
      | some v => some (pc + n, ls, v :: r, ws, kc, ks)
      | none => none
    | _ => none
  | .iastore => match st with
    | .int x :: .int i :: .ref a :: r => match zast .int ws a i x with
      | some ws' => some (pc + n, ls, r, ws', kc, ks)
      | none => none
    | _ => none
  | .bastore => match st with
    | .int x :: .int i :: .ref a :: r => match zast .byte ws a i (vp_nar .byte x) with
      | some ws' => some (pc + n, ls, r, ws', kc, ks)
      | none => none
    | _ => none
  | .lastore => match st with
    | .long x :: .int i :: .ref a :: r => match zlas ws a i x with
      | some ws' => some (pc + n, ls, r, ws', kc, ks)
      | none => none
    | _ => none
  | .aastore => match st with
    | .ref k :: .int i :: .ref a :: r => match zaas ws a i k with
      | some ws' => some (pc + n, ls, r, ws', kc, ks)
      | none => none
    | _ => none
  | .newarray t => match st with
    | .int k :: r => match znew (newarray.typeOf t) k.toNatClampNeg with
      | some c => if ¬ k < 0 ∧ k.toNatClampNeg ≤ 60000 ∧ ws.length < 900 ∧ kc + 1 ≤ q.mc ∧ ks + k.toNatClampNeg ≤ q.ms then some (pc + n, ls, .ref ws.length :: r, ws ++ [c], kc + 1, ks + k.toNatClampNeg) else none
      | none => none
    | _ => none
  | .anewarray t => match st with
    | .int k :: r => if (t = 5 ∨ t = 12) ∧ ¬ k < 0 ∧ k.toNatClampNeg ≤ 60000 ∧ ws.length < 900 ∧ kc + 1 ≤ q.mc ∧ ks + k.toNatClampNeg ≤ q.ms then some (pc + n, ls, .ref ws.length :: r, ws ++ [.inl (.object (zCN.getD t ""), k.toNatClampNeg, .inr (.inr (.inr (.inr (fun _ => none)))))], kc + 1, ks + k.toNatClampNeg) else none
    | _ => none
  | .new ci => if ci < 11 ∧ ws.length < 900 ∧ kc + 1 ≤ q.mc ∧ ks + zNF ci ≤ q.ms then some (pc + n, ls, .ref ws.length :: st, ws ++ [.inr (ci, (zTs.getD ci []).map defaultValue)], kc + 1, ks + zNF ci) else none
  | .ldc r => if r < 48 then some (pc + n, ls, .ref (1000 + r) :: st, ws, kc, ks) else if 1000 ≤ r ∧ r - 1000 < 3 then some (pc + n, ls, .int (zIC.getD (r - 1000) 0) :: st, ws, kc, ks) else none
  | .ldc_w r => if r < 48 then some (pc + n, ls, .ref (1000 + r) :: st, ws, kc, ks) else if 1000 ≤ r ∧ r - 1000 < 3 then some (pc + n, ls, .int (zIC.getD (r - 1000) 0) :: st, ws, kc, ks) else none
  | .invokespecial r => if r = 1000 ∧ 1 ≤ d then (match st with
    | .ref _ :: s' => if zwd s' ≤ 8 then some (pc + n, ls, s', ws, kc, ks) else none
    | _ => none) else none
  | .invokestatic r =>
    if r = 1001 ∧ 1 ≤ d then (match st with
      | .int y :: .int x :: s' => if zwd s' ≤ 8 then some (pc + n, ls, .int (if y < x then y else x) :: s', ws, kc, ks) else none
      | _ => none)
    else if r = 1002 ∧ 1 ≤ d then (match st with
      | .int y :: .int x :: s' => if zwd s' ≤ 8 then some (pc + n, ls, .int (if x < y then y else x) :: s', ws, kc, ks) else none
      | _ => none)
    else if r = 1003 ∧ 1 ≤ d then (match st with
      | .int k :: .int dp :: .ref a1 :: .int sp :: .ref a0 :: s' => if zwd s' ≤ 8 then (match zcpy ws a0 sp a1 dp k with
        | some ws' => some (pc + n, ls, s', ws', kc, ks)
        | none => none) else none
      | _ => none)
    else none
  | _ => none
/-- the locals with which a method begins -/
def zloc (q : zMI) (as : List Value) : List Value := as ++ List.replicate (q.nL - as.length) zJ
/-- which handler takes an exception -/
def zhd (q : zMI) (pc e : Nat) : List (Nat × Nat × Nat × Nat) → Option Nat
  | [] => none
  | (b, f, h, t) :: r => if b ≤ pc ∧ pc < f ∧ zlk (q.cn * 10000 + t) zEL = some e then some h else zhd q pc e r
abbrev zPred : Type := Nat → Nat → Nat → List Value → List Value → List zC → Nat → Nat → zPost → Prop
/-- how a call goes on: behind it, at a handler, or out -/
def zafter (P : zPred) (q : zMI) (q1 : zMI) (mi d pc n : Nat) (ls rest : List Value) (kc ks : Nat) (Q Q1 : zPost) : Prop :=
  (∀ v ws1, Q1 (.inl v) ws1 → P mi d (pc + n) ls (v.toList ++ rest) ws1 (kc + q1.mc) (ks + q1.ms) Q) ∧
  ∀ e ws1, Q1 (.inr e) ws1 → e < 2 ∧ match zhd q pc e q.hh with
    | some h => P mi d h ls [zJ] ws1 (kc + q1.mc) (ks + q1.ms) Q
    | none => Q (.inr e) ws1
/-- the receiver of a call of a method of the class cn -/
def zrcv (ws : List zC) (b cn : Nat) : Bool :=
  if b < 1000 then match ws[b]? with
    | some (.inr (ci, _)) => decide (ci = cn ∧ ci < 11)
    | _ => false
  else decide (b - 1000 < 48 ∧ cn = 12)
def zcall (P : zPred) (q : zMI) (mi d pc n : Nat) (ls rest : List Value) (as : List Value) (ws : List zC) (kc ks : Nat) (Q : zPost) (j : Nat) (q1 : zMI) : Prop :=
  1 ≤ d ∧ zwd rest ≤ 8 ∧ zwd as = as.length ∧ as.length ≤ q1.nL ∧ kc + q1.mc ≤ q.mc ∧ ks + q1.ms ≤ q.ms ∧ ∃ Q1 : zPost, P j (d - 1) 0 (zloc q1 as) [] ws 0 0 Q1 ∧ zafter P q q1 mi d pc n ls rest kc ks Q Q1
def zret (rt : Option FieldType) (v : Int32) : Bool := match rt with
  | some .int => true
  | some .boolean => decide (v = 0 ∨ v = 1)
  | some .byte => decide (v = 0)
  | some .char => decide ((v.toUInt32 % 65536).toInt32 = v)
  | _ => false
/-- one step of the machine: P is to hold behind it -/
def zstep (sc : Nat × (Nat → Int32)) (P : zPred) (mi d pc : Nat) (ls st : List Value) (ws : List zC) (kc ks : Nat) (Q : zPost) : Prop :=
  ∃ (q : zMI) (i : Instr) (n : Nat), zM[mi]? = some q ∧ zop mi pc = some (i, n) ∧
    ((∃ pc' ls' st' ws' kc' ks', znx sc q d i n pc ls st ws kc ks = some (pc', ls', st', ws', kc', ks') ∧ P mi d pc' ls' st' ws' kc' ks' Q) ∨
     (∃ v, i = .ireturn ∧ st = [.int v] ∧ zret q.rt v = true ∧ kc ≤ q.mc ∧ ks ≤ q.ms ∧ Q (.inl (some (.int v))) ws) ∨
     (i = .return_ ∧ st = [] ∧ q.rt = none ∧ kc ≤ q.mc ∧ ks ≤ q.ms ∧ Q (.inl none) ws) ∨
     (∃ j q1 as b rest, i = .invokevirtual j ∧ zM[j]? = some q1 ∧ j < 234 ∧ st = as.reverse ++ .ref b :: rest ∧ as.length = q1.np ∧ zrcv ws b q1.cn = true ∧ q1.hh = [] ∧ zcall P q mi d pc n ls rest (.ref b :: as) ws kc ks Q j q1) ∨
     (∃ j q1 as rest, i = .invokestatic j ∧ zM[j]? = some q1 ∧ j < 234 ∧ st = as.reverse ++ rest ∧ as.length = q1.np ∧ zcall P q mi d pc n ls rest as ws kc ks Q j q1) ∨
     (∃ j j0 q1 as b rest, i = .invokespecial j0 ∧ (j0 = j ∨ j0 = 2000 + j) ∧ zM[j]? = some q1 ∧ j < 234 ∧ q1.ini = true ∧ q1.hh = [] ∧ st = as.reverse ++ .ref b :: rest ∧ as.length = q1.np ∧ 1 ≤ d ∧ zwd rest ≤ 8 ∧ (zwd as = as.length ∧ as.length + 1 ≤ q1.nL) ∧ kc + q1.mc ≤ q.mc ∧ ks + q1.ms ≤ q.ms ∧
        ∃ Q1 : zPost, P j (d - 1) 0 (zloc q1 (.ref b :: as)) [] ws 0 0 Q1 ∧ (∀ v ws1, Q1 (.inl v) ws1 → P mi d (pc + n) ls (v.toList ++ rest) ws1 (kc + q1.mc) (ks + q1.ms) Q) ∧ ∀ e ws1, ¬ Q1 (.inr e) ws1) ∨
     (∃ e s, i = .new (100 + e) ∧ e < 2 ∧ s < 48 ∧ q.cn = 9 ∧ q.hh = [] ∧ 6 ≤ d ∧ zwd st ≤ 8 ∧ kc + 1 ≤ q.mc ∧ ks + 6 ≤ q.ms ∧ zop mi (pc + 3) = some (.dup, 1) ∧
        ((zop mi (pc + 4) = some (.ldc s, 2) ∧ zop mi (pc + 6) = some (.invokespecial (1010 + e), 3) ∧ zop mi (pc + 9) = some (.athrow, 1)) ∨
         (zop mi (pc + 4) = some (.ldc_w s, 3) ∧ zop mi (pc + 7) = some (.invokespecial (1010 + e), 3) ∧ zop mi (pc + 10) = some (.athrow, 1))) ∧ Q (.inr e) ws))
/-- the machine comes to an end that Q tells: the least that is closed under its steps -/
def zEv (sc : Nat × (Nat → Int32)) : zPred := fun mi d pc ls st ws kc ks Q =>
  ∀ P : zPred, (∀ mi d pc ls st ws kc ks Q, zstep sc P mi d pc ls st ws kc ks Q → P mi d pc ls st ws kc ks Q) → P mi d pc ls st ws kc ks Q
theorem zafter_mono {P P' : zPred} (h : ∀ mi d pc ls st ws kc ks Q, P mi d pc ls st ws kc ks Q → P' mi d pc ls st ws kc ks Q) {q q1 : zMI} {mi d pc n : Nat} {ls rest : List Value} {kc ks : Nat} {Q Q1 : zPost} (a : zafter P q q1 mi d pc n ls rest kc ks Q Q1) : zafter P' q q1 mi d pc n ls rest kc ks Q Q1 := by
  refine ⟨fun v ws1 hq => h _ _ _ _ _ _ _ _ _ (a.1 v ws1 hq), fun e ws1 hq => ?_⟩
  obtain ⟨h0, h1⟩ := a.2 e ws1 hq
  refine ⟨h0, ?_⟩
  cases hz : zhd q pc e q.hh with
  | none => rw [hz] at h1; exact h1
  | some t => rw [hz] at h1; exact h _ _ _ _ _ _ _ _ _ h1
theorem zcall_mono {P P' : zPred} (h : ∀ mi d pc ls st ws kc ks Q, P mi d pc ls st ws kc ks Q → P' mi d pc ls st ws kc ks Q) {q : zMI} {mi d pc n : Nat} {ls rest as : List Value} {ws : List zC} {kc ks : Nat} {Q : zPost} {j : Nat} {q1 : zMI} (a : zcall P q mi d pc n ls rest as ws kc ks Q j q1) : zcall P' q mi d pc n ls rest as ws kc ks Q j q1 := by
  obtain ⟨h1, h2, h2a, h2b, h3, h4, Q1, h5, h6⟩ := a
  exact ⟨h1, h2, h2a, h2b, h3, h4, Q1, h _ _ _ _ _ _ _ _ _ h5, zafter_mono h h6⟩
theorem zstep_mono {sc : Nat × (Nat → Int32)} {P P' : zPred} (h : ∀ mi d pc ls st ws kc ks Q, P mi d pc ls st ws kc ks Q → P' mi d pc ls st ws kc ks Q) {mi d pc : Nat} {ls st : List Value} {ws : List zC} {kc ks : Nat} {Q : zPost} (a : zstep sc P mi d pc ls st ws kc ks Q) : zstep sc P' mi d pc ls st ws kc ks Q := by
  obtain ⟨q, i, n, h1, h2, h3⟩ := a
  refine ⟨q, i, n, h1, h2, ?_⟩
  rcases h3 with ⟨pc', ls', st', ws', kc', ks', a1, a2⟩ | h3 | h3 | ⟨j, q1, as, b, rest, b1, b2, b3, b4, b5, b6, b7, b8⟩ | ⟨j, q1, as, rest, b1, b2, b3, b4, b5, b6⟩ | ⟨j, j0, q1, as, b, rest, b1, b2, b3, b4, b5, b6, b7, b8, b9, c1, c1a, c2, c3, Q1, c4, c5, c6⟩ | h3
  · exact Or.inl ⟨pc', ls', st', ws', kc', ks', a1, h _ _ _ _ _ _ _ _ _ a2⟩
  · exact Or.inr (Or.inl h3)
  · exact Or.inr (Or.inr (Or.inl h3))
  · exact Or.inr (Or.inr (Or.inr (Or.inl ⟨j, q1, as, b, rest, b1, b2, b3, b4, b5, b6, b7, zcall_mono h b8⟩)))
  · exact Or.inr (Or.inr (Or.inr (Or.inr (Or.inl ⟨j, q1, as, rest, b1, b2, b3, b4, b5, zcall_mono h b6⟩))))
  · exact Or.inr (Or.inr (Or.inr (Or.inr (Or.inr (Or.inl ⟨j, j0, q1, as, b, rest, b1, b2, b3, b4, b5, b6, b7, b8, b9, c1, c1a, c2, c3, Q1, h _ _ _ _ _ _ _ _ _ c4, fun v ws1 hq => h _ _ _ _ _ _ _ _ _ (c5 v ws1 hq), c6⟩)))))
  · exact Or.inr (Or.inr (Or.inr (Or.inr (Or.inr (Or.inr h3)))))
theorem zEv_step {sc : Nat × (Nat → Int32)} {mi d pc : Nat} {ls st : List Value} {ws : List zC} {kc ks : Nat} {Q : zPost} (a : zstep sc (zEv sc) mi d pc ls st ws kc ks Q) : zEv sc mi d pc ls st ws kc ks Q := by
  intro P hP
  exact hP _ _ _ _ _ _ _ _ _ (zstep_mono (fun mi d pc ls st ws kc ks Q h => h P hP) a)
end
section
/-! the tables' words, looked up by their places -/
def zws : List Cond := lw_tbl.filter goodWord
theorem zws_in {w : Cond} (h : w ∈ zws) : w ∈ lw_tbl := (List.mem_filter.mp h).1
theorem zws_good {w : Cond} (h : w ∈ zws) : goodWord w = true := (List.mem_filter.mp h).2
theorem zws_of {w : Cond} (h : w ∈ lw_tbl) (g : goodWord w = true) : w ∈ zws := List.mem_filter.mpr ⟨h, g⟩
theorem zgood : GoodIn zws zws := fun w h => ⟨h, good_of_word (zws_good h)⟩
def zchk {α : Type} (c : α → Cond) (l : List α) (ps : List Nat) : Bool := decide (l.length = ps.length) && (l.zip ps).all (fun x => decide (lw_tbl[x.2]? = some (c x.1)))
theorem zchk_spec {α : Type} {c : α → Cond} {l : List α} {ps : List Nat} (h : zchk c l ps = true) {a : α} (ha : a ∈ l) : c a ∈ lw_tbl := by
  simp only [zchk, Bool.and_eq_true, decide_eq_true_eq, List.all_eq_true] at h
  obtain ⟨i, hi, rfl⟩ := List.getElem_of_mem ha
  have hp : i < ps.length := by rw [← h.1]; exact hi
  have h2 := h.2 (l[i], ps[i]) (by
    have : (l.zip ps)[i]? = some (l[i], ps[i]) := by simp [List.getElem?_zip_eq_some, hi, hp]
    exact List.mem_of_getElem? this)
  exact List.mem_of_getElem? h2
/-- a field's declarer, name and type -/
def zft (r : Nat) : String × String × String :=
  if r = 9900 then ("java/lang/String", "value", "[B") else if r = 9901 then ("java/lang/String", "coder", "B") else ((zT (r / 100) (r % 100)).1, (zT (r / 100) (r % 100)).2.1, (zT (r / 100) (r % 100)).2.2.1)
def zfc (e : Nat × Nat) : Cond := .fieldLink (zCN.getD (e.1 / 10000) "") (e.1 % 10000) (zft e.2).1 (zft e.2).2.1 (zft e.2).2.2
theorem zFL_c : zchk zfc zFL zFLp = true := by decide +kernel
theorem zFL_ok {e : Nat × Nat} (h : e ∈ zFL) : zfc e ∈ zws := zws_of (zchk_spec zFL_c h) rfl
/-- fields that are linked are fields of their class, or a text's two -/
def zfr (r : Nat) : Bool := decide (r = 9900 ∨ r = 9901 ∨ (r / 100 < 11 ∧ r % 100 < zNF (r / 100)))
theorem zFL_r : zFL.all (fun e => zfr e.2) = true := by decide +kernel
def zgc (e : Nat × Nat) : Cond := if e.2 = 0 then .fieldLink (zCN.getD (e.1 / 10000) "") (e.1 % 10000) "java/lang/String" "COMPACT_STRINGS" "Z" else .fieldLink (zCN.getD (e.1 / 10000) "") (e.1 % 10000) "jdk/internal/util/Preconditions" "SIOOBE_FORMATTER" "Ljava/util/function/BiFunction;"
theorem zGL_c : zchk zgc zGL zGLp = true := by decide +kernel
theorem zGL_ok {e : Nat × Nat} (h : e ∈ zGL) : zgc e ∈ zws := zws_of (zchk_spec zGL_c h) (by unfold zgc; split <;> rfl)
/-- the name of what a number calls -/
def zcy (r : Nat) : MethodName :=
  if r = 1000 then Lib.objectInit else if r = 1001 then Lib.Math.min.name else if r = 1002 then Lib.Math.max.name else if r = 1003 then arraycopyName
  else if r = 1010 then ⟨"java/util/NoSuchElementException", "<init>", "(Ljava/lang/String;)V"⟩ else if r = 1011 then ⟨"java/lang/IllegalArgumentException", "<init>", "(Ljava/lang/String;)V"⟩
  else (zM.getD r zm0).1
def zmc (e : Nat × Nat) : Cond := .methodLink (zCN.getD (e.1 / 10000) "") (e.1 % 10000) (zcy e.2)
theorem zML_c : zchk zmc zML zMLp = true := by decide +kernel
theorem zML_ok {e : Nat × Nat} (h : e ∈ zML) : zmc e ∈ zws := zws_of (zchk_spec zML_c h) rfl
theorem zML_r : zML.all (fun e => decide (e.2 < 234 ∨ (1000 ≤ e.2 ∧ e.2 < 1012))) = true := by decide +kernel
def znc (e : Nat × Nat) : Cond := .methodLinkNest (zCN.getD (e.1 / 10000) "") (e.1 % 10000) (zcy e.2) "CobblePorts"
theorem zNL_c : zchk znc zNL zNLp = true := by decide +kernel
theorem zNL_ok {e : Nat × Nat} (h : e ∈ zNL) : znc e ∈ lw_tbl := zchk_spec zNL_c h
theorem zNL_r : zNL.all (fun e => decide (e.2 < 234)) = true := by decide +kernel
def zcc (e : Nat × Nat) : Cond := .classLink (zCN.getD (e.1 / 10000) "") (e.1 % 10000) (zCN.getD e.2 "")
theorem zCL_c : zchk zcc zCL zCLp = true := by decide +kernel
theorem zCL_ok {e : Nat × Nat} (h : e ∈ zCL) : zcc e ∈ zws := zws_of (zchk_spec zCL_c h) rfl
def zEN (e : Nat) : String := if e = 0 then "java/util/NoSuchElementException" else "java/lang/IllegalArgumentException"
def zec (e : Nat × Nat) : Cond := .classLink (zCN.getD (e.1 / 10000) "") (e.1 % 10000) (zEN e.2)
theorem zEL_c : zchk zec zEL zELp = true := by decide +kernel
theorem zEL_ok {e : Nat × Nat} (h : e ∈ zEL) : zec e ∈ zws := zws_of (zchk_spec zEL_c h) rfl
theorem zEL_r : zEL.all (fun e => decide (e.2 < 2)) = true := by decide +kernel
def zsn (r : Nat) : String × Nat × String := zStr.getD r ("", 0, "")
def zsc (e : Nat × Nat) : Cond := .stringRef (zCN.getD (e.1 / 10000) "") (e.1 % 10000) (zsn e.2).2.2
theorem zSL_c : zchk zsc zSL zSLp = true := by decide +kernel
theorem zSL_r : zSL.all (fun e => decide (e.2 < 48 ∧ (zsn e.2).1 = zCN.getD (e.1 / 10000) "" ∧ (zsn e.2).2.1 = e.1 % 10000)) = true := by decide +kernel
def zic (e : Nat × Nat) : Cond := .constant (zCN.getD (e.1 / 10000) "") (e.1 % 10000) (zIC.getD e.2 0)
theorem zIL_c : zchk zic zIL zILp = true := by decide +kernel
theorem zIL_ok {e : Nat × Nat} (h : e ∈ zIL) : zic e ∈ zws := zws_of (zchk_spec zIL_c h) rfl
/-- a method's code word -/
def zkw (q : zMI) : Cond := if q.hh = [] then .code q.y q.cc q.nL q.rt else .codeWith q.y q.cc q.nL q.rt q.hh
theorem zM_i : zchk (fun q : zMI => Cond.initialized q.y.cls) (zM.take 234) zMi = true := by decide +kernel
def zMg (q : zMI) : Bool := plainName q.y.cls && decide (q.y.cls ≠ "java/lang/invoke/MethodHandle") && decide (q.y.cls ≠ "java/lang/invoke/VarHandle") && decide ((parseMethodDescriptor q.y.desc).map (fun d => d.parameters.length) = some q.np) && decide (q.y.cls = zCN.getD q.cn "") && decide (q.nL ≤ 40) && decide (q.cn < 16)
theorem zM_g : (zM.take 234).all zMg = true := by decide +kernel
theorem zM_n : zM.all (fun q => decide (q.cn < 16 ∧ q.y.cls = zCN.getD q.cn "" ∧ (q.ini = true → q.y.name = "<init>" ∧ q.rt = none) ∧ q.mc ≤ 601024 ∧ q.ms ≤ 7293034)) = true := by decide +kernel
theorem zM_v : ((zM.take 234).zip zMv).all (fun x => (decide (x.2.1 = 9999) || decide (lw_tbl[x.2.1]? = some (.instanceMethod x.1.y))) && (decide (x.2.2 = 9999) || decide (lw_tbl[x.2.2]? = some (.selects x.1.y.cls x.1.y x.1.y)))) = true := by decide +kernel
theorem zM_s : ((zM.take 234).zip zMs).all (fun x => decide (x.2 = 9999) || decide (lw_tbl[x.2]? = some (.static x.1.y))) = true := by decide +kernel
theorem zM_len : zM.length = 235 ∧ zMv.length = 234 ∧ zMs.length = 234 := by decide +kernel
/-- classes: what their fields lay, that they can be made -/
theorem zL_c : (List.range 11).all (fun ci => zchk id (u_ws (zCN.getD ci "") (zT ci) (zNF ci)) (zLp.getD ci [])) = true := by decide +kernel
theorem zL_g : (List.range 11).all (fun ci => (u_ws (zCN.getD ci "") (zT ci) (zNF ci)).all goodWord) = true := by decide +kernel
theorem zI_c : (List.range 11).all (fun ci => decide (lw_tbl[zIp.getD ci 0]? = some (.instantiable (zCN.getD ci "") (zNF ci)) ∧ lw_tbl[zCi.getD ci 0]? = some (.initialized (zCN.getD ci "")))) = true := by decide +kernel
theorem zT_ty : (List.range 11).all (fun ci => (List.range (zNF ci)).all (fun k => decide (parseFieldDescriptor (zT ci k).2.2.1 = some (zty ci k)))) = true := by decide +kernel
theorem zT_nm : (List.range 11).all (fun ci => (List.range (zNF ci)).all (fun a => (List.range (zNF ci)).all (fun b => decide (a = b) || decide ((zT ci a).2.1 ≠ (zT ci b).2.1)))) = true := by decide +kernel
theorem zT_own : (List.range 11).all (fun ci => (List.range (zNF ci)).all (fun k => decide ((zT ci k).1 = zCN.getD ci "")) && decide ((zTs.getD ci []).length = zNF ci)) = true := by decide +kernel
theorem zCN_ne : (List.range 11).all (fun i => (List.range 11).all (fun j => decide (i = j) || decide (zCN.getD i "" ≠ zCN.getD j ""))) = true := by decide +kernel
theorem zM_h : zM.all (fun q => q.hh.all (fun r => decide (r.2.2.2 ≠ 0 ∧ r.2.2.2 < 10000 ∧ (zlk (q.cn * 10000 + r.2.2.2) zEL).isSome = true))) = true := by decide +kernel
end
section
theorem zpt1 {w : Cond} (h : w ∈ tables_1_1) : w ∈ lw_tbl := List.mem_append_right _ (List.mem_append_left _ h)
theorem zpt2 {w : Cond} (h : w ∈ tables_1_2) : w ∈ lw_tbl := List.mem_append_right _ (List.mem_append_right _ (List.mem_append_left _ h))
theorem zpt3 {w : Cond} (h : w ∈ tables_1_3) : w ∈ lw_tbl := List.mem_append_right _ (List.mem_append_right _ (List.mem_append_right _ (List.mem_append_left _ h)))
theorem zpt4 {w : Cond} (h : w ∈ tables_1_4) : w ∈ lw_tbl := List.mem_append_right _ (List.mem_append_right _ (List.mem_append_right _ (List.mem_append_right _ (List.mem_append_left _ h))))
theorem zpt5 {w : Cond} (h : w ∈ tables_1_5) : w ∈ lw_tbl := List.mem_append_right _ (List.mem_append_right _ (List.mem_append_right _ (List.mem_append_right _ (List.mem_append_right _ (List.mem_append_left _ h)))))
theorem zpt6 {w : Cond} (h : w ∈ tables_1_6) : w ∈ lw_tbl := List.mem_append_right _ (List.mem_append_right _ (List.mem_append_right _ (List.mem_append_right _ (List.mem_append_right _ (List.mem_append_right _ (List.mem_append_left _ h))))))
theorem zpt7 {w : Cond} (h : w ∈ tables_1_7) : w ∈ lw_tbl := List.mem_append_right _ (List.mem_append_right _ (List.mem_append_right _ (List.mem_append_right _ (List.mem_append_right _ (List.mem_append_right _ (List.mem_append_right _ h))))))
theorem zk_0 : zkw zm0 ∈ lw_tbl := zpt2 (List.mem_of_getElem? (i := 84) (show tables_1_2[84]? = some (Cond.code ⟨"CobblePorts$RouteSearch", "<init>", "()V"⟩ prog_2_method_1_code 2 none) from rfl))
theorem zk_1 : zkw zm1 ∈ lw_tbl := zpt2 (List.mem_of_getElem? (i := 198) (show tables_1_2[198]? = some (Cond.code ⟨"CobblePorts$RouteSearch", "seekFitting", "(LCobblePorts$World;LCobblePorts$State;)I"⟩ prog_2_method_3_code 3 (some .int)) from rfl))
theorem zk_2 : zkw zm2 ∈ lw_tbl := zpt2 (List.mem_of_getElem? (i := 202) (show tables_1_2[202]? = some (Cond.code ⟨"CobblePorts$RouteSearch", "planTrips", "(LCobblePorts$State;)V"⟩ prog_2_method_4_code 6 none) from rfl))
theorem zk_3 : zkw zm3 ∈ lw_tbl := zpt2 (List.mem_of_getElem? (i := 207) (show tables_1_2[207]? = some (Cond.code ⟨"CobblePorts$RouteSearch", "tryLegs", "(LCobblePorts$World;LCobblePorts$State;I)V"⟩ prog_2_method_5_code 7 none) from rfl))
theorem zk_4 : zkw zm4 ∈ lw_tbl := zpt2 (List.mem_of_getElem? (i := 211) (show tables_1_2[211]? = some (Cond.code ⟨"CobblePorts$RouteSearch", "judge", "(LCobblePorts$World;LCobblePorts$State;)V"⟩ prog_2_method_6_code 3 none) from rfl))
theorem zk_5 : zkw zm5 ∈ lw_tbl := zpt2 (List.mem_of_getElem? (i := 215) (show tables_1_2[215]? = some (Cond.code ⟨"CobblePorts$RouteSearch", "judgeMud", "(LCobblePorts$World;LCobblePorts$State;)V"⟩ prog_2_method_7_code 6 none) from rfl))
theorem zk_6 : zkw zm6 ∈ lw_tbl := zpt2 (List.mem_of_getElem? (i := 231) (show tables_1_2[231]? = some (Cond.code ⟨"CobblePorts$RouteSearch", "keepTried", "()V"⟩ prog_2_method_8_code 1 none) from rfl))
theorem zk_7 : zkw zm7 ∈ lw_tbl := zpt5 (List.mem_of_getElem? (i := 89) (show tables_1_5[89]? = some (Cond.code ⟨"CobblePorts$RouteSearch", "seekBest", "(LCobblePorts$World;LCobblePorts$State;I)I"⟩ prog_2_method_2_code 4 (some .int)) from rfl))
theorem zk_8 : zkw zm8 ∈ lw_tbl := zpt1 (List.mem_of_getElem? (i := 190) (show tables_1_1[190]? = some (Cond.code ⟨"CobblePorts$State", "<init>", "()V"⟩ prog_3_method_1_code 1 none) from rfl))
theorem zk_9 : zkw zm9 ∈ lw_tbl := zpt2 (List.mem_of_getElem? (i := 159) (show tables_1_2[159]? = some (Cond.code ⟨"CobblePorts$State", "undoVoyage", "(LCobblePorts$World;)V"⟩ prog_3_method_4_code 2 none) from rfl))
theorem zk_10 : zkw zm10 ∈ lw_tbl := zpt2 (List.mem_of_getElem? (i := 236) (show tables_1_2[236]? = some (Cond.code ⟨"CobblePorts$State", "isAsRead", "()Z"⟩ prog_3_method_7_code 2 (some .boolean)) from rfl))
theorem zk_11 : zkw zm11 ∈ lw_tbl := zpt3 (List.mem_of_getElem? (i := 38) (show tables_1_3[38]? = some (Cond.code ⟨"CobblePorts$State", "copyFrom", "(LCobblePorts$State;)V"⟩ prog_3_method_8_code 2 none) from rfl))
theorem zk_12 : zkw zm12 ∈ lw_tbl := zpt4 (List.mem_of_getElem? (i := 91) (show tables_1_4[91]? = some (Cond.code ⟨"CobblePorts$State", "begin", "(LCobblePorts$World;)V"⟩ prog_3_method_2_code 2 none) from rfl))
theorem zk_13 : zkw zm13 ∈ lw_tbl := zpt4 (List.mem_of_getElem? (i := 218) (show tables_1_4[218]? = some (Cond.code ⟨"CobblePorts$State", "makeVoyage", "(LCobblePorts$World;III)I"⟩ prog_3_method_3_code 5 (some .int)) from rfl))
theorem zk_14 : zkw zm14 ∈ lw_tbl := zpt5 (List.mem_of_getElem? (i := 78) (show tables_1_5[78]? = some (Cond.code ⟨"CobblePorts$State", "addLeg", "(II)V"⟩ prog_3_method_5_code 3 none) from rfl))
theorem zk_15 : zkw zm15 ∈ lw_tbl := zpt5 (List.mem_of_getElem? (i := 100) (show tables_1_5[100]? = some (Cond.code ⟨"CobblePorts$State", "addRead", "(III)V"⟩ prog_3_method_6_code 4 none) from rfl))
theorem zk_16 : zkw zm16 ∈ lw_tbl := zpt1 (List.mem_of_getElem? (i := 196) (show tables_1_1[196]? = some (Cond.code ⟨"CobblePorts$Streets", "<init>", "()V"⟩ prog_4_method_1_code 1 none) from rfl))
theorem zk_17 : zkw zm17 ∈ lw_tbl := zpt2 (List.mem_of_getElem? (i := 182) (show tables_1_2[182]? = some (Cond.code ⟨"CobblePorts$Streets", "lift", "(LCobblePorts$World;II)I"⟩ prog_4_method_9_code 7 (some .int)) from rfl))
theorem zk_18 : zkw zm18 ∈ lw_tbl := zpt2 (List.mem_of_getElem? (i := 186) (show tables_1_2[186]? = some (Cond.code ⟨"CobblePorts$Streets", "insert", "(LCobblePorts$World;III)V"⟩ prog_4_method_8_code 7 none) from rfl))
theorem zk_19 : zkw zm19 ∈ lw_tbl := zpt2 (List.mem_of_getElem? (i := 219) (show tables_1_2[219]? = some (Cond.code ⟨"CobblePorts$Streets", "mudOf", "(LCobblePorts$World;I)I"⟩ prog_4_method_6_code 3 (some .int)) from rfl))
theorem zk_20 : zkw zm20 ∈ lw_tbl := zpt2 (List.mem_of_getElem? (i := 226) (show tables_1_2[226]? = some (Cond.code ⟨"CobblePorts$Streets", "mudOfAll", "(LCobblePorts$World;)I"⟩ prog_4_method_7_code 4 (some .int)) from rfl))
theorem zk_21 : zkw zm21 ∈ lw_tbl := zpt3 (List.mem_of_getElem? (i := 0) (show tables_1_3[0]? = some (Cond.code ⟨"CobblePorts$Streets", "manyOf", "(II)I"⟩ prog_4_method_4_code 3 (some .int)) from rfl))
theorem zk_22 : zkw zm22 ∈ lw_tbl := zpt3 (List.mem_of_getElem? (i := 12) (show tables_1_3[12]? = some (Cond.code ⟨"CobblePorts$Streets", "placeToTake", "(LCobblePorts$World;II)I"⟩ prog_4_method_10_code 5 (some .int)) from rfl))
theorem zk_23 : zkw zm23 ∈ lw_tbl := zpt3 (List.mem_of_getElem? (i := 16) (show tables_1_3[16]? = some (Cond.code ⟨"CobblePorts$Streets", "squarestPlace", "(LCobblePorts$World;I)I"⟩ prog_4_method_14_code 7 (some .int)) from rfl))
theorem zk_24 : zkw zm24 ∈ lw_tbl := zpt3 (List.mem_of_getElem? (i := 20) (show tables_1_3[20]? = some (Cond.code ⟨"CobblePorts$Streets", "stoneAt", "(II)I"⟩ prog_4_method_3_code 3 (some .int)) from rfl))
theorem zk_25 : zkw zm25 ∈ lw_tbl := zpt3 (List.mem_of_getElem? (i := 24) (show tables_1_3[24]? = some (Cond.code ⟨"CobblePorts$Streets", "lastPlaceOfOrigin", "(LCobblePorts$World;II)I"⟩ prog_4_method_15_code 5 (some .int)) from rfl))
theorem zk_26 : zkw zm26 ∈ lw_tbl := zpt3 (List.mem_of_getElem? (i := 42) (show tables_1_3[42]? = some (Cond.code ⟨"CobblePorts$Streets", "copyFrom", "(LCobblePorts$Streets;)V"⟩ prog_4_method_13_code 2 none) from rfl))
theorem zk_27 : zkw zm27 ∈ lw_tbl := zpt4 (List.mem_of_getElem? (i := 95) (show tables_1_4[95]? = some (Cond.code ⟨"CobblePorts$Streets", "begin", "(LCobblePorts$World;)V"⟩ prog_4_method_2_code 4 none) from rfl))
theorem zk_28 : zkw zm28 ∈ lw_tbl := zpt4 (List.mem_of_getElem? (i := 179) (show tables_1_4[179]? = some (Cond.code ⟨"CobblePorts$Streets", "placeOf", "(I)I"⟩ prog_4_method_5_code 4 (some .int)) from rfl))
theorem zk_29 : zkw zm29 ∈ lw_tbl := zpt5 (List.mem_of_getElem? (i := 66) (show tables_1_5[66]? = some (Cond.code ⟨"CobblePorts$Streets", "leastWay", "(LCobblePorts$World;II)I"⟩ prog_4_method_11_code 10 (some .int)) from rfl))
theorem zk_30 : zkw zm30 ∈ lw_tbl := zpt5 (List.mem_of_getElem? (i := 139) (show tables_1_5[139]? = some (Cond.code ⟨"CobblePorts$Streets", "shuffle", "(III)V"⟩ prog_4_method_12_code 11 none) from rfl))
theorem zk_31 : zkw zm31 ∈ lw_tbl := zpt1 (List.mem_of_getElem? (i := 42) (show tables_1_1[42]? = some (Cond.code ⟨"CobblePorts$Tape", "<init>", "()V"⟩ prog_5_method_1_code 1 none) from rfl))
theorem zk_32 : zkw zm32 ∈ lw_tbl := zpt2 (List.mem_of_getElem? (i := 147) (show tables_1_2[147]? = some (Cond.code ⟨"CobblePorts$Tape", "putNumber", "(I)V"⟩ prog_5_method_2_code 3 none) from rfl))
theorem zk_33 : zkw zm33 ∈ lw_tbl := zpt3 (List.mem_of_getElem? (i := 138) (show tables_1_3[138]? = some (Cond.code ⟨"CobblePorts$Tape", "openText", "(I)V"⟩ prog_5_method_3_code 2 none) from rfl))
theorem zk_34 : zkw zm34 ∈ lw_tbl := zpt3 (List.mem_of_getElem? (i := 145) (show tables_1_3[145]? = some (Cond.code ⟨"CobblePorts$Tape", "nextToken", "()V"⟩ prog_5_method_4_code 1 none) from rfl))
theorem zk_35 : zkw zm35 ∈ lw_tbl := zpt3 (List.mem_of_getElem? (i := 148) (show tables_1_3[148]? = some (Cond.code ⟨"CobblePorts$Tape", "isBlank", "(I)Z"⟩ prog_5_method_7_code 1 (some .boolean)) from rfl))
theorem zk_36 : zkw zm36 ∈ lw_tbl := zpt3 (List.mem_of_getElem? (i := 151) (show tables_1_3[151]? = some (Cond.code ⟨"CobblePorts$Tape", "isLetter", "(I)Z"⟩ prog_5_method_8_code 1 (some .boolean)) from rfl))
theorem zk_37 : zkw zm37 ∈ lw_tbl := zpt3 (List.mem_of_getElem? (i := 154) (show tables_1_3[154]? = some (Cond.code ⟨"CobblePorts$Tape", "isDigit", "(I)Z"⟩ prog_5_method_9_code 1 (some .boolean)) from rfl))
theorem zk_38 : zkw zm38 ∈ lw_tbl := zpt3 (List.mem_of_getElem? (i := 163) (show tables_1_3[163]? = some (Cond.code ⟨"CobblePorts$Tape", "isWord", "(Ljava/lang/String;)Z"⟩ prog_5_method_5_code 3 (some .boolean)) from rfl))
theorem zk_39 : zkw zm39 ∈ lw_tbl := zpt4 (List.mem_of_getElem? (i := 16) (show tables_1_4[16]? = some (Cond.code ⟨"CobblePorts$Tape", "isSign", "(C)Z"⟩ prog_5_method_6_code 2 (some .boolean)) from rfl))
theorem zk_40 : zkw zm40 ∈ lw_tbl := zpt1 (List.mem_of_getElem? (i := 81) (show tables_1_1[81]? = some (Cond.code ⟨"CobblePorts$Tariff", "<init>", "()V"⟩ prog_6_method_1_code 1 none) from rfl))
theorem zk_41 : zkw zm41 ∈ lw_tbl := zpt4 (List.mem_of_getElem? (i := 49) (show tables_1_4[49]? = some (Cond.code ⟨"CobblePorts$Tariff", "addStep", "(I)V"⟩ prog_6_method_2_code 2 none) from rfl))
theorem zk_42 : zkw zm42 ∈ lw_tbl := zpt4 (List.mem_of_getElem? (i := 86) (show tables_1_4[86]? = some (Cond.code ⟨"CobblePorts$Tariff", "copyFrom", "(LCobblePorts$Tariff;)V"⟩ prog_6_method_5_code 2 none) from rfl))
theorem zk_43 : zkw zm43 ∈ lw_tbl := zpt4 (List.mem_of_getElem? (i := 233) (show tables_1_4[233]? = some (Cond.code ⟨"CobblePorts$Tariff", "setValue", "(II)V"⟩ prog_6_method_3_code 4 none) from rfl))
theorem zk_44 : zkw zm44 ∈ lw_tbl := zpt4 (List.mem_of_getElem? (i := 239) (show tables_1_4[239]? = some (Cond.code ⟨"CobblePorts$Tariff", "result", "()I"⟩ prog_6_method_4_code 2 (some .int)) from rfl))
theorem zk_45 : zkw zm45 ∈ lw_tbl := zpt5 (List.mem_of_getElem? (i := 3) (show tables_1_5[3]? = some (Cond.code ⟨"CobblePorts$Tariff", "doStep", "(I)V"⟩ prog_6_method_6_code 4 none) from rfl))
theorem zk_46 : zkw zm46 ∈ lw_tbl := zpt5 (List.mem_of_getElem? (i := 7) (show tables_1_5[7]? = some (Cond.code ⟨"CobblePorts$Tariff", "push", "(I)V"⟩ prog_6_method_8_code 2 none) from rfl))
theorem zk_47 : zkw zm47 ∈ lw_tbl := zpt5 (List.mem_of_getElem? (i := 11) (show tables_1_5[11]? = some (Cond.code ⟨"CobblePorts$Tariff", "pop", "()I"⟩ prog_6_method_9_code 1 (some .int)) from rfl))
theorem zk_48 : zkw zm48 ∈ lw_tbl := zpt5 (List.mem_of_getElem? (i := 14) (show tables_1_5[14]? = some (Cond.code ⟨"CobblePorts$Tariff", "join", "(III)I"⟩ prog_6_method_7_code 3 (some .int)) from rfl))
theorem zk_49 : zkw zm49 ∈ lw_tbl := zpt2 (List.mem_of_getElem? (i := 3) (show tables_1_2[3]? = some (Cond.code ⟨"CobblePorts$Trip", "<init>", "()V"⟩ prog_7_method_1_code 1 none) from rfl))
theorem zk_50 : zkw zm50 ∈ lw_tbl := zpt2 (List.mem_of_getElem? (i := 171) (show tables_1_2[171]? = some (Cond.code ⟨"CobblePorts$Trip", "begin", "(III)V"⟩ prog_7_method_2_code 4 none) from rfl))
theorem zk_51 : zkw zm51 ∈ lw_tbl := zpt2 (List.mem_of_getElem? (i := 178) (show tables_1_2[178]? = some (Cond.code ⟨"CobblePorts$Trip", "carryBack", "(LCobblePorts$World;LCobblePorts$Streets;)V"⟩ prog_7_method_4_code 5 none) from rfl))
theorem zk_52 : zkw zm52 ∈ lw_tbl := zpt3 (List.mem_of_getElem? (i := 8) (show tables_1_3[8]? = some (Cond.code ⟨"CobblePorts$Trip", "carryUpTo", "(LCobblePorts$World;LCobblePorts$Streets;I)V"⟩ prog_7_method_3_code 7 none) from rfl))
theorem zk_53 : zkw zm53 ∈ lw_tbl := zpt1 (List.mem_of_getElem? (i := 215) (show tables_1_1[215]? = some (Cond.code ⟨"CobblePorts$Voyages", "<init>", "()V"⟩ prog_8_method_1_code 1 none) from rfl))
theorem zk_54 : zkw zm54 ∈ lw_tbl := zpt2 (List.mem_of_getElem? (i := 163) (show tables_1_2[163]? = some (Cond.code ⟨"CobblePorts$Voyages", "removeLast", "(LCobblePorts$Trip;)V"⟩ prog_8_method_6_code 2 none) from rfl))
theorem zk_55 : zkw zm55 ∈ lw_tbl := zpt2 (List.mem_of_getElem? (i := 167) (show tables_1_2[167]? = some (Cond.code ⟨"CobblePorts$Voyages", "factOf", "(II)I"⟩ prog_8_method_3_code 3 (some .int)) from rfl))
theorem zk_56 : zkw zm56 ∈ lw_tbl := zpt3 (List.mem_of_getElem? (i := 47) (show tables_1_3[47]? = some (Cond.code ⟨"CobblePorts$Voyages", "copyFrom", "(LCobblePorts$Voyages;)V"⟩ prog_8_method_14_code 2 none) from rfl))
theorem zk_57 : zkw zm57 ∈ lw_tbl := zpt4 (List.mem_of_getElem? (i := 103) (show tables_1_4[103]? = some (Cond.code ⟨"CobblePorts$Voyages", "begin", "()V"⟩ prog_8_method_2_code 2 none) from rfl))
theorem zk_58 : zkw zm58 ∈ lw_tbl := zpt4 (List.mem_of_getElem? (i := 116) (show tables_1_4[116]? = some (Cond.code ⟨"CobblePorts$Voyages", "tollOfAll", "()I"⟩ prog_8_method_7_code 3 (some .int)) from rfl))
theorem zk_59 : zkw zm59 ∈ lw_tbl := zpt4 (List.mem_of_getElem? (i := 149) (show tables_1_4[149]? = some (Cond.code ⟨"CobblePorts$Voyages", "priceIn", "(I)I"⟩ prog_8_method_4_code 2 (some .int)) from rfl))
theorem zk_60 : zkw zm60 ∈ lw_tbl := zpt4 (List.mem_of_getElem? (i := 167) (show tables_1_4[167]? = some (Cond.code ⟨"CobblePorts$Voyages", "portOf", "(LCobblePorts$World;II)I"⟩ prog_8_method_11_code 5 (some .int)) from rfl))
theorem zk_61 : zkw zm61 ∈ lw_tbl := zpt4 (List.mem_of_getElem? (i := 171) (show tables_1_4[171]? = some (Cond.code ⟨"CobblePorts$Voyages", "lastThatLaid", "(II)I"⟩ prog_8_method_10_code 4 (some .int)) from rfl))
theorem zk_62 : zkw zm62 ∈ lw_tbl := zpt4 (List.mem_of_getElem? (i := 175) (show tables_1_4[175]? = some (Cond.code ⟨"CobblePorts$Voyages", "hasLaid", "(II)Z"⟩ prog_8_method_15_code 3 (some .boolean)) from rfl))
theorem zk_63 : zkw zm63 ∈ lw_tbl := zpt4 (List.mem_of_getElem? (i := 184) (show tables_1_4[184]? = some (Cond.code ⟨"CobblePorts$Voyages", "portsOf", "(LCobblePorts$World;I)I"⟩ prog_8_method_12_code 5 (some .int)) from rfl))
theorem zk_64 : zkw zm64 ∈ lw_tbl := zpt4 (List.mem_of_getElem? (i := 225) (show tables_1_4[225]? = some (Cond.code ⟨"CobblePorts$Voyages", "add", "(LCobblePorts$World;LCobblePorts$Streets;LCobblePorts$Trip;I)V"⟩ prog_8_method_5_code 6 none) from rfl))
theorem zk_65 : zkw zm65 ∈ lw_tbl := zpt4 (List.mem_of_getElem? (i := 229) (show tables_1_4[229]? = some (Cond.code ⟨"CobblePorts$Voyages", "noteLaid", "(LCobblePorts$World;LCobblePorts$Streets;LCobblePorts$Trip;)I"⟩ prog_8_method_16_code 9 (some .int)) from rfl))
theorem zk_66 : zkw zm66 ∈ lw_tbl := zpt5 (List.mem_of_getElem? (i := 18) (show tables_1_5[18]? = some (Cond.code ⟨"CobblePorts$Voyages", "notePrices", "(LCobblePorts$World;LCobblePorts$Streets;)V"⟩ prog_8_method_17_code 6 none) from rfl))
theorem zk_67 : zkw zm67 ∈ lw_tbl := zpt5 (List.mem_of_getElem? (i := 43) (show tables_1_5[43]? = some (Cond.code ⟨"CobblePorts$Voyages", "laidBetween", "(II)I"⟩ prog_8_method_8_code 5 (some .int)) from rfl))
theorem zk_68 : zkw zm68 ∈ lw_tbl := zpt5 (List.mem_of_getElem? (i := 54) (show tables_1_5[54]? = some (Cond.code ⟨"CobblePorts$Voyages", "firstMeeting", "(LCobblePorts$World;II)I"⟩ prog_8_method_13_code 5 (some .int)) from rfl))
theorem zk_69 : zkw zm69 ∈ lw_tbl := zpt5 (List.mem_of_getElem? (i := 120) (show tables_1_5[120]? = some (Cond.code ⟨"CobblePorts$Voyages", "tookFrom", "(II)Z"⟩ prog_8_method_9_code 3 (some .boolean)) from rfl))
theorem zk_70 : zkw zm70 ∈ lw_tbl := zpt1 (List.mem_of_getElem? (i := 75) (show tables_1_1[75]? = some (Cond.code ⟨"CobblePorts$World", "<init>", "()V"⟩ prog_9_method_1_code 1 none) from rfl))
theorem zk_71 : zkw zm71 ∈ lw_tbl := zpt3 (List.mem_of_getElem? (i := 4) (show tables_1_3[4]? = some (Cond.code ⟨"CobblePorts$World", "stonesWanted", "(II)I"⟩ prog_9_method_6_code 4 (some .int)) from rfl))
theorem zk_72 : zkw zm72 ∈ lw_tbl := zpt3 (List.mem_of_getElem? (i := 134) (show tables_1_3[134]? = some (Cond.code ⟨"CobblePorts$World", "clear", "()V"⟩ prog_9_method_2_code 1 none) from rfl))
theorem zk_73 : zkw zm73 ∈ lw_tbl := zpt3 (List.mem_of_getElem? (i := 229) (show tables_1_3[229]? = some (Cond.code ⟨"CobblePorts$World", "addPort", "(II)V"⟩ prog_9_method_3_code 3 none) from rfl))
theorem zk_74 : zkw zm74 ∈ lw_tbl := zpt4 (List.mem_of_getElem? (i := 3) (show tables_1_4[3]? = some (Cond.code ⟨"CobblePorts$World", "addStones", "(III)V"⟩ prog_9_method_4_code 5 none) from rfl))
theorem zk_75 : zkw zm75 ∈ lw_tbl := zpt4 (List.mem_of_getElem? (i := 77) (show tables_1_4[77]? = some (Cond.code ⟨"CobblePorts$World", "addShip", "(III)V"⟩ prog_9_method_5_code 4 none) from rfl))
theorem zk_76 : zkw zm76 ∈ lw_tbl := zpt4 (List.mem_of_getElem? (i := 81) (show tables_1_4[81]? = some (Cond.code ⟨"CobblePorts$World", "copyFrom", "(LCobblePorts$World;)V"⟩ prog_9_method_7_code 2 none) from rfl))
theorem zk_77 : zkw zm77 ∈ lw_tbl := zpt1 (List.mem_of_getElem? (i := 36) (show tables_1_1[36]? = some (Cond.code ⟨"CobblePorts$WorldParser", "<init>", "()V"⟩ prog_10_method_1_code 1 none) from rfl))
theorem zk_78 : zkw zm78 ∈ lw_tbl := zpt3 (List.mem_of_getElem? (i := 130) (show tables_1_3[130]? = some (Cond.code ⟨"CobblePorts$WorldParser", "readWorld", "(I)Z"⟩ prog_10_method_2_code 3 (some .boolean)) from rfl))
theorem zk_79 : zkw zm79 ∈ lw_tbl := zpt3 (List.mem_of_getElem? (i := 158) (show tables_1_3[158]? = some (Cond.code ⟨"CobblePorts$WorldParser", "takeLine", "()Z"⟩ prog_10_method_3_code 2 (some .boolean)) from rfl))
theorem zk_80 : zkw zm80 ∈ lw_tbl := zpt3 (List.mem_of_getElem? (i := 215) (show tables_1_3[215]? = some (Cond.code ⟨"CobblePorts$WorldParser", "takePortLine", "()Z"⟩ prog_10_method_4_code 3 (some .boolean)) from rfl))
theorem zk_81 : zkw zm81 ∈ lw_tbl := zpt3 (List.mem_of_getElem? (i := 219) (show tables_1_3[219]? = some (Cond.code ⟨"CobblePorts$WorldParser", "refuse", "(I)Z"⟩ prog_10_method_20_code 2 (some .boolean)) from rfl))
theorem zk_82 : zkw zm82 ∈ lw_tbl := zpt3 (List.mem_of_getElem? (i := 224) (show tables_1_3[224]? = some (Cond.code ⟨"CobblePorts$WorldParser", "takeNumber", "(II)Z"⟩ prog_10_method_17_code 3 (some .boolean)) from rfl))
theorem zk_83 : zkw zm83 ∈ lw_tbl := zpt3 (List.mem_of_getElem? (i := 234) (show tables_1_3[234]? = some (Cond.code ⟨"CobblePorts$WorldParser", "takeStonesLine", "()Z"⟩ prog_10_method_5_code 3 (some .boolean)) from rfl))
theorem zk_84 : zkw zm84 ∈ lw_tbl := zpt3 (List.mem_of_getElem? (i := 238) (show tables_1_3[238]? = some (Cond.code ⟨"CobblePorts$WorldParser", "takeToldPort", "()Z"⟩ prog_10_method_18_code 1 (some .boolean)) from rfl))
theorem zk_85 : zkw zm85 ∈ lw_tbl := zpt4 (List.mem_of_getElem? (i := 8) (show tables_1_4[8]? = some (Cond.code ⟨"CobblePorts$WorldParser", "takeTariffLine", "()Z"⟩ prog_10_method_8_code 1 (some .boolean)) from rfl))
theorem zk_86 : zkw zm86 ∈ lw_tbl := zpt4 (List.mem_of_getElem? (i := 12) (show tables_1_4[12]? = some (Cond.code ⟨"CobblePorts$WorldParser", "takeExpr", "(I)Z"⟩ prog_10_method_9_code 4 (some .boolean)) from rfl))
theorem zk_87 : zkw zm87 ∈ lw_tbl := zpt4 (List.mem_of_getElem? (i := 20) (show tables_1_4[20]? = some (Cond.code ⟨"CobblePorts$WorldParser", "takeAnd", "(I)Z"⟩ prog_10_method_10_code 4 (some .boolean)) from rfl))
theorem zk_88 : zkw zm88 ∈ lw_tbl := zpt4 (List.mem_of_getElem? (i := 24) (show tables_1_4[24]? = some (Cond.code ⟨"CobblePorts$WorldParser", "takeNot", "(I)Z"⟩ prog_10_method_11_code 4 (some .boolean)) from rfl))
theorem zk_89 : zkw zm89 ∈ lw_tbl := zpt4 (List.mem_of_getElem? (i := 29) (show tables_1_4[29]? = some (Cond.code ⟨"CobblePorts$WorldParser", "takeTest", "(I)Z"⟩ prog_10_method_12_code 4 (some .boolean)) from rfl))
theorem zk_90 : zkw zm90 ∈ lw_tbl := zpt4 (List.mem_of_getElem? (i := 33) (show tables_1_4[33]? = some (Cond.code ⟨"CobblePorts$WorldParser", "takeSum", "(I)Z"⟩ prog_10_method_13_code 5 (some .boolean)) from rfl))
theorem zk_91 : zkw zm91 ∈ lw_tbl := zpt4 (List.mem_of_getElem? (i := 37) (show tables_1_4[37]? = some (Cond.code ⟨"CobblePorts$WorldParser", "takeProduct", "(I)Z"⟩ prog_10_method_14_code 5 (some .boolean)) from rfl))
theorem zk_92 : zkw zm92 ∈ lw_tbl := zpt4 (List.mem_of_getElem? (i := 41) (show tables_1_4[41]? = some (Cond.code ⟨"CobblePorts$WorldParser", "takePart", "(I)Z"⟩ prog_10_method_15_code 3 (some .boolean)) from rfl))
theorem zk_93 : zkw zm93 ∈ lw_tbl := zpt4 (List.mem_of_getElem? (i := 45) (show tables_1_4[45]? = some (Cond.code ⟨"CobblePorts$WorldParser", "takeSign", "(C)Z"⟩ prog_10_method_19_code 2 (some .boolean)) from rfl))
theorem zk_94 : zkw zm94 ∈ lw_tbl := zpt4 (List.mem_of_getElem? (i := 53) (show tables_1_4[53]? = some (Cond.code ⟨"CobblePorts$WorldParser", "valueNamed", "()I"⟩ prog_10_method_16_code 1 (some .int)) from rfl))
theorem zk_95 : zkw zm95 ∈ lw_tbl := zpt4 (List.mem_of_getElem? (i := 65) (show tables_1_4[65]? = some (Cond.code ⟨"CobblePorts$WorldParser", "kindNamed", "()I"⟩ prog_10_method_6_code 1 (some .int)) from rfl))
theorem zk_96 : zkw zm96 ∈ lw_tbl := zpt4 (List.mem_of_getElem? (i := 73) (show tables_1_4[73]? = some (Cond.code ⟨"CobblePorts$WorldParser", "takeShipLine", "(I)Z"⟩ prog_10_method_7_code 3 (some .boolean)) from rfl))
theorem zk_97 : zkw zm97 ∈ lw_tbl := zpt1 (List.mem_of_getElem? (i := 28) (show tables_1_1[28]? = some (Cond.code ⟨"CobblePorts", "<init>", "()V"⟩ prog_1_method_1_code 1 none) from rfl))
theorem zk_98 : zkw zm98 ∈ lw_tbl := zpt2 (List.mem_of_getElem? (i := 143) (show tables_1_2[143]? = some (Cond.code ⟨"CobblePorts", "feed", "(IIIII)I"⟩ prog_1_method_2_code 7 (some .int)) from rfl))
theorem zk_99 : zkw zm99 ∈ lw_tbl := zpt2 (List.mem_of_getElem? (i := 151) (show tables_1_2[151]? = some (Cond.code ⟨"CobblePorts", "fault", "()I"⟩ prog_1_method_4_code 1 (some .int)) from rfl))
theorem zk_100 : zkw zm100 ∈ lw_tbl := zpt2 (List.mem_of_getElem? (i := 155) (show tables_1_2[155]? = some (Cond.code ⟨"CobblePorts", "undo", "()I"⟩ prog_1_method_11_code 1 (some .int)) from rfl))
theorem zk_101 : zkw zm101 ∈ lw_tbl := zpt2 (List.mem_of_getElem? (i := 190) (show tables_1_2[190]? = some (Cond.code ⟨"CobblePorts", "forget", "()V"⟩ prog_1_method_17_code 1 none) from rfl))
theorem zk_102 : zkw zm102 ∈ lw_tbl := zpt2 (List.mem_of_getElem? (i := 194) (show tables_1_2[194]? = some (Cond.code ⟨"CobblePorts", "fits", "()I"⟩ prog_1_method_20_code 2 (some .int)) from rfl))
theorem zk_103 : zkw zm103 ∈ lw_tbl := zpt3 (List.mem_of_getElem? (i := 29) (show tables_1_3[29]? = some (Cond.code ⟨"CobblePorts", "keepLoads", "()V"⟩ prog_1_method_30_code 1 none) from rfl))
theorem zk_104 : zkw zm104 ∈ lw_tbl := zpt3 (List.mem_of_getElem? (i := 34) (show tables_1_3[34]? = some (Cond.code ⟨"CobblePorts", "image", "()V"⟩ prog_1_method_24_code 1 none) from rfl))
theorem zk_105 : zkw zm105 ∈ lw_tbl := zpt3 (List.mem_of_getElem? (i := 52) (show tables_1_3[52]? = some (Cond.code ⟨"CobblePorts", "restore", "()Z"⟩ prog_1_method_25_code 1 (some .boolean)) from rfl))
theorem zk_106 : zkw zm106 ∈ lw_tbl := zpt3 (List.mem_of_getElem? (i := 60) (show tables_1_3[60]? = some (Cond.code ⟨"CobblePorts", "world", "(I)I"⟩ prog_1_method_3_code 3 (some .int)) from rfl))
theorem zk_107 : zkw zm107 ∈ lw_tbl := zpt4 (List.mem_of_getElem? (i := 111) (show tables_1_4[111]? = some (Cond.code ⟨"CobblePorts", "count", "(I)I"⟩ prog_1_method_5_code 2 (some .int)) from rfl))
theorem zk_108 : zkw zm108 ∈ lw_tbl := zpt4 (List.mem_of_getElem? (i := 139) (show tables_1_4[139]? = some (Cond.code ⟨"CobblePorts", "port", "(II)I"⟩ prog_1_method_6_code 3 (some .int)) from rfl))
theorem zk_109 : zkw zm109 ∈ lw_tbl := zpt4 (List.mem_of_getElem? (i := 143) (show tables_1_4[143]? = some (Cond.code ⟨"CobblePorts", "mustBePort", "(I)V"⟩ prog_1_method_26_code 2 none) from rfl))
theorem zk_110 : zkw zm110 ∈ lw_tbl := zpt4 (List.mem_of_getElem? (i := 158) (show tables_1_4[158]? = some (Cond.code ⟨"CobblePorts", "stone", "(II)I"⟩ prog_1_method_7_code 3 (some .int)) from rfl))
theorem zk_111 : zkw zm111 ∈ lw_tbl := zpt4 (List.mem_of_getElem? (i := 162) (show tables_1_4[162]? = some (Cond.code ⟨"CobblePorts", "mustBeStone", "(I)V"⟩ prog_1_method_27_code 2 none) from rfl))
theorem zk_112 : zkw zm112 ∈ lw_tbl := zpt4 (List.mem_of_getElem? (i := 192) (show tables_1_4[192]? = some (Cond.code ⟨"CobblePorts", "street", "(II)I"⟩ prog_1_method_8_code 3 (some .int)) from rfl))
theorem zk_113 : zkw zm113 ∈ lw_tbl := zpt4 (List.mem_of_getElem? (i := 201) (show tables_1_4[201]? = some (Cond.code ⟨"CobblePorts", "ship", "(II)I"⟩ prog_1_method_9_code 3 (some .int)) from rfl))
theorem zk_114 : zkw zm114 ∈ lw_tbl := zpt4 (List.mem_of_getElem? (i := 205) (show tables_1_4[205]? = some (Cond.code ⟨"CobblePorts", "mustBeShip", "(I)V"⟩ prog_1_method_28_code 2 none) from rfl))
theorem zk_115 : zkw zm115 ∈ lw_tbl := zpt4 (List.mem_of_getElem? (i := 214) (show tables_1_4[214]? = some (Cond.code ⟨"CobblePorts", "sail", "(III)I"⟩ prog_1_method_10_code 5 (some .int)) from rfl))
theorem zk_116 : zkw zm116 ∈ lw_tbl := zpt5 (List.mem_of_getElem? (i := 26) (show tables_1_5[26]? = some (Cond.code ⟨"CobblePorts", "voyage", "(II)I"⟩ prog_1_method_12_code 3 (some .int)) from rfl))
theorem zk_117 : zkw zm117 ∈ lw_tbl := zpt5 (List.mem_of_getElem? (i := 30) (show tables_1_5[30]? = some (Cond.code ⟨"CobblePorts", "mustBeBelow", "(II)V"⟩ prog_1_method_29_code 2 none) from rfl))
theorem zk_118 : zkw zm118 ∈ lw_tbl := zpt5 (List.mem_of_getElem? (i := 39) (show tables_1_5[39]? = some (Cond.code ⟨"CobblePorts", "gap", "(II)I"⟩ prog_1_method_13_code 3 (some .int)) from rfl))
theorem zk_119 : zkw zm119 ∈ lw_tbl := zpt5 (List.mem_of_getElem? (i := 50) (show tables_1_5[50]? = some (Cond.code ⟨"CobblePorts", "met", "(II)I"⟩ prog_1_method_14_code 3 (some .int)) from rfl))
theorem zk_120 : zkw zm120 ∈ lw_tbl := zpt5 (List.mem_of_getElem? (i := 62) (show tables_1_5[62]? = some (Cond.code ⟨"CobblePorts", "horse", "(II)I"⟩ prog_1_method_15_code 3 (some .int)) from rfl))
theorem zk_121 : zkw zm121 ∈ lw_tbl := zpt5 (List.mem_of_getElem? (i := 74) (show tables_1_5[74]? = some (Cond.code ⟨"CobblePorts", "leg", "(II)I"⟩ prog_1_method_16_code 3 (some .int)) from rfl))
theorem zk_122 : zkw zm122 ∈ lw_tbl := zpt5 (List.mem_of_getElem? (i := 85) (show tables_1_5[85]? = some (Cond.code ⟨"CobblePorts", "best", "(I)I"⟩ prog_1_method_18_code 3 (some .int)) from rfl))
theorem zk_123 : zkw zm123 ∈ lw_tbl := zpt5 (List.mem_of_getElem? (i := 96) (show tables_1_5[96]? = some (Cond.code ⟨"CobblePorts", "read", "(III)I"⟩ prog_1_method_19_code 4 (some .int)) from rfl))
theorem zk_124 : zkw zm124 ∈ lw_tbl := zpt5 (List.mem_of_getElem? (i := 107) (show tables_1_5[107]? = some (Cond.code ⟨"CobblePorts", "load", "(I)I"⟩ prog_1_method_21_code 2 (some .int)) from rfl))
theorem zk_125 : zkw zm125 ∈ lw_tbl := zpt5 (List.mem_of_getElem? (i := 115) (show tables_1_5[115]? = some (Cond.code ⟨"CobblePorts", "took", "(IIIII)I"⟩ prog_1_method_22_code 10 (some .int)) from rfl))
theorem zk_126 : zkw zm126 ∈ lw_tbl := zpt5 (List.mem_of_getElem? (i := 123) (show tables_1_5[123]? = some (Cond.code ⟨"CobblePorts", "partOfFraction", "(III)I"⟩ prog_1_method_31_code 4 (some .int)) from rfl))
theorem zk_127 : zkw zm127 ∈ lw_tbl := zpt5 (List.mem_of_getElem? (i := 126) (show tables_1_5[126]? = some (Cond.code ⟨"CobblePorts", "greatestDivisor", "(II)I"⟩ prog_1_method_32_code 6 (some .int)) from rfl))
theorem zk_128 : zkw zm128 ∈ lw_tbl := zpt5 (List.mem_of_getElem? (i := 134) (show tables_1_5[134]? = some (Cond.code ⟨"CobblePorts", "flood", "(III)I"⟩ prog_1_method_23_code 4 (some .int)) from rfl))
theorem zk_129 : zkw zm129 ∈ lw_tbl := zpt5 (List.mem_of_getElem? (i := 145) (show tables_1_5[145]? = some (Cond.code ⟨"CobblePortsModel", "<init>", "()V"⟩ prog_12_method_1_code 1 none) from rfl))
theorem zk_130 : zkw zm130 ∈ lw_tbl := zpt6 (List.mem_of_getElem? (i := 112) (show tables_1_6[112]? = some (Cond.code ⟨"CobblePortsModel", "thrown", "()I"⟩ prog_12_method_2_code 1 (some .int)) from rfl))
theorem zk_131 : zkw zm131 ∈ lw_tbl := zpt6 (List.mem_of_getElem? (i := 116) (show tables_1_6[116]? = some (Cond.code ⟨"CobblePortsModel", "feed", "(IIIII)I"⟩ prog_12_method_8_code 8 (some .int)) from rfl))
theorem zk_132 : zkw zm132 ∈ lw_tbl := zpt6 (List.mem_of_getElem? (i := 120) (show tables_1_6[120]? = some (Cond.code ⟨"CobblePortsModel", "world", "(I)I"⟩ prog_12_method_34_code 3 (some .int)) from rfl))
theorem zk_133 : zkw zm133 ∈ lw_tbl := zpt6 (List.mem_of_getElem? (i := 124) (show tables_1_6[124]? = some (Cond.code ⟨"CobblePortsModel", "fail", "(I)I"⟩ prog_12_method_3_code 2 (some .int)) from rfl))
theorem zk_134 : zkw zm134 ∈ lw_tbl := zpt6 (List.mem_of_getElem? (i := 128) (show tables_1_6[128]? = some (Cond.code ⟨"CobblePortsModel", "stepOn", "()V"⟩ prog_12_method_13_code 2 none) from rfl))
theorem zk_135 : zkw zm135 ∈ lw_tbl := zpt6 (List.mem_of_getElem? (i := 132) (show tables_1_6[132]? = some (Cond.code ⟨"CobblePortsModel", "byteAt", "(I)I"⟩ prog_12_method_9_code 2 (some .int)) from rfl))
theorem zk_136 : zkw zm136 ∈ lw_tbl := zpt6 (List.mem_of_getElem? (i := 135) (show tables_1_6[135]? = some (Cond.code ⟨"CobblePortsModel", "isLetter", "(I)Z"⟩ prog_12_method_10_code 1 (some .boolean)) from rfl))
theorem zk_137 : zkw zm137 ∈ lw_tbl := zpt6 (List.mem_of_getElem? (i := 138) (show tables_1_6[138]? = some (Cond.code ⟨"CobblePortsModel", "isDigit", "(I)Z"⟩ prog_12_method_11_code 1 (some .boolean)) from rfl))
theorem zk_138 : zkw zm138 ∈ lw_tbl := zpt6 (List.mem_of_getElem? (i := 143) (show tables_1_6[143]? = some (Cond.code ⟨"CobblePortsModel", "isMark", "(I)Z"⟩ prog_12_method_12_code 1 (some .boolean)) from rfl))
theorem zk_139 : zkw zm139 ∈ lw_tbl := zpt6 (List.mem_of_getElem? (i := 147) (show tables_1_6[147]? = some (Cond.code ⟨"CobblePortsModel", "readLine", "(Z)Z"⟩ prog_12_method_33_code 4 (some .boolean)) from rfl))
theorem zk_140 : zkw zm140 ∈ lw_tbl := zpt6 (List.mem_of_getElem? (i := 151) (show tables_1_6[151]? = some (Cond.code ⟨"CobblePortsModel", "which", "([Ljava/lang/String;)I"⟩ prog_12_method_16_code 3 (some .int)) from rfl))
theorem zk_141 : zkw zm141 ∈ lw_tbl := zpt6 (List.mem_of_getElem? (i := 155) (show tables_1_6[155]? = some (Cond.code ⟨"CobblePortsModel", "is", "(Ljava/lang/String;)Z"⟩ prog_12_method_15_code 4 (some .boolean)) from rfl))
theorem zk_142 : zkw zm142 ∈ lw_tbl := zpt6 (List.mem_of_getElem? (i := 162) (show tables_1_6[162]? = some (Cond.code ⟨"CobblePortsModel", "wrong", "(I)V"⟩ prog_12_method_14_code 2 none) from rfl))
theorem zk_143 : zkw zm143 ∈ lw_tbl := zpt6 (List.mem_of_getElem? (i := 166) (show tables_1_6[166]? = some (Cond.code ⟨"CobblePortsModel", "readShip", "(I)V"⟩ prog_12_method_32_code 3 none) from rfl))
theorem zk_144 : zkw zm144 ∈ lw_tbl := zpt6 (List.mem_of_getElem? (i := 170) (show tables_1_6[170]? = some (Cond.code ⟨"CobblePortsModel", "readNumber", "(II)I"⟩ prog_12_method_21_code 4 (some .int)) from rfl))
theorem zk_145 : zkw zm145 ∈ lw_tbl := zpt6 (List.mem_of_getElem? (i := 174) (show tables_1_6[174]? = some (Cond.code ⟨"CobblePortsModel", "numberNow", "(II)I"⟩ prog_12_method_20_code 3 (some .int)) from rfl))
theorem zk_146 : zkw zm146 ∈ lw_tbl := zpt6 (List.mem_of_getElem? (i := 178) (show tables_1_6[178]? = some (Cond.code ⟨"CobblePortsModel", "readPort", "()I"⟩ prog_12_method_22_code 2 (some .int)) from rfl))
theorem zk_147 : zkw zm147 ∈ lw_tbl := zpt6 (List.mem_of_getElem? (i := 183) (show tables_1_6[183]? = some (Cond.code ⟨"CobblePortsModel", "readNewPort", "()V"⟩ prog_12_method_30_code 2 none) from rfl))
theorem zk_148 : zkw zm148 ∈ lw_tbl := zpt6 (List.mem_of_getElem? (i := 188) (show tables_1_6[188]? = some (Cond.code ⟨"CobblePortsModel", "passes", "(Ljava/lang/String;)Z"⟩ prog_12_method_17_code 3 (some .boolean)) from rfl))
theorem zk_149 : zkw zm149 ∈ lw_tbl := zpt6 (List.mem_of_getElem? (i := 193) (show tables_1_6[193]? = some (Cond.code ⟨"CobblePortsModel", "readStones", "()V"⟩ prog_12_method_31_code 5 none) from rfl))
theorem zk_150 : zkw zm150 ∈ lw_tbl := zpt6 (List.mem_of_getElem? (i := 197) (show tables_1_6[197]? = some (Cond.code ⟨"CobblePortsModel", "readExpression", "(I)V"⟩ prog_12_method_29_code 3 none) from rfl))
theorem zk_151 : zkw zm151 ∈ lw_tbl := zpt6 (List.mem_of_getElem? (i := 201) (show tables_1_6[201]? = some (Cond.code ⟨"CobblePortsModel", "isMarked", "(I)Z"⟩ prog_12_method_18_code 2 (some .boolean)) from rfl))
theorem zk_152 : zkw zm152 ∈ lw_tbl := zpt6 (List.mem_of_getElem? (i := 205) (show tables_1_6[205]? = some (Cond.code ⟨"CobblePortsModel", "readAnd", "(I)V"⟩ prog_12_method_28_code 2 none) from rfl))
theorem zk_153 : zkw zm153 ∈ lw_tbl := zpt6 (List.mem_of_getElem? (i := 209) (show tables_1_6[209]? = some (Cond.code ⟨"CobblePortsModel", "readNot", "(I)V"⟩ prog_12_method_27_code 4 none) from rfl))
theorem zk_154 : zkw zm154 ∈ lw_tbl := zpt6 (List.mem_of_getElem? (i := 214) (show tables_1_6[214]? = some (Cond.code ⟨"CobblePortsModel", "readSum", "(I)V"⟩ prog_12_method_26_code 3 none) from rfl))
theorem zk_155 : zkw zm155 ∈ lw_tbl := zpt6 (List.mem_of_getElem? (i := 218) (show tables_1_6[218]? = some (Cond.code ⟨"CobblePortsModel", "readProduct", "(I)V"⟩ prog_12_method_25_code 3 none) from rfl))
theorem zk_156 : zkw zm156 ∈ lw_tbl := zpt6 (List.mem_of_getElem? (i := 222) (show tables_1_6[222]? = some (Cond.code ⟨"CobblePortsModel", "readPart", "(I)V"⟩ prog_12_method_24_code 3 none) from rfl))
theorem zk_157 : zkw zm157 ∈ lw_tbl := zpt6 (List.mem_of_getElem? (i := 226) (show tables_1_6[226]? = some (Cond.code ⟨"CobblePortsModel", "lay", "(I)V"⟩ prog_12_method_23_code 2 none) from rfl))
theorem zk_158 : zkw zm158 ∈ lw_tbl := zpt6 (List.mem_of_getElem? (i := 230) (show tables_1_6[230]? = some (Cond.code ⟨"CobblePortsModel", "mark", "(I)V"⟩ prog_12_method_19_code 2 none) from rfl))
theorem zk_159 : zkw zm159 ∈ lw_tbl := zpt6 (List.mem_of_getElem? (i := 236) (show tables_1_6[236]? = some (Cond.code ⟨"CobblePortsModel", "take", "()V"⟩ prog_12_method_36_code 3 none) from rfl))
theorem zk_160 : zkw zm160 ∈ lw_tbl := zpt6 (List.mem_of_getElem? (i := 239) (show tables_1_6[239]? = some (Cond.code ⟨"CobblePortsModel", "takeHalf", "([I)V"⟩ prog_12_method_35_code 2 none) from rfl))
theorem zk_161 : zkw zm161 ∈ lw_tbl := zpt7 (List.mem_of_getElem? (i := 3) (show tables_1_7[3]? = some (Cond.code ⟨"CobblePortsModel", "fault", "()I"⟩ prog_12_method_37_code 1 (some .int)) from rfl))
theorem zk_162 : zkw zm162 ∈ lw_tbl := zpt7 (List.mem_of_getElem? (i := 7) (show tables_1_7[7]? = some (Cond.code ⟨"CobblePortsModel", "count", "(I)I"⟩ prog_12_method_50_code 2 (some .int)) from rfl))
theorem zk_163 : zkw zm163 ∈ lw_tbl := zpt7 (List.mem_of_getElem? (i := 11) (show tables_1_7[11]? = some (Cond.code ⟨"CobblePortsModel", "allMud", "([I)I"⟩ prog_12_method_41_code 4 (some .int)) from rfl))
theorem zk_164 : zkw zm164 ∈ lw_tbl := zpt7 (List.mem_of_getElem? (i := 15) (show tables_1_7[15]? = some (Cond.code ⟨"CobblePortsModel", "mudOf", "([II)I"⟩ prog_12_method_40_code 3 (some .int)) from rfl))
theorem zk_165 : zkw zm165 ∈ lw_tbl := zpt7 (List.mem_of_getElem? (i := 19) (show tables_1_7[19]? = some (Cond.code ⟨"CobblePortsModel", "stonesIn", "([II)I"⟩ prog_12_method_39_code 5 (some .int)) from rfl))
theorem zk_166 : zkw zm166 ∈ lw_tbl := zpt7 (List.mem_of_getElem? (i := 24) (show tables_1_7[24]? = some (Cond.code ⟨"CobblePortsModel", "tolls", "()I"⟩ prog_12_method_51_code 3 (some .int)) from rfl))
theorem zk_167 : zkw zm167 ∈ lw_tbl := zpt7 (List.mem_of_getElem? (i := 28) (show tables_1_7[28]? = some (Cond.code ⟨"CobblePortsModel", "port", "(II)I"⟩ prog_12_method_52_code 3 (some .int)) from rfl))
theorem zk_168 : zkw zm168 ∈ lw_tbl := zpt7 (List.mem_of_getElem? (i := 32) (show tables_1_7[32]? = some (Cond.code ⟨"CobblePortsModel", "isPort", "(I)Z"⟩ prog_12_method_5_code 2 (some .boolean)) from rfl))
theorem zk_169 : zkw zm169 ∈ lw_tbl := zpt7 (List.mem_of_getElem? (i := 35) (show tables_1_7[35]? = some (Cond.code ⟨"CobblePortsModel", "isIn", "(III)Z"⟩ prog_12_method_4_code 3 (some .boolean)) from rfl))
theorem zk_170 : zkw zm170 ∈ lw_tbl := zpt7 (List.mem_of_getElem? (i := 39) (show tables_1_7[39]? = some (Cond.code ⟨"CobblePortsModel", "ofOrigin", "([III)I"⟩ prog_12_method_42_code 6 (some .int)) from rfl))
theorem zk_171 : zkw zm171 ∈ lw_tbl := zpt7 (List.mem_of_getElem? (i := 43) (show tables_1_7[43]? = some (Cond.code ⟨"CobblePortsModel", "stone", "(II)I"⟩ prog_12_method_53_code 3 (some .int)) from rfl))
theorem zk_172 : zkw zm172 ∈ lw_tbl := zpt7 (List.mem_of_getElem? (i := 47) (show tables_1_7[47]? = some (Cond.code ⟨"CobblePortsModel", "isStone", "(I)Z"⟩ prog_12_method_6_code 2 (some .boolean)) from rfl))
theorem zk_173 : zkw zm173 ∈ lw_tbl := zpt7 (List.mem_of_getElem? (i := 51) (show tables_1_7[51]? = some (Cond.code ⟨"CobblePortsModel", "street", "(II)I"⟩ prog_12_method_55_code 4 (some .int)) from rfl))
theorem zk_174 : zkw zm174 ∈ lw_tbl := zpt7 (List.mem_of_getElem? (i := 55) (show tables_1_7[55]? = some (Cond.code ⟨"CobblePortsModel", "stoneAt", "(II)I"⟩ prog_12_method_54_code 4 (some .int)) from rfl))
theorem zk_175 : zkw zm175 ∈ lw_tbl := zpt7 (List.mem_of_getElem? (i := 59) (show tables_1_7[59]? = some (Cond.code ⟨"CobblePortsModel", "ship", "(II)I"⟩ prog_12_method_56_code 3 (some .int)) from rfl))
theorem zk_176 : zkw zm176 ∈ lw_tbl := zpt7 (List.mem_of_getElem? (i := 63) (show tables_1_7[63]? = some (Cond.code ⟨"CobblePortsModel", "isShip", "(I)Z"⟩ prog_12_method_7_code 2 (some .boolean)) from rfl))
theorem zk_177 : zkw zm177 ∈ lw_tbl := zpt7 (List.mem_of_getElem? (i := 67) (show tables_1_7[67]? = some (Cond.code ⟨"CobblePortsModel", "sail", "(III)I"⟩ prog_12_method_57_code 7 (some .int)) from rfl))
theorem zk_178 : zkw zm178 ∈ lw_tbl := zpt7 (List.mem_of_getElem? (i := 71) (show tables_1_7[71]? = some (Cond.code ⟨"CobblePortsModel", "go", "([IIIII)I"⟩ prog_12_method_46_code 11 (some .int)) from rfl))
theorem zk_179 : zkw zm179 ∈ lw_tbl := zpt7 (List.mem_of_getElem? (i := 75) (show tables_1_7[75]? = some (Cond.code ⟨"CobblePortsModel", "takes", "([II)I"⟩ prog_12_method_44_code 6 (some .int)) from rfl))
theorem zk_180 : zkw zm180 ∈ lw_tbl := zpt7 (List.mem_of_getElem? (i := 79) (show tables_1_7[79]? = some (Cond.code ⟨"CobblePortsModel", "wish", "(III)I"⟩ prog_12_method_43_code 5 (some .int)) from rfl))
theorem zk_181 : zkw zm181 ∈ lw_tbl := zpt7 (List.mem_of_getElem? (i := 83) (show tables_1_7[83]? = some (Cond.code ⟨"CobblePortsModel", "lift", "([II)V"⟩ prog_12_method_45_code 4 none) from rfl))
theorem zk_182 : zkw zm182 ∈ lw_tbl := zpt7 (List.mem_of_getElem? (i := 87) (show tables_1_7[87]? = some (Cond.code ⟨"CobblePortsModel", "tollOf", "(IIII)I"⟩ prog_12_method_49_code 7 (some .int)) from rfl))
theorem zk_183 : zkw zm183 ∈ lw_tbl := zpt7 (List.mem_of_getElem? (i := 91) (show tables_1_7[91]? = some (Cond.code ⟨"CobblePortsModel", "tariff", "()I"⟩ prog_12_method_48_code 4 (some .int)) from rfl))
theorem zk_184 : zkw zm184 ∈ lw_tbl := zpt7 (List.mem_of_getElem? (i := 94) (show tables_1_7[94]? = some (Cond.code ⟨"CobblePortsModel", "reckon", "(III)I"⟩ prog_12_method_47_code 3 (some .int)) from rfl))
theorem zk_185 : zkw zm185 ∈ lw_tbl := zpt7 (List.mem_of_getElem? (i := 98) (show tables_1_7[98]? = some (Cond.code ⟨"CobblePortsModel", "undo", "()I"⟩ prog_12_method_58_code 2 (some .int)) from rfl))
theorem zk_186 : zkw zm186 ∈ lw_tbl := zpt7 (List.mem_of_getElem? (i := 102) (show tables_1_7[102]? = some (Cond.code ⟨"CobblePortsModel", "voyage", "(II)I"⟩ prog_12_method_59_code 3 (some .int)) from rfl))
theorem zk_187 : zkw zm187 ∈ lw_tbl := zpt7 (List.mem_of_getElem? (i := 106) (show tables_1_7[106]? = some (Cond.code ⟨"CobblePortsModel", "gap", "(II)I"⟩ prog_12_method_60_code 5 (some .int)) from rfl))
theorem zk_188 : zkw zm188 ∈ lw_tbl := zpt7 (List.mem_of_getElem? (i := 110) (show tables_1_7[110]? = some (Cond.code ⟨"CobblePortsModel", "met", "(II)I"⟩ prog_12_method_61_code 4 (some .int)) from rfl))
theorem zk_189 : zkw zm189 ∈ lw_tbl := zpt7 (List.mem_of_getElem? (i := 114) (show tables_1_7[114]? = some (Cond.code ⟨"CobblePortsModel", "horse", "(II)I"⟩ prog_12_method_62_code 10 (some .int)) from rfl))
theorem zk_190 : zkw zm190 ∈ lw_tbl := zpt7 (List.mem_of_getElem? (i := 118) (show tables_1_7[118]? = some (Cond.code ⟨"CobblePortsModel", "leg", "(II)I"⟩ prog_12_method_63_code 3 (some .int)) from rfl))
theorem zk_191 : zkw zm191 ∈ lw_tbl := zpt7 (List.mem_of_getElem? (i := 122) (show tables_1_7[122]? = some (Cond.code ⟨"CobblePortsModel", "forget", "()V"⟩ prog_12_method_64_code 1 none) from rfl))
theorem zk_192 : zkw zm192 ∈ lw_tbl := zpt7 (List.mem_of_getElem? (i := 126) (show tables_1_7[126]? = some (Cond.code ⟨"CobblePortsModel", "best", "(I)I"⟩ prog_12_method_71_code 2 (some .int)) from rfl))
theorem zk_193 : zkw zm193 ∈ lw_tbl := zpt7 (List.mem_of_getElem? (i := 130) (show tables_1_7[130]? = some (Cond.code ⟨"CobblePortsModel", "loadAll", "(II)V"⟩ prog_12_method_66_code 4 none) from rfl))
theorem zk_194 : zkw zm194 ∈ lw_tbl := zpt7 (List.mem_of_getElem? (i := 134) (show tables_1_7[134]? = some (Cond.code ⟨"CobblePortsModel", "loadOn", "(III)V"⟩ prog_12_method_65_code 7 none) from rfl))
theorem zk_195 : zkw zm195 ∈ lw_tbl := zpt7 (List.mem_of_getElem? (i := 137) (show tables_1_7[137]? = some (Cond.code ⟨"CobblePortsModel", "be", "([I[I)V"⟩ prog_12_method_38_code 3 none) from rfl))
theorem zk_196 : zkw zm196 ∈ lw_tbl := zpt7 (List.mem_of_getElem? (i := 141) (show tables_1_7[141]? = some (Cond.code ⟨"CobblePortsModel", "rate", "(I)V"⟩ prog_12_method_67_code 5 none) from rfl))
theorem zk_197 : zkw zm197 ∈ lw_tbl := zpt7 (List.mem_of_getElem? (i := 145) (show tables_1_7[145]? = some (Cond.code ⟨"CobblePortsModel", "fitsRead", "()Z"⟩ prog_12_method_68_code 2 (some .boolean)) from rfl))
theorem zk_198 : zkw zm198 ∈ lw_tbl := zpt7 (List.mem_of_getElem? (i := 149) (show tables_1_7[149]? = some (Cond.code ⟨"CobblePortsModel", "findRow", "()V"⟩ prog_12_method_69_code 1 none) from rfl))
theorem zk_199 : zkw zm199 ∈ lw_tbl := zpt7 (List.mem_of_getElem? (i := 153) (show tables_1_7[153]? = some (Cond.code ⟨"CobblePortsModel", "keep", "()V"⟩ prog_12_method_70_code 1 none) from rfl))
theorem zk_200 : zkw zm200 ∈ lw_tbl := zpt7 (List.mem_of_getElem? (i := 157) (show tables_1_7[157]? = some (Cond.code ⟨"CobblePortsModel", "read", "(III)I"⟩ prog_12_method_72_code 4 (some .int)) from rfl))
theorem zk_201 : zkw zm201 ∈ lw_tbl := zpt7 (List.mem_of_getElem? (i := 161) (show tables_1_7[161]? = some (Cond.code ⟨"CobblePortsModel", "fits", "()I"⟩ prog_12_method_73_code 1 (some .int)) from rfl))
theorem zk_202 : zkw zm202 ∈ lw_tbl := zpt7 (List.mem_of_getElem? (i := 165) (show tables_1_7[165]? = some (Cond.code ⟨"CobblePortsModel", "load", "(I)I"⟩ prog_12_method_74_code 2 (some .int)) from rfl))
theorem zk_203 : zkw zm203 ∈ lw_tbl := zpt7 (List.mem_of_getElem? (i := 169) (show tables_1_7[169]? = some (Cond.code ⟨"CobblePortsModel", "took", "(IIIII)I"⟩ prog_12_method_76_code 9 (some .int)) from rfl))
theorem zk_204 : zkw zm204 ∈ lw_tbl := zpt7 (List.mem_of_getElem? (i := 172) (show tables_1_7[172]? = some (Cond.code ⟨"CobblePortsModel", "common", "(II)I"⟩ prog_12_method_75_code 5 (some .int)) from rfl))
theorem zk_205 : zkw zm205 ∈ lw_tbl := zpt7 (List.mem_of_getElem? (i := 176) (show tables_1_7[176]? = some (Cond.code ⟨"CobblePortsModel", "flood", "(III)I"⟩ prog_12_method_78_code 9 (some .int)) from rfl))
theorem zk_206 : zkw zm206 ∈ lw_tbl := zpt7 (List.mem_of_getElem? (i := 180) (show tables_1_7[180]? = some (Cond.code ⟨"CobblePortsModel", "draw", "(I)I"⟩ prog_12_method_77_code 2 (some .int)) from rfl))
theorem zk_207 : zkw zm207 ∈ lw_tbl := zpt7 (List.mem_of_getElem? (i := 185) (show tables_1_7[185]? = some (Cond.code ⟨"CobblePortsModel", "image", "()V"⟩ prog_12_method_79_code 1 none) from rfl))
theorem zk_208 : zkw zm208 ∈ lw_tbl := zpt7 (List.mem_of_getElem? (i := 189) (show tables_1_7[189]? = some (Cond.code ⟨"CobblePortsModel", "restore", "()Z"⟩ prog_12_method_80_code 1 (some .boolean)) from rfl))
theorem zk_209 : zkw zm209 ∈ lw_tbl := zpt3 (List.mem_of_getElem? (i := 55) (show tables_1_3[55]? = some (Cond.codeWith ⟨"CobblePortsLaw", "world", "(LCobblePorts;I[J)I"⟩ method_3_code 4 (some .int) [(0, 9, 12, 13)]) from rfl))
theorem zk_210 : zkw zm210 ∈ lw_tbl := zpt4 (List.mem_of_getElem? (i := 106) (show tables_1_4[106]? = some (Cond.codeWith ⟨"CobblePortsLaw", "count", "(LCobblePorts;I[J)I"⟩ method_4_code 4 (some .int) [(0, 9, 12, 18)]) from rfl))
theorem zk_211 : zkw zm211 ∈ lw_tbl := zpt4 (List.mem_of_getElem? (i := 135) (show tables_1_4[135]? = some (Cond.codeWith ⟨"CobblePortsLaw", "port", "(LCobblePorts;II[J)I"⟩ method_5_code 5 (some .int) [(0, 10, 13, 18)]) from rfl))
theorem zk_212 : zkw zm212 ∈ lw_tbl := zpt4 (List.mem_of_getElem? (i := 154) (show tables_1_4[154]? = some (Cond.codeWith ⟨"CobblePortsLaw", "stone", "(LCobblePorts;II[J)I"⟩ method_6_code 5 (some .int) [(0, 10, 13, 18)]) from rfl))
theorem zk_213 : zkw zm213 ∈ lw_tbl := zpt4 (List.mem_of_getElem? (i := 188) (show tables_1_4[188]? = some (Cond.codeWith ⟨"CobblePortsLaw", "street", "(LCobblePorts;II[J)I"⟩ method_7_code 5 (some .int) [(0, 10, 13, 18)]) from rfl))
theorem zk_214 : zkw zm214 ∈ lw_tbl := zpt4 (List.mem_of_getElem? (i := 197) (show tables_1_4[197]? = some (Cond.codeWith ⟨"CobblePortsLaw", "ship", "(LCobblePorts;II[J)I"⟩ method_8_code 5 (some .int) [(0, 10, 13, 18)]) from rfl))
theorem zk_215 : zkw zm215 ∈ lw_tbl := zpt4 (List.mem_of_getElem? (i := 210) (show tables_1_4[210]? = some (Cond.codeWith ⟨"CobblePortsLaw", "sail", "(LCobblePorts;III[J)I"⟩ method_9_code 6 (some .int) [(0, 12, 15, 18)]) from rfl))
theorem zk_216 : zkw zm216 ∈ lw_tbl := zpt5 (List.mem_of_getElem? (i := 22) (show tables_1_5[22]? = some (Cond.codeWith ⟨"CobblePortsLaw", "voyage", "(LCobblePorts;II[J)I"⟩ method_10_code 5 (some .int) [(0, 10, 13, 18)]) from rfl))
theorem zk_217 : zkw zm217 ∈ lw_tbl := zpt5 (List.mem_of_getElem? (i := 35) (show tables_1_5[35]? = some (Cond.codeWith ⟨"CobblePortsLaw", "gap", "(LCobblePorts;II[J)I"⟩ method_11_code 5 (some .int) [(0, 10, 13, 18)]) from rfl))
theorem zk_218 : zkw zm218 ∈ lw_tbl := zpt5 (List.mem_of_getElem? (i := 46) (show tables_1_5[46]? = some (Cond.codeWith ⟨"CobblePortsLaw", "met", "(LCobblePorts;II[J)I"⟩ method_12_code 5 (some .int) [(0, 10, 13, 18)]) from rfl))
theorem zk_219 : zkw zm219 ∈ lw_tbl := zpt5 (List.mem_of_getElem? (i := 58) (show tables_1_5[58]? = some (Cond.codeWith ⟨"CobblePortsLaw", "horse", "(LCobblePorts;II[J)I"⟩ method_13_code 5 (some .int) [(0, 10, 13, 18)]) from rfl))
theorem zk_220 : zkw zm220 ∈ lw_tbl := zpt5 (List.mem_of_getElem? (i := 70) (show tables_1_5[70]? = some (Cond.codeWith ⟨"CobblePortsLaw", "leg", "(LCobblePorts;II[J)I"⟩ method_14_code 5 (some .int) [(0, 10, 13, 18)]) from rfl))
theorem zk_221 : zkw zm221 ∈ lw_tbl := zpt5 (List.mem_of_getElem? (i := 81) (show tables_1_5[81]? = some (Cond.codeWith ⟨"CobblePortsLaw", "best", "(LCobblePorts;I[J)I"⟩ method_15_code 4 (some .int) [(0, 9, 12, 18)]) from rfl))
theorem zk_222 : zkw zm222 ∈ lw_tbl := zpt5 (List.mem_of_getElem? (i := 92) (show tables_1_5[92]? = some (Cond.codeWith ⟨"CobblePortsLaw", "read", "(LCobblePorts;III[J)I"⟩ method_16_code 6 (some .int) [(0, 12, 15, 18)]) from rfl))
theorem zk_223 : zkw zm223 ∈ lw_tbl := zpt5 (List.mem_of_getElem? (i := 103) (show tables_1_5[103]? = some (Cond.codeWith ⟨"CobblePortsLaw", "load", "(LCobblePorts;I[J)I"⟩ method_17_code 4 (some .int) [(0, 9, 12, 18)]) from rfl))
theorem zk_224 : zkw zm224 ∈ lw_tbl := zpt5 (List.mem_of_getElem? (i := 111) (show tables_1_5[111]? = some (Cond.codeWith ⟨"CobblePortsLaw", "took", "(LCobblePorts;IIIII[J)I"⟩ method_18_code 8 (some .int) [(0, 16, 19, 18), (0, 16, 23, 13)]) from rfl))
theorem zk_225 : zkw zm225 ∈ lw_tbl := zpt5 (List.mem_of_getElem? (i := 130) (show tables_1_5[130]? = some (Cond.codeWith ⟨"CobblePortsLaw", "flood", "(LCobblePorts;III[J)I"⟩ method_19_code 6 (some .int) [(0, 12, 15, 18), (0, 12, 19, 13)]) from rfl))
theorem zk_226 : zkw zm226 ∈ lw_tbl := zpt3 (List.mem_of_getElem? (i := 167) (show tables_1_3[167]? = some (Cond.code ⟨"java/lang/String", "length", "()I"⟩ prog_20_method_54_code 1 (some .int)) from rfl))
theorem zk_227 : zkw zm227 ∈ lw_tbl := zpt3 (List.mem_of_getElem? (i := 171) (show tables_1_3[171]? = some (Cond.code ⟨"java/lang/String", "coder", "()B"⟩ prog_20_method_152_code 1 (some .byte)) from rfl))
theorem zk_228 : zkw zm228 ∈ lw_tbl := zpt3 (List.mem_of_getElem? (i := 177) (show tables_1_3[177]? = some (Cond.code ⟨"java/lang/String", "charAt", "(I)C"⟩ prog_20_method_56_code 2 (some .char)) from rfl))
theorem zk_229 : zkw zm229 ∈ lw_tbl := zpt3 (List.mem_of_getElem? (i := 181) (show tables_1_3[181]? = some (Cond.code ⟨"java/lang/String", "isLatin1", "()Z"⟩ prog_20_method_154_code 1 (some .boolean)) from rfl))
theorem zk_230 : zkw zm230 ∈ lw_tbl := zpt3 (List.mem_of_getElem? (i := 187) (show tables_1_3[187]? = some (Cond.code ⟨"java/lang/String", "checkIndex", "(II)V"⟩ prog_20_method_155_code 2 none) from rfl))
theorem zk_231 : zkw zm231 ∈ lw_tbl := zpt3 (List.mem_of_getElem? (i := 184) (show tables_1_3[184]? = some (Cond.code ⟨"java/lang/StringLatin1", "charAt", "([BI)C"⟩ prog_21_method_2_code 2 (some .char)) from rfl))
theorem zk_232 : zkw zm232 ∈ lw_tbl := zpt3 (List.mem_of_getElem? (i := 192) (show tables_1_3[192]? = some (Cond.code ⟨"jdk/internal/util/Preconditions", "checkIndex", "(IILjava/util/function/BiFunction;)I"⟩ prog_29_method_11_code 3 (some .int)) from rfl))
theorem zk_233 : zkw zm233 ∈ lw_tbl := zpt4 (List.mem_of_getElem? (i := 98) (show tables_1_4[98]? = some (Cond.code ⟨"java/util/Arrays", "fill", "([II)V"⟩ prog_27_method_103_code 4 none) from rfl))
theorem zkc_0 : ∀ q ∈ [zm0, zm1, zm2, zm3, zm4, zm5, zm6, zm7, zm8, zm9, zm10, zm11, zm12, zm13, zm14, zm15, zm16, zm17, zm18, zm19, zm20, zm21, zm22, zm23, zm24, zm25], zkw q ∈ lw_tbl := (List.forall_mem_cons.mpr ⟨zk_0, (List.forall_mem_cons.mpr ⟨zk_1, (List.forall_mem_cons.mpr ⟨zk_2, (List.forall_mem_cons.mpr ⟨zk_3, (List.forall_mem_cons.mpr ⟨zk_4, (List.forall_mem_cons.mpr ⟨zk_5, (List.forall_mem_cons.mpr ⟨zk_6, (List.forall_mem_cons.mpr ⟨zk_7, (List.forall_mem_cons.mpr ⟨zk_8, (List.forall_mem_cons.mpr ⟨zk_9, (List.forall_mem_cons.mpr ⟨zk_10, (List.forall_mem_cons.mpr ⟨zk_11, (List.forall_mem_cons.mpr ⟨zk_12, (List.forall_mem_cons.mpr ⟨zk_13, (List.forall_mem_cons.mpr ⟨zk_14, (List.forall_mem_cons.mpr ⟨zk_15, (List.forall_mem_cons.mpr ⟨zk_16, (List.forall_mem_cons.mpr ⟨zk_17, (List.forall_mem_cons.mpr ⟨zk_18, (List.forall_mem_cons.mpr ⟨zk_19, (List.forall_mem_cons.mpr ⟨zk_20, (List.forall_mem_cons.mpr ⟨zk_21, (List.forall_mem_cons.mpr ⟨zk_22, (List.forall_mem_cons.mpr ⟨zk_23, (List.forall_mem_cons.mpr ⟨zk_24, (List.forall_mem_cons.mpr ⟨zk_25, (fun _ h => absurd h List.not_mem_nil)⟩)⟩)⟩)⟩)⟩)⟩)⟩)⟩)⟩)⟩)⟩)⟩)⟩)⟩)⟩)⟩)⟩)⟩)⟩)⟩)⟩)⟩)⟩)⟩)⟩)⟩)
theorem zkc_26 : ∀ q ∈ [zm26, zm27, zm28, zm29, zm30, zm31, zm32, zm33, zm34, zm35, zm36, zm37, zm38, zm39, zm40, zm41, zm42, zm43, zm44, zm45, zm46, zm47, zm48, zm49, zm50, zm51], zkw q ∈ lw_tbl := (List.forall_mem_cons.mpr ⟨zk_26, (List.forall_mem_cons.mpr ⟨zk_27, (List.forall_mem_cons.mpr ⟨zk_28, (List.forall_mem_cons.mpr ⟨zk_29, (List.forall_mem_cons.mpr ⟨zk_30, (List.forall_mem_cons.mpr ⟨zk_31, (List.forall_mem_cons.mpr ⟨zk_32, (List.forall_mem_cons.mpr ⟨zk_33, (List.forall_mem_cons.mpr ⟨zk_34, (List.forall_mem_cons.mpr ⟨zk_35, (List.forall_mem_cons.mpr ⟨zk_36, (List.forall_mem_cons.mpr ⟨zk_37, (List.forall_mem_cons.mpr ⟨zk_38, (List.forall_mem_cons.mpr ⟨zk_39, (List.forall_mem_cons.mpr ⟨zk_40, (List.forall_mem_cons.mpr ⟨zk_41, (List.forall_mem_cons.mpr ⟨zk_42, (List.forall_mem_cons.mpr ⟨zk_43, (List.forall_mem_cons.mpr ⟨zk_44, (List.forall_mem_cons.mpr ⟨zk_45, (List.forall_mem_cons.mpr ⟨zk_46, (List.forall_mem_cons.mpr ⟨zk_47, (List.forall_mem_cons.mpr ⟨zk_48, (List.forall_mem_cons.mpr ⟨zk_49, (List.forall_mem_cons.mpr ⟨zk_50, (List.forall_mem_cons.mpr ⟨zk_51, (fun _ h => absurd h List.not_mem_nil)⟩)⟩)⟩)⟩)⟩)⟩)⟩)⟩)⟩)⟩)⟩)⟩)⟩)⟩)⟩)⟩)⟩)⟩)⟩)⟩)⟩)⟩)⟩)⟩)⟩)⟩)
theorem zkc_52 : ∀ q ∈ [zm52, zm53, zm54, zm55, zm56, zm57, zm58, zm59, zm60, zm61, zm62, zm63, zm64, zm65, zm66, zm67, zm68, zm69, zm70, zm71, zm72, zm73, zm74, zm75, zm76, zm77], zkw q ∈ lw_tbl := (List.forall_mem_cons.mpr ⟨zk_52, (List.forall_mem_cons.mpr ⟨zk_53, (List.forall_mem_cons.mpr ⟨zk_54, (List.forall_mem_cons.mpr ⟨zk_55, (List.forall_mem_cons.mpr ⟨zk_56, (List.forall_mem_cons.mpr ⟨zk_57, (List.forall_mem_cons.mpr ⟨zk_58, (List.forall_mem_cons.mpr ⟨zk_59, (List.forall_mem_cons.mpr ⟨zk_60, (List.forall_mem_cons.mpr ⟨zk_61, (List.forall_mem_cons.mpr ⟨zk_62, (List.forall_mem_cons.mpr ⟨zk_63, (List.forall_mem_cons.mpr ⟨zk_64, (List.forall_mem_cons.mpr ⟨zk_65, (List.forall_mem_cons.mpr ⟨zk_66, (List.forall_mem_cons.mpr ⟨zk_67, (List.forall_mem_cons.mpr ⟨zk_68, (List.forall_mem_cons.mpr ⟨zk_69, (List.forall_mem_cons.mpr ⟨zk_70, (List.forall_mem_cons.mpr ⟨zk_71, (List.forall_mem_cons.mpr ⟨zk_72, (List.forall_mem_cons.mpr ⟨zk_73, (List.forall_mem_cons.mpr ⟨zk_74, (List.forall_mem_cons.mpr ⟨zk_75, (List.forall_mem_cons.mpr ⟨zk_76, (List.forall_mem_cons.mpr ⟨zk_77, (fun _ h => absurd h List.not_mem_nil)⟩)⟩)⟩)⟩)⟩)⟩)⟩)⟩)⟩)⟩)⟩)⟩)⟩)⟩)⟩)⟩)⟩)⟩)⟩)⟩)⟩)⟩)⟩)⟩)⟩)⟩)
theorem zkc_78 : ∀ q ∈ [zm78, zm79, zm80, zm81, zm82, zm83, zm84, zm85, zm86, zm87, zm88, zm89, zm90, zm91, zm92, zm93, zm94, zm95, zm96, zm97, zm98, zm99, zm100, zm101, zm102, zm103], zkw q ∈ lw_tbl := (List.forall_mem_cons.mpr ⟨zk_78, (List.forall_mem_cons.mpr ⟨zk_79, (List.forall_mem_cons.mpr ⟨zk_80, (List.forall_mem_cons.mpr ⟨zk_81, (List.forall_mem_cons.mpr ⟨zk_82, (List.forall_mem_cons.mpr ⟨zk_83, (List.forall_mem_cons.mpr ⟨zk_84, (List.forall_mem_cons.mpr ⟨zk_85, (List.forall_mem_cons.mpr ⟨zk_86, (List.forall_mem_cons.mpr ⟨zk_87, (List.forall_mem_cons.mpr ⟨zk_88, (List.forall_mem_cons.mpr ⟨zk_89, (List.forall_mem_cons.mpr ⟨zk_90, (List.forall_mem_cons.mpr ⟨zk_91, (List.forall_mem_cons.mpr ⟨zk_92, (List.forall_mem_cons.mpr ⟨zk_93, (List.forall_mem_cons.mpr ⟨zk_94, (List.forall_mem_cons.mpr ⟨zk_95, (List.forall_mem_cons.mpr ⟨zk_96, (List.forall_mem_cons.mpr ⟨zk_97, (List.forall_mem_cons.mpr ⟨zk_98, (List.forall_mem_cons.mpr ⟨zk_99, (List.forall_mem_cons.mpr ⟨zk_100, (List.forall_mem_cons.mpr ⟨zk_101, (List.forall_mem_cons.mpr ⟨zk_102, (List.forall_mem_cons.mpr ⟨zk_103, (fun _ h => absurd h List.not_mem_nil)⟩)⟩)⟩)⟩)⟩)⟩)⟩)⟩)⟩)⟩)⟩)⟩)⟩)⟩)⟩)⟩)⟩)⟩)⟩)⟩)⟩)⟩)⟩)⟩)⟩)⟩)
theorem zkc_104 : ∀ q ∈ [zm104, zm105, zm106, zm107, zm108, zm109, zm110, zm111, zm112, zm113, zm114, zm115, zm116, zm117, zm118, zm119, zm120, zm121, zm122, zm123, zm124, zm125, zm126, zm127, zm128, zm129], zkw q ∈ lw_tbl := (List.forall_mem_cons.mpr ⟨zk_104, (List.forall_mem_cons.mpr ⟨zk_105, (List.forall_mem_cons.mpr ⟨zk_106, (List.forall_mem_cons.mpr ⟨zk_107, (List.forall_mem_cons.mpr ⟨zk_108, (List.forall_mem_cons.mpr ⟨zk_109, (List.forall_mem_cons.mpr ⟨zk_110, (List.forall_mem_cons.mpr ⟨zk_111, (List.forall_mem_cons.mpr ⟨zk_112, (List.forall_mem_cons.mpr ⟨zk_113, (List.forall_mem_cons.mpr ⟨zk_114, (List.forall_mem_cons.mpr ⟨zk_115, (List.forall_mem_cons.mpr ⟨zk_116, (List.forall_mem_cons.mpr ⟨zk_117, (List.forall_mem_cons.mpr ⟨zk_118, (List.forall_mem_cons.mpr ⟨zk_119, (List.forall_mem_cons.mpr ⟨zk_120, (List.forall_mem_cons.mpr ⟨zk_121, (List.forall_mem_cons.mpr ⟨zk_122, (List.forall_mem_cons.mpr ⟨zk_123, (List.forall_mem_cons.mpr ⟨zk_124, (List.forall_mem_cons.mpr ⟨zk_125, (List.forall_mem_cons.mpr ⟨zk_126, (List.forall_mem_cons.mpr ⟨zk_127, (List.forall_mem_cons.mpr ⟨zk_128, (List.forall_mem_cons.mpr ⟨zk_129, (fun _ h => absurd h List.not_mem_nil)⟩)⟩)⟩)⟩)⟩)⟩)⟩)⟩)⟩)⟩)⟩)⟩)⟩)⟩)⟩)⟩)⟩)⟩)⟩)⟩)⟩)⟩)⟩)⟩)⟩)⟩)
theorem zkc_130 : ∀ q ∈ [zm130, zm131, zm132, zm133, zm134, zm135, zm136, zm137, zm138, zm139, zm140, zm141, zm142, zm143, zm144, zm145, zm146, zm147, zm148, zm149, zm150, zm151, zm152, zm153, zm154, zm155], zkw q ∈ lw_tbl := (List.forall_mem_cons.mpr ⟨zk_130, (List.forall_mem_cons.mpr ⟨zk_131, (List.forall_mem_cons.mpr ⟨zk_132, (List.forall_mem_cons.mpr ⟨zk_133, (List.forall_mem_cons.mpr ⟨zk_134, (List.forall_mem_cons.mpr ⟨zk_135, (List.forall_mem_cons.mpr ⟨zk_136, (List.forall_mem_cons.mpr ⟨zk_137, (List.forall_mem_cons.mpr ⟨zk_138, (List.forall_mem_cons.mpr ⟨zk_139, (List.forall_mem_cons.mpr ⟨zk_140, (List.forall_mem_cons.mpr ⟨zk_141, (List.forall_mem_cons.mpr ⟨zk_142, (List.forall_mem_cons.mpr ⟨zk_143, (List.forall_mem_cons.mpr ⟨zk_144, (List.forall_mem_cons.mpr ⟨zk_145, (List.forall_mem_cons.mpr ⟨zk_146, (List.forall_mem_cons.mpr ⟨zk_147, (List.forall_mem_cons.mpr ⟨zk_148, (List.forall_mem_cons.mpr ⟨zk_149, (List.forall_mem_cons.mpr ⟨zk_150, (List.forall_mem_cons.mpr ⟨zk_151, (List.forall_mem_cons.mpr ⟨zk_152, (List.forall_mem_cons.mpr ⟨zk_153, (List.forall_mem_cons.mpr ⟨zk_154, (List.forall_mem_cons.mpr ⟨zk_155, (fun _ h => absurd h List.not_mem_nil)⟩)⟩)⟩)⟩)⟩)⟩)⟩)⟩)⟩)⟩)⟩)⟩)⟩)⟩)⟩)⟩)⟩)⟩)⟩)⟩)⟩)⟩)⟩)⟩)⟩)⟩)
theorem zkc_156 : ∀ q ∈ [zm156, zm157, zm158, zm159, zm160, zm161, zm162, zm163, zm164, zm165, zm166, zm167, zm168, zm169, zm170, zm171, zm172, zm173, zm174, zm175, zm176, zm177, zm178, zm179, zm180, zm181], zkw q ∈ lw_tbl := (List.forall_mem_cons.mpr ⟨zk_156, (List.forall_mem_cons.mpr ⟨zk_157, (List.forall_mem_cons.mpr ⟨zk_158, (List.forall_mem_cons.mpr ⟨zk_159, (List.forall_mem_cons.mpr ⟨zk_160, (List.forall_mem_cons.mpr ⟨zk_161, (List.forall_mem_cons.mpr ⟨zk_162, (List.forall_mem_cons.mpr ⟨zk_163, (List.forall_mem_cons.mpr ⟨zk_164, (List.forall_mem_cons.mpr ⟨zk_165, (List.forall_mem_cons.mpr ⟨zk_166, (List.forall_mem_cons.mpr ⟨zk_167, (List.forall_mem_cons.mpr ⟨zk_168, (List.forall_mem_cons.mpr ⟨zk_169, (List.forall_mem_cons.mpr ⟨zk_170, (List.forall_mem_cons.mpr ⟨zk_171, (List.forall_mem_cons.mpr ⟨zk_172, (List.forall_mem_cons.mpr ⟨zk_173, (List.forall_mem_cons.mpr ⟨zk_174, (List.forall_mem_cons.mpr ⟨zk_175, (List.forall_mem_cons.mpr ⟨zk_176, (List.forall_mem_cons.mpr ⟨zk_177, (List.forall_mem_cons.mpr ⟨zk_178, (List.forall_mem_cons.mpr ⟨zk_179, (List.forall_mem_cons.mpr ⟨zk_180, (List.forall_mem_cons.mpr ⟨zk_181, (fun _ h => absurd h List.not_mem_nil)⟩)⟩)⟩)⟩)⟩)⟩)⟩)⟩)⟩)⟩)⟩)⟩)⟩)⟩)⟩)⟩)⟩)⟩)⟩)⟩)⟩)⟩)⟩)⟩)⟩)⟩)
theorem zkc_182 : ∀ q ∈ [zm182, zm183, zm184, zm185, zm186, zm187, zm188, zm189, zm190, zm191, zm192, zm193, zm194, zm195, zm196, zm197, zm198, zm199, zm200, zm201, zm202, zm203, zm204, zm205, zm206, zm207], zkw q ∈ lw_tbl := (List.forall_mem_cons.mpr ⟨zk_182, (List.forall_mem_cons.mpr ⟨zk_183, (List.forall_mem_cons.mpr ⟨zk_184, (List.forall_mem_cons.mpr ⟨zk_185, (List.forall_mem_cons.mpr ⟨zk_186, (List.forall_mem_cons.mpr ⟨zk_187, (List.forall_mem_cons.mpr ⟨zk_188, (List.forall_mem_cons.mpr ⟨zk_189, (List.forall_mem_cons.mpr ⟨zk_190, (List.forall_mem_cons.mpr ⟨zk_191, (List.forall_mem_cons.mpr ⟨zk_192, (List.forall_mem_cons.mpr ⟨zk_193, (List.forall_mem_cons.mpr ⟨zk_194, (List.forall_mem_cons.mpr ⟨zk_195, (List.forall_mem_cons.mpr ⟨zk_196, (List.forall_mem_cons.mpr ⟨zk_197, (List.forall_mem_cons.mpr ⟨zk_198, (List.forall_mem_cons.mpr ⟨zk_199, (List.forall_mem_cons.mpr ⟨zk_200, (List.forall_mem_cons.mpr ⟨zk_201, (List.forall_mem_cons.mpr ⟨zk_202, (List.forall_mem_cons.mpr ⟨zk_203, (List.forall_mem_cons.mpr ⟨zk_204, (List.forall_mem_cons.mpr ⟨zk_205, (List.forall_mem_cons.mpr ⟨zk_206, (List.forall_mem_cons.mpr ⟨zk_207, (fun _ h => absurd h List.not_mem_nil)⟩)⟩)⟩)⟩)⟩)⟩)⟩)⟩)⟩)⟩)⟩)⟩)⟩)⟩)⟩)⟩)⟩)⟩)⟩)⟩)⟩)⟩)⟩)⟩)⟩)⟩)
theorem zkc_208 : ∀ q ∈ [zm208, zm209, zm210, zm211, zm212, zm213, zm214, zm215, zm216, zm217, zm218, zm219, zm220, zm221, zm222, zm223, zm224, zm225, zm226, zm227, zm228, zm229, zm230, zm231, zm232, zm233], zkw q ∈ lw_tbl := (List.forall_mem_cons.mpr ⟨zk_208, (List.forall_mem_cons.mpr ⟨zk_209, (List.forall_mem_cons.mpr ⟨zk_210, (List.forall_mem_cons.mpr ⟨zk_211, (List.forall_mem_cons.mpr ⟨zk_212, (List.forall_mem_cons.mpr ⟨zk_213, (List.forall_mem_cons.mpr ⟨zk_214, (List.forall_mem_cons.mpr ⟨zk_215, (List.forall_mem_cons.mpr ⟨zk_216, (List.forall_mem_cons.mpr ⟨zk_217, (List.forall_mem_cons.mpr ⟨zk_218, (List.forall_mem_cons.mpr ⟨zk_219, (List.forall_mem_cons.mpr ⟨zk_220, (List.forall_mem_cons.mpr ⟨zk_221, (List.forall_mem_cons.mpr ⟨zk_222, (List.forall_mem_cons.mpr ⟨zk_223, (List.forall_mem_cons.mpr ⟨zk_224, (List.forall_mem_cons.mpr ⟨zk_225, (List.forall_mem_cons.mpr ⟨zk_226, (List.forall_mem_cons.mpr ⟨zk_227, (List.forall_mem_cons.mpr ⟨zk_228, (List.forall_mem_cons.mpr ⟨zk_229, (List.forall_mem_cons.mpr ⟨zk_230, (List.forall_mem_cons.mpr ⟨zk_231, (List.forall_mem_cons.mpr ⟨zk_232, (List.forall_mem_cons.mpr ⟨zk_233, (fun _ h => absurd h List.not_mem_nil)⟩)⟩)⟩)⟩)⟩)⟩)⟩)⟩)⟩)⟩)⟩)⟩)⟩)⟩)⟩)⟩)⟩)⟩)⟩)⟩)⟩)⟩)⟩)⟩)⟩)⟩)
set_option maxRecDepth 20000 in
theorem zM_split : zM.take 234 = [zm0, zm1, zm2, zm3, zm4, zm5, zm6, zm7, zm8, zm9, zm10, zm11, zm12, zm13, zm14, zm15, zm16, zm17, zm18, zm19, zm20, zm21, zm22, zm23, zm24, zm25] ++ ([zm26, zm27, zm28, zm29, zm30, zm31, zm32, zm33, zm34, zm35, zm36, zm37, zm38, zm39, zm40, zm41, zm42, zm43, zm44, zm45, zm46, zm47, zm48, zm49, zm50, zm51] ++ ([zm52, zm53, zm54, zm55, zm56, zm57, zm58, zm59, zm60, zm61, zm62, zm63, zm64, zm65, zm66, zm67, zm68, zm69, zm70, zm71, zm72, zm73, zm74, zm75, zm76, zm77] ++ ([zm78, zm79, zm80, zm81, zm82, zm83, zm84, zm85, zm86, zm87, zm88, zm89, zm90, zm91, zm92, zm93, zm94, zm95, zm96, zm97, zm98, zm99, zm100, zm101, zm102, zm103] ++ ([zm104, zm105, zm106, zm107, zm108, zm109, zm110, zm111, zm112, zm113, zm114, zm115, zm116, zm117, zm118, zm119, zm120, zm121, zm122, zm123, zm124, zm125, zm126, zm127, zm128, zm129] ++ ([zm130, zm131, zm132, zm133, zm134, zm135, zm136, zm137, zm138, zm139, zm140, zm141, zm142, zm143, zm144, zm145, zm146, zm147, zm148, zm149, zm150, zm151, zm152, zm153, zm154, zm155] ++ ([zm156, zm157, zm158, zm159, zm160, zm161, zm162, zm163, zm164, zm165, zm166, zm167, zm168, zm169, zm170, zm171, zm172, zm173, zm174, zm175, zm176, zm177, zm178, zm179, zm180, zm181] ++ ([zm182, zm183, zm184, zm185, zm186, zm187, zm188, zm189, zm190, zm191, zm192, zm193, zm194, zm195, zm196, zm197, zm198, zm199, zm200, zm201, zm202, zm203, zm204, zm205, zm206, zm207] ++ ([zm208, zm209, zm210, zm211, zm212, zm213, zm214, zm215, zm216, zm217, zm218, zm219, zm220, zm221, zm222, zm223, zm224, zm225, zm226, zm227, zm228, zm229, zm230, zm231, zm232, zm233])))))))) := rfl
theorem zM_k {q : zMI} (h : q ∈ zM.take 234) : zkw q ∈ lw_tbl := by
  rw [zM_split] at h
  exact (List.forall_mem_append.mpr ⟨zkc_0, List.forall_mem_append.mpr ⟨zkc_26, List.forall_mem_append.mpr ⟨zkc_52, List.forall_mem_append.mpr ⟨zkc_78, List.forall_mem_append.mpr ⟨zkc_104, List.forall_mem_append.mpr ⟨zkc_130, List.forall_mem_append.mpr ⟨zkc_156, List.forall_mem_append.mpr ⟨zkc_182, zkc_208⟩⟩⟩⟩⟩⟩⟩⟩) q h
end
section
/-! the machine's values and cells beside the heap's -/
/-- a value here, a value there: ρ the addresses of the cells made here, ad of the others -/
def zvr (ad : Nat → Nat) (ρ : List Nat) (v v' : Value) : Prop := match v with
  | .ref k => ∃ a, v' = .ref a ∧ (if k < 1000 then ρ[k]? = some a else a = ad k)
  | .retAddr k => (∃ a, v' = .ref a) ∨ (k ≠ 0 ∧ v' = .null)
  | .null => v' = .null
  | .int x => v' = .int x
  | .long x => v' = .long x
  | _ => False
def zsr (ad : Nat → Nat) (ρ : List Nat) : List Value → List Value → Prop
  | [], [] => True
  | v :: s, v' :: s' => zvr ad ρ v v' ∧ zsr ad ρ s s'
  | _, _ => False
section ZR
variable {ad : Nat → Nat} {ρ : List Nat}
theorem zget_app {ρ r : List Nat} {k a : Nat} (h : ρ[k]? = some a) : (ρ ++ r)[k]? = some a := by
  rw [List.getElem?_append_left (List.getElem?_eq_some_iff.mp h).1]; exact h
theorem zvr_mono (r : List Nat) {v v' : Value} (h : zvr ad ρ v v') : zvr ad (ρ ++ r) v v' := by
  cases v with
  | ref k =>
    obtain ⟨a, h1, h2⟩ := h
    refine ⟨a, h1, ?_⟩
    split at h2
    · next hk => rw [if_pos hk]; exact zget_app h2
    · next hk => rw [if_neg hk]; exact h2
  | _ => exact h
theorem zvr_cat {v v' : Value} (h : zvr ad ρ v v') : v'.category = v.category := by
  cases v with
  | ref k => obtain ⟨a, rfl, -⟩ := h; rfl
  | retAddr k =>
    rcases h with ⟨a, rfl⟩ | ⟨-, rfl⟩ <;> rfl
  | null => cases h; rfl
  | int x => cases h; rfl
  | long x => cases h; rfl
  | float x => exact h.elim
  | double x => exact h.elim
theorem zsr_mono (r : List Nat) : ∀ {s s' : List Value}, zsr ad ρ s s' → zsr ad (ρ ++ r) s s'
  | [], [], _ => trivial
  | _ :: _, _ :: _, h => ⟨zvr_mono r h.1, zsr_mono r h.2⟩
  | [], _ :: _, h => h.elim
  | _ :: _, [], h => h.elim
theorem zsr_cons {v : Value} {s t : List Value} (h : zsr ad ρ (v :: s) t) : ∃ v' s', t = v' :: s' ∧ zvr ad ρ v v' ∧ zsr ad ρ s s' := by
  cases t with
  | nil => exact h.elim
  | cons v' s' => exact ⟨v', s', rfl, h.1, h.2⟩
theorem zsr_int {x : Int32} {s t : List Value} (h : zsr ad ρ (.int x :: s) t) : ∃ s', t = .int x :: s' ∧ zsr ad ρ s s' := by
  obtain ⟨v', s', rfl, h1, h2⟩ := zsr_cons h
  exact ⟨s', by rw [show v' = .int x from h1], h2⟩
theorem zsr_long {x : Int64} {s t : List Value} (h : zsr ad ρ (.long x :: s) t) : ∃ s', t = .long x :: s' ∧ zsr ad ρ s s' := by
  obtain ⟨v', s', rfl, h1, h2⟩ := zsr_cons h
  exact ⟨s', by rw [show v' = .long x from h1], h2⟩
theorem zsr_ref {k : Nat} {s t : List Value} (h : zsr ad ρ (.ref k :: s) t) : ∃ a s', t = .ref a :: s' ∧ (if k < 1000 then ρ[k]? = some a else a = ad k) ∧ zsr ad ρ s s' := by
  obtain ⟨v', s', rfl, ⟨a, h0, h1⟩, h2⟩ := zsr_cons h
  exact ⟨a, s', by rw [h0], h1, h2⟩
theorem zsr_nil {t : List Value} (h : zsr ad ρ [] t) : t = [] := by
  cases t with
  | nil => rfl
  | cons _ _ => exact h.elim
theorem zsr_len : ∀ {s s' : List Value}, zsr ad ρ s s' → s'.length = s.length
  | [], [], _ => rfl
  | _ :: _, _ :: _, h => by simp [zsr_len h.2]
  | [], _ :: _, h => h.elim
  | _ :: _, [], h => h.elim
theorem zsr_wd : ∀ {s s' : List Value}, zsr ad ρ s s' → (s'.map fun v => v.category).sum = zwd s
  | [], [], _ => rfl
  | _ :: _, _ :: _, h => by
    have h2 := zsr_wd h.2
    simp only [zwd] at h2
    simp only [zwd, List.map_cons, List.sum_cons, zvr_cat h.1, h2]
  | [], _ :: _, h => h.elim
  | _ :: _, [], h => h.elim
theorem zsr_app : ∀ {a b t : List Value}, zsr ad ρ (a ++ b) t → ∃ a' b', t = a' ++ b' ∧ zsr ad ρ a a' ∧ zsr ad ρ b b'
  | [], b, t, h => ⟨[], t, rfl, trivial, h⟩
  | v :: a, b, t, h => by
    obtain ⟨v', s', rfl, h1, h2⟩ := zsr_cons (s := a ++ b) h
    obtain ⟨a', b', rfl, h3, h4⟩ := zsr_app h2
    exact ⟨v' :: a', b', rfl, ⟨h1, h3⟩, h4⟩
theorem zsr_cat : ∀ {a a' b b' : List Value}, zsr ad ρ a a' → zsr ad ρ b b' → zsr ad ρ (a ++ b) (a' ++ b')
  | [], [], _, _, _, h => h
  | _ :: _, _ :: _, _, _, h, h2 => ⟨h.1, zsr_cat h.2 h2⟩
  | [], _ :: _, _, _, h, _ => h.elim
  | _ :: _, [], _, _, h, _ => h.elim
theorem zsr_rev : ∀ {a a' : List Value}, zsr ad ρ a a' → zsr ad ρ a.reverse a'.reverse
  | [], [], _ => trivial
  | v :: a, v' :: a', h => by
    rw [List.reverse_cons, List.reverse_cons]
    exact zsr_cat (zsr_rev h.2) ⟨h.1, trivial⟩
  | [], _ :: _, h => h.elim
  | _ :: _, [], h => h.elim
theorem zsr_at : ∀ {s s' : List Value} {k : Nat} {v : Value}, zsr ad ρ s s' → s[k]? = some v → ∃ v', s'[k]? = some v' ∧ zvr ad ρ v v'
  | v :: s, v' :: s', 0, w, h, hk => by
    simp at hk; subst hk
    exact ⟨v', by simp, h.1⟩
  | v :: s, v' :: s', k + 1, w, h, hk => by
    simp at hk
    obtain ⟨w', h1, h2⟩ := zsr_at h.2 hk
    exact ⟨w', by simpa using h1, h2⟩
  | [], _, _, _, _, hk => by simp at hk
  | _ :: _, [], _, _, h, _ => h.elim
theorem zsr_set : ∀ {s s' : List Value} (k : Nat) {v v' : Value}, zsr ad ρ s s' → zvr ad ρ v v' → zsr ad ρ (s.set k v) (s'.set k v')
  | [], [], _, _, _, _, _ => trivial
  | _ :: _, _ :: _, 0, _, _, h, hv => ⟨hv, h.2⟩
  | _ :: _, _ :: _, k + 1, _, _, h, hv => ⟨h.1, zsr_set k h.2 hv⟩
  | [], _ :: _, _, _, _, h, _ => h.elim
  | _ :: _, [], _, _, _, h, _ => h.elim
/-- the locals -/
def zlr (ad : Nat → Nat) (ρ : List Nat) (als : List Value) (ls : Array Slot) : Prop :=
  ∃ l : List (Nat × Value), lv_has ls als.length l ∧ (∀ q ∈ l, q.2.category = 1) ∧ ∀ i v, als[i]? = some v → (∃ k, v = .retAddr k) ∨ ∃ v', (i, v') ∈ l ∧ zvr ad ρ v v'
theorem zlr_mono (r : List Nat) {als : List Value} {ls : Array Slot} (h : zlr ad ρ als ls) : zlr ad (ρ ++ r) als ls := by
  obtain ⟨l, h1, h2, h3⟩ := h
  refine ⟨l, h1, h2, fun i v hv => ?_⟩
  rcases h3 i v hv with h | ⟨v', h4, h5⟩
  · exact Or.inl h
  · exact Or.inr ⟨v', h4, zvr_mono r h5⟩
theorem zlr_at {als : List Value} {ls : Array Slot} (h : zlr ad ρ als ls) {i : Nat} {v : Value} (hv : als[i]? = some v) (hj : ∀ k, v ≠ .retAddr k) : ∃ v', ls[i]? = some (.val v') ∧ zvr ad ρ v v' := by
  obtain ⟨l, h1, h2, h3⟩ := h
  rcases h3 i v hv with ⟨k, h⟩ | ⟨v', h4, h5⟩
  · exact absurd h (hj k)
  · exact ⟨v', h1.2.2 _ h4, h5⟩
theorem zlr_set {als : List Value} {l : List (Nat × Value)} (h2 : ∀ q ∈ l, q.2.category = 1) (h3 : ∀ i v, als[i]? = some v → (∃ k, v = .retAddr k) ∨ ∃ v', (i, v') ∈ l ∧ zvr ad ρ v v') {k : Nat} {v v' : Value} (hv : zvr ad ρ v v') (hc : v'.category = 1) {ls : Array Slot} (hl : lv_has ls als.length ((k, v') :: l.filter (fun q => !(q.1 == k) && !(q.1 + 1 == k && q.2.category == 2)))) : zlr ad ρ (als.set k v) ls := by
  refine ⟨_, by rw [List.length_set]; exact hl, ?_, ?_⟩
  · intro q hq
    rcases List.mem_cons.mp hq with rfl | hq
    · exact hc
    · exact h2 q (List.mem_filter.mp hq).1
  · intro i w hw
    by_cases hik : i = k
    · subst hik
      have hlt : i < als.length := by
        have := (List.getElem?_eq_some_iff.mp hw).1
        simpa using this
      rw [List.getElem?_set_self hlt] at hw
      cases hw
      exact Or.inr ⟨v', List.mem_cons_self, hv⟩
    · rw [List.getElem?_set_ne (Ne.symm hik)] at hw
      rcases h3 i w hw with h | ⟨w', h4, h5⟩
      · exact Or.inl h
      · refine Or.inr ⟨w', List.mem_cons_of_mem _ (List.mem_filter.mpr ⟨h4, ?_⟩), h5⟩
        have := h2 _ h4
        simp [hik, this]
theorem lv_args_mem : ∀ (vs : List Value) (n i : Nat) (v : Value), (∀ v ∈ vs, v.category = 1) → vs[i]? = some v → (n + i, v) ∈ lv_args n vs
  | [], _, _, _, _, h => by simp at h
  | w :: vs, n, 0, v, hc, h => by
    simp at h; subst h
    simp [lv_args]
  | w :: vs, n, i + 1, v, hc, h => by
    simp at h
    have hw := hc w List.mem_cons_self
    have := lv_args_mem vs (n + 1) i v (fun v hv => hc v (List.mem_cons_of_mem _ hv)) h
    simp only [lv_args, hw]
    refine List.mem_cons_of_mem _ ?_
    rw [show n + (i + 1) = n + 1 + i by omega]
    exact this
theorem lv_args_cat : ∀ (vs : List Value) (n : Nat), (∀ v ∈ vs, v.category = 1) → ∀ q ∈ lv_args n vs, q.2.category = 1
  | [], _, _, q, h => by simp [lv_args] at h
  | w :: vs, n, hc, q, h => by
    simp only [lv_args] at h
    rcases List.mem_cons.mp h with rfl | h
    · exact hc w List.mem_cons_self
    · exact lv_args_cat vs _ (fun v hv => hc v (List.mem_cons_of_mem _ hv)) q h
theorem lg_sl_len : ∀ (vs : List Value), (∀ v ∈ vs, v.category = 1) → (lg_sl vs).length = vs.length
  | [], _ => rfl
  | w :: vs, hc => by
    have := lg_sl_len vs (fun v hv => hc v (List.mem_cons_of_mem _ hv))
    have hw := hc w List.mem_cons_self
    simp only [lg_sl] at this ⊢
    simp [hw, this]
/-- the locals with which a call begins -/
theorem zlr_entry {q : zMI} {as as' : List Value} (h : zsr ad ρ as as') (hc : ∀ v ∈ as, v.category = 1) (hn : as.length ≤ q.nL) : zlr ad ρ (zloc q as) ((lg_sl as' ++ List.replicate (q.nL - (lg_sl as').length) Slot.unset).toArray) := by
  have hc' : ∀ v ∈ as', v.category = 1 := by
    intro v hv
    obtain ⟨i, hi⟩ := List.getElem?_of_mem hv
    have hl : i < as.length := by rw [← zsr_len h]; exact (List.getElem?_eq_some_iff.mp hi).1
    obtain ⟨w, h1, h2⟩ := zsr_at h (List.getElem?_eq_getElem hl)
    cases hi.symm.trans h1
    rw [zvr_cat h2]
    exact hc _ (List.getElem_mem hl)
  have hL := lg_sl_len as' hc'
  have hlen : (zloc q as).length = q.nL := by simp [zloc]; omega
  refine ⟨lv_args 0 as', ?_, lv_args_cat as' 0 hc', fun i v hv => ?_⟩
  · rw [hlen]
    exact lv_entry as' (by rw [hL, zsr_len h]; exact hn)
  · by_cases hi : i < as.length
    · rw [zloc, List.getElem?_append_left hi] at hv
      obtain ⟨v', h1, h2⟩ := zsr_at h hv
      have := lv_args_mem as' 0 i v' hc' h1
      rw [Nat.zero_add] at this
      exact Or.inr ⟨v', this, h2⟩
    · rw [zloc, List.getElem?_append_right (by omega)] at hv
      exact Or.inl ⟨0, List.eq_of_mem_replicate (List.mem_of_getElem? hv)⟩
abbrev zTrip : FieldType := .object "CobblePorts$Trip"
abbrev zString : FieldType := .object "java/lang/String"
def ztys (tA : FieldType → ClassId) : List (ClassId × FieldType) := [(tA .int, .int), (tA .byte, .byte), (tA .long, .long), (tA zTrip, zTrip), (tA zString, zString)]
def zkt (tA : FieldType → ClassId) (ty : FieldType) : Prop := ∃ t : Nat, (ztys tA)[t]? = some (tA ty, ty)
/-- a cell here, a cell there -/
def zcr (ad : Nat → Nat) (tA : FieldType → ClassId) (ρ : List Nat) (c : zC) (e : va_E) : Prop := match c with
  | .inr (ci, fs) => ∃ fs', e = .inr (ci, fs') ∧ zsr ad ρ fs fs'
  | .inl (ty, n, .inl f) => e = .inl (tA ty, n, .inl f) ∧ zkt tA ty
  | .inl (ty, n, .inr (.inl f)) => e = .inl (tA ty, n, .inr (.inl f)) ∧ zkt tA ty
  | .inl (ty, n, .inr (.inr (.inr (.inr f)))) => ∃ f', e = .inl (tA ty, n, .inr (.inr (.inr (.inr f')))) ∧ (∀ i, zvr ad ρ (va_rf (f i)) (va_rf (f' i))) ∧ zkt tA ty
  | _ => False
theorem zcr_mono {tA : FieldType → ClassId} (r : List Nat) {c : zC} {e : va_E} (h : zcr ad tA ρ c e) : zcr ad tA (ρ ++ r) c e := by
  rcases c with ⟨ty, n, f | f | f | f | f⟩ | ⟨ci, fs⟩
  · exact h
  · exact h
  · exact h.elim
  · exact h.elim
  · obtain ⟨f', h1, h2, h3⟩ := h
    exact ⟨f', h1, fun i => zvr_mono r (h2 i), h3⟩
  · obtain ⟨fs', h1, h2⟩ := h
    exact ⟨fs', h1, zsr_mono r h2⟩
def zwr (ad : Nat → Nat) (tA : FieldType → ClassId) (ρ : List Nat) (ws : List zC) (wr : va_W) : Prop :=
  wr.map (fun q => q.1) = ρ ∧ wr.length = ws.length ∧ ∀ (k : Nat) (c : zC), ws[k]? = some c → ∃ q : Nat × va_E, wr[k]? = some q ∧ zcr ad tA ρ c q.2
theorem zwr_at {tA : FieldType → ClassId} {ws : List zC} {wr : va_W} (h : zwr ad tA ρ ws wr) {k : Nat} {c : zC} (hk : ws[k]? = some c) {a : Nat} (ha : ρ[k]? = some a) : ∃ e, wr[k]? = some (a, e) ∧ zcr ad tA ρ c e := by
  obtain ⟨⟨a', e⟩, h1, h2⟩ := h.2.2 k c hk
  have : ρ[k]? = some a' := by rw [← h.1, List.getElem?_map, h1]; rfl
  cases ha.symm.trans this
  exact ⟨e, h1, h2⟩
theorem zwr_set {tA : FieldType → ClassId} {ws : List zC} {wr : va_W} (h : zwr ad tA ρ ws wr) {k : Nat} {c : zC} {a : Nat} {e0 e : va_E} (hk : wr[k]? = some (a, e0)) (hc : zcr ad tA ρ c e) : zwr ad tA ρ (ws.set k c) (wr.set k (a, e)) := by
  have hl : k < wr.length := (List.getElem?_eq_some_iff.mp hk).1
  refine ⟨?_, by simp [h.2.1], fun j d hj => ?_⟩
  · rw [← h.1]
    apply List.ext_getElem?
    intro j
    by_cases hjk : j = k
    · subst hjk
      obtain ⟨_, h5⟩ := List.getElem?_eq_some_iff.mp hk
      simp [hl, h5]
    · simp [List.getElem?_set_ne (Ne.symm hjk)]
  · by_cases hjk : j = k
    · subst hjk
      rw [List.getElem?_set_self (by rw [← h.2.1]; exact hl)] at hj
      cases hj
      exact ⟨(a, e), List.getElem?_set_self hl, hc⟩
    · rw [List.getElem?_set_ne (Ne.symm hjk)] at hj
      obtain ⟨q, h1, h2⟩ := h.2.2 j d hj
      exact ⟨q, by rw [List.getElem?_set_ne (Ne.symm hjk)]; exact h1, h2⟩
theorem zwr_push {tA : FieldType → ClassId} {ws : List zC} {wr : va_W} (h : zwr ad tA ρ ws wr) {c : zC} {a : Nat} {e : va_E} (hc : zcr ad tA (ρ ++ [a]) c e) : zwr ad tA (ρ ++ [a]) (ws ++ [c]) (wr ++ [(a, e)]) := by
  refine ⟨by simp [h.1], by simp [h.2.1], fun j d hj => ?_⟩
  by_cases hl : j < ws.length
  · rw [List.getElem?_append_left hl] at hj
    obtain ⟨q, h1, h2⟩ := h.2.2 j d hj
    exact ⟨q, by rw [List.getElem?_append_left (by rw [h.2.1]; exact hl)]; exact h1, zcr_mono _ h2⟩
  · rw [List.getElem?_append_right (by omega)] at hj
    have hz : j - ws.length < 1 := (List.getElem?_eq_some_iff.mp hj).1
    have h0 : j = ws.length := by omega
    subst h0
    rw [Nat.sub_self] at hj
    cases hj
    exact ⟨(a, e), by rw [← h.2.1]; simp, hc⟩
theorem zwr_len {tA : FieldType → ClassId} {ws : List zC} {wr : va_W} (h : zwr ad tA ρ ws wr) : ρ.length = ws.length := by rw [← h.1, List.length_map, h.2.1]
end ZR
end
section
/-! what a frame of the machine stands on -/
def zAr (N0 : Nat) : Nat → Prop := fun q => N0 ≤ q
abbrev zNSE : String := "java/util/NoSuchElementException"
abbrev zIAE : String := "java/lang/IllegalArgumentException"
abbrev zRE : List String := ["java/lang/RuntimeException", "java/lang/Exception"]
/-- the constructors of the two exceptions: by which entry they are called, and call; their bytes -/
def zic0 (e : Nat) : Nat := if e = 0 then 138 else 72
def zix0 (e : Nat) : Nat := if e = 0 then 13 else 7
def zrx0 (e : Nat) : ByteArray := if e = 0 then prog_28_method_4_code else prog_17_method_2_code
/-- the words of the two throws -/
def zaw (e : Nat) : List Cond := (Bundle.ownAtomsX "CobblePorts" (zic0 e) (zEN e) (zix0 e) (zrx0 e) zRE).filter vx_no
theorem zaw_good : ((zaw 0 ++ zaw 1).filter goodWord).all (fun w => decide (w ∈ lw_tbl)) = true := by decide +kernel
/-- words that a warmer table keeps by laws of their own -/
def zkk (w : Cond) : Bool := match w with
  | .methodLinkNest .. => true
  | .declares _ => true
  | .castable .. => true
  | _ => false
def zxw : List Cond := zNL.map znc ++ (zaw 0 ++ zaw 1).filter (fun w => !goodWord w)
theorem zxw_in : ((zaw 0 ++ zaw 1).filter (fun w => !goodWord w)).all (fun w => decide (w ∈ lw_tbl)) = true := by decide +kernel
theorem zxw_kk : zxw.all zkk = true := by decide +kernel
theorem zaw_ot : (zaw 0 ++ zaw 1).all vx_ot = true := by decide +kernel
theorem zkk_warm {w : Cond} (h : zkk w = true) {s U : State} (hW : s.WarmedH U.vm) (hZ : va_Nw w s) : va_Nw w U := by
  cases w with
  | methodLinkNest a i x b => exact va_Nw.warmM hW hZ
  | declares x => exact va_Nw.warmD hW hZ
  | castable a b => exact va_Nw.warmC hW hZ
  | _ => cases h
theorem zkk_on {w : Cond} (h : zkk w = true) : w.onTables = true := by
  cases w with
  | methodLinkNest a i x b => rfl
  | declares x => rfl
  | castable a b => rfl
  | _ => cases h
/-- what the tables say at a state -/
def zKn (D : va_G) (tA : FieldType → ClassId) (adK : Nat → Nat) (U : State) : Prop :=
  va_K D zcl (ztys tA) U ∧ (∀ i, i < 48 → vk_R (zsn i).1 (zsn i).2.1 (zsn i).2.2 (adK i) U) ∧ (∀ w ∈ zxw, va_Nw w U) ∧ (va_Nc zNSE zIAE U ∧ va_Nc zIAE zNSE U) ∧ va_AO "CobblePorts$Trip" U ∧ va_AO "java/lang/String" U
theorem zKn.warm {D : va_G} {tA : FieldType → ClassId} {adK : Nat → Nat} {s U : State} (hW : s.WarmedH U.vm) (h : zKn D tA adK s) : zKn D tA adK U := by
  obtain ⟨h1, h2, h3, ⟨h4, h5⟩, h6, h7⟩ := h
  exact ⟨h1.moved hW.alike, fun i hi => (h2 i hi).warm hW, fun w hw => zkk_warm (List.all_eq_true.mp zxw_kk w hw) hW (h3 w hw), ⟨h4.moved hW.alike, h5.moved hW.alike⟩, h6.moved hW.alike, h7.moved hW.alike⟩
theorem zKn.same {D : va_G} {tA : FieldType → ClassId} {adK : Nat → Nat} {s U : State} (hv : U.vm = s.vm) (h : zKn D tA adK s) : zKn D tA adK U := by
  have ha : s.vm.Alike U.vm := by rw [hv]; exact Vm.Alike.refl _
  obtain ⟨h1, h2, h3, ⟨h4, h5⟩, h6, h7⟩ := h
  exact ⟨h1.moved ha, fun i hi => (h2 i hi).same hv, fun w hw => va_Nw.same (zkk_on (List.all_eq_true.mp zxw_kk w hw)) hv.symm (h3 w hw), ⟨h4.moved ha, h5.moved ha⟩, h6.moved ha, h7.moved ha⟩
/-- what lies in the heap from before: texts, the script, statics -/
def zEx (adK adV : Nat → Nat) (b : Nat) (sc : Nat × (Nat → Int32)) (N0 : Nat) (U : State) (H : Heap) : Prop :=
  (∀ i, i < 48 → va_O "java/lang/String" (adK i) (zAr N0) U H ∧ va_OF "java/lang/String" "coder" "B" (.int 0) (adK i) (zAr N0) U H ∧ va_OF "java/lang/String" "value" "[B" (.ref (adV i)) (adK i) (zAr N0) U H ∧ va_T .byte (adV i) (zByt.getD i []).length (fun j => .int ((zByt.getD i []).getD j 0)) (zAr N0) U H) ∧
  va_T .int b sc.1 (fun j => .int (sc.2 j)) (zAr N0) U H ∧
  va_Z "java/lang/String" "COMPACT_STRINGS" "Z" (.int 1) (zAr N0) U H ∧ va_Zq "jdk/internal/util/Preconditions" "SIOOBE_FORMATTER" "Ljava/util/function/BiFunction;" (zAr N0) U H ∧
  vx_Zq Bundle.tN "UNASSIGNED_STACK" Bundle.steD (zAr N0) U H ∧ vx_Zq Bundle.tN "SUPPRESSED_SENTINEL" Bundle.listD (zAr N0) U H
theorem zEx.moved {adK adV : Nat → Nat} {b : Nat} {sc : Nat × (Nat → Int32)} {N0 : Nat} {u U : State} {H : Heap} (hvm : u.vm.Alike U.vm) (h : zEx adK adV b sc N0 u H) : zEx adK adV b sc N0 U H := by
  obtain ⟨h1, h2, h3, h4, h5, h6⟩ := h
  exact ⟨fun i hi => ⟨va_O.moved hvm (h1 i hi).1, va_OF.moved hvm (h1 i hi).2.1, va_OF.moved hvm (h1 i hi).2.2.1, va_T.moved hvm (h1 i hi).2.2.2⟩, h2.moved hvm, h3.moved hvm, va_Zq.moved hvm h4, vx_Zq.moved hvm h5, vx_Zq.moved hvm h6⟩
theorem zEx.kept {adK adV : Nat → Nat} {b : Nat} {sc : Nat × (Nat → Int32)} {N0 : Nat} {U : State} {H H1 : Heap} (h : zEx adK adV b sc N0 U H) (hq : ∀ a : Nat, a < H.size → ¬ zAr N0 a → H1[a]? = H[a]?) : zEx adK adV b sc N0 U H1 := by
  obtain ⟨h1, h2, h3, h4, h5, h6⟩ := h
  exact ⟨fun i hi => ⟨(h1 i hi).1.kept hq, (h1 i hi).2.1.kept hq, (h1 i hi).2.2.1.kept hq, (h1 i hi).2.2.2.kept hq⟩, h2.kept hq, h3.kept hq, va_Zq.kept h4 hq, h5.kept hq, h6.kept hq⟩
def zad (adK adV : Nat → Nat) (b : Nat) : Nat → Nat := fun k => if k < 2000 then adK (k - 1000) else if k < 3000 then adV (k - 2000) else b
/-- a frame's fixed surroundings -/
def zCt (l : Launch) (D : va_G) (tA : FieldType → ClassId) (adK adV : Nat → Nat) (b : Nat) (sc : Nat × (Nat → Int32)) (N0 : Nat) (q : zMI) (d : Nat) (p : Program) (R : Room) (s : State) (m : MethodId) (args : Array Value) (meth : Method) (c : Code) : Prop :=
  p.tables.exec = Jvm.exec ∧ c.code = q.cc ∧ c.maxLocals = q.nL ∧ meth.sig.returnType = q.rt ∧ meth.locks = false ∧ (q.ini = true → meth.name = "<init>") ∧ c.exceptionTable.toList = tableOf q.hh ∧ s.vm.findClass (zCN.getD q.cn "") = some m.cls ∧
  (∀ w ∈ zws, w.before args s = true) ∧ zKn D tA adK s ∧ zEx adK adV b sc N0 s s.heap ∧ N0 ≤ s.heap.size ∧ d ≤ R.frames ∧ 64 * d ≤ R.locals ∧ q.mc ≤ R.cells ∧ q.ms ≤ R.slots ∧ l.stackTraces = false ∧ q ∈ zM
/-- a frame's moving parts -/
def zDy (D : va_G) (tA : FieldType → ClassId) (adK adV : Nat → Nat) (b N0 : Nat) (nL : Nat) (als : List Value) (ws : List zC) (s : State) (H : Heap) (locs : List Loc) (ρ : List Nat) (wr : va_W) (ls : Array Slot) : Prop :=
  va_S (zAr N0) s.heap H locs ∧ va_P D zcl wr H ∧ va_D (zAr N0) wr ∧ zwr (zad adK adV b) tA ρ ws wr ∧ zlr (zad adK adV b) ρ als ls ∧ als.length = nL
/-- from here the frame comes to its end Qm -/
def zCo (l : Launch) (D : va_G) (tA : FieldType → ClassId) (adK adV : Nat → Nat) (b N0 : Nat) (q : zMI) (p : Program) (e : Env) (R : Room) (s : State) (m : MethodId) (args : Array Value) (below : List Frame) (meth : Method) (c : Code) (ρ0 : List Nat) (Qm : State → Prop) (pc : Nat) (als ast : List Value) (ws : List zC) (kc ks : Nat) : Prop :=
  kc ≤ q.mc → ks ≤ q.ms → ∀ (H : Heap) (locs : List Loc) (ρ : List Nat) (wr : va_W) (ls : Array Slot) (st : List Value), (∃ r, ρ = ρ0 ++ r) → zDy D tA adK adV b N0 q.nL als ws s H locs ρ wr ls → zsr (zad adK adV b) ρ ast st → W p l e R s m args below meth c H locs kc ks Qm (F0 m pc ls st)
end
section
/-! an exception made with a text and thrown: the constructor's own entries by number, launches without stack traces (the library's law of this kind fixes entry 7) -/
section ZTH
variable {p : Program} {l : Launch} {e : Env} {R : Room} {s : State} {m₀ : MethodId} {args : Array Value} {below : List Frame} {meth : Method} {c : Code} {V : State} {locs : List Loc} {cells slots : Nat}
set_option maxHeartbeats 4000000 in
theorem zctorX (X : Stand p l e R s m₀ args below meth c V locs cells slots) (hexec : p.tables.exec = Jvm.exec) (htr : e.platform.stackTraces = false) {own cls : String} {names : List String} {ic ix : Nat} {rx : ByteArray}
    (x0 : decode rx 0 = .ok (.aload_n 0, 1)) (x1 : decode rx 1 = .ok (.aload_n 1, 1)) (x2 : decode rx 2 = .ok (.invokespecial ix, 3)) (x5 : decode rx 5 = .ok (.return_, 1))
    (hown : s.vm.findClass own = some m₀.cls) (hcls : Bundle.fit cls = true) (hnames : ∀ n ∈ names, Bundle.fit n = true) (h : ∀ a ∈ Bundle.ownAtomsX own ic cls ix rx names, a.before args s = true) (hlocs : locs = [])
    {a : Addr} {cX : ClassId} {kX : Class} (hfoundX : s.vm.findClass cls = some cX) (hkX : s.vm.classes[cX]? = some kX) (hcell : V.heap[a]? = some (freshCell cX kX)) (hnew : s.heap.size ≤ a)
    {msg : Value} (hmsg : msg.isRef = true) {g : JFrame} (hg : g.method = m₀) (hsize : g.locals.size = c.maxLocals) (hlocked : g.locked = none) (hentered : g.entered = []) {rest : List Value} (hstack : g.stack = msg :: .ref a :: .ref a :: rest)
    (hd6 : decode c.code g.pc = .ok (.invokespecial ic, 3)) (hd9 : decode c.code (g.pc + 3) = .ok (.athrow, 1)) (hout : ∀ x ∈ c.exceptionTable.toList, covers x (g.pc + 3) = false)
    (hRframes : names.length + 3 < R.frames) (hRlocals : 2 * g.monitorRoom + ((Value.ref a :: rest).map fun v => v.category).sum + (13 * (names.length + 1) + 42) ≤ R.locals) (hlocks : meth.locks = false) :
    ∃ U : State, Steps p.tables e below (V.setTop g) U ∧ U.status = .running ∧ Ended U below (.threw a) ∧ s.WarmedH U.vm ∧ s.sameButNew ({ U with vm := s.vm } : State) [] cells slots ∧
      ∃ ce : Cell, U.heap[a]? = some ce ∧ ce.vm = .none ∧ ce.cls = cX := by
  subst hlocs
  have hpf := X.admits.platform
  have o1 : e.platform.frameOwnsMonitors = true := by rw [hpf]
  have o2 : e.platform.finalization = false := by rw [hpf]
  have o3 : e.platform.magicAccessors = ({} : Platform).magicAccessors := by rw [hpf]
  have word : ∀ w, w ∈ Bundle.ownAtomsX own ic cls ix rx names → w.holds args s none s [] = true := fun w hw => h w hw
  -- Throwable, its constructor with a text, and the chain of constructors above it
  obtain ⟨T, Z0, L, -, Y⟩ := ThrowableC.of_atoms (args := args) o1 o2 o3 (fun w hw => h w (by simp [Bundle.ownAtomsX, hw]))
  obtain ⟨Z, M, LZ, LM, hZ⟩ := Init0T.ofS_atoms (args := args) o3 L Y (fun w hw => h w (by simp [Bundle.ownAtomsX, hw]))
  obtain ⟨P1, Ps, hPs, LP1, LPs, hP1, on1, on2⟩ := Bundle.chainSX (args := args) o3 hZ x0 x1 x2 x5 names cls hcls hnames (fun w hw => h w (by simp [Bundle.ownAtomsX, hw]))
  have hc0 : s.vm.findClass cls = some P1.m.cls := findClass_of_methodNamed hP1
  cases Option.some.inj (hfoundX.symm.trans hc0)
  obtain ⟨cI, kI, i1, i2, hord, -, -, -⟩ := Cond.instantiable_spec (word (.instantiable cls 6) (by simp [Bundle.ownAtomsX]))
  cases Option.some.inj (i1.symm.trans hc0)
  cases Option.some.inj (hkX.symm.trans i2)
  -- which fillInStackTrace is selected
  have pick : ∀ {y : MethodName} {f : MethodId}, (Cond.selects cls y y).holds args s none s [] = true → s.methodNamed? y = some f → (y.cls ≠ "java/lang/invoke/MethodHandle" ∧ y.cls ≠ "java/lang/invoke/VarHandle") → selectMethod e.platform s.vm P1.m.cls f = .method f := by
    intro y f hw hf hy
    obtain ⟨cJ, r2, m2, q1, q2, q3, q4, -⟩ := Cond.selects_spec hw
    cases Option.some.inj (q1.symm.trans hc0)
    cases Option.some.inj (q2.symm.trans (State.methodFound?_of_named hf hy))
    cases Option.some.inj (q3.symm.trans hf)
    rw [Launch.admits_selectMethod X.admits]
    exact q4
  have s0 := pick (word (.selects cls Bundle.tFill0 Bundle.tFill0) (by simp [Bundle.ownAtomsX])) Y.fill0 (by decide)
  have s1 := pick (word (.selects cls Bundle.tFill Bundle.tFill) (by simp [Bundle.ownAtomsX])) Y.fill (by decide)
  -- the two statics
  obtain ⟨cS, hcS, hiS⟩ := Y.statics
  obtain ⟨vU, hvU⟩ := Cond.staticRefV Y.unassigned L.unassignedStatic L.statics hcS hiS (word (.isRef (.static Bundle.tN "UNASSIGNED_STACK" Bundle.steD)) (by simp [Bundle.ownAtomsX]))
  obtain ⟨vN, hvN⟩ := Cond.staticRefV Y.sentinel L.sentinelStatic L.statics hcS hiS (word (.isRef (.static Bundle.tN "SUPPRESSED_SENTINEL" Bundle.listD)) (by simp [Bundle.ownAtomsX]))
  obtain ⟨cS', e1, e2, -, e4⟩ := X.same.2.2.2.2.2 T.aS cS hcS
  have hcS1 : V.heap[T.aS]? = some cS' := e1
  have keep : ∀ i, cS'.slots[i]? = cS.slots[i]? := fun i => e4 i (by simp)
  have known : cS'.vm ≠ .unknown := by
    rw [e2]
    intro hu
    rw [show cS.vm = .unknown from hu] at hiS
    cases hiS
  have ne : T.aS ≠ a := Nat.ne_of_lt (Nat.lt_of_lt_of_le (Array.getElem?_eq_some_iff.mp hcS).1 hnew)
  -- the object's fields
  obtain ⟨j1, j2, fB, b1, b2, b3, b4, -, b5, b6, b7⟩ := Cond.ownField (t := .object "java/lang/Object") Y.found L.cls (by decide +kernel) (word (.fieldLink Bundle.tN 198 Bundle.tN "backtrace" "Ljava/lang/Object;") (by simp [Bundle.ownAtomsX])) (word (.lays Bundle.tN Bundle.tN "backtrace" "Ljava/lang/Object;") (by simp [Bundle.ownAtomsX])) e.platform o3
  obtain ⟨iM, hM⟩ := Y.msg
  obtain ⟨tC, dC, hdC, hnC⟩ := Cond.laysAt hc0 i2 Y.cause (word (.lays cls Bundle.tN "cause" "Ljava/lang/Throwable;") (by simp [Bundle.ownAtomsX]))
  obtain ⟨tS, dS, hdS, hnS⟩ := Cond.laysAt hc0 i2 Y.stack (word (.lays cls Bundle.tN "stackTrace" Bundle.steD) (by simp [Bundle.ownAtomsX]))
  obtain ⟨tP, dP, hdP, hnP⟩ := Cond.laysAt hc0 i2 Y.supp (word (.lays cls Bundle.tN "suppressedExceptions" Bundle.listD) (by simp [Bundle.ownAtomsX]))
  obtain ⟨tM, dM, hdM, hnM⟩ := Cond.laysAt hc0 i2 hM (word (.lays cls Bundle.tN "detailMessage" "Ljava/lang/String;") (by simp [Bundle.ownAtomsX]))
  obtain ⟨tB, dB, hdB, hnB⟩ := Cond.laysAt hc0 i2 b7 (word (.lays cls Bundle.tN "backtrace" "Ljava/lang/Object;") (by simp [Bundle.ownAtomsX]))
  have bC := Cond.laysApart hdB hdC hnB hnC (by rw [b5, Y.causeName]; decide)
  have bS := Cond.laysApart hdB hdS hnB hnS (by rw [b5, Y.stackName]; decide)
  have bP := Cond.laysApart hdB hdP hnB hnP (by rw [b5, Y.suppName]; decide)
  have skip : SkipFacts T e.platform s (fun u => u) vU ((preparedCellV T.toThrowableT (freshCell P1.m.cls kX) a vU vN).withEntry V.cur) := by
    refine ⟨{ ci198 := j1, i198 := j2, fBack := fB }, ⟨b1, b2, b3, b4⟩, ?_, fun _ _ => rfl⟩
    have hd := fresh_default (c := P1.m.cls) tB
    rw [b6] at hd
    simpa [preparedCellV, Cell.setSlot, Cell.withEntry, Array.getElem?_setIfInBounds, bC, bS, bP, bC.symm, bS.symm, bP.symm, defaultValue] using hd
  -- the call of the constructor, the constructors' run, the throw
  obtain ⟨tm, mC, cdC, kC, vm1, n1, -, -, -, -, -, -, -, hW1, go1⟩ := Steps.initColdS (tb := p.tables) (e := e) (below := below) (s := s) (U := V) X.here hexec X.warmed o3 hown (t := Bundle.initS cls) rfl rfl (Bundle.fit_spec hcls).2
    (word (.methodLink own ic (Bundle.initS cls)) (by simp [Bundle.ownAtomsX])) (h (.instanceMethod (Bundle.initS cls)) (by cases names <;> simp [Bundle.ownAtomsX, Bundle.chainSAtomsX, Bundle.passSAtoms])) (bytes := rx) (maxL := 2) (h (.code (Bundle.initS cls) rx 2 none) (by cases names <;> simp [Bundle.ownAtomsX, Bundle.chainSAtomsX, Bundle.passSAtoms]))
    (f := g) hg (a := a) (msg := msg) (rest := .ref a :: rest) hstack hd6
  cases Option.some.inj (n1.symm.trans hP1)
  obtain ⟨vm2, X2, go2⟩ := (X.noted hW1).ctorMessageOffV hexec (g := { g with stack := .ref a :: rest }) hg hsize T L Z LZ M LM (P1 :: Ps)
    (fun P hP => by rcases List.mem_cons.mp hP with rfl | hP; exact LP1; exact LPs P hP) ⟨on1, on2⟩ (u0 := vU) (sen := vN) (self := a) hmsg (cell := freshCell P1.m.cls kX) (cellS := cS')
    hcell (fun _ => by simp) (by simp) rfl rfl s0 s1 hcS1 ne known (by rw [keep]; exact hvU) (by rw [keep]; exact hvN)
    (Takes.of_laid i2 hord tC (by rw [Y.causeType]; rfl)) (Takes.of_laid i2 hord tS (by rw [Y.stackType]; exact fits_refV_array _ vU)) (Takes.of_laid i2 hord tP (by rw [Y.suppType]; exact fits_refV_object _ vN))
    (Takes.of_laid i2 hord tM (by rw [Y.msgType]; exact fits_refV_object _ ⟨msg, hmsg⟩)) Y.objLocals skip htr [] hd6
    (by simp only [List.length_cons, hPs]; omega) (by simp only [List.length_cons, hPs]; exact hRlocals)
  obtain ⟨walk, run, ended, hWU, same⟩ := X2.athrowLeaves hexec (g := { g with stack := .ref a :: rest, pc := g.pc + 3 }) hg hlocked hentered hout (a := a) (rest := rest) rfl hd9
  have hlt : a < ((V.setVm vm1).setVm vm2).heap.size := (Array.getElem?_eq_some_iff.mp hcell).1
  refine ⟨_, go1 _ (fun acts => ?_), run, ended, hWU, same.weaken (fun y hy hlt' => ?_) (Nat.le_refl _) (Nat.le_refl _), _, heapAt_setCell_self (s := (V.setVm vm1).setVm vm2) (plainBareV T.toThrowableT (freshCell P1.m.cls kX) a vU vN msg) hlt, rfl, rfl⟩
  · rw [doInvoke_state]
    exact go2 _ walk
  · exfalso
    have hb : y.base = a := by
      simp only [List.nil_append, List.mem_cons, List.not_mem_nil, or_false] at hy
      rcases hy with rfl | rfl | rfl | rfl | rfl <;> rfl
    rw [hb] at hlt'
    exact Nat.not_lt.mpr hnew hlt'
variable {m : MethodId} {H : Heap} {Qc : Array Value → State → Outcome → State → Prop} {XC : String → State → State → Prop} {free : Addr → Prop} {ls : Array Slot} {rest : List Value}
set_option maxHeartbeats 4000000 in
/-- 'throw new E("text")', the text by either load -/
theorem zthrowW {cc : ByteArray} {pc : Nat} (hexec : p.tables.exec = Jvm.exec) (hb : c.code = cc) (hl : l.stackTraces = false) {own cls text : String} {names : List String} {ik is ic ix mc ms sa n4 : Nat} {i4 : Instr} {rx : ByteArray} {A : Nat → Prop}
    (x0 : decode rx 0 = .ok (.aload_n 0, 1)) (x1 : decode rx 1 = .ok (.aload_n 1, 1)) (x2 : decode rx 2 = .ok (.invokespecial ix, 3)) (x5 : decode rx 5 = .ok (.return_, 1))
    (hown : s.vm.findClass own = some m.cls) (hcls : Bundle.fit cls = true) (hnames : ∀ n ∈ names, Bundle.fit n = true)
    (hk : (Cond.classLink own ik cls).before args s = true) (hini : (Cond.initialized cls).before args s = true) (hstr : vk_R own is text sa s) (hat : ∀ w ∈ (Bundle.ownAtomsX own ic cls ix rx names).filter vx_no, w.before args s = true)
    (hgood : ∀ w ∈ Cond.classLink own ik cls :: Cond.initialized cls :: (Bundle.ownAtomsX own ic cls ix rx names).filter vx_no, vx_ot w = true)
    (hU : vx_Zq Bundle.tN "UNASSIGNED_STACK" Bundle.steD A s s.heap) (hN : vx_Zq Bundle.tN "SUPPRESSED_SENTINEL" Bundle.listD A s s.heap) (hS : va_S A s.heap H locs) (hsize : ls.size = c.maxLocals)
    (d0 : decode cc pc = .ok (.new ik, 3)) (d3 : decode cc (pc + 3) = .ok (.dup, 1)) (d4 : decode cc (pc + 4) = .ok (i4, n4)) (h4 : (i4 = .ldc is ∧ n4 = 2) ∨ (i4 = .ldc_w is ∧ n4 = 3)) (d6 : decode cc (pc + 4 + n4) = .ok (.invokespecial ic, 3)) (d9 : decode cc (pc + 4 + n4 + 3) = .ok (.athrow, 1))
    (hout : ∀ x ∈ c.exceptionTable.toList, False)
    (hRframes : names.length + 3 < R.frames) (hRlocals : (rest.map fun v => v.category).sum + (13 * (names.length + 1) + 43) ≤ R.locals) (hRcells : cells + 1 ≤ R.cells) (hRslots : slots + 6 ≤ R.slots) (hlocks : meth.locks = false)
    (hx : ∀ t : State, s.vm.Alike t.vm → H.size ≤ t.heap.size → (∀ q : Nat, q < H.size → t.heap[q]? = H[q]?) → XC cls s t)
    (hf : ∀ z ∈ locs, free z.base) (hc : cells + 1 ≤ mc) (hs : slots + 6 ≤ ms) :
    W p l e R s m args below meth c H locs cells slots (vx_MQ below Qc XC args s mc ms free) (F0 m pc ls rest) := by
  intro T hT X
  have htr : e.platform.stackTraces = false := (show e.platform.stackTraces = l.stackTraces by rw [X.admits.platform]).trans hl
  have Y := vx_rebase X (R' := { frames := R.frames, locals := R.locals, cells := 1, slots := 6 }) (Nat.le_refl _) (Nat.le_refl _) hRcells hRslots
  obtain ⟨s', hA⟩ : ∃ z, z = (T.setVm s.vm).setFrames (.invoking m args :: below) := ⟨_, rfl⟩
  rw [← hA] at Y
  have hvm : s'.vm = s.vm := by rw [hA]; rfl
  have hhp : s'.heap = H := by rw [hA]; exact hT
  have hW0 : s.WarmedH s'.vm := by rw [hvm]; exact State.WarmedH.refl s
  have hat' : ∀ w ∈ (Bundle.ownAtomsX own ic cls ix rx names).filter vx_no, w.before args s' = true := fun w hw => vx_ot_at hW0 hvm.symm (hgood w (List.mem_cons_of_mem _ (List.mem_cons_of_mem _ hw))) (hat w hw)
  have hk' : (Cond.classLink own ik cls).before args s' = true := vx_ot_at hW0 hvm.symm (hgood _ List.mem_cons_self) hk
  have hini' : (Cond.initialized cls).before args s' = true := vx_ot_at hW0 hvm.symm (hgood _ (List.mem_cons_of_mem _ List.mem_cons_self)) hini
  have hU' : vx_Zq Bundle.tN "UNASSIGNED_STACK" Bundle.steD A s' s'.heap := by rw [hhp]; exact vx_Zq.moved hW0.alike (hU.kept hS.2.1)
  have hN' : vx_Zq Bundle.tN "SUPPRESSED_SENTINEL" Bundle.listD A s' s'.heap := by rw [hhp]; exact vx_Zq.moved hW0.alike (hN.kept hS.2.1)
  have h : ∀ w ∈ Bundle.ownAtomsX own ic cls ix rx names, w.before args s' = true := vx_own hat' (vx_isRefq hU'.1) (vx_isRefq hN'.1) hU'.2.word hN'.2.word
  have hown' : s'.vm.findClass own = some m.cls := by rw [hvm]; exact hown
  have hins : (Cond.instantiable cls 6).before args s' = true := h _ (by simp [Bundle.ownAtomsX])
  obtain ⟨vm₁, cX, kX, hfX, hkX, -, -, X₁, st1⟩ := Y.newCold hexec (own := own) (C := cls) (index := ik) (n := 6) hown' hk' hins hini' (g := F0 m pc ls rest) rfl (by rw [hb]; exact d0) (Nat.le_refl _) (Nat.le_refl _)
  generalize hT1 : (T.setVm vm₁).pushCell { cls := cX, slots := kX.instanceTypes.map defaultValue, vm := .none } = T1 at X₁ st1
  have hcat : (Value.ref T.heap.size).category = 1 := rfl
  have hcellA : T1.heap[T.heap.size]? = some (freshCell cX kX) := by rw [← hT1]; exact State.heap_pushCell_size _ _
  have d3' : decode c.code (pc + 3) = .ok (.dup, 1) := by rw [hb]; exact d3
  have hstr' : vk_R own is text sa s' := vk_R.warm hW0 hstr
  obtain ⟨U, hsteps, hrun, hend, hW, hsame, ce, hce, hcv, hcc⟩ := zctorX X₁ hexec htr x0 x1 x2 x5 (own := own) (cls := cls) (names := names) (ic := ic) hown' hcls hnames h rfl hfX hkX hcellA (by rw [hhp, hT]; exact Nat.le_refl _) (msg := .ref sa) rfl
    (g := { method := m, pc := pc + 4 + n4, locals := ls, stack := .ref sa :: .ref T.heap.size :: .ref T.heap.size :: rest, locked := none }) rfl hsize rfl rfl (rest := rest) rfl
    (by rw [hb]; exact d6) (by rw [hb]; exact d9) (fun x hx => (hout x hx).elim) hRframes (by simp only [List.map_cons, List.sum_cons, hcat]; show 2 * 0 + _ + _ ≤ _; omega) hlocks
  obtain ⟨f1, f2⟩ := vx_frame hsame
  rw [hhp] at f1 f2
  have hWs : s.WarmedH U.vm := State.WarmedH.trans hW0 hW
  have hcl : s.vm.findClass cls = some ce.cls := by
    rw [hcc, ← hvm]
    exact hfX
  have hall : s.sameButNew ({ U with vm := s.vm } : State) locs mc ms := by
    subst hA
    obtain ⟨e1, e2⟩ := hsame
    rw [State.setFrames_setFrames] at e1
    have h2 : (T.setVm s.vm).sameButNew ({ U with vm := s.vm } : State) [] (0 + 1) (0 + 6) := ⟨e1, e2⟩
    have h3 := X.same.trans h2
    rw [List.append_nil] at h3
    exact h3.mono hc hs
  refine ⟨U, ?_, .threw T.heap.size, hrun, hend, Or.inr ⟨T.heap.size, rfl, cls, ce, locs, hx U hWs.alike f1 (fun q hq => f2 q hq (fun z hz => nomatch hz)), hce, hcv, hcl, hWs, hall, hf⟩⟩
  refine st1 _ ?_
  show Steps p.tables e below (T1.setTop { method := m, pc := pc + 3, locals := ls, stack := .ref T.heap.size :: rest, locked := none }) _
  jvm_step X₁.here [X₁.here.top, hexec, d3', Value.category]
  rcases h4 with ⟨rfl, rfl⟩ | ⟨rfl, rfl⟩
  · exact X₁.ldcString hexec (own := own) (text := text) (index := is) (a := sa) hown' hstr'.1 hstr'.2 (g := { method := m, pc := pc + 4, locals := ls, stack := .ref T.heap.size :: .ref T.heap.size :: rest, locked := none }) rfl (by rw [hb]; exact d4) _ hsteps
  · exact X₁.ldcStringW hexec (own := own) (text := text) (index := is) (a := sa) hown' hstr'.1 hstr'.2 (g := { method := m, pc := pc + 4, locals := ls, stack := .ref T.heap.size :: .ref T.heap.size :: rest, locked := none }) rfl (by rw [hb]; exact d4) _ hsteps
end ZTH
end
section
/-! one law an instruction: where the machine here goes on, the JVM goes on -/
section ZI
variable {l : Launch} {D : va_G} {tA : FieldType → ClassId} {adK adV : Nat → Nat} {b : Nat} {sc : Nat × (Nat → Int32)} {N0 : Nat} {q : zMI} {d : Nat} {p : Program} {e : Env} {R : Room} {s : State} {m : MethodId} {args : Array Value} {below : List Frame} {meth : Method} {c : Code} {ρ0 : List Nat} {Qm : State → Prop}
variable {pc pc1 n : Nat} {als als1 ast ast1 : List Value} {ws ws1 : List zC} {kc kc1 ks ks1 : Nat}
theorem zi_iconst (C : zCt l D tA adK adV b sc N0 q d p R s m args meth c) {k : Int} (hdec : decode q.cc pc = .ok (.iconst k, 1)) (hn : znx sc q d (.iconst k) 1 pc als ast ws kc ks = some (pc1, als1, ast1, ws1, kc1, ks1)) (K : zCo l D tA adK adV b N0 q p e R s m args below meth c ρ0 Qm pc1 als1 ast1 ws1 kc1 ks1) : zCo l D tA adK adV b N0 q p e R s m args below meth c ρ0 Qm pc als ast ws kc ks := by
  simp only [znx] at hn
  simp only [Option.some.injEq, Prod.mk.injEq] at hn
  obtain ⟨rfl, rfl, rfl, rfl, rfl, rfl⟩ := hn
  intro hkc hks H locs ρ wr ls st hρ hdy hst
  exact lv_iconst C.1 C.2.1 hdec rfl (K hkc hks H locs ρ wr ls _ hρ hdy ⟨rfl, hst⟩)
theorem zi_bipush (C : zCt l D tA adK adV b sc N0 q d p R s m args meth c) {k : Int} (hdec : decode q.cc pc = .ok (.bipush k, 2)) (hn : znx sc q d (.bipush k) 2 pc als ast ws kc ks = some (pc1, als1, ast1, ws1, kc1, ks1)) (K : zCo l D tA adK adV b N0 q p e R s m args below meth c ρ0 Qm pc1 als1 ast1 ws1 kc1 ks1) : zCo l D tA adK adV b N0 q p e R s m args below meth c ρ0 Qm pc als ast ws kc ks := by
  simp only [znx] at hn
  simp only [Option.some.injEq, Prod.mk.injEq] at hn
  obtain ⟨rfl, rfl, rfl, rfl, rfl, rfl⟩ := hn
  intro hkc hks H locs ρ wr ls st hρ hdy hst
  exact lv_bipush C.1 C.2.1 hdec rfl (K hkc hks H locs ρ wr ls _ hρ hdy ⟨rfl, hst⟩)
theorem zi_sipush (C : zCt l D tA adK adV b sc N0 q d p R s m args meth c) {k : Int} (hdec : decode q.cc pc = .ok (.sipush k, 3)) (hn : znx sc q d (.sipush k) 3 pc als ast ws kc ks = some (pc1, als1, ast1, ws1, kc1, ks1)) (K : zCo l D tA adK adV b N0 q p e R s m args below meth c ρ0 Qm pc1 als1 ast1 ws1 kc1 ks1) : zCo l D tA adK adV b N0 q p e R s m args below meth c ρ0 Qm pc als ast ws kc ks := by
  simp only [znx] at hn
  simp only [Option.some.injEq, Prod.mk.injEq] at hn
  obtain ⟨rfl, rfl, rfl, rfl, rfl, rfl⟩ := hn
  intro hkc hks H locs ρ wr ls st hρ hdy hst
  exact lv_sipush C.1 C.2.1 hdec rfl (K hkc hks H locs ρ wr ls _ hρ hdy ⟨rfl, hst⟩)
theorem zi_lconst (C : zCt l D tA adK adV b sc N0 q d p R s m args meth c) {k : Fin 2} (hdec : decode q.cc pc = .ok (.lconst k, 1)) (hn : znx sc q d (.lconst k) 1 pc als ast ws kc ks = some (pc1, als1, ast1, ws1, kc1, ks1)) (K : zCo l D tA adK adV b N0 q p e R s m args below meth c ρ0 Qm pc1 als1 ast1 ws1 kc1 ks1) : zCo l D tA adK adV b N0 q p e R s m args below meth c ρ0 Qm pc als ast ws kc ks := by
  simp only [znx] at hn
  simp only [Option.some.injEq, Prod.mk.injEq] at hn
  obtain ⟨rfl, rfl, rfl, rfl, rfl, rfl⟩ := hn
  intro hkc hks H locs ρ wr ls st hρ hdy hst
  exact lv_lconst C.1 C.2.1 hdec rfl (K hkc hks H locs ρ wr ls _ hρ hdy ⟨rfl, hst⟩)
theorem zi_iload (C : zCt l D tA adK adV b sc N0 q d p R s m args meth c) {k : Nat} (hdec : decode q.cc pc = .ok (.iload k, 2)) (hn : znx sc q d (.iload k) 2 pc als ast ws kc ks = some (pc1, als1, ast1, ws1, kc1, ks1)) (K : zCo l D tA adK adV b N0 q p e R s m args below meth c ρ0 Qm pc1 als1 ast1 ws1 kc1 ks1) : zCo l D tA adK adV b N0 q p e R s m args below meth c ρ0 Qm pc als ast ws kc ks := by
  simp only [znx] at hn
  split at hn
  · next x hx =>
    simp only [Option.some.injEq, Prod.mk.injEq] at hn
    obtain ⟨rfl, rfl, rfl, rfl, rfl, rfl⟩ := hn
    intro hkc hks H locs ρ wr ls st hρ hdy hst
    obtain ⟨v1, h1, h2⟩ := zlr_at hdy.2.2.2.2.1 hx (by intro k h; cases h)
    cases (show v1 = .int x from h2)
    exact lv_iload C.1 C.2.1 hdec h1 (K hkc hks H locs ρ wr ls _ hρ hdy ⟨rfl, hst⟩)
  · cases hn
theorem zi_iload_n (C : zCt l D tA adK adV b sc N0 q d p R s m args meth c) {k : Fin 4} (hdec : decode q.cc pc = .ok (.iload_n k, 1)) (hn : znx sc q d (.iload_n k) 1 pc als ast ws kc ks = some (pc1, als1, ast1, ws1, kc1, ks1)) (K : zCo l D tA adK adV b N0 q p e R s m args below meth c ρ0 Qm pc1 als1 ast1 ws1 kc1 ks1) : zCo l D tA adK adV b N0 q p e R s m args below meth c ρ0 Qm pc als ast ws kc ks := by
  simp only [znx] at hn
  split at hn
  · next x hx =>
    simp only [Option.some.injEq, Prod.mk.injEq] at hn
    obtain ⟨rfl, rfl, rfl, rfl, rfl, rfl⟩ := hn
    intro hkc hks H locs ρ wr ls st hρ hdy hst
    obtain ⟨v1, h1, h2⟩ := zlr_at hdy.2.2.2.2.1 hx (by intro k h; cases h)
    cases (show v1 = .int x from h2)
    exact lv_iload_n C.1 C.2.1 hdec rfl h1 (K hkc hks H locs ρ wr ls _ hρ hdy ⟨rfl, hst⟩)
  · cases hn
theorem zi_aload (C : zCt l D tA adK adV b sc N0 q d p R s m args meth c) {k : Nat} (hdec : decode q.cc pc = .ok (.aload k, 2)) (hn : znx sc q d (.aload k) 2 pc als ast ws kc ks = some (pc1, als1, ast1, ws1, kc1, ks1)) (K : zCo l D tA adK adV b N0 q p e R s m args below meth c ρ0 Qm pc1 als1 ast1 ws1 kc1 ks1) : zCo l D tA adK adV b N0 q p e R s m args below meth c ρ0 Qm pc als ast ws kc ks := by
  simp only [znx] at hn
  split at hn
  · next x hx =>
    simp only [Option.some.injEq, Prod.mk.injEq] at hn
    obtain ⟨rfl, rfl, rfl, rfl, rfl, rfl⟩ := hn
    intro hkc hks H locs ρ wr ls st hρ hdy hst
    obtain ⟨v1, h1, a, rfl, h3⟩ := zlr_at hdy.2.2.2.2.1 hx (by intro k h; cases h)
    exact lv_aload C.1 C.2.1 hdec h1 (K hkc hks H locs ρ wr ls _ hρ hdy ⟨⟨a, rfl, h3⟩, hst⟩)
  · cases hn
theorem zi_aload_n (C : zCt l D tA adK adV b sc N0 q d p R s m args meth c) {k : Fin 4} (hdec : decode q.cc pc = .ok (.aload_n k, 1)) (hn : znx sc q d (.aload_n k) 1 pc als ast ws kc ks = some (pc1, als1, ast1, ws1, kc1, ks1)) (K : zCo l D tA adK adV b N0 q p e R s m args below meth c ρ0 Qm pc1 als1 ast1 ws1 kc1 ks1) : zCo l D tA adK adV b N0 q p e R s m args below meth c ρ0 Qm pc als ast ws kc ks := by
  simp only [znx] at hn
  split at hn
  · next x hx =>
    simp only [Option.some.injEq, Prod.mk.injEq] at hn
    obtain ⟨rfl, rfl, rfl, rfl, rfl, rfl⟩ := hn
    intro hkc hks H locs ρ wr ls st hρ hdy hst
    obtain ⟨v1, h1, a, rfl, h3⟩ := zlr_at hdy.2.2.2.2.1 hx (by intro k h; cases h)
    exact lv_aload_n C.1 C.2.1 hdec rfl h1 (K hkc hks H locs ρ wr ls _ hρ hdy ⟨⟨a, rfl, h3⟩, hst⟩)
  · cases hn
theorem zi_istore (C : zCt l D tA adK adV b sc N0 q d p R s m args meth c) {k : Nat} (hdec : decode q.cc pc = .ok (.istore k, 2)) (hn : znx sc q d (.istore k) 2 pc als ast ws kc ks = some (pc1, als1, ast1, ws1, kc1, ks1)) (K : zCo l D tA adK adV b N0 q p e R s m args below meth c ρ0 Qm pc1 als1 ast1 ws1 kc1 ks1) : zCo l D tA adK adV b N0 q p e R s m args below meth c ρ0 Qm pc als ast ws kc ks := by
  simp only [znx] at hn
  split at hn
  · next x r =>
    split at hn
    · next hk =>
      simp only [Option.some.injEq, Prod.mk.injEq] at hn
      obtain ⟨rfl, rfl, rfl, rfl, rfl, rfl⟩ := hn
      intro hkc hks H locs ρ wr ls st hρ hdy hst
      obtain ⟨s1, rfl, h5⟩ := zsr_int hst
      obtain ⟨y1, y2, y3, y4, ⟨lo, h1, h2, h3⟩, y6⟩ := hdy
      exact lv_istore C.1 C.2.1 hdec h1 hk rfl (fun ls1 hl => K hkc hks H locs ρ wr ls1 _ hρ ⟨y1, y2, y3, y4, zlr_set h2 h3 (v := .int x) (v' := .int x) rfl rfl hl, by rw [List.length_set]; exact y6⟩ h5)
    · cases hn
  · cases hn
theorem zi_istore_n (C : zCt l D tA adK adV b sc N0 q d p R s m args meth c) {k : Fin 4} (hdec : decode q.cc pc = .ok (.istore_n k, 1)) (hn : znx sc q d (.istore_n k) 1 pc als ast ws kc ks = some (pc1, als1, ast1, ws1, kc1, ks1)) (K : zCo l D tA adK adV b N0 q p e R s m args below meth c ρ0 Qm pc1 als1 ast1 ws1 kc1 ks1) : zCo l D tA adK adV b N0 q p e R s m args below meth c ρ0 Qm pc als ast ws kc ks := by
  simp only [znx] at hn
  split at hn
  · next x r =>
    split at hn
    · next hk =>
      simp only [Option.some.injEq, Prod.mk.injEq] at hn
      obtain ⟨rfl, rfl, rfl, rfl, rfl, rfl⟩ := hn
      intro hkc hks H locs ρ wr ls st hρ hdy hst
      obtain ⟨s1, rfl, h5⟩ := zsr_int hst
      obtain ⟨y1, y2, y3, y4, ⟨lo, h1, h2, h3⟩, y6⟩ := hdy
      exact lv_istore_n C.1 C.2.1 hdec rfl h1 hk rfl (fun ls1 hl => K hkc hks H locs ρ wr ls1 _ hρ ⟨y1, y2, y3, y4, zlr_set h2 h3 (v := .int x) (v' := .int x) rfl rfl hl, by rw [List.length_set]; exact y6⟩ h5)
    · cases hn
  · cases hn
theorem zstoreA {k nL : Nat} {v : Value} {lv : List (Nat × Value)} {ls : Array Slot} {rest : List Value} {H : Heap} {locs : List Loc} {i : Instr} {n : Nat} (hexec : p.tables.exec = Jvm.exec) (hb : c.code = q.cc) (hi : (i = .astore k ∧ n = 2) ∨ (∃ k4 : Fin 4, i = .astore_n k4 ∧ (k4 : Nat) = k ∧ n = 1)) (hdg : decode q.cc pc = .ok (i, n)) (h : lv_has ls nL lv) (hn : k < nL) (hv : ∃ a, v = .ref a)
    (kk : ∀ ls1 : Array Slot, lv_has ls1 nL ((k, v) :: lv.filter (fun q => !(q.1 == k) && !(q.1 + 1 == k && q.2.category == 2))) → W p l e R s m args below meth c H locs kc ks Qm (F0 m (pc + n) ls1 rest)) : W p l e R s m args below meth c H locs kc ks Qm (F0 m pc ls (v :: rest)) := by
  obtain ⟨a, rfl⟩ := hv
  rcases hi with ⟨rfl, rfl⟩ | ⟨k4, rfl, rfl, rfl⟩
  · exact lv_astore hexec hb hdg h hn rfl kk
  · exact lv_astore_n hexec hb hdg rfl h hn rfl kk
theorem zi_astore (C : zCt l D tA adK adV b sc N0 q d p R s m args meth c) {k : Nat} (hdec : decode q.cc pc = .ok (.astore k, 2)) (hn : znx sc q d (.astore k) 2 pc als ast ws kc ks = some (pc1, als1, ast1, ws1, kc1, ks1)) (K : zCo l D tA adK adV b N0 q p e R s m args below meth c ρ0 Qm pc1 als1 ast1 ws1 kc1 ks1) : zCo l D tA adK adV b N0 q p e R s m args below meth c ρ0 Qm pc als ast ws kc ks := by
  simp only [znx] at hn
  split at hn
  · next x r =>
    split at hn
    · next hk =>
      simp only [Option.some.injEq, Prod.mk.injEq] at hn
      obtain ⟨rfl, rfl, rfl, rfl, rfl, rfl⟩ := hn
      intro hkc hks H locs ρ wr ls st hρ hdy hst
      obtain ⟨a, s1, rfl, h4, h5⟩ := zsr_ref hst
      obtain ⟨y1, y2, y3, y4, ⟨lo, h1, h2, h3⟩, y6⟩ := hdy
      exact zstoreA C.1 C.2.1 (Or.inl ⟨rfl, rfl⟩) hdec h1 hk ⟨a, rfl⟩ (fun ls1 hl => K hkc hks H locs ρ wr ls1 _ hρ ⟨y1, y2, y3, y4, zlr_set h2 h3 (v := .ref x) (v' := .ref a) ⟨a, rfl, h4⟩ rfl hl, by rw [List.length_set]; exact y6⟩ h5)
    · cases hn
  · next j r =>
    split at hn
    · next hk =>
      obtain ⟨rfl, hk⟩ := hk
      simp only [Option.some.injEq, Prod.mk.injEq] at hn
      obtain ⟨rfl, rfl, rfl, rfl, rfl, rfl⟩ := hn
      intro hkc hks H locs ρ wr ls st hρ hdy hst
      obtain ⟨v1, s1, rfl, h4, h5⟩ := zsr_cons hst
      obtain ⟨y1, y2, y3, y4, ⟨lo, h1, h2, h3⟩, y6⟩ := hdy
      rcases h4 with ⟨a, rfl⟩ | ⟨h4, -⟩
      · exact zstoreA C.1 C.2.1 (Or.inl ⟨rfl, rfl⟩) hdec h1 hk ⟨a, rfl⟩ (fun ls1 hl => K hkc hks H locs ρ wr ls1 _ hρ ⟨y1, y2, y3, y4, zlr_set h2 h3 (v := zJ) (v' := .ref a) (Or.inl ⟨a, rfl⟩) rfl hl, by rw [List.length_set]; exact y6⟩ h5)
      · exact absurd rfl h4
    · cases hn
  · cases hn
theorem zi_astore_n (C : zCt l D tA adK adV b sc N0 q d p R s m args meth c) {k : Fin 4} (hdec : decode q.cc pc = .ok (.astore_n k, 1)) (hn : znx sc q d (.astore_n k) 1 pc als ast ws kc ks = some (pc1, als1, ast1, ws1, kc1, ks1)) (K : zCo l D tA adK adV b N0 q p e R s m args below meth c ρ0 Qm pc1 als1 ast1 ws1 kc1 ks1) : zCo l D tA adK adV b N0 q p e R s m args below meth c ρ0 Qm pc als ast ws kc ks := by
  simp only [znx] at hn
  split at hn
  · next x r =>
    split at hn
    · next hk =>
      simp only [Option.some.injEq, Prod.mk.injEq] at hn
      obtain ⟨rfl, rfl, rfl, rfl, rfl, rfl⟩ := hn
      intro hkc hks H locs ρ wr ls st hρ hdy hst
      obtain ⟨a, s1, rfl, h4, h5⟩ := zsr_ref hst
      obtain ⟨y1, y2, y3, y4, ⟨lo, h1, h2, h3⟩, y6⟩ := hdy
      exact zstoreA C.1 C.2.1 (Or.inr ⟨k, rfl, rfl, rfl⟩) hdec h1 hk ⟨a, rfl⟩ (fun ls1 hl => K hkc hks H locs ρ wr ls1 _ hρ ⟨y1, y2, y3, y4, zlr_set h2 h3 (v := .ref x) (v' := .ref a) ⟨a, rfl, h4⟩ rfl hl, by rw [List.length_set]; exact y6⟩ h5)
    · cases hn
  · next j r =>
    split at hn
    · next hk =>
      obtain ⟨rfl, hk⟩ := hk
      simp only [Option.some.injEq, Prod.mk.injEq] at hn
      obtain ⟨rfl, rfl, rfl, rfl, rfl, rfl⟩ := hn
      intro hkc hks H locs ρ wr ls st hρ hdy hst
      obtain ⟨v1, s1, rfl, h4, h5⟩ := zsr_cons hst
      obtain ⟨y1, y2, y3, y4, ⟨lo, h1, h2, h3⟩, y6⟩ := hdy
      rcases h4 with ⟨a, rfl⟩ | ⟨h4, -⟩
      · exact zstoreA C.1 C.2.1 (Or.inr ⟨k, rfl, rfl, rfl⟩) hdec h1 hk ⟨a, rfl⟩ (fun ls1 hl => K hkc hks H locs ρ wr ls1 _ hρ ⟨y1, y2, y3, y4, zlr_set h2 h3 (v := zJ) (v' := .ref a) (Or.inl ⟨a, rfl⟩) rfl hl, by rw [List.length_set]; exact y6⟩ h5)
      · exact absurd rfl h4
    · cases hn
  · cases hn
theorem zi_iinc (C : zCt l D tA adK adV b sc N0 q d p R s m args meth c) {k : Nat} {z : Int} (hdec : decode q.cc pc = .ok (.iinc k z, 3)) (hn : znx sc q d (.iinc k z) 3 pc als ast ws kc ks = some (pc1, als1, ast1, ws1, kc1, ks1)) (K : zCo l D tA adK adV b N0 q p e R s m args below meth c ρ0 Qm pc1 als1 ast1 ws1 kc1 ks1) : zCo l D tA adK adV b N0 q p e R s m args below meth c ρ0 Qm pc als ast ws kc ks := by
  simp only [znx] at hn
  split at hn
  · next x hx =>
    simp only [Option.some.injEq, Prod.mk.injEq] at hn
    obtain ⟨rfl, rfl, rfl, rfl, rfl, rfl⟩ := hn
    intro hkc hks H locs ρ wr ls st hρ hdy hst
    obtain ⟨y1, y2, y3, y4, ⟨lo, h1, h2, h3⟩, y6⟩ := hdy
    have hk : k < als.length := (List.getElem?_eq_some_iff.mp hx).1
    rcases h3 k _ hx with ⟨j, h⟩ | ⟨v1, h4, h5⟩
    · cases h
    · cases (show v1 = .int x from h5)
      obtain ⟨j, hj⟩ := List.getElem?_of_mem h4
      exact lv_iinc C.1 C.2.1 hdec h1 hj rfl hk rfl (fun ls1 hl => K hkc hks H locs ρ wr ls1 _ hρ ⟨y1, y2, y3, y4, zlr_set h2 h3 (v := .int (x + Int32.ofInt z)) (v' := .int (x + Int32.ofInt z)) rfl rfl hl, by rw [List.length_set]; exact y6⟩ hst)
  · cases hn
theorem zi_iadd (C : zCt l D tA adK adV b sc N0 q d p R s m args meth c)  (hdec : decode q.cc pc = .ok (.iadd, 1)) (hn : znx sc q d (.iadd) 1 pc als ast ws kc ks = some (pc1, als1, ast1, ws1, kc1, ks1)) (K : zCo l D tA adK adV b N0 q p e R s m args below meth c ρ0 Qm pc1 als1 ast1 ws1 kc1 ks1) : zCo l D tA adK adV b N0 q p e R s m args below meth c ρ0 Qm pc als ast ws kc ks := by
  simp only [znx] at hn
  split at hn
  · next y x r =>
    simp only [Option.some.injEq, Prod.mk.injEq] at hn
    obtain ⟨rfl, rfl, rfl, rfl, rfl, rfl⟩ := hn
    intro hkc hks H locs ρ wr ls st hρ hdy hst
    obtain ⟨s1, rfl, h1⟩ := zsr_int hst
    obtain ⟨s2, rfl, h2⟩ := zsr_int h1
    exact lv_iadd C.1 C.2.1 hdec (K hkc hks H locs ρ wr ls _ hρ hdy ⟨rfl, h2⟩)
  · cases hn
theorem zi_isub (C : zCt l D tA adK adV b sc N0 q d p R s m args meth c)  (hdec : decode q.cc pc = .ok (.isub, 1)) (hn : znx sc q d (.isub) 1 pc als ast ws kc ks = some (pc1, als1, ast1, ws1, kc1, ks1)) (K : zCo l D tA adK adV b N0 q p e R s m args below meth c ρ0 Qm pc1 als1 ast1 ws1 kc1 ks1) : zCo l D tA adK adV b N0 q p e R s m args below meth c ρ0 Qm pc als ast ws kc ks := by
  simp only [znx] at hn
  split at hn
  · next y x r =>
    simp only [Option.some.injEq, Prod.mk.injEq] at hn
    obtain ⟨rfl, rfl, rfl, rfl, rfl, rfl⟩ := hn
    intro hkc hks H locs ρ wr ls st hρ hdy hst
    obtain ⟨s1, rfl, h1⟩ := zsr_int hst
    obtain ⟨s2, rfl, h2⟩ := zsr_int h1
    exact lv_isub C.1 C.2.1 hdec (K hkc hks H locs ρ wr ls _ hρ hdy ⟨rfl, h2⟩)
  · cases hn
theorem zi_imul (C : zCt l D tA adK adV b sc N0 q d p R s m args meth c)  (hdec : decode q.cc pc = .ok (.imul, 1)) (hn : znx sc q d (.imul) 1 pc als ast ws kc ks = some (pc1, als1, ast1, ws1, kc1, ks1)) (K : zCo l D tA adK adV b N0 q p e R s m args below meth c ρ0 Qm pc1 als1 ast1 ws1 kc1 ks1) : zCo l D tA adK adV b N0 q p e R s m args below meth c ρ0 Qm pc als ast ws kc ks := by
  simp only [znx] at hn
  split at hn
  · next y x r =>
    simp only [Option.some.injEq, Prod.mk.injEq] at hn
    obtain ⟨rfl, rfl, rfl, rfl, rfl, rfl⟩ := hn
    intro hkc hks H locs ρ wr ls st hρ hdy hst
    obtain ⟨s1, rfl, h1⟩ := zsr_int hst
    obtain ⟨s2, rfl, h2⟩ := zsr_int h1
    exact lv_imul C.1 C.2.1 hdec (K hkc hks H locs ρ wr ls _ hρ hdy ⟨rfl, h2⟩)
  · cases hn
theorem zi_iand (C : zCt l D tA adK adV b sc N0 q d p R s m args meth c)  (hdec : decode q.cc pc = .ok (.iand, 1)) (hn : znx sc q d (.iand) 1 pc als ast ws kc ks = some (pc1, als1, ast1, ws1, kc1, ks1)) (K : zCo l D tA adK adV b N0 q p e R s m args below meth c ρ0 Qm pc1 als1 ast1 ws1 kc1 ks1) : zCo l D tA adK adV b N0 q p e R s m args below meth c ρ0 Qm pc als ast ws kc ks := by
  simp only [znx] at hn
  split at hn
  · next y x r =>
    simp only [Option.some.injEq, Prod.mk.injEq] at hn
    obtain ⟨rfl, rfl, rfl, rfl, rfl, rfl⟩ := hn
    intro hkc hks H locs ρ wr ls st hρ hdy hst
    obtain ⟨s1, rfl, h1⟩ := zsr_int hst
    obtain ⟨s2, rfl, h2⟩ := zsr_int h1
    exact lv_iand C.1 C.2.1 hdec (K hkc hks H locs ρ wr ls _ hρ hdy ⟨rfl, h2⟩)
  · cases hn
theorem zi_ior (C : zCt l D tA adK adV b sc N0 q d p R s m args meth c)  (hdec : decode q.cc pc = .ok (.ior, 1)) (hn : znx sc q d (.ior) 1 pc als ast ws kc ks = some (pc1, als1, ast1, ws1, kc1, ks1)) (K : zCo l D tA adK adV b N0 q p e R s m args below meth c ρ0 Qm pc1 als1 ast1 ws1 kc1 ks1) : zCo l D tA adK adV b N0 q p e R s m args below meth c ρ0 Qm pc als ast ws kc ks := by
  simp only [znx] at hn
  split at hn
  · next y x r =>
    simp only [Option.some.injEq, Prod.mk.injEq] at hn
    obtain ⟨rfl, rfl, rfl, rfl, rfl, rfl⟩ := hn
    intro hkc hks H locs ρ wr ls st hρ hdy hst
    obtain ⟨s1, rfl, h1⟩ := zsr_int hst
    obtain ⟨s2, rfl, h2⟩ := zsr_int h1
    exact lv_ior C.1 C.2.1 hdec (K hkc hks H locs ρ wr ls _ hρ hdy ⟨rfl, h2⟩)
  · cases hn
theorem zi_ishl (C : zCt l D tA adK adV b sc N0 q d p R s m args meth c)  (hdec : decode q.cc pc = .ok (.ishl, 1)) (hn : znx sc q d (.ishl) 1 pc als ast ws kc ks = some (pc1, als1, ast1, ws1, kc1, ks1)) (K : zCo l D tA adK adV b N0 q p e R s m args below meth c ρ0 Qm pc1 als1 ast1 ws1 kc1 ks1) : zCo l D tA adK adV b N0 q p e R s m args below meth c ρ0 Qm pc als ast ws kc ks := by
  simp only [znx] at hn
  split at hn
  · next y x r =>
    simp only [Option.some.injEq, Prod.mk.injEq] at hn
    obtain ⟨rfl, rfl, rfl, rfl, rfl, rfl⟩ := hn
    intro hkc hks H locs ρ wr ls st hρ hdy hst
    obtain ⟨s1, rfl, h1⟩ := zsr_int hst
    obtain ⟨s2, rfl, h2⟩ := zsr_int h1
    exact lv_ishl C.1 C.2.1 hdec (K hkc hks H locs ρ wr ls _ hρ hdy ⟨rfl, h2⟩)
  · cases hn
theorem zi_ishr (C : zCt l D tA adK adV b sc N0 q d p R s m args meth c)  (hdec : decode q.cc pc = .ok (.ishr, 1)) (hn : znx sc q d (.ishr) 1 pc als ast ws kc ks = some (pc1, als1, ast1, ws1, kc1, ks1)) (K : zCo l D tA adK adV b N0 q p e R s m args below meth c ρ0 Qm pc1 als1 ast1 ws1 kc1 ks1) : zCo l D tA adK adV b N0 q p e R s m args below meth c ρ0 Qm pc als ast ws kc ks := by
  simp only [znx] at hn
  split at hn
  · next y x r =>
    simp only [Option.some.injEq, Prod.mk.injEq] at hn
    obtain ⟨rfl, rfl, rfl, rfl, rfl, rfl⟩ := hn
    intro hkc hks H locs ρ wr ls st hρ hdy hst
    obtain ⟨s1, rfl, h1⟩ := zsr_int hst
    obtain ⟨s2, rfl, h2⟩ := zsr_int h1
    exact lv_ishr C.1 C.2.1 hdec (K hkc hks H locs ρ wr ls _ hρ hdy ⟨rfl, h2⟩)
  · cases hn
theorem zi_iushr (C : zCt l D tA adK adV b sc N0 q d p R s m args meth c)  (hdec : decode q.cc pc = .ok (.iushr, 1)) (hn : znx sc q d (.iushr) 1 pc als ast ws kc ks = some (pc1, als1, ast1, ws1, kc1, ks1)) (K : zCo l D tA adK adV b N0 q p e R s m args below meth c ρ0 Qm pc1 als1 ast1 ws1 kc1 ks1) : zCo l D tA adK adV b N0 q p e R s m args below meth c ρ0 Qm pc als ast ws kc ks := by
  simp only [znx] at hn
  split at hn
  · next y x r =>
    simp only [Option.some.injEq, Prod.mk.injEq] at hn
    obtain ⟨rfl, rfl, rfl, rfl, rfl, rfl⟩ := hn
    intro hkc hks H locs ρ wr ls st hρ hdy hst
    obtain ⟨s1, rfl, h1⟩ := zsr_int hst
    obtain ⟨s2, rfl, h2⟩ := zsr_int h1
    exact lv_iushr C.1 C.2.1 hdec rfl (K hkc hks H locs ρ wr ls _ hρ hdy ⟨rfl, h2⟩)
  · cases hn
theorem zi_idiv (C : zCt l D tA adK adV b sc N0 q d p R s m args meth c)  (hdec : decode q.cc pc = .ok (.idiv, 1)) (hn : znx sc q d (.idiv) 1 pc als ast ws kc ks = some (pc1, als1, ast1, ws1, kc1, ks1)) (K : zCo l D tA adK adV b N0 q p e R s m args below meth c ρ0 Qm pc1 als1 ast1 ws1 kc1 ks1) : zCo l D tA adK adV b N0 q p e R s m args below meth c ρ0 Qm pc als ast ws kc ks := by
  simp only [znx] at hn
  split at hn
  · next y x r =>
    split at hn
    · cases hn
    · next hy =>
      simp only [Option.some.injEq, Prod.mk.injEq] at hn
      obtain ⟨rfl, rfl, rfl, rfl, rfl, rfl⟩ := hn
      intro hkc hks H locs ρ wr ls st hρ hdy hst
      obtain ⟨s1, rfl, h1⟩ := zsr_int hst
      obtain ⟨s2, rfl, h2⟩ := zsr_int h1
      exact lv_idiv C.1 C.2.1 hdec hy (K hkc hks H locs ρ wr ls _ hρ hdy ⟨rfl, h2⟩)
  · cases hn
theorem zi_irem (C : zCt l D tA adK adV b sc N0 q d p R s m args meth c)  (hdec : decode q.cc pc = .ok (.irem, 1)) (hn : znx sc q d (.irem) 1 pc als ast ws kc ks = some (pc1, als1, ast1, ws1, kc1, ks1)) (K : zCo l D tA adK adV b N0 q p e R s m args below meth c ρ0 Qm pc1 als1 ast1 ws1 kc1 ks1) : zCo l D tA adK adV b N0 q p e R s m args below meth c ρ0 Qm pc als ast ws kc ks := by
  simp only [znx] at hn
  split at hn
  · next y x r =>
    split at hn
    · cases hn
    · next hy =>
      simp only [Option.some.injEq, Prod.mk.injEq] at hn
      obtain ⟨rfl, rfl, rfl, rfl, rfl, rfl⟩ := hn
      intro hkc hks H locs ρ wr ls st hρ hdy hst
      obtain ⟨s1, rfl, h1⟩ := zsr_int hst
      obtain ⟨s2, rfl, h2⟩ := zsr_int h1
      exact lv_irem C.1 C.2.1 hdec hy (K hkc hks H locs ρ wr ls _ hρ hdy ⟨rfl, h2⟩)
  · cases hn
theorem zi_i2l (C : zCt l D tA adK adV b sc N0 q d p R s m args meth c)  (hdec : decode q.cc pc = .ok (.i2l, 1)) (hn : znx sc q d (.i2l) 1 pc als ast ws kc ks = some (pc1, als1, ast1, ws1, kc1, ks1)) (K : zCo l D tA adK adV b N0 q p e R s m args below meth c ρ0 Qm pc1 als1 ast1 ws1 kc1 ks1) : zCo l D tA adK adV b N0 q p e R s m args below meth c ρ0 Qm pc als ast ws kc ks := by
  simp only [znx] at hn
  split at hn
  · next x r =>
    simp only [Option.some.injEq, Prod.mk.injEq] at hn
    obtain ⟨rfl, rfl, rfl, rfl, rfl, rfl⟩ := hn
    intro hkc hks H locs ρ wr ls st hρ hdy hst
    obtain ⟨s1, rfl, h1⟩ := zsr_int hst
    exact lv_i2l C.1 C.2.1 hdec rfl (K hkc hks H locs ρ wr ls _ hρ hdy ⟨rfl, h1⟩)
  · cases hn
theorem zi_i2b (C : zCt l D tA adK adV b sc N0 q d p R s m args meth c)  (hdec : decode q.cc pc = .ok (.i2b, 1)) (hn : znx sc q d (.i2b) 1 pc als ast ws kc ks = some (pc1, als1, ast1, ws1, kc1, ks1)) (K : zCo l D tA adK adV b N0 q p e R s m args below meth c ρ0 Qm pc1 als1 ast1 ws1 kc1 ks1) : zCo l D tA adK adV b N0 q p e R s m args below meth c ρ0 Qm pc als ast ws kc ks := by
  simp only [znx] at hn
  split at hn
  · next x r =>
    simp only [Option.some.injEq, Prod.mk.injEq] at hn
    obtain ⟨rfl, rfl, rfl, rfl, rfl, rfl⟩ := hn
    intro hkc hks H locs ρ wr ls st hρ hdy hst
    obtain ⟨s1, rfl, h1⟩ := zsr_int hst
    exact lv_i2b C.1 C.2.1 hdec rfl (K hkc hks H locs ρ wr ls _ hρ hdy ⟨rfl, h1⟩)
  · cases hn
theorem zi_i2c (C : zCt l D tA adK adV b sc N0 q d p R s m args meth c)  (hdec : decode q.cc pc = .ok (.i2c, 1)) (hn : znx sc q d (.i2c) 1 pc als ast ws kc ks = some (pc1, als1, ast1, ws1, kc1, ks1)) (K : zCo l D tA adK adV b N0 q p e R s m args below meth c ρ0 Qm pc1 als1 ast1 ws1 kc1 ks1) : zCo l D tA adK adV b N0 q p e R s m args below meth c ρ0 Qm pc als ast ws kc ks := by
  simp only [znx] at hn
  split at hn
  · next x r =>
    simp only [Option.some.injEq, Prod.mk.injEq] at hn
    obtain ⟨rfl, rfl, rfl, rfl, rfl, rfl⟩ := hn
    intro hkc hks H locs ρ wr ls st hρ hdy hst
    obtain ⟨s1, rfl, h1⟩ := zsr_int hst
    exact lv_i2c C.1 C.2.1 hdec rfl (K hkc hks H locs ρ wr ls _ hρ hdy ⟨rfl, h1⟩)
  · cases hn
theorem zi_lshl (C : zCt l D tA adK adV b sc N0 q d p R s m args meth c)  (hdec : decode q.cc pc = .ok (.lshl, 1)) (hn : znx sc q d (.lshl) 1 pc als ast ws kc ks = some (pc1, als1, ast1, ws1, kc1, ks1)) (K : zCo l D tA adK adV b N0 q p e R s m args below meth c ρ0 Qm pc1 als1 ast1 ws1 kc1 ks1) : zCo l D tA adK adV b N0 q p e R s m args below meth c ρ0 Qm pc als ast ws kc ks := by
  simp only [znx] at hn
  split at hn
  · next y x r =>
    simp only [Option.some.injEq, Prod.mk.injEq] at hn
    obtain ⟨rfl, rfl, rfl, rfl, rfl, rfl⟩ := hn
    intro hkc hks H locs ρ wr ls st hρ hdy hst
    obtain ⟨s1, rfl, h1⟩ := zsr_int hst
    obtain ⟨s2, rfl, h2⟩ := zsr_long h1
    exact lv_lshl C.1 C.2.1 hdec rfl (K hkc hks H locs ρ wr ls _ hρ hdy ⟨rfl, h2⟩)
  · cases hn
theorem zi_lushr (C : zCt l D tA adK adV b sc N0 q d p R s m args meth c)  (hdec : decode q.cc pc = .ok (.lushr, 1)) (hn : znx sc q d (.lushr) 1 pc als ast ws kc ks = some (pc1, als1, ast1, ws1, kc1, ks1)) (K : zCo l D tA adK adV b N0 q p e R s m args below meth c ρ0 Qm pc1 als1 ast1 ws1 kc1 ks1) : zCo l D tA adK adV b N0 q p e R s m args below meth c ρ0 Qm pc als ast ws kc ks := by
  simp only [znx] at hn
  split at hn
  · next y x r =>
    simp only [Option.some.injEq, Prod.mk.injEq] at hn
    obtain ⟨rfl, rfl, rfl, rfl, rfl, rfl⟩ := hn
    intro hkc hks H locs ρ wr ls st hρ hdy hst
    obtain ⟨s1, rfl, h1⟩ := zsr_int hst
    obtain ⟨s2, rfl, h2⟩ := zsr_long h1
    exact lv_lushr C.1 C.2.1 hdec rfl (K hkc hks H locs ρ wr ls _ hρ hdy ⟨rfl, h2⟩)
  · cases hn
theorem zi_land (C : zCt l D tA adK adV b sc N0 q d p R s m args meth c)  (hdec : decode q.cc pc = .ok (.land, 1)) (hn : znx sc q d (.land) 1 pc als ast ws kc ks = some (pc1, als1, ast1, ws1, kc1, ks1)) (K : zCo l D tA adK adV b N0 q p e R s m args below meth c ρ0 Qm pc1 als1 ast1 ws1 kc1 ks1) : zCo l D tA adK adV b N0 q p e R s m args below meth c ρ0 Qm pc als ast ws kc ks := by
  simp only [znx] at hn
  split at hn
  · next y x r =>
    simp only [Option.some.injEq, Prod.mk.injEq] at hn
    obtain ⟨rfl, rfl, rfl, rfl, rfl, rfl⟩ := hn
    intro hkc hks H locs ρ wr ls st hρ hdy hst
    obtain ⟨s1, rfl, h1⟩ := zsr_long hst
    obtain ⟨s2, rfl, h2⟩ := zsr_long h1
    exact lv_land C.1 C.2.1 hdec (K hkc hks H locs ρ wr ls _ hρ hdy ⟨rfl, h2⟩)
  · cases hn
theorem zi_lor (C : zCt l D tA adK adV b sc N0 q d p R s m args meth c)  (hdec : decode q.cc pc = .ok (.lor, 1)) (hn : znx sc q d (.lor) 1 pc als ast ws kc ks = some (pc1, als1, ast1, ws1, kc1, ks1)) (K : zCo l D tA adK adV b N0 q p e R s m args below meth c ρ0 Qm pc1 als1 ast1 ws1 kc1 ks1) : zCo l D tA adK adV b N0 q p e R s m args below meth c ρ0 Qm pc als ast ws kc ks := by
  simp only [znx] at hn
  split at hn
  · next y x r =>
    simp only [Option.some.injEq, Prod.mk.injEq] at hn
    obtain ⟨rfl, rfl, rfl, rfl, rfl, rfl⟩ := hn
    intro hkc hks H locs ρ wr ls st hρ hdy hst
    obtain ⟨s1, rfl, h1⟩ := zsr_long hst
    obtain ⟨s2, rfl, h2⟩ := zsr_long h1
    exact lv_lor C.1 C.2.1 hdec (K hkc hks H locs ρ wr ls _ hρ hdy ⟨rfl, h2⟩)
  · cases hn
theorem zi_lcmp (C : zCt l D tA adK adV b sc N0 q d p R s m args meth c)  (hdec : decode q.cc pc = .ok (.lcmp, 1)) (hn : znx sc q d (.lcmp) 1 pc als ast ws kc ks = some (pc1, als1, ast1, ws1, kc1, ks1)) (K : zCo l D tA adK adV b N0 q p e R s m args below meth c ρ0 Qm pc1 als1 ast1 ws1 kc1 ks1) : zCo l D tA adK adV b N0 q p e R s m args below meth c ρ0 Qm pc als ast ws kc ks := by
  simp only [znx] at hn
  split at hn
  · next y x r =>
    simp only [Option.some.injEq, Prod.mk.injEq] at hn
    obtain ⟨rfl, rfl, rfl, rfl, rfl, rfl⟩ := hn
    intro hkc hks H locs ρ wr ls st hρ hdy hst
    obtain ⟨s1, rfl, h1⟩ := zsr_long hst
    obtain ⟨s2, rfl, h2⟩ := zsr_long h1
    exact W.lcmp C.1 C.2.1 hdec (K hkc hks H locs ρ wr ls _ hρ hdy ⟨rfl, h2⟩)
  · cases hn
theorem zi_dup (C : zCt l D tA adK adV b sc N0 q d p R s m args meth c)  (hdec : decode q.cc pc = .ok (.dup, 1)) (hn : znx sc q d (.dup) 1 pc als ast ws kc ks = some (pc1, als1, ast1, ws1, kc1, ks1)) (K : zCo l D tA adK adV b N0 q p e R s m args below meth c ρ0 Qm pc1 als1 ast1 ws1 kc1 ks1) : zCo l D tA adK adV b N0 q p e R s m args below meth c ρ0 Qm pc als ast ws kc ks := by
  simp only [znx] at hn
  split at hn
  · next x r =>
    simp only [Option.some.injEq, Prod.mk.injEq] at hn
    obtain ⟨rfl, rfl, rfl, rfl, rfl, rfl⟩ := hn
    intro hkc hks H locs ρ wr ls st hρ hdy hst
    obtain ⟨s1, rfl, h1⟩ := zsr_int hst
    exact lv_dup C.1 C.2.1 hdec rfl (K hkc hks H locs ρ wr ls _ hρ hdy ⟨rfl, rfl, h1⟩)
  · next x r =>
    simp only [Option.some.injEq, Prod.mk.injEq] at hn
    obtain ⟨rfl, rfl, rfl, rfl, rfl, rfl⟩ := hn
    intro hkc hks H locs ρ wr ls st hρ hdy hst
    obtain ⟨a, s1, rfl, h0, h1⟩ := zsr_ref hst
    exact lv_dup C.1 C.2.1 hdec rfl (K hkc hks H locs ρ wr ls _ hρ hdy ⟨⟨a, rfl, h0⟩, ⟨a, rfl, h0⟩, h1⟩)
  · cases hn
theorem zi_dup2 (C : zCt l D tA adK adV b sc N0 q d p R s m args meth c)  (hdec : decode q.cc pc = .ok (.dup2, 1)) (hn : znx sc q d (.dup2) 1 pc als ast ws kc ks = some (pc1, als1, ast1, ws1, kc1, ks1)) (K : zCo l D tA adK adV b N0 q p e R s m args below meth c ρ0 Qm pc1 als1 ast1 ws1 kc1 ks1) : zCo l D tA adK adV b N0 q p e R s m args below meth c ρ0 Qm pc als ast ws kc ks := by
  simp only [znx] at hn
  split at hn
  · next x y r =>
    simp only [Option.some.injEq, Prod.mk.injEq] at hn
    obtain ⟨rfl, rfl, rfl, rfl, rfl, rfl⟩ := hn
    intro hkc hks H locs ρ wr ls st hρ hdy hst
    obtain ⟨s1, rfl, h1⟩ := zsr_int hst
    obtain ⟨a, s2, rfl, h0, h2⟩ := zsr_ref h1
    exact lv_dup2_11 C.1 C.2.1 hdec rfl rfl (K hkc hks H locs ρ wr ls _ hρ hdy ⟨rfl, ⟨a, rfl, h0⟩, rfl, ⟨a, rfl, h0⟩, h2⟩)
  · cases hn
theorem zi_pop (C : zCt l D tA adK adV b sc N0 q d p R s m args meth c)  (hdec : decode q.cc pc = .ok (.pop, 1)) (hn : znx sc q d (.pop) 1 pc als ast ws kc ks = some (pc1, als1, ast1, ws1, kc1, ks1)) (K : zCo l D tA adK adV b N0 q p e R s m args below meth c ρ0 Qm pc1 als1 ast1 ws1 kc1 ks1) : zCo l D tA adK adV b N0 q p e R s m args below meth c ρ0 Qm pc als ast ws kc ks := by
  simp only [znx] at hn
  split at hn
  · next x r =>
    simp only [Option.some.injEq, Prod.mk.injEq] at hn
    obtain ⟨rfl, rfl, rfl, rfl, rfl, rfl⟩ := hn
    intro hkc hks H locs ρ wr ls st hρ hdy hst
    obtain ⟨s1, rfl, h1⟩ := zsr_int hst
    exact lv_pop C.1 C.2.1 hdec rfl (K hkc hks H locs ρ wr ls _ hρ hdy h1)
  · cases hn
theorem zgo_spec {pc t : Nat} {off : Int} (h : zgo pc off = some t) : (pc : Int) + off = (t : Int) := by
  unfold zgo at h
  split at h
  · next h0 => cases h; omega
  · cases h
theorem zi_goto (C : zCt l D tA adK adV b sc N0 q d p R s m args meth c) {off : Int} (hdec : decode q.cc pc = .ok (.goto off, 3)) (hn : znx sc q d (.goto off) 3 pc als ast ws kc ks = some (pc1, als1, ast1, ws1, kc1, ks1)) (K : zCo l D tA adK adV b N0 q p e R s m args below meth c ρ0 Qm pc1 als1 ast1 ws1 kc1 ks1) : zCo l D tA adK adV b N0 q p e R s m args below meth c ρ0 Qm pc als ast ws kc ks := by
  simp only [znx] at hn
  split at hn
  · next t ht =>
    simp only [Option.some.injEq, Prod.mk.injEq] at hn
    obtain ⟨rfl, rfl, rfl, rfl, rfl, rfl⟩ := hn
    intro hkc hks H locs ρ wr ls st hρ hdy hst
    exact lv_goto C.1 C.2.1 hdec (zgo_spec ht) (K hkc hks H locs ρ wr ls _ hρ hdy hst)
  · cases hn
theorem zbr_spec {bb : Bool} {pc n t : Nat} {off : Int} (h : zbr bb pc n off = some t) : (bb = true ∧ (pc : Int) + off = (t : Int)) ∨ (bb = false ∧ t = pc + n) := by
  unfold zbr at h
  split at h
  · next h0 => exact Or.inl ⟨h0, zgo_spec h⟩
  · next h0 => cases h; exact Or.inr ⟨by simpa using h0, rfl⟩
theorem zoff {n pc : Nat} {off : Int} (h : n = n) : ∃ t : Nat, (pc : Int) + off = (t : Int) ∨ (pc : Int) + off < 0 := ⟨((pc : Int) + off).toNat, by omega⟩
theorem zi_icmp_eq (C : zCt l D tA adK adV b sc N0 q d p R s m args meth c) {off : Int} (hdec : decode q.cc pc = .ok (.if_icmp .eq off, 3)) (hj : 0 ≤ (pc : Int) + off) (hn : znx sc q d (.if_icmp .eq off) 3 pc als ast ws kc ks = some (pc1, als1, ast1, ws1, kc1, ks1)) (K : zCo l D tA adK adV b N0 q p e R s m args below meth c ρ0 Qm pc1 als1 ast1 ws1 kc1 ks1) : zCo l D tA adK adV b N0 q p e R s m args below meth c ρ0 Qm pc als ast ws kc ks := by
  simp only [znx] at hn
  split at hn
  · next y x r =>
    split at hn
    · next t ht =>
      simp only [Option.some.injEq, Prod.mk.injEq] at hn
      obtain ⟨rfl, rfl, rfl, rfl, rfl, rfl⟩ := hn
      intro hkc hks H locs ρ wr ls st hρ hdy hst
      obtain ⟨s1, rfl, h1⟩ := zsr_int hst
      obtain ⟨s2, rfl, h2⟩ := zsr_int h1
      refine lv_icmp_eq (tgt := ((pc : Int) + off).toNat) C.1 C.2.1 hdec (by omega) (fun hc => ?_) (fun hc => ?_)
      · rcases zbr_spec ht with ⟨h3, h4⟩ | ⟨h3, -⟩
        · rw [show ((pc : Int) + off).toNat = t by omega]
          exact K hkc hks H locs ρ wr ls _ hρ hdy h2
        · simp only [zcmp, decide_eq_false_iff_not] at h3; exact absurd hc h3
      · rcases zbr_spec ht with ⟨h3, -⟩ | ⟨-, rfl⟩
        · simp only [zcmp, decide_eq_true_eq] at h3; exact absurd h3 hc
        · exact K hkc hks H locs ρ wr ls _ hρ hdy h2
    · cases hn
  · cases hn
theorem zi_if_eq (C : zCt l D tA adK adV b sc N0 q d p R s m args meth c) {off : Int} (hdec : decode q.cc pc = .ok (.ifCond .eq off, 3)) (hj : 0 ≤ (pc : Int) + off) (hn : znx sc q d (.ifCond .eq off) 3 pc als ast ws kc ks = some (pc1, als1, ast1, ws1, kc1, ks1)) (K : zCo l D tA adK adV b N0 q p e R s m args below meth c ρ0 Qm pc1 als1 ast1 ws1 kc1 ks1) : zCo l D tA adK adV b N0 q p e R s m args below meth c ρ0 Qm pc als ast ws kc ks := by
  simp only [znx] at hn
  split at hn
  · next x r =>
    split at hn
    · next t ht =>
      simp only [Option.some.injEq, Prod.mk.injEq] at hn
      obtain ⟨rfl, rfl, rfl, rfl, rfl, rfl⟩ := hn
      intro hkc hks H locs ρ wr ls st hρ hdy hst
      obtain ⟨s1, rfl, h1⟩ := zsr_int hst
      refine lv_if_eq (tgt := ((pc : Int) + off).toNat) C.1 C.2.1 hdec (by omega) (fun hc => ?_) (fun hc => ?_)
      · rcases zbr_spec ht with ⟨h3, h4⟩ | ⟨h3, -⟩
        · rw [show ((pc : Int) + off).toNat = t by omega]
          exact K hkc hks H locs ρ wr ls _ hρ hdy h1
        · simp only [zcmp, decide_eq_false_iff_not] at h3; exact absurd hc h3
      · rcases zbr_spec ht with ⟨h3, -⟩ | ⟨-, rfl⟩
        · simp only [zcmp, decide_eq_true_eq] at h3; exact absurd h3 hc
        · exact K hkc hks H locs ρ wr ls _ hρ hdy h1
    · cases hn
  · cases hn
theorem zi_icmp_ne (C : zCt l D tA adK adV b sc N0 q d p R s m args meth c) {off : Int} (hdec : decode q.cc pc = .ok (.if_icmp .ne off, 3)) (hj : 0 ≤ (pc : Int) + off) (hn : znx sc q d (.if_icmp .ne off) 3 pc als ast ws kc ks = some (pc1, als1, ast1, ws1, kc1, ks1)) (K : zCo l D tA adK adV b N0 q p e R s m args below meth c ρ0 Qm pc1 als1 ast1 ws1 kc1 ks1) : zCo l D tA adK adV b N0 q p e R s m args below meth c ρ0 Qm pc als ast ws kc ks := by
  simp only [znx] at hn
  split at hn
  · next y x r =>
    split at hn
    · next t ht =>
      simp only [Option.some.injEq, Prod.mk.injEq] at hn
      obtain ⟨rfl, rfl, rfl, rfl, rfl, rfl⟩ := hn
      intro hkc hks H locs ρ wr ls st hρ hdy hst
      obtain ⟨s1, rfl, h1⟩ := zsr_int hst
      obtain ⟨s2, rfl, h2⟩ := zsr_int h1
      refine lv_icmp_ne (tgt := ((pc : Int) + off).toNat) C.1 C.2.1 hdec (by omega) (fun hc => ?_) (fun hc => ?_)
      · rcases zbr_spec ht with ⟨h3, h4⟩ | ⟨h3, -⟩
        · rw [show ((pc : Int) + off).toNat = t by omega]
          exact K hkc hks H locs ρ wr ls _ hρ hdy h2
        · simp only [zcmp, decide_eq_false_iff_not] at h3; exact absurd hc h3
      · rcases zbr_spec ht with ⟨h3, -⟩ | ⟨-, rfl⟩
        · simp only [zcmp, decide_eq_true_eq] at h3; exact absurd hc h3
        · exact K hkc hks H locs ρ wr ls _ hρ hdy h2
    · cases hn
  · cases hn
theorem zi_if_ne (C : zCt l D tA adK adV b sc N0 q d p R s m args meth c) {off : Int} (hdec : decode q.cc pc = .ok (.ifCond .ne off, 3)) (hj : 0 ≤ (pc : Int) + off) (hn : znx sc q d (.ifCond .ne off) 3 pc als ast ws kc ks = some (pc1, als1, ast1, ws1, kc1, ks1)) (K : zCo l D tA adK adV b N0 q p e R s m args below meth c ρ0 Qm pc1 als1 ast1 ws1 kc1 ks1) : zCo l D tA adK adV b N0 q p e R s m args below meth c ρ0 Qm pc als ast ws kc ks := by
  simp only [znx] at hn
  split at hn
  · next x r =>
    split at hn
    · next t ht =>
      simp only [Option.some.injEq, Prod.mk.injEq] at hn
      obtain ⟨rfl, rfl, rfl, rfl, rfl, rfl⟩ := hn
      intro hkc hks H locs ρ wr ls st hρ hdy hst
      obtain ⟨s1, rfl, h1⟩ := zsr_int hst
      refine lv_if_ne (tgt := ((pc : Int) + off).toNat) C.1 C.2.1 hdec (by omega) (fun hc => ?_) (fun hc => ?_)
      · rcases zbr_spec ht with ⟨h3, h4⟩ | ⟨h3, -⟩
        · rw [show ((pc : Int) + off).toNat = t by omega]
          exact K hkc hks H locs ρ wr ls _ hρ hdy h1
        · simp only [zcmp, decide_eq_false_iff_not] at h3; exact absurd hc h3
      · rcases zbr_spec ht with ⟨h3, -⟩ | ⟨-, rfl⟩
        · simp only [zcmp, decide_eq_true_eq] at h3; exact absurd hc h3
        · exact K hkc hks H locs ρ wr ls _ hρ hdy h1
    · cases hn
  · cases hn
theorem zi_icmp_lt (C : zCt l D tA adK adV b sc N0 q d p R s m args meth c) {off : Int} (hdec : decode q.cc pc = .ok (.if_icmp .lt off, 3)) (hj : 0 ≤ (pc : Int) + off) (hn : znx sc q d (.if_icmp .lt off) 3 pc als ast ws kc ks = some (pc1, als1, ast1, ws1, kc1, ks1)) (K : zCo l D tA adK adV b N0 q p e R s m args below meth c ρ0 Qm pc1 als1 ast1 ws1 kc1 ks1) : zCo l D tA adK adV b N0 q p e R s m args below meth c ρ0 Qm pc als ast ws kc ks := by
  simp only [znx] at hn
  split at hn
  · next y x r =>
    split at hn
    · next t ht =>
      simp only [Option.some.injEq, Prod.mk.injEq] at hn
      obtain ⟨rfl, rfl, rfl, rfl, rfl, rfl⟩ := hn
      intro hkc hks H locs ρ wr ls st hρ hdy hst
      obtain ⟨s1, rfl, h1⟩ := zsr_int hst
      obtain ⟨s2, rfl, h2⟩ := zsr_int h1
      refine lv_icmp_lt (tgt := ((pc : Int) + off).toNat) C.1 C.2.1 hdec (by omega) (fun hc => ?_) (fun hc => ?_)
      · rcases zbr_spec ht with ⟨h3, h4⟩ | ⟨h3, -⟩
        · rw [show ((pc : Int) + off).toNat = t by omega]
          exact K hkc hks H locs ρ wr ls _ hρ hdy h2
        · simp only [zcmp, decide_eq_false_iff_not] at h3; exact absurd hc h3
      · rcases zbr_spec ht with ⟨h3, -⟩ | ⟨-, rfl⟩
        · simp only [zcmp, decide_eq_true_eq] at h3; exact absurd h3 hc
        · exact K hkc hks H locs ρ wr ls _ hρ hdy h2
    · cases hn
  · cases hn
theorem zi_if_lt (C : zCt l D tA adK adV b sc N0 q d p R s m args meth c) {off : Int} (hdec : decode q.cc pc = .ok (.ifCond .lt off, 3)) (hj : 0 ≤ (pc : Int) + off) (hn : znx sc q d (.ifCond .lt off) 3 pc als ast ws kc ks = some (pc1, als1, ast1, ws1, kc1, ks1)) (K : zCo l D tA adK adV b N0 q p e R s m args below meth c ρ0 Qm pc1 als1 ast1 ws1 kc1 ks1) : zCo l D tA adK adV b N0 q p e R s m args below meth c ρ0 Qm pc als ast ws kc ks := by
  simp only [znx] at hn
  split at hn
  · next x r =>
    split at hn
    · next t ht =>
      simp only [Option.some.injEq, Prod.mk.injEq] at hn
      obtain ⟨rfl, rfl, rfl, rfl, rfl, rfl⟩ := hn
      intro hkc hks H locs ρ wr ls st hρ hdy hst
      obtain ⟨s1, rfl, h1⟩ := zsr_int hst
      refine lv_if_lt (tgt := ((pc : Int) + off).toNat) C.1 C.2.1 hdec (by omega) (fun hc => ?_) (fun hc => ?_)
      · rcases zbr_spec ht with ⟨h3, h4⟩ | ⟨h3, -⟩
        · rw [show ((pc : Int) + off).toNat = t by omega]
          exact K hkc hks H locs ρ wr ls _ hρ hdy h1
        · simp only [zcmp, decide_eq_false_iff_not] at h3; exact absurd hc h3
      · rcases zbr_spec ht with ⟨h3, -⟩ | ⟨-, rfl⟩
        · simp only [zcmp, decide_eq_true_eq] at h3; exact absurd h3 hc
        · exact K hkc hks H locs ρ wr ls _ hρ hdy h1
    · cases hn
  · cases hn
theorem zi_icmp_ge (C : zCt l D tA adK adV b sc N0 q d p R s m args meth c) {off : Int} (hdec : decode q.cc pc = .ok (.if_icmp .ge off, 3)) (hj : 0 ≤ (pc : Int) + off) (hn : znx sc q d (.if_icmp .ge off) 3 pc als ast ws kc ks = some (pc1, als1, ast1, ws1, kc1, ks1)) (K : zCo l D tA adK adV b N0 q p e R s m args below meth c ρ0 Qm pc1 als1 ast1 ws1 kc1 ks1) : zCo l D tA adK adV b N0 q p e R s m args below meth c ρ0 Qm pc als ast ws kc ks := by
  simp only [znx] at hn
  split at hn
  · next y x r =>
    split at hn
    · next t ht =>
      simp only [Option.some.injEq, Prod.mk.injEq] at hn
      obtain ⟨rfl, rfl, rfl, rfl, rfl, rfl⟩ := hn
      intro hkc hks H locs ρ wr ls st hρ hdy hst
      obtain ⟨s1, rfl, h1⟩ := zsr_int hst
      obtain ⟨s2, rfl, h2⟩ := zsr_int h1
      refine lv_icmp_ge (tgt := ((pc : Int) + off).toNat) C.1 C.2.1 hdec (by omega) (fun hc => ?_) (fun hc => ?_)
      · rcases zbr_spec ht with ⟨h3, h4⟩ | ⟨h3, -⟩
        · rw [show ((pc : Int) + off).toNat = t by omega]
          exact K hkc hks H locs ρ wr ls _ hρ hdy h2
        · simp only [zcmp, decide_eq_false_iff_not] at h3; exact absurd hc h3
      · rcases zbr_spec ht with ⟨h3, -⟩ | ⟨-, rfl⟩
        · simp only [zcmp, decide_eq_true_eq] at h3; exact absurd h3 hc
        · exact K hkc hks H locs ρ wr ls _ hρ hdy h2
    · cases hn
  · cases hn
theorem zi_if_ge (C : zCt l D tA adK adV b sc N0 q d p R s m args meth c) {off : Int} (hdec : decode q.cc pc = .ok (.ifCond .ge off, 3)) (hj : 0 ≤ (pc : Int) + off) (hn : znx sc q d (.ifCond .ge off) 3 pc als ast ws kc ks = some (pc1, als1, ast1, ws1, kc1, ks1)) (K : zCo l D tA adK adV b N0 q p e R s m args below meth c ρ0 Qm pc1 als1 ast1 ws1 kc1 ks1) : zCo l D tA adK adV b N0 q p e R s m args below meth c ρ0 Qm pc als ast ws kc ks := by
  simp only [znx] at hn
  split at hn
  · next x r =>
    split at hn
    · next t ht =>
      simp only [Option.some.injEq, Prod.mk.injEq] at hn
      obtain ⟨rfl, rfl, rfl, rfl, rfl, rfl⟩ := hn
      intro hkc hks H locs ρ wr ls st hρ hdy hst
      obtain ⟨s1, rfl, h1⟩ := zsr_int hst
      refine lv_if_ge (tgt := ((pc : Int) + off).toNat) C.1 C.2.1 hdec (by omega) (fun hc => ?_) (fun hc => ?_)
      · rcases zbr_spec ht with ⟨h3, h4⟩ | ⟨h3, -⟩
        · rw [show ((pc : Int) + off).toNat = t by omega]
          exact K hkc hks H locs ρ wr ls _ hρ hdy h1
        · simp only [zcmp, decide_eq_false_iff_not] at h3; exact absurd hc h3
      · rcases zbr_spec ht with ⟨h3, -⟩ | ⟨-, rfl⟩
        · simp only [zcmp, decide_eq_true_eq] at h3; exact absurd h3 hc
        · exact K hkc hks H locs ρ wr ls _ hρ hdy h1
    · cases hn
  · cases hn
theorem zi_icmp_gt (C : zCt l D tA adK adV b sc N0 q d p R s m args meth c) {off : Int} (hdec : decode q.cc pc = .ok (.if_icmp .gt off, 3)) (hj : 0 ≤ (pc : Int) + off) (hn : znx sc q d (.if_icmp .gt off) 3 pc als ast ws kc ks = some (pc1, als1, ast1, ws1, kc1, ks1)) (K : zCo l D tA adK adV b N0 q p e R s m args below meth c ρ0 Qm pc1 als1 ast1 ws1 kc1 ks1) : zCo l D tA adK adV b N0 q p e R s m args below meth c ρ0 Qm pc als ast ws kc ks := by
  simp only [znx] at hn
  split at hn
  · next y x r =>
    split at hn
    · next t ht =>
      simp only [Option.some.injEq, Prod.mk.injEq] at hn
      obtain ⟨rfl, rfl, rfl, rfl, rfl, rfl⟩ := hn
      intro hkc hks H locs ρ wr ls st hρ hdy hst
      obtain ⟨s1, rfl, h1⟩ := zsr_int hst
      obtain ⟨s2, rfl, h2⟩ := zsr_int h1
      refine lv_icmp_gt (tgt := ((pc : Int) + off).toNat) C.1 C.2.1 hdec (by omega) (fun hc => ?_) (fun hc => ?_)
      · rcases zbr_spec ht with ⟨h3, h4⟩ | ⟨h3, -⟩
        · rw [show ((pc : Int) + off).toNat = t by omega]
          exact K hkc hks H locs ρ wr ls _ hρ hdy h2
        · simp only [zcmp, decide_eq_false_iff_not] at h3; exact absurd hc h3
      · rcases zbr_spec ht with ⟨h3, -⟩ | ⟨-, rfl⟩
        · simp only [zcmp, decide_eq_true_eq] at h3; exact absurd h3 hc
        · exact K hkc hks H locs ρ wr ls _ hρ hdy h2
    · cases hn
  · cases hn
theorem zi_if_gt (C : zCt l D tA adK adV b sc N0 q d p R s m args meth c) {off : Int} (hdec : decode q.cc pc = .ok (.ifCond .gt off, 3)) (hj : 0 ≤ (pc : Int) + off) (hn : znx sc q d (.ifCond .gt off) 3 pc als ast ws kc ks = some (pc1, als1, ast1, ws1, kc1, ks1)) (K : zCo l D tA adK adV b N0 q p e R s m args below meth c ρ0 Qm pc1 als1 ast1 ws1 kc1 ks1) : zCo l D tA adK adV b N0 q p e R s m args below meth c ρ0 Qm pc als ast ws kc ks := by
  simp only [znx] at hn
  split at hn
  · next x r =>
    split at hn
    · next t ht =>
      simp only [Option.some.injEq, Prod.mk.injEq] at hn
      obtain ⟨rfl, rfl, rfl, rfl, rfl, rfl⟩ := hn
      intro hkc hks H locs ρ wr ls st hρ hdy hst
      obtain ⟨s1, rfl, h1⟩ := zsr_int hst
      refine lv_if_gt (tgt := ((pc : Int) + off).toNat) C.1 C.2.1 hdec (by omega) (fun hc => ?_) (fun hc => ?_)
      · rcases zbr_spec ht with ⟨h3, h4⟩ | ⟨h3, -⟩
        · rw [show ((pc : Int) + off).toNat = t by omega]
          exact K hkc hks H locs ρ wr ls _ hρ hdy h1
        · simp only [zcmp, decide_eq_false_iff_not] at h3; exact absurd hc h3
      · rcases zbr_spec ht with ⟨h3, -⟩ | ⟨-, rfl⟩
        · simp only [zcmp, decide_eq_true_eq] at h3; exact absurd h3 hc
        · exact K hkc hks H locs ρ wr ls _ hρ hdy h1
    · cases hn
  · cases hn
theorem zi_icmp_le (C : zCt l D tA adK adV b sc N0 q d p R s m args meth c) {off : Int} (hdec : decode q.cc pc = .ok (.if_icmp .le off, 3)) (hj : 0 ≤ (pc : Int) + off) (hn : znx sc q d (.if_icmp .le off) 3 pc als ast ws kc ks = some (pc1, als1, ast1, ws1, kc1, ks1)) (K : zCo l D tA adK adV b N0 q p e R s m args below meth c ρ0 Qm pc1 als1 ast1 ws1 kc1 ks1) : zCo l D tA adK adV b N0 q p e R s m args below meth c ρ0 Qm pc als ast ws kc ks := by
  simp only [znx] at hn
  split at hn
  · next y x r =>
    split at hn
    · next t ht =>
      simp only [Option.some.injEq, Prod.mk.injEq] at hn
      obtain ⟨rfl, rfl, rfl, rfl, rfl, rfl⟩ := hn
      intro hkc hks H locs ρ wr ls st hρ hdy hst
      obtain ⟨s1, rfl, h1⟩ := zsr_int hst
      obtain ⟨s2, rfl, h2⟩ := zsr_int h1
      refine lv_icmp_le (tgt := ((pc : Int) + off).toNat) C.1 C.2.1 hdec (by omega) (fun hc => ?_) (fun hc => ?_)
      · rcases zbr_spec ht with ⟨h3, h4⟩ | ⟨h3, -⟩
        · rw [show ((pc : Int) + off).toNat = t by omega]
          exact K hkc hks H locs ρ wr ls _ hρ hdy h2
        · simp only [zcmp, decide_eq_false_iff_not] at h3; exact absurd hc h3
      · rcases zbr_spec ht with ⟨h3, -⟩ | ⟨-, rfl⟩
        · simp only [zcmp, decide_eq_true_eq] at h3; exact absurd h3 hc
        · exact K hkc hks H locs ρ wr ls _ hρ hdy h2
    · cases hn
  · cases hn
theorem zi_if_le (C : zCt l D tA adK adV b sc N0 q d p R s m args meth c) {off : Int} (hdec : decode q.cc pc = .ok (.ifCond .le off, 3)) (hj : 0 ≤ (pc : Int) + off) (hn : znx sc q d (.ifCond .le off) 3 pc als ast ws kc ks = some (pc1, als1, ast1, ws1, kc1, ks1)) (K : zCo l D tA adK adV b N0 q p e R s m args below meth c ρ0 Qm pc1 als1 ast1 ws1 kc1 ks1) : zCo l D tA adK adV b N0 q p e R s m args below meth c ρ0 Qm pc als ast ws kc ks := by
  simp only [znx] at hn
  split at hn
  · next x r =>
    split at hn
    · next t ht =>
      simp only [Option.some.injEq, Prod.mk.injEq] at hn
      obtain ⟨rfl, rfl, rfl, rfl, rfl, rfl⟩ := hn
      intro hkc hks H locs ρ wr ls st hρ hdy hst
      obtain ⟨s1, rfl, h1⟩ := zsr_int hst
      refine lv_if_le (tgt := ((pc : Int) + off).toNat) C.1 C.2.1 hdec (by omega) (fun hc => ?_) (fun hc => ?_)
      · rcases zbr_spec ht with ⟨h3, h4⟩ | ⟨h3, -⟩
        · rw [show ((pc : Int) + off).toNat = t by omega]
          exact K hkc hks H locs ρ wr ls _ hρ hdy h1
        · simp only [zcmp, decide_eq_false_iff_not] at h3; exact absurd hc h3
      · rcases zbr_spec ht with ⟨h3, -⟩ | ⟨-, rfl⟩
        · simp only [zcmp, decide_eq_true_eq] at h3; exact absurd h3 hc
        · exact K hkc hks H locs ρ wr ls _ hρ hdy h1
    · cases hn
  · cases hn
theorem zi_tsw (C : zCt l D tA adK adV b sc N0 q d p R s m args meth c) {dflt lo hi : Int} {offs : Array Int} (hdec : decode q.cc pc = .ok (.tableswitch dflt lo hi offs, n)) (hn : znx sc q d (.tableswitch dflt lo hi offs) n pc als ast ws kc ks = some (pc1, als1, ast1, ws1, kc1, ks1)) (K : zCo l D tA adK adV b N0 q p e R s m args below meth c ρ0 Qm pc1 als1 ast1 ws1 kc1 ks1) : zCo l D tA adK adV b N0 q p e R s m args below meth c ρ0 Qm pc als ast ws kc ks := by
  simp only [znx] at hn
  split at hn
  · next x r =>
    split at hn
    · next off hoff =>
      split at hn
      · next t ht =>
        simp only [Option.some.injEq, Prod.mk.injEq] at hn
        obtain ⟨rfl, rfl, rfl, rfl, rfl, rfl⟩ := hn
        intro hkc hks H locs ρ wr ls st hρ hdy hst
        obtain ⟨s1, rfl, h1⟩ := zsr_int hst
        unfold zsw at hoff
        split at hoff
        · next hr => cases hoff; exact lv_tableOut C.1 C.2.1 hdec hr (zgo_spec ht) (K hkc hks H locs ρ wr ls _ hρ hdy h1)
        · next hr => exact lv_tableIn C.1 C.2.1 hdec (fun h => hr (Or.inl h)) (fun h => hr (Or.inr h)) hoff (zgo_spec ht) (K hkc hks H locs ρ wr ls _ hρ hdy h1)
      · cases hn
    · cases hn
  · cases hn
end ZI
end
section
/-! laws of the instructions that read, write and make cells -/
theorem zcl_at {ci : Nat} (h : ci < 11) : zcl[ci]? = some (zCN.getD ci "", zT ci, zNF ci) := by
  simp [zcl, h]
theorem zcl_lt {ci : Nat} {r : vw_C} (h : zcl[ci]? = some r) : ci < 11 := by
  have := (List.getElem?_eq_some_iff.mp h).1
  simpa [zcl] using this
theorem zrange {P : Nat → Bool} {n : Nat} (h : (List.range n).all P = true) {i : Nat} (hi : i < n) : P i = true := List.all_eq_true.mp h i (List.mem_range.mpr hi)
theorem zlay {ci : Nat} (h : ci < 11) : ∀ w ∈ u_ws (zCN.getD ci "") (zT ci) (zNF ci), w ∈ zws := fun w hw => zws_of (zchk_spec (c := id) (zrange zL_c h) hw) (List.all_eq_true.mp (zrange zL_g h) w hw)
theorem zty_ok {ci : Nat} (h : ci < 11) : ∀ k, k < zNF ci → parseFieldDescriptor (zT ci k).2.2.1 = some (zty ci k) := fun k hk => by
  have := zrange (zrange zT_ty h) hk
  simpa using this
theorem znm_ok {ci : Nat} (h : ci < 11) : ∀ a, a < zNF ci → ∀ b, b < zNF ci → a ≠ b → (zT ci a).2.1 ≠ (zT ci b).2.1 := fun a ha b hb hne => by
  have := zrange (zrange (zrange zT_nm h) ha) hb
  simp only [Bool.or_eq_true, decide_eq_true_eq] at this
  rcases this with h | h
  · exact absurd h hne
  · exact h
theorem zown_ok {ci : Nat} (h : ci < 11) {k : Nat} (hk : k < zNF ci) : (zT ci k).1 = zCN.getD ci "" := by
  have := zrange zT_own h
  simp only [Bool.and_eq_true] at this
  simpa using zrange this.1 hk
theorem ztl_ok {ci : Nat} (h : ci < 11) : (zTs.getD ci []).length = zNF ci := by
  have := zrange zT_own h
  simp only [Bool.and_eq_true, decide_eq_true_eq] at this
  exact this.2
theorem zdiv {a k : Nat} (h : k < 10000) : (a * 10000 + k) / 10000 = a ∧ (a * 10000 + k) % 10000 = k := by omega
theorem zfl_in {cn k r : Nat} (hk : k < 10000) (h : zlk (cn * 10000 + k) zFL = some r) : Cond.fieldLink (zCN.getD cn "") k (zft r).1 (zft r).2.1 (zft r).2.2 ∈ zws := by
  have h1 := zFL_ok (zlk_mem h)
  simpa only [zfc, (zdiv (a := cn) hk).1, (zdiv (a := cn) hk).2] using h1
theorem zfl_r {cn k r : Nat} (h : zlk (cn * 10000 + k) zFL = some r) : zfr r = true := List.all_eq_true.mp zFL_r _ (zlk_mem h)
theorem zml_in {cn k r : Nat} (hk : k < 10000) (h : zlk (cn * 10000 + k) zML = some r) : Cond.methodLink (zCN.getD cn "") k (zcy r) ∈ zws := by
  have h1 := zML_ok (zlk_mem h)
  simpa only [zmc, (zdiv (a := cn) hk).1, (zdiv (a := cn) hk).2] using h1
theorem zcl_in {cn k r : Nat} (hk : k < 10000) (h : zlk (cn * 10000 + k) zCL = some r) : Cond.classLink (zCN.getD cn "") k (zCN.getD r "") ∈ zws := by
  have h1 := zCL_ok (zlk_mem h)
  simpa only [zcc, (zdiv (a := cn) hk).1, (zdiv (a := cn) hk).2] using h1
theorem zel_in {cn k r : Nat} (hk : k < 10000) (h : zlk (cn * 10000 + k) zEL = some r) : Cond.classLink (zCN.getD cn "") k (zEN r) ∈ zws := by
  have h1 := zEL_ok (zlk_mem h)
  simpa only [zec, (zdiv (a := cn) hk).1, (zdiv (a := cn) hk).2] using h1
theorem zft_own {r : Nat} (h : zfr r = true) (h2 : r / 100 < 11) : zft r = ((zT (r / 100) (r % 100)).1, (zT (r / 100) (r % 100)).2.1, (zT (r / 100) (r % 100)).2.2.1) ∧ r % 100 < zNF (r / 100) := by
  simp only [zfr, decide_eq_true_eq] at h
  rcases h with rfl | rfl | h
  · omega
  · omega
  · refine ⟨?_, h.2⟩
    unfold zft
    rw [if_neg (by omega), if_neg (by omega)]
theorem zfit_ok {ty : FieldType} {v v' : Value} {ad : Nat → Nat} {ρ : List Nat} (h : zfit ty v = true) (hv : zvr ad ρ v v') : narrow ty v' = v' ∧ fits ty v' = true := by
  cases ty <;> cases v <;> simp only [zfit, Bool.false_eq_true, decide_eq_true_eq] at h
  case boolean.int x =>
    cases hv
    rcases h with rfl | rfl <;> decide
  case int.int x =>
    cases hv
    exact ⟨rfl, rfl⟩
  case object.ref n k =>
    obtain ⟨a, rfl, -⟩ := hv
    exact ⟨rfl, rfl⟩
  case array.ref t k =>
    obtain ⟨a, rfl, -⟩ := hv
    exact ⟨rfl, rfl⟩
theorem zad_K {adK adV : Nat → Nat} {b a : Nat} (h : ¬ a < 1000) (hi : a - 1000 < 48) : zad adK adV b a = adK (a - 1000) := by
  have h1 : a < 2000 := by omega
  simp [zad, h1]
theorem zad_V {adK adV : Nat → Nat} {b a : Nat} (h : ¬ a < 1000) (hi : a - 1000 < 48) : zad adK adV b (a + 1000) = adV (a - 1000) := by
  have h1 : ¬ a + 1000 < 2000 := by omega
  have h2 : a + 1000 < 3000 := by omega
  have h3 : a + 1000 - 2000 = a - 1000 := by omega
  simp only [zad, if_neg h1, if_pos h2, h3]
theorem znl (a : Nat) : ¬ a + 1000 < 1000 := by omega
section ZH
variable {l : Launch} {D : va_G} {tA : FieldType → ClassId} {adK adV : Nat → Nat} {b : Nat} {sc : Nat × (Nat → Int32)} {N0 : Nat} {q : zMI} {d : Nat} {p : Program} {e : Env} {R : Room} {s : State} {m : MethodId} {args : Array Value} {below : List Frame} {meth : Method} {c : Code} {ρ0 : List Nat} {Qm : State → Prop}
variable {pc pc1 n : Nat} {als als1 ast ast1 : List Value} {ws ws1 : List zC} {kc kc1 ks ks1 : Nat}
theorem zi_getfield (C : zCt l D tA adK adV b sc N0 q d p R s m args meth c) {k r : Nat} (hk : k < 10000) (hz : zlk (q.cn * 10000 + k) zFL = some r) (hdec : decode q.cc pc = .ok (.getfield k, 3)) (hn : znx sc q d (.getfield r) 3 pc als ast ws kc ks = some (pc1, als1, ast1, ws1, kc1, ks1)) (K : zCo l D tA adK adV b N0 q p e R s m args below meth c ρ0 Qm pc1 als1 ast1 ws1 kc1 ks1) : zCo l D tA adK adV b N0 q p e R s m args below meth c ρ0 Qm pc als ast ws kc ks := by
  obtain ⟨hx, hb, hml, hrt, hlk, hini, htab, hown, hts, hKn, hEx, hN0, hfr, hlo, hmc, hms, hnt, hqM⟩ := C
  have hlink := hts _ (zfl_in hk hz)
  have hr := zfl_r hz
  simp only [znx] at hn
  split at hn
  · next a s' =>
    split at hn
    · next v hv =>
      simp only [Option.some.injEq, Prod.mk.injEq] at hn
      obtain ⟨rfl, rfl, rfl, rfl, rfl, rfl⟩ := hn
      intro hkc hks H locs ρ wr ls st hρ hdy hst
      have hdy' := hdy
      obtain ⟨y1, y2, y3, y4, y5, y6⟩ := hdy
      obtain ⟨a', s1, rfl, ha, h1⟩ := zsr_ref hst
      unfold zget at hv
      split at hv
      · next ha0 =>
        rw [if_pos ha0] at ha
        split at hv
        · next ci fs hw =>
          split at hv
          · next hci =>
            obtain ⟨e1, h2, fs', rfl, h3⟩ := zwr_at y4 hw ha
            obtain ⟨v', h4, h5⟩ := zsr_at h3 hv
            have hlt : ci < 11 := by
              obtain ⟨r1, hr1, -⟩ := y2 a _ h2
              exact zcl_lt hr1
            subst hci
            obtain ⟨f1, f2⟩ := zft_own hr hlt
            rw [f1] at hlink
            exact va_get hx hb hts (zlay hlt) hown hKn.1 y2 a h2 (zcl_at hlt) (r % 100) f2 hlink (fun x h => h) h4 hdec (K hkc hks H locs ρ wr ls _ hρ hdy' ⟨h5, h1⟩)
          · cases hv
        · cases hv
      · next ha0 =>
        rw [if_neg ha0] at ha
        split at hv
        · next hi =>
          subst ha
          rw [zad_K ha0 hi]
          have ha1 : ¬ a + 1000 < 1000 := znl a
          split at hv
          · next h9 =>
            subst h9
            cases hv
            exact vk_getf hx hb (hEx.1 _ hi).2.2.1 y1 hown hlink (fun x h => h) hdec (K hkc hks H locs ρ wr ls _ hρ hdy' ⟨⟨adV (a - 1000), rfl, by rw [if_neg ha1, zad_V ha0 hi]⟩, h1⟩)
          · split at hv
            · next h9 =>
              subst h9
              cases hv
              exact vk_getf hx hb (hEx.1 _ hi).2.1 y1 hown hlink (fun x h => h) hdec (K hkc hks H locs ρ wr ls _ hρ hdy' ⟨rfl, h1⟩)
            · cases hv
        · cases hv
    · cases hn
  · cases hn
theorem zi_putfield (C : zCt l D tA adK adV b sc N0 q d p R s m args meth c) {k r : Nat} (hk : k < 10000) (hz : zlk (q.cn * 10000 + k) zFL = some r) (hdec : decode q.cc pc = .ok (.putfield k, 3)) (hn : znx sc q d (.putfield r) 3 pc als ast ws kc ks = some (pc1, als1, ast1, ws1, kc1, ks1)) (K : zCo l D tA adK adV b N0 q p e R s m args below meth c ρ0 Qm pc1 als1 ast1 ws1 kc1 ks1) : zCo l D tA adK adV b N0 q p e R s m args below meth c ρ0 Qm pc als ast ws kc ks := by
  obtain ⟨hx, hb, hml, hrt, hlk, hini, htab, hown, hts, hKn, hEx, hN0, hfr, hlo, hmc, hms, hnt, hqM⟩ := C
  have hlink := hts _ (zfl_in hk hz)
  have hr := zfl_r hz
  simp only [znx] at hn
  split at hn
  · next v a s' =>
    split at hn
    · next ws' hv =>
      simp only [Option.some.injEq, Prod.mk.injEq] at hn
      obtain ⟨rfl, rfl, rfl, rfl, rfl, rfl⟩ := hn
      intro hkc hks H locs ρ wr ls st hρ hdy hst
      obtain ⟨y1, y2, y3, y4, y5, y6⟩ := hdy
      obtain ⟨v', t1, rfl, hvr, h0⟩ := zsr_cons hst
      obtain ⟨a', s1, rfl, ha, h1⟩ := zsr_ref h0
      unfold zput at hv
      split at hv
      · next ha0 =>
        rw [if_pos ha0] at ha
        split at hv
        · next ci fs hw =>
          split at hv
          · next hcc =>
            obtain ⟨hci, hkN, hkl, hft, hfin⟩ := hcc
            cases hv
            obtain ⟨e1, h2, fs', rfl, h3⟩ := zwr_at y4 hw ha
            have hlt : ci < 11 := by
              obtain ⟨r1, hr1, -⟩ := y2 a _ h2
              exact zcl_lt hr1
            subst hci
            obtain ⟨f1, f2⟩ := zft_own hr hlt
            rw [f1] at hlink
            obtain ⟨g1, g2⟩ := zfit_ok hft hvr
            have hl' : r % 100 < fs'.length := by rw [zsr_len h3]; exact hkl
            cases hF : (zT (r / 100) (r % 100)).2.2.2 with
            | false =>
              exact va_put hx hb hts (zlay hlt) (zty (r / 100)) (zty_ok hlt) (znm_ok hlt) hown hKn.1 y2 y3 y1 a h2 (zcl_at hlt) (r % 100) f2 hlink (fun x h => h) hF (zty_ok hlt _ f2) g1 g2 hl' hdec
                (fun H1 locs1 p1 p2 p3 => K hkc hks H1 locs1 ρ _ ls _ hρ ⟨p3, p1, p2, zwr_set y4 h2 ⟨_, rfl, zsr_set _ h3 hvr⟩, y5, y6⟩ h1)
            | true =>
              obtain ⟨q1, q2⟩ := hfin hF
              exact va_putF hx hb hts (zlay hlt) (zty (r / 100)) (zty_ok hlt) (znm_ok hlt) hown hKn.1 y2 y3 y1 a h2 (zcl_at hlt) (r % 100) f2 hlink (fun x h => h) hF (hini q1) (by rw [zown_ok hlt f2, q2]) (zty_ok hlt _ f2) g1 g2 hl' hdec
                (fun H1 locs1 p1 p2 p3 => K hkc hks H1 locs1 ρ _ ls _ hρ ⟨p3, p1, p2, zwr_set y4 h2 ⟨_, rfl, zsr_set _ h3 hvr⟩, y5, y6⟩ h1)
          · cases hv
        · cases hv
      · cases hv
    · cases hn
  · cases hn
theorem zi_getstatic (C : zCt l D tA adK adV b sc N0 q d p R s m args meth c) {k r : Nat} (hk : k < 10000) (hz : zlk (q.cn * 10000 + k) zGL = some r) (hdec : decode q.cc pc = .ok (.getstatic k, 3)) (hn : znx sc q d (.getstatic r) 3 pc als ast ws kc ks = some (pc1, als1, ast1, ws1, kc1, ks1)) (K : zCo l D tA adK adV b N0 q p e R s m args below meth c ρ0 Qm pc1 als1 ast1 ws1 kc1 ks1) : zCo l D tA adK adV b N0 q p e R s m args below meth c ρ0 Qm pc als ast ws kc ks := by
  obtain ⟨hx, hb, hml, hrt, hlk, hini, htab, hown, hts, hKn, hEx, hN0, hfr, hlo, hmc, hms, hnt, hqM⟩ := C
  have hlink := hts _ (zGL_ok (zlk_mem hz))
  simp only [zgc, (zdiv (a := q.cn) hk).1, (zdiv (a := q.cn) hk).2] at hlink
  simp only [znx] at hn
  split at hn
  · next h0 =>
    rw [if_pos h0] at hlink
    simp only [Option.some.injEq, Prod.mk.injEq] at hn
    obtain ⟨rfl, rfl, rfl, rfl, rfl, rfl⟩ := hn
    intro hkc hks H locs ρ wr ls st hρ hdy hst
    exact va_gets hx hb hEx.2.2.1 hdy.1 hown hlink (fun x h => h) hdec (K hkc hks H locs ρ wr ls _ hρ hdy ⟨rfl, hst⟩)
  · next h0 =>
    rw [if_neg h0] at hlink
    split at hn
    · simp only [Option.some.injEq, Prod.mk.injEq] at hn
      obtain ⟨rfl, rfl, rfl, rfl, rfl, rfl⟩ := hn
      intro hkc hks H locs ρ wr ls st hρ hdy hst
      rcases hEx.2.2.2.1 with hZ | ⟨t, hZ⟩
      · exact va_gets hx hb hZ hdy.1 hown hlink (fun x h => h) hdec (K hkc hks H locs ρ wr ls _ hρ hdy ⟨Or.inr ⟨by decide, rfl⟩, hst⟩)
      · exact va_gets hx hb hZ hdy.1 hown hlink (fun x h => h) hdec (K hkc hks H locs ρ wr ls _ hρ hdy ⟨Or.inl ⟨t, rfl⟩, hst⟩)
    · cases hn
end ZH
end
section
/-! rows: read, written, made -/
section ZA
variable {l : Launch} {D : va_G} {tA : FieldType → ClassId} {adK adV : Nat → Nat} {b : Nat} {sc : Nat × (Nat → Int32)} {N0 : Nat} {q : zMI} {d : Nat} {p : Program} {e : Env} {R : Room} {s : State} {m : MethodId} {args : Array Value} {below : List Frame} {meth : Method} {c : Code} {ρ0 : List Nat} {Qm : State → Prop}
variable {pc pc1 n : Nat} {als als1 ast ast1 : List Value} {ws ws1 : List zC} {kc kc1 ks ks1 : Nat}
/-- a row that is only read -/
theorem zext_T (hEx : zEx adK adV b sc N0 s s.heap) {H : Heap} {locs : List Loc} (hS : va_S (zAr N0) s.heap H locs) {a k : Nat} {ty : FieldType} {f : Nat → Int32} (h0 : ¬ a < 1000) (h : zext sc a = some (ty, k, f)) : va_T ty (zad adK adV b a) k (fun j => .int (f j)) (zAr N0) s H := by
  unfold zext at h
  split at h
  · next h3 =>
    cases h
    have := hEx.2.1.kept hS.2.1
    have h1 : ¬ (3000 : Nat) < 2000 := by decide
    have h2 : ¬ (3000 : Nat) < 3000 := by decide
    subst h3
    simpa only [zad, if_neg h1, if_neg h2] using this
  · split at h
    · next h3 =>
      simp only [Option.some.injEq, Prod.mk.injEq] at h
      obtain ⟨rfl, rfl, rfl⟩ := h
      have hi : (a - 1000) - 1000 < 48 := by omega
      have e1 : a - 1000 - 1000 = a - 2000 := by omega
      have e2 : a - 1000 + 1000 = a := by omega
      have e3 : ¬ a - 1000 < 1000 := by omega
      have h5 := zad_V (adK := adK) (adV := adV) (b := b) e3 hi
      rw [e1, e2] at h5
      rw [h5]
      exact ((hEx.1 (a - 2000) h3.2).2.2.2).kept hS.2.1
    · cases h
theorem zi_iaload (C : zCt l D tA adK adV b sc N0 q d p R s m args meth c) (hdec : decode q.cc pc = .ok (.iaload, 1)) (hn : znx sc q d .iaload 1 pc als ast ws kc ks = some (pc1, als1, ast1, ws1, kc1, ks1)) (K : zCo l D tA adK adV b N0 q p e R s m args below meth c ρ0 Qm pc1 als1 ast1 ws1 kc1 ks1) : zCo l D tA adK adV b N0 q p e R s m args below meth c ρ0 Qm pc als ast ws kc ks := by
  obtain ⟨hx, hb, hml, hrt, hlk, hini, htab, hown, hts, hKn, hEx, hN0, hfr, hlo, hmc, hms, hnt, hqM⟩ := C
  simp only [znx] at hn
  split at hn
  · next i a r =>
    split at hn
    · next v hv =>
      simp only [Option.some.injEq, Prod.mk.injEq] at hn
      obtain ⟨rfl, rfl, rfl, rfl, rfl, rfl⟩ := hn
      intro hkc hks H locs ρ wr ls st hρ hdy hst
      obtain ⟨t1, rfl, h0⟩ := zsr_int hst
      obtain ⟨a', s1, rfl, ha, h1⟩ := zsr_ref h0
      unfold zald at hv
      split at hv
      · next ha0 =>
        rw [if_pos ha0] at ha
        split at hv
        · next ty' k f hw =>
          split at hv
          · next hc =>
            obtain ⟨rfl, hin⟩ := hc
            cases hv
            obtain ⟨e1, h2, rfl, -⟩ := zwr_at hdy.2.2.2.1 hw ha
            exact va_iald hx hb hKn.1 hdy.2.1 a 0 h2 rfl (zin_in.mp hin) hdec (K hkc hks H locs ρ wr ls _ hρ hdy ⟨rfl, h1⟩)
          · cases hv
        · cases hv
      · next ha0 =>
        rw [if_neg ha0] at ha
        split at hv
        · next ty' k f hw =>
          split at hv
          · next hc =>
            obtain ⟨rfl, hin⟩ := hc
            cases hv
            subst ha
            obtain ⟨cell, c1, c2, c3, c4, c5, c6, c7⟩ := zext_T hEx hdy.1 ha0 hw
            have hin := zin_in.mp hin
            exact W.iald (v := .int (f i.toNatClampNeg)) hx hb c1 c2 c3 (fun h => hin (h.imp id (fun h => Nat.le_trans c4 h))) (c6 _ (Nat.not_le.mp fun h => hin (Or.inr h))) rfl rfl hdec (K hkc hks H locs ρ wr ls _ hρ hdy ⟨rfl, h1⟩)
          · cases hv
        · cases hv
    · cases hn
  · cases hn
theorem zi_baload (C : zCt l D tA adK adV b sc N0 q d p R s m args meth c) (hdec : decode q.cc pc = .ok (.baload, 1)) (hn : znx sc q d .baload 1 pc als ast ws kc ks = some (pc1, als1, ast1, ws1, kc1, ks1)) (K : zCo l D tA adK adV b N0 q p e R s m args below meth c ρ0 Qm pc1 als1 ast1 ws1 kc1 ks1) : zCo l D tA adK adV b N0 q p e R s m args below meth c ρ0 Qm pc als ast ws kc ks := by
  obtain ⟨hx, hb, hml, hrt, hlk, hini, htab, hown, hts, hKn, hEx, hN0, hfr, hlo, hmc, hms, hnt, hqM⟩ := C
  simp only [znx] at hn
  split at hn
  · next i a r =>
    split at hn
    · next v hv =>
      simp only [Option.some.injEq, Prod.mk.injEq] at hn
      obtain ⟨rfl, rfl, rfl, rfl, rfl, rfl⟩ := hn
      intro hkc hks H locs ρ wr ls st hρ hdy hst
      obtain ⟨t1, rfl, h0⟩ := zsr_int hst
      obtain ⟨a', s1, rfl, ha, h1⟩ := zsr_ref h0
      unfold zald at hv
      split at hv
      · next ha0 =>
        rw [if_pos ha0] at ha
        split at hv
        · next ty' k f hw =>
          split at hv
          · next hc =>
            obtain ⟨rfl, hin⟩ := hc
            cases hv
            obtain ⟨e1, h2, rfl, -⟩ := zwr_at hdy.2.2.2.1 hw ha
            exact va_bald hx hb hKn.1 hdy.2.1 a 1 h2 rfl (zin_in.mp hin) hdec (K hkc hks H locs ρ wr ls _ hρ hdy ⟨rfl, h1⟩)
          · cases hv
        · cases hv
      · next ha0 =>
        rw [if_neg ha0] at ha
        split at hv
        · next ty' k f hw =>
          split at hv
          · next hc =>
            obtain ⟨rfl, hin⟩ := hc
            cases hv
            subst ha
            obtain ⟨cell, c1, c2, c3, c4, c5, c6, c7⟩ := zext_T hEx hdy.1 ha0 hw
            have hin := zin_in.mp hin
            exact W.bald (v := .int (f i.toNatClampNeg)) hx hb c1 c2 c3 (fun h => hin (h.imp id (fun h => Nat.le_trans c4 h))) (c6 _ (Nat.not_le.mp fun h => hin (Or.inr h))) rfl rfl hdec (K hkc hks H locs ρ wr ls _ hρ hdy ⟨rfl, h1⟩)
          · cases hv
        · cases hv
    · cases hn
  · cases hn
theorem zi_laload (C : zCt l D tA adK adV b sc N0 q d p R s m args meth c) (hdec : decode q.cc pc = .ok (.laload, 1)) (hn : znx sc q d .laload 1 pc als ast ws kc ks = some (pc1, als1, ast1, ws1, kc1, ks1)) (K : zCo l D tA adK adV b N0 q p e R s m args below meth c ρ0 Qm pc1 als1 ast1 ws1 kc1 ks1) : zCo l D tA adK adV b N0 q p e R s m args below meth c ρ0 Qm pc als ast ws kc ks := by
  obtain ⟨hx, hb, hml, hrt, hlk, hini, htab, hown, hts, hKn, hEx, hN0, hfr, hlo, hmc, hms, hnt, hqM⟩ := C
  simp only [znx] at hn
  split at hn
  · next i a r =>
    split at hn
    · next v hv =>
      simp only [Option.some.injEq, Prod.mk.injEq] at hn
      obtain ⟨rfl, rfl, rfl, rfl, rfl, rfl⟩ := hn
      intro hkc hks H locs ρ wr ls st hρ hdy hst
      obtain ⟨t1, rfl, h0⟩ := zsr_int hst
      obtain ⟨a', s1, rfl, ha, h1⟩ := zsr_ref h0
      unfold zlal at hv
      split at hv
      · next ha0 =>
        rw [if_pos ha0] at ha
        split at hv
        · next k f hw =>
          split at hv
          · next hin =>
            cases hv
            obtain ⟨e1, h2, rfl, -⟩ := zwr_at hdy.2.2.2.1 hw ha
            exact va_lald hx hb hKn.1 hdy.2.1 a 2 h2 rfl (zin_in.mp hin) hdec (K hkc hks H locs ρ wr ls _ hρ hdy ⟨rfl, h1⟩)
          · cases hv
        · cases hv
      · cases hv
    · cases hn
  · cases hn
theorem zi_aaload (C : zCt l D tA adK adV b sc N0 q d p R s m args meth c) (hdec : decode q.cc pc = .ok (.aaload, 1)) (hn : znx sc q d .aaload 1 pc als ast ws kc ks = some (pc1, als1, ast1, ws1, kc1, ks1)) (K : zCo l D tA adK adV b N0 q p e R s m args below meth c ρ0 Qm pc1 als1 ast1 ws1 kc1 ks1) : zCo l D tA adK adV b N0 q p e R s m args below meth c ρ0 Qm pc als ast ws kc ks := by
  obtain ⟨hx, hb, hml, hrt, hlk, hini, htab, hown, hts, hKn, hEx, hN0, hfr, hlo, hmc, hms, hnt, hqM⟩ := C
  simp only [znx] at hn
  split at hn
  · next i a r =>
    split at hn
    · next v hv =>
      simp only [Option.some.injEq, Prod.mk.injEq] at hn
      obtain ⟨rfl, rfl, rfl, rfl, rfl, rfl⟩ := hn
      intro hkc hks H locs ρ wr ls st hρ hdy hst
      obtain ⟨t1, rfl, h0⟩ := zsr_int hst
      obtain ⟨a', s1, rfl, ha, h1⟩ := zsr_ref h0
      unfold zaal at hv
      split at hv
      · next ha0 =>
        rw [if_pos ha0] at ha
        split at hv
        · next nm k f hw =>
          split at hv
          · next hin =>
            split at hv
            · next j hj =>
              cases hv
              obtain ⟨e1, h2, f', rfl, h3, t, ht⟩ := zwr_at hdy.2.2.2.1 hw ha
              have h4 := h3 i.toNatClampNeg
              rw [hj] at h4
              exact va_aldq hx hb hKn.1 hdy.2.1 a t h2 ht (zin_in.mp hin) hdec (K hkc hks H locs ρ wr ls _ hρ hdy ⟨h4, h1⟩)
            · cases hv
          · cases hv
        · cases hv
      · cases hv
    · cases hn
  · cases hn
theorem zi_arraylength (C : zCt l D tA adK adV b sc N0 q d p R s m args meth c) (hdec : decode q.cc pc = .ok (.arraylength, 1)) (hn : znx sc q d .arraylength 1 pc als ast ws kc ks = some (pc1, als1, ast1, ws1, kc1, ks1)) (K : zCo l D tA adK adV b N0 q p e R s m args below meth c ρ0 Qm pc1 als1 ast1 ws1 kc1 ks1) : zCo l D tA adK adV b N0 q p e R s m args below meth c ρ0 Qm pc als ast ws kc ks := by
  obtain ⟨hx, hb, hml, hrt, hlk, hini, htab, hown, hts, hKn, hEx, hN0, hfr, hlo, hmc, hms, hnt, hqM⟩ := C
  simp only [znx] at hn
  split at hn
  · next a r =>
    split at hn
    · next v hv =>
      simp only [Option.some.injEq, Prod.mk.injEq] at hn
      obtain ⟨rfl, rfl, rfl, rfl, rfl, rfl⟩ := hn
      intro hkc hks H locs ρ wr ls st hρ hdy hst
      obtain ⟨a', s1, rfl, ha, h1⟩ := zsr_ref hst
      unfold zlen at hv
      split at hv
      · next ha0 =>
        rw [if_pos ha0] at ha
        split at hv
        · next ty x hw =>
          cases hv
          obtain ⟨e1, h2, h3⟩ := zwr_at hdy.2.2.2.1 hw ha
          obtain ⟨k, f | f | f | f | f⟩ := x
          · obtain ⟨rfl, t, ht⟩ := h3
            exact va_alen hx hb hKn.1 hdy.2.1 a t h2 ht rfl hdec (K hkc hks H locs ρ wr ls _ hρ hdy ⟨rfl, h1⟩)
          · obtain ⟨rfl, t, ht⟩ := h3
            exact va_alen hx hb hKn.1 hdy.2.1 a t h2 ht rfl hdec (K hkc hks H locs ρ wr ls _ hρ hdy ⟨rfl, h1⟩)
          · exact h3.elim
          · exact h3.elim
          · obtain ⟨f', rfl, -, t, ht⟩ := h3
            exact va_alen hx hb hKn.1 hdy.2.1 a t h2 ht rfl hdec (K hkc hks H locs ρ wr ls _ hρ hdy ⟨rfl, h1⟩)
        · cases hv
      · next ha0 =>
        rw [if_neg ha0] at ha
        split at hv
        · next ty' k f hw =>
          cases hv
          subst ha
          obtain ⟨cell, c1, c2, c3, c4, c5, c6, c7⟩ := zext_T hEx hdy.1 ha0 hw
          exact W.alen (n := Int32.ofNat k) hx hb c1 c2 c5 rfl rfl hdec (K hkc hks H locs ρ wr ls _ hρ hdy ⟨rfl, h1⟩)
        · cases hv
    · cases hn
  · cases hn
theorem zi_iastore (C : zCt l D tA adK adV b sc N0 q d p R s m args meth c) (hdec : decode q.cc pc = .ok (.iastore, 1)) (hn : znx sc q d .iastore 1 pc als ast ws kc ks = some (pc1, als1, ast1, ws1, kc1, ks1)) (K : zCo l D tA adK adV b N0 q p e R s m args below meth c ρ0 Qm pc1 als1 ast1 ws1 kc1 ks1) : zCo l D tA adK adV b N0 q p e R s m args below meth c ρ0 Qm pc als ast ws kc ks := by
  obtain ⟨hx, hb, hml, hrt, hlk, hini, htab, hown, hts, hKn, hEx, hN0, hfr, hlo, hmc, hms, hnt, hqM⟩ := C
  simp only [znx] at hn
  split at hn
  · next x i a r =>
    split at hn
    · next ws' hv =>
      simp only [Option.some.injEq, Prod.mk.injEq] at hn
      obtain ⟨rfl, rfl, rfl, rfl, rfl, rfl⟩ := hn
      intro hkc hks H locs ρ wr ls st hρ hdy hst
      obtain ⟨t0, rfl, h9⟩ := zsr_int hst
      obtain ⟨t1, rfl, h0⟩ := zsr_int h9
      obtain ⟨a', s1, rfl, ha, h1⟩ := zsr_ref h0
      obtain ⟨y1, y2, y3, y4, y5, y6⟩ := hdy
      unfold zast at hv
      split at hv
      · next ha0 =>
        rw [if_pos ha0] at ha
        split at hv
        · next ty' k f hw =>
          split at hv
          · next hc =>
            obtain ⟨rfl, hin⟩ := hc
            cases hv
            obtain ⟨e1, h2, rfl, h3⟩ := zwr_at y4 hw ha
            exact va_iast hx hb hKn.1 y2 y3 y1 a 0 h2 rfl (zin_in.mp hin) hdec (fun H1 locs1 p1 p2 p3 => K hkc hks H1 locs1 ρ _ ls _ hρ ⟨p3, p1, p2, zwr_set y4 h2 ⟨rfl, h3⟩, y5, y6⟩ h1)
          · cases hv
        · cases hv
      · cases hv
    · cases hn
  · cases hn
theorem zi_bastore (C : zCt l D tA adK adV b sc N0 q d p R s m args meth c) (hdec : decode q.cc pc = .ok (.bastore, 1)) (hn : znx sc q d .bastore 1 pc als ast ws kc ks = some (pc1, als1, ast1, ws1, kc1, ks1)) (K : zCo l D tA adK adV b N0 q p e R s m args below meth c ρ0 Qm pc1 als1 ast1 ws1 kc1 ks1) : zCo l D tA adK adV b N0 q p e R s m args below meth c ρ0 Qm pc als ast ws kc ks := by
  obtain ⟨hx, hb, hml, hrt, hlk, hini, htab, hown, hts, hKn, hEx, hN0, hfr, hlo, hmc, hms, hnt, hqM⟩ := C
  simp only [znx] at hn
  split at hn
  · next x i a r =>
    split at hn
    · next ws' hv =>
      simp only [Option.some.injEq, Prod.mk.injEq] at hn
      obtain ⟨rfl, rfl, rfl, rfl, rfl, rfl⟩ := hn
      intro hkc hks H locs ρ wr ls st hρ hdy hst
      obtain ⟨t0, rfl, h9⟩ := zsr_int hst
      obtain ⟨t1, rfl, h0⟩ := zsr_int h9
      obtain ⟨a', s1, rfl, ha, h1⟩ := zsr_ref h0
      obtain ⟨y1, y2, y3, y4, y5, y6⟩ := hdy
      unfold zast at hv
      split at hv
      · next ha0 =>
        rw [if_pos ha0] at ha
        split at hv
        · next ty' k f hw =>
          split at hv
          · next hc =>
            obtain ⟨rfl, hin⟩ := hc
            cases hv
            obtain ⟨e1, h2, rfl, h3⟩ := zwr_at y4 hw ha
            exact va_bast hx hb hKn.1 y2 y3 y1 a 1 h2 rfl (zin_in.mp hin) hdec (fun H1 locs1 p1 p2 p3 => K hkc hks H1 locs1 ρ _ ls _ hρ ⟨p3, p1, p2, zwr_set y4 h2 ⟨rfl, h3⟩, y5, y6⟩ h1)
          · cases hv
        · cases hv
      · cases hv
    · cases hn
  · cases hn
theorem zi_lastore (C : zCt l D tA adK adV b sc N0 q d p R s m args meth c) (hdec : decode q.cc pc = .ok (.lastore, 1)) (hn : znx sc q d .lastore 1 pc als ast ws kc ks = some (pc1, als1, ast1, ws1, kc1, ks1)) (K : zCo l D tA adK adV b N0 q p e R s m args below meth c ρ0 Qm pc1 als1 ast1 ws1 kc1 ks1) : zCo l D tA adK adV b N0 q p e R s m args below meth c ρ0 Qm pc als ast ws kc ks := by
  obtain ⟨hx, hb, hml, hrt, hlk, hini, htab, hown, hts, hKn, hEx, hN0, hfr, hlo, hmc, hms, hnt, hqM⟩ := C
  simp only [znx] at hn
  split at hn
  · next x i a r =>
    split at hn
    · next ws' hv =>
      simp only [Option.some.injEq, Prod.mk.injEq] at hn
      obtain ⟨rfl, rfl, rfl, rfl, rfl, rfl⟩ := hn
      intro hkc hks H locs ρ wr ls st hρ hdy hst
      obtain ⟨t0, rfl, h9⟩ := zsr_long hst
      obtain ⟨t1, rfl, h0⟩ := zsr_int h9
      obtain ⟨a', s1, rfl, ha, h1⟩ := zsr_ref h0
      obtain ⟨y1, y2, y3, y4, y5, y6⟩ := hdy
      unfold zlas at hv
      split at hv
      · next ha0 =>
        rw [if_pos ha0] at ha
        split at hv
        · next k f hw =>
          split at hv
          · next hin =>
            cases hv
            obtain ⟨e1, h2, rfl, h3⟩ := zwr_at y4 hw ha
            exact va_last hx hb hKn.1 y2 y3 y1 a 2 h2 rfl (zin_in.mp hin) hdec (fun H1 locs1 p1 p2 p3 => K hkc hks H1 locs1 ρ _ ls _ hρ ⟨p3, p1, p2, zwr_set y4 h2 ⟨rfl, h3⟩, y5, y6⟩ h1)
          · cases hv
        · cases hv
      · cases hv
    · cases hn
  · cases hn
theorem zi_aastore (C : zCt l D tA adK adV b sc N0 q d p R s m args meth c) (hdec : decode q.cc pc = .ok (.aastore, 1)) (hn : znx sc q d .aastore 1 pc als ast ws kc ks = some (pc1, als1, ast1, ws1, kc1, ks1)) (K : zCo l D tA adK adV b N0 q p e R s m args below meth c ρ0 Qm pc1 als1 ast1 ws1 kc1 ks1) : zCo l D tA adK adV b N0 q p e R s m args below meth c ρ0 Qm pc als ast ws kc ks := by
  obtain ⟨hx, hb, hml, hrt, hlk, hini, htab, hown, hts, hKn, hEx, hN0, hfr, hlo, hmc, hms, hnt, hqM⟩ := C
  simp only [znx] at hn
  split at hn
  · next k i a r =>
    split at hn
    · next ws' hv =>
      simp only [Option.some.injEq, Prod.mk.injEq] at hn
      obtain ⟨rfl, rfl, rfl, rfl, rfl, rfl⟩ := hn
      intro hkc hks H locs ρ wr ls st hρ hdy hst
      obtain ⟨k', t0, rfl, hk, h9⟩ := zsr_ref hst
      obtain ⟨t1, rfl, h0⟩ := zsr_int h9
      obtain ⟨a', s1, rfl, ha, h1⟩ := zsr_ref h0
      obtain ⟨y1, y2, y3, y4, y5, y6⟩ := hdy
      unfold zaas at hv
      split at hv
      · next ha0 =>
        rw [if_pos ha0] at ha
        split at hv
        · next nm j f hw =>
          split at hv
          · next hc =>
            obtain ⟨hin, hmay⟩ := hc
            cases hv
            obtain ⟨e1, h2, f', rfl, h3, t, ht⟩ := zwr_at y4 hw ha
            have hany : va_Any nm s H k' := by
              unfold zmay at hmay
              split at hmay
              · next hk0 =>
                rw [if_pos hk0] at hk
                split at hmay
                · next ci fs hw2 =>
                  simp only [decide_eq_true_eq] at hmay
                  obtain ⟨hci, rfl⟩ := hmay
                  obtain ⟨e2, g2, fs', rfl, -⟩ := zwr_at y4 hw2 hk
                  exact va_rAny hKn.1 y2 g2 (zcl_at hci) (fun comp c0 q1 q2 => by cases q1.symm.trans q2; exact va_asg _ _)
                · cases hmay
              · next hk0 =>
                rw [if_neg hk0] at hk
                simp only [decide_eq_true_eq] at hmay
                obtain ⟨hi, rfl⟩ := hmay
                rw [zad_K hk0 hi] at hk
                subst hk
                obtain ⟨cell, c1, c2, c3, c4⟩ := ((hEx.1 _ hi).1).kept y1.2.1
                obtain ⟨kC, hkC, -⟩ := Vm.findClass_spec c3
                exact ⟨cell, c1, c2, ⟨kC, hkC⟩, fun comp h => by cases h.symm.trans c3; exact va_asg _ _⟩
            exact va_astqM hx hb hKn.1 y2 y3 y1 a t h2 ht hany (zin_in.mp hin) hdec (fun H1 locs1 p1 p2 p3 => K hkc hks H1 locs1 ρ _ ls _ hρ ⟨p3, p1, p2, zwr_set y4 h2 ⟨_, rfl, fun z => by
              by_cases hz : z = i.toNatClampNeg
              · subst hz
                simp only [va_up, if_pos rfl]
                exact ⟨k', rfl, hk⟩
              · simp only [va_up, if_neg hz]
                exact h3 z, t, ht⟩, y5, y6⟩ h1)
          · cases hv
        · cases hv
      · cases hv
    · cases hn
  · cases hn
end ZA
end
section
/-! making cells, constants, and what of the JDK's is known by laws of the kit -/
theorem zdef_ok : (List.range 11).all (fun ci => ((zTs.getD ci []).map defaultValue).all (fun v => decide (v = .int 0) || decide (v = .null))) = true := by decide +kernel
theorem zsr_def {ad : Nat → Nat} {ρ : List Nat} : ∀ {l : List Value}, (∀ v ∈ l, v = .int 0 ∨ v = .null) → zsr ad ρ l l
  | [], _ => trivial
  | v :: l, h => ⟨by rcases h v List.mem_cons_self with rfl | rfl <;> rfl, zsr_def (fun w hw => h w (List.mem_cons_of_mem _ hw))⟩
theorem zat1 {w : Cond} {i : Nat} (h : tables_1_1[i]? = some w) (g : goodWord w = true) : w ∈ zws := zws_of (zpt1 (List.mem_of_getElem? h)) g
theorem zat2 {w : Cond} {i : Nat} (h : tables_1_2[i]? = some w) (g : goodWord w = true) : w ∈ zws := zws_of (zpt2 (List.mem_of_getElem? h)) g
theorem zat3 {w : Cond} {i : Nat} (h : tables_1_3[i]? = some w) (g : goodWord w = true) : w ∈ zws := zws_of (zpt3 (List.mem_of_getElem? h)) g
theorem zarr_i : Cond.arrayClass .int ∈ zws := zat1 (i := 101) rfl rfl
theorem zarr_b : Cond.arrayClass .byte ∈ zws := zat1 (i := 70) rfl rfl
theorem zarr_l : Cond.arrayClass .long ∈ zws := zat1 (i := 238) rfl rfl
theorem zobj_i : Cond.instanceMethod Lib.objectInit ∈ zws := zat1 (i := 30) rfl rfl
theorem zobj_c : Cond.code Lib.objectInit ⟨#[0xb1]⟩ 1 none ∈ zws := zat1 (i := 31) rfl rfl
theorem zmin_s : Cond.static Lib.Math.min.name ∈ zws := zat3 (i := 140) rfl rfl
theorem zmin_c : Cond.code Lib.Math.min.name Lib.Math.min.code 2 (some .int) ∈ zws := zat3 (i := 141) rfl rfl
theorem zmax_s : Cond.static Lib.Math.max.name ∈ zws := zat2 (i := 221) rfl rfl
theorem zmax_c : Cond.code Lib.Math.max.name Lib.Math.max.code 2 (some .int) ∈ zws := zat2 (i := 222) rfl rfl
theorem zmath_i : Cond.initialized "java/lang/Math" ∈ zws := zat1 (i := 16) rfl rfl
theorem zcpy_n : Cond.native arraycopyName ∈ zws := zat2 (i := 174) rfl rfl
theorem zcpy_s : Cond.static arraycopyName ∈ zws := zat2 (i := 173) rfl rfl
theorem zsys_i : Cond.initialized "java/lang/System" ∈ zws := zat1 (i := 21) rfl rfl
section ZK
variable {l : Launch} {D : va_G} {tA : FieldType → ClassId} {adK adV : Nat → Nat} {b : Nat} {sc : Nat × (Nat → Int32)} {N0 : Nat} {q : zMI} {d : Nat} {p : Program} {e : Env} {R : Room} {s : State} {m : MethodId} {args : Array Value} {below : List Frame} {meth : Method} {c : Code} {ρ0 : List Nat} {Qm : State → Prop}
variable {pc pc1 n : Nat} {als als1 ast ast1 : List Value} {ws ws1 : List zC} {kc kc1 ks ks1 : Nat}
theorem zarr_same {ty : FieldType} {t : Nat} {cA : ClassId} (hK : va_K D zcl (ztys tA) s) (ht : (ztys tA)[t]? = some (tA ty, ty)) (hK1 : va_K D zcl (ztys tA ++ [(cA, ty)]) s) : cA = tA ty := by
  have h1 := (hK.2 t _ ht).2
  have h2 := (hK1.2 5 (cA, ty) rfl).2
  have key : ∀ {x : ClassId}, va_RA s x ty → s.vm.findClass ("[" ++ ty.toString) = some x := by
    intro x h
    cases ty with
    | object C => obtain ⟨_, _, _, _, _, h⟩ := h; exact h
    | _ => exact h
  exact Option.some.inj ((key h2).symm.trans (key h1))
/-- behind a cell that was made -/
theorem zpushed {a : Nat} {ρ : List Nat} {wr : va_W} {e1 : va_E} {cc1 : zC} {ls : Array Slot} {st : List Value} {H1 : Heap} {locs : List Loc} (K : zCo l D tA adK adV b N0 q p e R s m args below meth c ρ0 Qm pc1 als (.ref ws.length :: ast) (ws ++ [cc1]) kc1 ks1) (hc1 : kc1 ≤ q.mc) (hs1 : ks1 ≤ q.ms) (hρ : ∃ r, ρ = ρ0 ++ r) (hl : ws.length < 900) (y4 : zwr (zad adK adV b) tA ρ ws wr) (y5 : zlr (zad adK adV b) ρ als ls) (y6 : als.length = q.nL) (hst : zsr (zad adK adV b) ρ ast st)
    (hP : va_P D zcl (wr ++ [(a, e1)]) H1) (hD : va_D (zAr N0) (wr ++ [(a, e1)])) (hS : va_S (zAr N0) s.heap H1 locs) (hc : zcr (zad adK adV b) tA (ρ ++ [a]) cc1 e1) : W p l e R s m args below meth c H1 locs kc1 ks1 Qm (F0 m pc1 ls (.ref a :: st)) := by
  obtain ⟨r, rfl⟩ := hρ
  have hlen := zwr_len y4
  refine K hc1 hs1 H1 locs (ρ0 ++ r ++ [a]) _ ls _ ⟨r ++ [a], by simp⟩ ⟨hS, hP, hD, zwr_push y4 hc, zlr_mono _ y5, y6⟩ ⟨⟨a, rfl, ?_⟩, zsr_mono _ hst⟩
  have h9 : ws.length < 1000 := by omega
  rw [if_pos h9, ← hlen]
  simp
theorem zi_newarray (C : zCt l D tA adK adV b sc N0 q d p R s m args meth c) {t : ArrayType} (hdec : decode q.cc pc = .ok (.newarray t, 2)) (hn : znx sc q d (.newarray t) 2 pc als ast ws kc ks = some (pc1, als1, ast1, ws1, kc1, ks1)) (K : zCo l D tA adK adV b N0 q p e R s m args below meth c ρ0 Qm pc1 als1 ast1 ws1 kc1 ks1) : zCo l D tA adK adV b N0 q p e R s m args below meth c ρ0 Qm pc als ast ws kc ks := by
  obtain ⟨hx, hb, hml, hrt, hlk, hini, htab, hown, hts, hKn, hEx, hN0, hfr, hlo, hmc, hms, hnt, hqM⟩ := C
  simp only [znx] at hn
  split at hn
  · next k r =>
    split at hn
    · next cc1 hz =>
      split at hn
      · next hcc =>
        obtain ⟨h0, h6, hl, hc1, hc2⟩ := hcc
        simp only [Option.some.injEq, Prod.mk.injEq] at hn
        obtain ⟨rfl, rfl, rfl, rfl, rfl, rfl⟩ := hn
        intro hkc hks H locs ρ wr ls st hρ hdy hst
        obtain ⟨t1, rfl, h1⟩ := zsr_int hst
        obtain ⟨y1, y2, y3, y4, y5, y6⟩ := hdy
        cases t
        case int =>
          cases hz
          exact va_newa (atype := .int) (ty := .int) (a0 := (k.toNatClampNeg, .inl (fun _ => 0))) hx hb (hts _ zarr_i) rfl hKn.1 y2 y3 y1 (fun z hz => Nat.le_trans hN0 hz) (fun _ => rfl) h0 rfl (show k.toNatClampNeg * 4 ≤ 536870912 by omega) (by omega) (by omega) hdec
            (fun a cA H1 k1 k2 k3 k4 => by
              cases zarr_same (t := 0) hKn.1 rfl k1
              exact zpushed K hc1 hc2 hρ hl y4 y5 y6 h1 k2 k3 k4 ⟨rfl, 0, rfl⟩)
        case byte =>
          cases hz
          exact va_newa (atype := .byte) (ty := .byte) (a0 := (k.toNatClampNeg, .inl (fun _ => 0))) hx hb (hts _ zarr_b) rfl hKn.1 y2 y3 y1 (fun z hz => Nat.le_trans hN0 hz) (fun _ => rfl) h0 rfl (show k.toNatClampNeg * 1 ≤ 536870912 by omega) (by omega) (by omega) hdec
            (fun a cA H1 k1 k2 k3 k4 => by
              cases zarr_same (t := 1) hKn.1 rfl k1
              exact zpushed K hc1 hc2 hρ hl y4 y5 y6 h1 k2 k3 k4 ⟨rfl, 1, rfl⟩)
        case long =>
          cases hz
          exact va_newa (atype := .long) (ty := .long) (a0 := (k.toNatClampNeg, .inr (.inl (fun _ => 0)))) hx hb (hts _ zarr_l) rfl hKn.1 y2 y3 y1 (fun z hz => Nat.le_trans hN0 hz) (fun _ => rfl) h0 rfl (show k.toNatClampNeg * 8 ≤ 536870912 by omega) (by omega) (by omega) hdec
            (fun a cA H1 k1 k2 k3 k4 => by
              cases zarr_same (t := 2) hKn.1 rfl k1
              exact zpushed K hc1 hc2 hρ hl y4 y5 y6 h1 k2 k3 k4 ⟨rfl, 2, rfl⟩)
        all_goals cases hz
      · cases hn
    · cases hn
  · cases hn
theorem zi_anewarray (C : zCt l D tA adK adV b sc N0 q d p R s m args meth c) {k0 t : Nat} (hk : k0 < 10000) (hz : zlk (q.cn * 10000 + k0) zCL = some t) (hdec : decode q.cc pc = .ok (.anewarray k0, 3)) (hn : znx sc q d (.anewarray t) 3 pc als ast ws kc ks = some (pc1, als1, ast1, ws1, kc1, ks1)) (K : zCo l D tA adK adV b N0 q p e R s m args below meth c ρ0 Qm pc1 als1 ast1 ws1 kc1 ks1) : zCo l D tA adK adV b N0 q p e R s m args below meth c ρ0 Qm pc als ast ws kc ks := by
  obtain ⟨hx, hb, hml, hrt, hlk, hini, htab, hown, hts, hKn, hEx, hN0, hfr, hlo, hmc, hms, hnt, hqM⟩ := C
  have hlink := hts _ (zcl_in hk hz)
  simp only [znx] at hn
  split at hn
  · next k r =>
    split at hn
    · next hcc =>
      obtain ⟨ht, h0, h6, hl, hc1, hc2⟩ := hcc
      simp only [Option.some.injEq, Prod.mk.injEq] at hn
      obtain ⟨rfl, rfl, rfl, rfl, rfl, rfl⟩ := hn
      intro hkc hks H locs ρ wr ls st hρ hdy hst
      obtain ⟨t1, rfl, h1⟩ := zsr_int hst
      obtain ⟨y1, y2, y3, y4, y5, y6⟩ := hdy
      rcases ht with rfl | rfl
      · exact va_newq (C := "CobblePorts$Trip") hx hb hown hlink hKn.2.2.2.2.1 hKn.1 y2 y3 y1 (fun z hz => Nat.le_trans hN0 hz) h0 rfl (by omega) (by omega) (by omega) hdec
          (fun a cA H1 k1 k2 k3 k4 => by
            cases zarr_same (ty := zTrip) (t := 3) hKn.1 rfl k1
            exact zpushed K hc1 hc2 hρ hl y4 y5 y6 h1 k2 k3 k4 ⟨_, rfl, fun i => rfl, 3, rfl⟩)
      · exact va_newq (C := "java/lang/String") hx hb hown hlink hKn.2.2.2.2.2 hKn.1 y2 y3 y1 (fun z hz => Nat.le_trans hN0 hz) h0 rfl (by omega) (by omega) (by omega) hdec
          (fun a cA H1 k1 k2 k3 k4 => by
            cases zarr_same (ty := zString) (t := 4) hKn.1 rfl k1
            exact zpushed K hc1 hc2 hρ hl y4 y5 y6 h1 k2 k3 k4 ⟨_, rfl, fun i => rfl, 4, rfl⟩)
    · cases hn
  · cases hn
theorem zi_new (C : zCt l D tA adK adV b sc N0 q d p R s m args meth c) {k0 ci : Nat} (hk : k0 < 10000) (hz : zlk (q.cn * 10000 + k0) zCL = some ci) (hdec : decode q.cc pc = .ok (.new k0, 3)) (hn : znx sc q d (.new ci) 3 pc als ast ws kc ks = some (pc1, als1, ast1, ws1, kc1, ks1)) (K : zCo l D tA adK adV b N0 q p e R s m args below meth c ρ0 Qm pc1 als1 ast1 ws1 kc1 ks1) : zCo l D tA adK adV b N0 q p e R s m args below meth c ρ0 Qm pc als ast ws kc ks := by
  obtain ⟨hx, hb, hml, hrt, hlk, hini, htab, hown, hts, hKn, hEx, hN0, hfr, hlo, hmc, hms, hnt, hqM⟩ := C
  have hlink := hts _ (zcl_in hk hz)
  simp only [znx] at hn
  split at hn
  · next hcc =>
    obtain ⟨hlt, hl, hc1, hc2⟩ := hcc
    simp only [Option.some.injEq, Prod.mk.injEq] at hn
    obtain ⟨rfl, rfl, rfl, rfl, rfl, rfl⟩ := hn
    intro hkc hks H locs ρ wr ls st hρ hdy hst
    obtain ⟨y1, y2, y3, y4, y5, y6⟩ := hdy
    have hI := zrange zI_c hlt
    simp only [decide_eq_true_eq] at hI
    have hlen := ztl_ok hlt
    refine va_new (ci := ci) (fs := (zTs.getD ci []).map defaultValue) (C := zCN.getD ci "") (T := zT ci) (N := zNF ci) hx hb hts (zlay hlt) (zty ci) (zty_ok hlt) hown hlink (hts _ (zws_of (List.mem_of_getElem? hI.1) rfl)) (hts _ (zws_of (List.mem_of_getElem? hI.2) rfl)) hKn.1 y2 y3 y1 (fun z hz => Nat.le_trans hN0 hz) (zcl_at hlt) (fun j hj => ?_) (by omega) (by omega) hdec
      (fun a H1 k2 k3 k4 => zpushed K hc1 hc2 hρ hl y4 y5 y6 hst k2 k3 k4 ⟨_, rfl, zsr_def ?_⟩)
    · have hj' : j < (zTs.getD ci []).length := by omega
      simp only [vp_V, zty, List.getD_eq_getElem?_getD] at hj' ⊢
      simp [List.getElem?_map, List.getElem?_eq_getElem hj']
    · intro v hv
      have := List.all_eq_true.mp (zrange zdef_ok hlt) v hv
      simpa using this
  · cases hn
theorem zldcW (hexec : p.tables.exec = Jvm.exec) {cc : ByteArray} (hb : c.code = cc) {own tx : String} {index a : Nat} {ls : Array Slot} {rest : List Value} {H : Heap} {locs : List Loc} (hown : s.vm.findClass own = some m.cls) (hZ : vk_R own index tx a s) (hdg : decode cc pc = .ok (.ldc_w index, 3))
    (k : W p l e R s m args below meth c H locs kc ks Qm (F0 m (pc + 3) ls (.ref a :: rest))) : W p l e R s m args below meth c H locs kc ks Qm (F0 m pc ls rest) := by
  intro T hT X
  obtain ⟨t, a1, b1⟩ := k T hT X
  exact ⟨t, X.ldcStringW hexec hown (text := tx) (a := a) hZ.1 hZ.2 (g := F0 m pc ls rest) rfl (by rw [hb]; exact hdg) t a1, b1⟩
theorem zsl_in {cn k r : Nat} (hk : k < 10000) (h : zlk (cn * 10000 + k) zSL = some r) : r < 48 ∧ (zsn r).1 = zCN.getD cn "" ∧ (zsn r).2.1 = k := by
  have h1 := List.all_eq_true.mp zSL_r _ (zlk_mem h)
  simpa only [decide_eq_true_eq, (zdiv (a := cn) hk).1, (zdiv (a := cn) hk).2] using h1
theorem zil_in {cn k r : Nat} (hk : k < 10000) (h : zlk (cn * 10000 + k) zIL = some r) : Cond.constant (zCN.getD cn "") k (zIC.getD r 0) ∈ zws := by
  have h1 := zIL_ok (zlk_mem h)
  simpa only [zic, (zdiv (a := cn) hk).1, (zdiv (a := cn) hk).2] using h1
theorem zi_ldc (C : zCt l D tA adK adV b sc N0 q d p R s m args meth c) {k r : Nat} (hk : k < 10000) (hz : zlk (q.cn * 10000 + k) zSL = some r ∨ ∃ r0, r = 1000 + r0 ∧ zlk (q.cn * 10000 + k) zIL = some r0) (hdec : decode q.cc pc = .ok (.ldc k, 2)) (hn : znx sc q d (.ldc r) 2 pc als ast ws kc ks = some (pc1, als1, ast1, ws1, kc1, ks1)) (K : zCo l D tA adK adV b N0 q p e R s m args below meth c ρ0 Qm pc1 als1 ast1 ws1 kc1 ks1) : zCo l D tA adK adV b N0 q p e R s m args below meth c ρ0 Qm pc als ast ws kc ks := by
  obtain ⟨hx, hb, hml, hrt, hlk, hini, htab, hown, hts, hKn, hEx, hN0, hfr, hlo, hmc, hms, hnt, hqM⟩ := C
  simp only [znx] at hn
  rcases hz with hz | ⟨r0, rfl, hz⟩
  · obtain ⟨g1, g2, g3⟩ := zsl_in hk hz
    rw [if_pos g1] at hn
    simp only [Option.some.injEq, Prod.mk.injEq] at hn
    obtain ⟨rfl, rfl, rfl, rfl, rfl, rfl⟩ := hn
    intro hkc hks H locs ρ wr ls st hρ hdy hst
    have hv := hKn.2.1 r g1
    rw [g2, g3] at hv
    have e1 : ¬ 1000 + r < 1000 := by omega
    have e2 : 1000 + r - 1000 < 48 := by omega
    have e3 : 1000 + r - 1000 = r := by omega
    exact va_ldcS hx hb hown hv hdec (K hkc hks H locs ρ wr ls _ hρ hdy ⟨⟨adK r, rfl, by rw [if_neg e1, zad_K e1 e2, e3]⟩, hst⟩)
  · have hlink := hts _ (zil_in hk hz)
    rw [if_neg (by omega)] at hn
    split at hn
    · simp only [Option.some.injEq, Prod.mk.injEq] at hn
      obtain ⟨rfl, rfl, rfl, rfl, rfl, rfl⟩ := hn
      intro hkc hks H locs ρ wr ls st hρ hdy hst
      exact lv_ldc hx hb hown hlink hdec (K hkc hks H locs ρ wr ls _ hρ hdy ⟨by rw [show 1000 + r0 - 1000 = r0 by omega]; rfl, hst⟩)
    · cases hn
theorem zi_ldc_w (C : zCt l D tA adK adV b sc N0 q d p R s m args meth c) {k r : Nat} (hk : k < 10000) (hz : zlk (q.cn * 10000 + k) zSL = some r ∨ ∃ r0, r = 1000 + r0 ∧ zlk (q.cn * 10000 + k) zIL = some r0) (hdec : decode q.cc pc = .ok (.ldc_w k, 3)) (hn : znx sc q d (.ldc_w r) 3 pc als ast ws kc ks = some (pc1, als1, ast1, ws1, kc1, ks1)) (K : zCo l D tA adK adV b N0 q p e R s m args below meth c ρ0 Qm pc1 als1 ast1 ws1 kc1 ks1) : zCo l D tA adK adV b N0 q p e R s m args below meth c ρ0 Qm pc als ast ws kc ks := by
  obtain ⟨hx, hb, hml, hrt, hlk, hini, htab, hown, hts, hKn, hEx, hN0, hfr, hlo, hmc, hms, hnt, hqM⟩ := C
  simp only [znx] at hn
  rcases hz with hz | ⟨r0, rfl, hz⟩
  · obtain ⟨g1, g2, g3⟩ := zsl_in hk hz
    rw [if_pos g1] at hn
    simp only [Option.some.injEq, Prod.mk.injEq] at hn
    obtain ⟨rfl, rfl, rfl, rfl, rfl, rfl⟩ := hn
    intro hkc hks H locs ρ wr ls st hρ hdy hst
    have hv := hKn.2.1 r g1
    rw [g2, g3] at hv
    have e1 : ¬ 1000 + r < 1000 := by omega
    have e2 : 1000 + r - 1000 < 48 := by omega
    have e3 : 1000 + r - 1000 = r := by omega
    exact zldcW hx hb hown hv hdec (K hkc hks H locs ρ wr ls _ hρ hdy ⟨⟨adK r, rfl, by rw [if_neg e1, zad_K e1 e2, e3]⟩, hst⟩)
  · have hlink := hts _ (zil_in hk hz)
    rw [if_neg (by omega)] at hn
    split at hn
    · simp only [Option.some.injEq, Prod.mk.injEq] at hn
      obtain ⟨rfl, rfl, rfl, rfl, rfl, rfl⟩ := hn
      intro hkc hks H locs ρ wr ls st hρ hdy hst
      exact lv_ldcw hx hb hown hlink hdec (K hkc hks H locs ρ wr ls _ hρ hdy ⟨by rw [show 1000 + r0 - 1000 = r0 by omega]; rfl, hst⟩)
    · cases hn
theorem zlr_size {ρ : List Nat} {ls : Array Slot} (h : zlr (zad adK adV b) ρ als ls) : ls.size = als.length := by
  obtain ⟨l, h1, -⟩ := h
  exact h1.1
theorem zi_objInit (C : zCt l D tA adK adV b sc N0 q d p R s m args meth c) {k r : Nat} (hk : k < 10000) (hz : zlk (q.cn * 10000 + k) zML = some r) (hdec : decode q.cc pc = .ok (.invokespecial k, 3)) (hn : znx sc q d (.invokespecial r) 3 pc als ast ws kc ks = some (pc1, als1, ast1, ws1, kc1, ks1)) (K : zCo l D tA adK adV b N0 q p e R s m args below meth c ρ0 Qm pc1 als1 ast1 ws1 kc1 ks1) : zCo l D tA adK adV b N0 q p e R s m args below meth c ρ0 Qm pc als ast ws kc ks := by
  obtain ⟨hx, hb, hml, hrt, hlk, hini, htab, hown, hts, hKn, hEx, hN0, hfr, hlo, hmc, hms, hnt, hqM⟩ := C
  have hlink := hts _ (zml_in hk hz)
  simp only [znx] at hn
  split at hn
  · next hr =>
    obtain ⟨rfl, hd⟩ := hr
    split at hn
    · next a s' =>
      split at hn
      · next hwd =>
        simp only [Option.some.injEq, Prod.mk.injEq] at hn
        obtain ⟨rfl, rfl, rfl, rfl, rfl, rfl⟩ := hn
        intro hkc hks H locs ρ wr ls st hρ hdy hst
        obtain ⟨a', s1, rfl, ha, h1⟩ := zsr_ref hst
        have hw := zsr_wd h1
        have hsz := zlr_size hdy.2.2.2.2.1
        have hy6 := hdy.2.2.2.2.2
        exact W.objInit hx hb hown hlink (hts _ zobj_i) (hts _ zobj_c) rfl (by show ls.size = _; rw [hsz, hy6, hml]) rfl hdec (by omega) (by show 2 * 0 + _ + 12 ≤ _; omega) (K hkc hks H locs ρ wr ls _ hρ hdy h1)
      · cases hn
    · cases hn
  · cases hn
theorem zi_intr (C : zCt l D tA adK adV b sc N0 q d p R s m args meth c) {k r : Nat} (hk : k < 10000) (hz : zlk (q.cn * 10000 + k) zML = some r) (hdec : decode q.cc pc = .ok (.invokestatic k, 3)) (hn : znx sc q d (.invokestatic r) 3 pc als ast ws kc ks = some (pc1, als1, ast1, ws1, kc1, ks1)) (K : zCo l D tA adK adV b N0 q p e R s m args below meth c ρ0 Qm pc1 als1 ast1 ws1 kc1 ks1) : zCo l D tA adK adV b N0 q p e R s m args below meth c ρ0 Qm pc als ast ws kc ks := by
  obtain ⟨hx, hb, hml, hrt, hlk, hini, htab, hown, hts, hKn, hEx, hN0, hfr, hlo, hmc, hms, hnt, hqM⟩ := C
  have hlink := hts _ (zml_in hk hz)
  simp only [znx] at hn
  split at hn
  · next hr =>
    obtain ⟨rfl, hd⟩ := hr
    split at hn
    · next y x s' =>
      split at hn
      · next hwd =>
        simp only [Option.some.injEq, Prod.mk.injEq] at hn
        obtain ⟨rfl, rfl, rfl, rfl, rfl, rfl⟩ := hn
        intro hkc hks H locs ρ wr ls st hρ hdy hst
        obtain ⟨t1, rfl, h0⟩ := zsr_int hst
        obtain ⟨t2, rfl, h1⟩ := zsr_int h0
        have hw := zsr_wd h1
        have hsz := zlr_size hdy.2.2.2.2.1
        have hy6 := hdy.2.2.2.2.2
        exact va_mmin hx hb (by rw [hsz, hy6, hml]) hown hlink (hts _ zmin_s) (hts _ zmath_i) (hts _ zmin_c) (by omega) (by omega) (by omega) (by omega) hdec (K hkc hks H locs ρ wr ls _ hρ hdy ⟨rfl, h1⟩)
      · cases hn
    · cases hn
  · split at hn
    · next hr =>
      obtain ⟨rfl, hd⟩ := hr
      split at hn
      · next y x s' =>
        split at hn
        · next hwd =>
          simp only [Option.some.injEq, Prod.mk.injEq] at hn
          obtain ⟨rfl, rfl, rfl, rfl, rfl, rfl⟩ := hn
          intro hkc hks H locs ρ wr ls st hρ hdy hst
          obtain ⟨t1, rfl, h0⟩ := zsr_int hst
          obtain ⟨t2, rfl, h1⟩ := zsr_int h0
          have hw := zsr_wd h1
          have hsz := zlr_size hdy.2.2.2.2.1
          have hy6 := hdy.2.2.2.2.2
          exact va_mmax hx hb (by rw [hsz, hy6, hml]) hown hlink (hts _ zmax_s) (hts _ zmath_i) (hts _ zmax_c) (by omega) (by omega) (by omega) (by omega) hdec (K hkc hks H locs ρ wr ls _ hρ hdy ⟨rfl, h1⟩)
        · cases hn
      · cases hn
    · split at hn
      · next hr =>
        obtain ⟨rfl, hd⟩ := hr
        split at hn
        · next k1 dp a1 sp a0 s' =>
          split at hn
          · next hwd =>
            split at hn
            · next ws' hv =>
              simp only [Option.some.injEq, Prod.mk.injEq] at hn
              obtain ⟨rfl, rfl, rfl, rfl, rfl, rfl⟩ := hn
              intro hkc hks H locs ρ wr ls st hρ hdy hst
              obtain ⟨t1, rfl, g1⟩ := zsr_int hst
              obtain ⟨t2, rfl, g2⟩ := zsr_int g1
              obtain ⟨b1, t3, rfl, ha1, g3⟩ := zsr_ref g2
              obtain ⟨t4, rfl, g4⟩ := zsr_int g3
              obtain ⟨b0, t5, rfl, ha0, h1⟩ := zsr_ref g4
              have hw := zsr_wd h1
              have hsz := zlr_size hdy.2.2.2.2.1
              have hy6 := hdy.2.2.2.2.2
              obtain ⟨y1, y2, y3, y4, y5, -⟩ := hdy
              have hnf : nativeFrameWords "java/lang/System" "arraycopy" 5 + 11 ≤ 50 := by decide
              unfold zcpy at hv
              split at hv
              · next hc =>
                obtain ⟨c0, c1, c2, c3, c4⟩ := hc
                rw [if_pos c0] at ha0
                rw [if_pos c1] at ha1
                split at hv
                · next n0 f n1 g w0 w1 =>
                  split at hv
                  · next hcc =>
                    cases hv
                    obtain ⟨e0, q0, rfl, -⟩ := zwr_at y4 w0 ha0
                    obtain ⟨e1, q1, rfl, k5⟩ := zwr_at y4 w1 ha1
                    exact va_copyi (ty := .int) hx hb (by rw [hsz, hy6, hml]) hown hlink (hts _ zcpy_n) (hts _ zcpy_s) (hts _ zsys_i) hKn.1 y2 y3 y1 a0 a1 0 0 q0 q1 rfl rfl rfl c2 c3 c4 hcc.1 hcc.2 (fun i _ => rfl) (by omega) (by omega) hdec
                      (fun H1 locs1 p1 p2 p3 => K hkc hks H1 locs1 ρ _ ls _ hρ ⟨p3, p1, p2, zwr_set y4 q1 ⟨rfl, k5⟩, y5, hy6⟩ h1)
                  · cases hv
                · next n0 f n1 g w0 w1 =>
                  split at hv
                  · next hcc =>
                    cases hv
                    obtain ⟨e0, q0, rfl, -⟩ := zwr_at y4 w0 ha0
                    obtain ⟨e1, q1, rfl, k5⟩ := zwr_at y4 w1 ha1
                    exact va_copyl (ty := .long) hx hb (by rw [hsz, hy6, hml]) hown hlink (hts _ zcpy_n) (hts _ zcpy_s) (hts _ zsys_i) hKn.1 y2 y3 y1 a0 a1 2 2 q0 q1 rfl rfl rfl c2 c3 c4 hcc.1 hcc.2 (fun i _ => rfl) (by omega) (by omega) hdec
                      (fun H1 locs1 p1 p2 p3 => K hkc hks H1 locs1 ρ _ ls _ hρ ⟨p3, p1, p2, zwr_set y4 q1 ⟨rfl, k5⟩, y5, hy6⟩ h1)
                  · cases hv
                · cases hv
              · cases hv
            · cases hn
          · cases hn
        · cases hn
      · cases hn
end ZK
end
section
/-! every step of the machine is a step of the JVM -/
section ZN
variable {l : Launch} {D : va_G} {tA : FieldType → ClassId} {adK adV : Nat → Nat} {b : Nat} {sc : Nat × (Nat → Int32)} {N0 : Nat} {q : zMI} {d : Nat} {p : Program} {e : Env} {R : Room} {s : State} {m : MethodId} {args : Array Value} {below : List Frame} {meth : Method} {c : Code} {ρ0 : List Nat} {Qm : State → Prop}
variable {pc pc1 n : Nat} {als als1 ast ast1 : List Value} {ws ws1 : List zC} {kc kc1 ks ks1 : Nat}
set_option maxHeartbeats 4000000 in
theorem zinst (C : zCt l D tA adK adV b sc N0 q d p R s m args meth c) {r : Instr} (hdec : decode q.cc pc = .ok (r, n)) (hlen : zil r n = true) (hjk : zjk r pc = true) (hn : znx sc q d (zres q.cn r) n pc als ast ws kc ks = some (pc1, als1, ast1, ws1, kc1, ks1)) (K : zCo l D tA adK adV b N0 q p e R s m args below meth c ρ0 Qm pc1 als1 ast1 ws1 kc1 ks1) : zCo l D tA adK adV b N0 q p e R s m args below meth c ρ0 Qm pc als ast ws kc ks := by
  cases r
  case iadd => simp only [zil, beq_iff_eq] at hlen; subst hlen; exact zi_iadd C hdec hn K
  case isub => simp only [zil, beq_iff_eq] at hlen; subst hlen; exact zi_isub C hdec hn K
  case imul => simp only [zil, beq_iff_eq] at hlen; subst hlen; exact zi_imul C hdec hn K
  case idiv => simp only [zil, beq_iff_eq] at hlen; subst hlen; exact zi_idiv C hdec hn K
  case irem => simp only [zil, beq_iff_eq] at hlen; subst hlen; exact zi_irem C hdec hn K
  case iand => simp only [zil, beq_iff_eq] at hlen; subst hlen; exact zi_iand C hdec hn K
  case ior => simp only [zil, beq_iff_eq] at hlen; subst hlen; exact zi_ior C hdec hn K
  case ishl => simp only [zil, beq_iff_eq] at hlen; subst hlen; exact zi_ishl C hdec hn K
  case ishr => simp only [zil, beq_iff_eq] at hlen; subst hlen; exact zi_ishr C hdec hn K
  case iushr => simp only [zil, beq_iff_eq] at hlen; subst hlen; exact zi_iushr C hdec hn K
  case i2l => simp only [zil, beq_iff_eq] at hlen; subst hlen; exact zi_i2l C hdec hn K
  case i2b => simp only [zil, beq_iff_eq] at hlen; subst hlen; exact zi_i2b C hdec hn K
  case i2c => simp only [zil, beq_iff_eq] at hlen; subst hlen; exact zi_i2c C hdec hn K
  case lshl => simp only [zil, beq_iff_eq] at hlen; subst hlen; exact zi_lshl C hdec hn K
  case lushr => simp only [zil, beq_iff_eq] at hlen; subst hlen; exact zi_lushr C hdec hn K
  case land => simp only [zil, beq_iff_eq] at hlen; subst hlen; exact zi_land C hdec hn K
  case lor => simp only [zil, beq_iff_eq] at hlen; subst hlen; exact zi_lor C hdec hn K
  case lcmp => simp only [zil, beq_iff_eq] at hlen; subst hlen; exact zi_lcmp C hdec hn K
  case dup => simp only [zil, beq_iff_eq] at hlen; subst hlen; exact zi_dup C hdec hn K
  case dup2 => simp only [zil, beq_iff_eq] at hlen; subst hlen; exact zi_dup2 C hdec hn K
  case pop => simp only [zil, beq_iff_eq] at hlen; subst hlen; exact zi_pop C hdec hn K
  case iaload => simp only [zil, beq_iff_eq] at hlen; subst hlen; exact zi_iaload C hdec hn K
  case baload => simp only [zil, beq_iff_eq] at hlen; subst hlen; exact zi_baload C hdec hn K
  case laload => simp only [zil, beq_iff_eq] at hlen; subst hlen; exact zi_laload C hdec hn K
  case aaload => simp only [zil, beq_iff_eq] at hlen; subst hlen; exact zi_aaload C hdec hn K
  case arraylength => simp only [zil, beq_iff_eq] at hlen; subst hlen; exact zi_arraylength C hdec hn K
  case iastore => simp only [zil, beq_iff_eq] at hlen; subst hlen; exact zi_iastore C hdec hn K
  case bastore => simp only [zil, beq_iff_eq] at hlen; subst hlen; exact zi_bastore C hdec hn K
  case lastore => simp only [zil, beq_iff_eq] at hlen; subst hlen; exact zi_lastore C hdec hn K
  case aastore => simp only [zil, beq_iff_eq] at hlen; subst hlen; exact zi_aastore C hdec hn K
  case iconst k => simp only [zil, beq_iff_eq] at hlen; subst hlen; exact zi_iconst C hdec hn K
  case bipush k => simp only [zil, beq_iff_eq] at hlen; subst hlen; exact zi_bipush C hdec hn K
  case sipush k => simp only [zil, beq_iff_eq] at hlen; subst hlen; exact zi_sipush C hdec hn K
  case lconst k => simp only [zil, beq_iff_eq] at hlen; subst hlen; exact zi_lconst C hdec hn K
  case iload k => simp only [zil, beq_iff_eq] at hlen; subst hlen; exact zi_iload C hdec hn K
  case iload_n k => simp only [zil, beq_iff_eq] at hlen; subst hlen; exact zi_iload_n C hdec hn K
  case aload k => simp only [zil, beq_iff_eq] at hlen; subst hlen; exact zi_aload C hdec hn K
  case aload_n k => simp only [zil, beq_iff_eq] at hlen; subst hlen; exact zi_aload_n C hdec hn K
  case istore k => simp only [zil, beq_iff_eq] at hlen; subst hlen; exact zi_istore C hdec hn K
  case istore_n k => simp only [zil, beq_iff_eq] at hlen; subst hlen; exact zi_istore_n C hdec hn K
  case astore k => simp only [zil, beq_iff_eq] at hlen; subst hlen; exact zi_astore C hdec hn K
  case astore_n k => simp only [zil, beq_iff_eq] at hlen; subst hlen; exact zi_astore_n C hdec hn K
  case iinc k z => simp only [zil, beq_iff_eq] at hlen; subst hlen; exact zi_iinc C hdec hn K
  case goto off => simp only [zil, beq_iff_eq] at hlen; subst hlen; exact zi_goto C hdec hn K
  case newarray t => simp only [zil, beq_iff_eq] at hlen; subst hlen; exact zi_newarray C hdec hn K
  case tableswitch dflt lo hi offs => exact zi_tsw C hdec hn K
  case if_icmp cd off =>
    simp only [zil, beq_iff_eq] at hlen; subst hlen
    simp only [zjk, decide_eq_true_eq] at hjk
    cases cd
    case eq => exact zi_icmp_eq C hdec hjk hn K
    case ne => exact zi_icmp_ne C hdec hjk hn K
    case lt => exact zi_icmp_lt C hdec hjk hn K
    case ge => exact zi_icmp_ge C hdec hjk hn K
    case gt => exact zi_icmp_gt C hdec hjk hn K
    case le => exact zi_icmp_le C hdec hjk hn K
  case ifCond cd off =>
    simp only [zil, beq_iff_eq] at hlen; subst hlen
    simp only [zjk, decide_eq_true_eq] at hjk
    cases cd
    case eq => exact zi_if_eq C hdec hjk hn K
    case ne => exact zi_if_ne C hdec hjk hn K
    case lt => exact zi_if_lt C hdec hjk hn K
    case ge => exact zi_if_ge C hdec hjk hn K
    case gt => exact zi_if_gt C hdec hjk hn K
    case le => exact zi_if_le C hdec hjk hn K
  case getfield k =>
    simp only [zil, Bool.and_eq_true, beq_iff_eq, decide_eq_true_eq] at hlen
    obtain ⟨rfl, hk⟩ := hlen
    simp only [zres] at hn
    split at hn
    · next r hz => exact zi_getfield C hk hz hdec hn K
    · simp [znx] at hn
  case putfield k =>
    simp only [zil, Bool.and_eq_true, beq_iff_eq, decide_eq_true_eq] at hlen
    obtain ⟨rfl, hk⟩ := hlen
    simp only [zres] at hn
    split at hn
    · next r hz => exact zi_putfield C hk hz hdec hn K
    · simp [znx] at hn
  case getstatic k =>
    simp only [zil, Bool.and_eq_true, beq_iff_eq, decide_eq_true_eq] at hlen
    obtain ⟨rfl, hk⟩ := hlen
    simp only [zres] at hn
    split at hn
    · next r hz => exact zi_getstatic C hk hz hdec hn K
    · simp [znx] at hn
  case anewarray k =>
    simp only [zil, Bool.and_eq_true, beq_iff_eq, decide_eq_true_eq] at hlen
    obtain ⟨rfl, hk⟩ := hlen
    simp only [zres] at hn
    split at hn
    · next r hz => exact zi_anewarray C hk hz hdec hn K
    · simp [znx] at hn
  case new k =>
    simp only [zil, Bool.and_eq_true, beq_iff_eq, decide_eq_true_eq] at hlen
    obtain ⟨rfl, hk⟩ := hlen
    simp only [zres] at hn
    split at hn
    · next r hz => exact zi_new C hk hz hdec hn K
    · split at hn
      · next r hz =>
        have : ¬ 100 + r < 11 := by omega
        simp [znx, this] at hn
      · simp [znx] at hn
  case ldc k =>
    simp only [zil, Bool.and_eq_true, beq_iff_eq, decide_eq_true_eq] at hlen
    obtain ⟨rfl, hk⟩ := hlen
    simp only [zres] at hn
    split at hn
    · next r hz => exact zi_ldc C hk (Or.inl hz) hdec hn K
    · split at hn
      · next r hz => exact zi_ldc C hk (Or.inr ⟨r, rfl, hz⟩) hdec hn K
      · simp [znx] at hn
  case ldc_w k =>
    simp only [zil, Bool.and_eq_true, beq_iff_eq, decide_eq_true_eq] at hlen
    obtain ⟨rfl, hk⟩ := hlen
    simp only [zres] at hn
    split at hn
    · next r hz => exact zi_ldc_w C hk (Or.inl hz) hdec hn K
    · split at hn
      · next r hz => exact zi_ldc_w C hk (Or.inr ⟨r, rfl, hz⟩) hdec hn K
      · simp [znx] at hn
  case invokevirtual k =>
    simp only [zil, Bool.and_eq_true, beq_iff_eq, decide_eq_true_eq] at hlen
    obtain ⟨rfl, hk⟩ := hlen
    simp only [zres] at hn
    split at hn
    · split at hn <;> simp [znx] at hn
    · simp [znx] at hn
  case invokestatic k =>
    simp only [zil, Bool.and_eq_true, beq_iff_eq, decide_eq_true_eq] at hlen
    obtain ⟨rfl, hk⟩ := hlen
    simp only [zres] at hn
    split at hn
    · next r hz =>
      split at hn
      · exact zi_intr C hk hz hdec hn K
      · simp [znx] at hn
    · simp [znx] at hn
  case invokespecial k =>
    simp only [zil, Bool.and_eq_true, beq_iff_eq, decide_eq_true_eq] at hlen
    obtain ⟨rfl, hk⟩ := hlen
    simp only [zres] at hn
    split at hn
    · next r hz =>
      split at hn
      · exact zi_objInit C hk hz hdec hn K
      · simp [znx] at hn
    · split at hn
      · next r hz =>
        split at hn
        · have : ¬ 2000 + r = 1000 := by omega
          simp [znx, this] at hn
        · simp [znx] at hn
      · simp [znx] at hn
  all_goals (simp [zres, znx] at hn)
end ZN
end
section
/-! calls, ends and throws -/
def zov (ad : Nat → Nat) (ρ : List Nat) (v v' : Option Value) : Prop := match v, v' with
  | none, none => True
  | some x, some y => zvr ad ρ x y
  | _, _ => False
section ZS
variable (l : Launch) (D : va_G) (tA : FieldType → ClassId) (adK adV : Nat → Nat) (b : Nat) (sc : Nat × (Nat → Int32)) (N0 : Nat)
def zQc (ρ0 : List Nat) (Q : zPost) : Array Value → State → Outcome → State → Prop := fun _ st o t =>
  ∃ (v v' : Option Value) (ws1 : List zC) (ρ1 : List Nat) (wr : va_W), o = .returned v' ∧ Q (.inl v) ws1 ∧ zov (zad adK adV b) ρ1 v v' ∧ (∃ r, ρ1 = ρ0 ++ r) ∧ va_P D zcl wr t.heap ∧ va_D (zAr N0) wr ∧ zwr (zad adK adV b) tA ρ1 ws1 wr ∧ va_F (zAr N0) st t
def zXC (ρ0 : List Nat) (Q : zPost) : String → State → State → Prop := fun E st t =>
  ∃ (x : Nat) (ws1 : List zC) (ρ1 : List Nat) (wr : va_W), E = zEN x ∧ Q (.inr x) ws1 ∧ (∃ r, ρ1 = ρ0 ++ r) ∧ va_P D zcl wr t.heap ∧ va_D (zAr N0) wr ∧ zwr (zad adK adV b) tA ρ1 ws1 wr ∧ va_F (zAr N0) st t
def zSd : zPred := fun mi d pc als ast ws kc ks Q => ∀ q, zM[mi]? = some q → ∀ (p : Program) (e : Env) (R : Room) (s : State) (m : MethodId) (args : Array Value) (below : List Frame) (meth : Method) (c : Code) (ρ0 : List Nat), zCt l D tA adK adV b sc N0 q d p R s m args meth c →
  zCo l D tA adK adV b N0 q p e R s m args below meth c ρ0 (vx_MQ below (zQc D tA adK adV b N0 ρ0 Q) (zXC D tA adK adV b N0 ρ0 Q) args s q.mc q.ms (zAr N0)) pc als ast ws kc ks
/-- what a callee may count on -/
def zPc (wr : va_W) (as' : List Value) : Array Value → State → Prop := va_Pc as' (fun U => zKn D tA adK U ∧ zEx adK adV b sc N0 U U.heap ∧ N0 ≤ U.heap.size ∧ va_P D zcl wr U.heap ∧ va_D (zAr N0) wr)
end ZS
def zrm (d : Nat) (q : zMI) : Room := { frames := d, cells := q.mc, slots := q.ms, locals := 64 * d }
theorem zcat1 : ∀ {as : List Value}, zwd as = as.length → ∀ v ∈ as, v.category = 1
  | [], _, v, h => by simp at h
  | w :: as, h, v, hv => by
    have key : ∀ l : List Value, l.length ≤ zwd l := by
      intro l
      induction l with
      | nil => simp [zwd]
      | cons x t ih =>
        simp only [zwd, List.map_cons, List.sum_cons, List.length_cons] at ih ⊢
        rcases lv_cat x with h | h <;> omega
    have h1 := key as
    simp only [zwd, List.map_cons, List.sum_cons, List.length_cons] at h h1
    have hw : w.category = 1 := by rcases lv_cat w with h2 | h2 <;> omega
    rcases List.mem_cons.mp hv with rfl | hv
    · exact hw
    · exact zcat1 (by simp only [zwd]; omega) v hv
theorem ztake {j : Nat} {q1 : zMI} (h : zM[j]? = some q1) (hj : j < 234) : q1 ∈ zM.take 234 := List.mem_of_getElem? (i := j) (by rw [List.getElem?_take_of_lt hj]; exact h)
theorem zMg_spec {q1 : zMI} (h : q1 ∈ zM.take 234) : plainName q1.y.cls = true ∧ (q1.y.cls ≠ "java/lang/invoke/MethodHandle" ∧ q1.y.cls ≠ "java/lang/invoke/VarHandle" ∧ (parseMethodDescriptor q1.y.desc).map (fun d => d.parameters.length) = some q1.np) ∧ q1.y.cls = zCN.getD q1.cn "" ∧ q1.nL ≤ 40 ∧ q1.cn < 16 := by
  have := List.all_eq_true.mp zM_g q1 h
  simp only [zMg, Bool.and_eq_true, decide_eq_true_eq] at this
  exact ⟨this.1.1.1.1.1.1, ⟨this.1.1.1.1.1.2, this.1.1.1.1.2, this.1.1.1.2⟩, this.1.1.2, this.1.2, this.2⟩
theorem zMn_spec {q1 : zMI} (h : q1 ∈ zM) : q1.cn < 16 ∧ q1.y.cls = zCN.getD q1.cn "" ∧ (q1.ini = true → q1.y.name = "<init>" ∧ q1.rt = none) ∧ q1.mc ≤ 601024 ∧ q1.ms ≤ 7293034 := by
  have := List.all_eq_true.mp zM_n q1 h
  simpa only [decide_eq_true_eq] using this
theorem zinit_in {q1 : zMI} (h : q1 ∈ zM.take 234) : Cond.initialized q1.y.cls ∈ zws := zws_of (zchk_spec zM_i h) rfl
theorem zkw_in {q1 : zMI} (h : q1 ∈ zM.take 234) : zkw q1 ∈ zws := zws_of (zM_k h) (by unfold zkw; split <;> rfl)
section ZB
variable {l : Launch} {D : va_G} {tA : FieldType → ClassId} {adK adV : Nat → Nat} {b : Nat} {sc : Nat × (Nat → Int32)} {N0 : Nat}
theorem zPc_blind {wr : va_W} {as' : List Value} : FrameBlind (zPc D tA adK adV b sc N0 wr as') := by
  intro a U g mk h
  obtain ⟨h0, h1, h2, h3, h4, h5⟩ := h
  exact ⟨h0, zKn.same (s := U) (U := U.calling g mk a) rfl h1, zEx.moved (u := U) (U := U.calling g mk a) (Vm.Alike.refl U.vm) h2, h3, h4, h5⟩
/-- a callee's contract out of the machine's own run -/
theorem zbody {j d : Nat} {q1 : zMI} (hq1 : zM[j]? = some q1) (hj : j < 234) {as : List Value} {ws : List zC} {Q1 : zPost} (IH : zSd l D tA adK adV b sc N0 j d 0 (zloc q1 as) [] ws 0 0 Q1) (hnt : l.stackTraces = false) {as' : List Value} {ρ : List Nat} {wr : va_W}
    (hrel : zsr (zad adK adV b) ρ as as') (hcat : zwd as = as.length) (hlen : as.length ≤ q1.nL) (hwr : zwr (zad adK adV b) tA ρ ws wr) :
    vx_Met l q1.y (zkw q1 :: zws) (zrm d q1) (zPc D tA adK adV b sc N0 wr as') (zQc D tA adK adV b N0 ρ Q1) (zXC D tA adK adV b N0 ρ Q1) q1.mc q1.ms (zAr N0) := by
  have hT := ztake hq1 hj
  obtain ⟨g1, -, g3, g4, g5⟩ := zMg_spec hT
  have hM : q1 ∈ zM := List.mem_of_getElem? hq1
  have hini := (zMn_spec hM).2.2.1
  have go : ∀ (p : Program) (e : Env) (s : State) (m : MethodId) (args : Array Value) (below : List Frame) (meth : Method) (c : Code) (s₁ : State), BodyLoose p l q1.y (headSpec (zkw q1 :: zws) (zrm d q1)) q1.cc q1.nL q1.rt e s m args below meth c s₁ → c.maxLocals = q1.nL → c.exceptionTable.toList = tableOf q1.hh → zPc D tA adK adV b sc N0 wr as' args s →
      W p l e (headSpec (zkw q1 :: zws) (zrm d q1)).room s m args below meth c s.heap [] 0 0 (vx_MQ below (zQc D tA adK adV b N0 ρ Q1) (zXC D tA adK adV b N0 ρ Q1) args s q1.mc q1.ms (zAr N0)) (entryFrame m args q1.nL) := by
    intro p e s m args below meth c s₁ B hml htab hv
    obtain ⟨rfl, k1, k2, k3, k4, k5⟩ := hv
    rw [lg_entry_eq]
    have hts := atoms_spec (ws := zkw q1 :: zws) B.pre
    refine IH q1 hq1 p e _ s m _ below meth c ρ ⟨B.exec, B.bytes, hml, B.returns, B.notSynchronized, fun h => ?_, htab, ?_, fun w hw => hts w (List.mem_cons_of_mem _ hw), k1, k2, k3, Nat.le_refl _, Nat.le_refl _, Nat.le_refl _, Nat.le_refl _, hnt, hM⟩ (Nat.zero_le _) (Nat.zero_le _) s.heap [] ρ wr _ [] ⟨[], by simp⟩ ⟨va_S.rf, k4, k5, hwr, zlr_entry hrel (zcat1 hcat) hlen, ?_⟩ trivial
    · rw [← (hini h).1]; exact (name_of_methodNamed B.named B.method).1
    · rw [← g3]; exact findClass_of_methodNamed B.named
    · simp [zloc]; omega
  by_cases hh : q1.hh = []
  · refine vx_ofW (cc := q1.cc) (maxL := q1.nL) (ret := q1.rt) (ws' := zws) g1 (by rw [zkw, if_pos hh]) ?_
    intro p e s m args below meth c s₁ B hml ht hP
    refine go p e s m args below meth c s₁ B hml ?_ hP
    rw [hh]
    cases h : c.exceptionTable.toList with
    | nil => rfl
    | cons x t => exact (ht x (by rw [h]; exact List.mem_cons_self)).elim
  · refine vx_ofWH (cc := q1.cc) (maxL := q1.nL) (ret := q1.rt) (hh := q1.hh) (ws' := zws) g1 (by rw [zkw, if_neg hh]) ?_
    intro p e s m args below meth c s₁ B hml hP
    refine go p e s m args below meth c s₁ B hml (vx_table (x := q1.y) B (bytes := q1.cc) (maxL' := q1.nL) (ret' := q1.rt) ?_) hP
    have h1 := atoms_spec (ws := zkw q1 :: zws) B.pre _ List.mem_cons_self
    rw [zkw, if_neg hh] at h1
    exact h1
theorem zEN_lt {x : Nat} (h : x < 2) : x = 0 ∨ x = 1 := by omega
theorem zcast {U : State} {adK : Nat → Nat} (h : zKn D tA adK U) {x : Nat} (hx : x < 2) {A : Array Value} : (Cond.castable (zEN x) (zEN x)).before A U = true := by
  have h0 : Cond.castable (zEN x) (zEN x) ∈ zxw := by
    rcases zEN_lt hx with rfl | rfl
    · decide +kernel
    · decide +kernel
  exact va_Nw.use rfl (h.2.2.1 _ h0)
def zmt (q : zMI) (pc x : Nat) (r : Nat × Nat × Nat × Nat) : Prop := r.1 ≤ pc ∧ pc < r.2.1 ∧ zlk (q.cn * 10000 + r.2.2.2) zEL = some x
theorem zhd_some {q : zMI} {pc x h : Nat} : ∀ {hh : List (Nat × Nat × Nat × Nat)}, zhd q pc x hh = some h → ∃ pre r suf, hh = pre ++ r :: suf ∧ (∀ z ∈ pre, ¬ zmt q pc x z) ∧ zmt q pc x r ∧ r.2.2.1 = h
  | [], e => by simp [zhd] at e
  | (a, f, g, t) :: rest, e => by
    simp only [zhd] at e
    split at e
    · next hc => cases e; exact ⟨[], _, rest, rfl, fun z hz => by simp at hz, hc, rfl⟩
    · next hc =>
      obtain ⟨pre, r, suf, e1, e2, e3, e4⟩ := zhd_some e
      refine ⟨(a, f, g, t) :: pre, r, suf, by rw [e1]; rfl, fun z hz => ?_, e3, e4⟩
      rcases List.mem_cons.mp hz with rfl | hz
      · exact hc
      · exact e2 z hz
theorem zhd_none {q : zMI} {pc x : Nat} : ∀ {hh : List (Nat × Nat × Nat × Nat)}, zhd q pc x hh = none → ∀ z ∈ hh, ¬ zmt q pc x z
  | [], _, z, hz => by simp at hz
  | (a, f, g, t) :: rest, e, z, hz => by
    simp only [zhd] at e
    split at e
    · cases e
    · next hc =>
      rcases List.mem_cons.mp hz with rfl | hz
      · exact hc
      · exact zhd_none e z hz
def zent (r : Nat × Nat × Nat × Nat) : ExceptionTableEntry := ⟨r.1, r.2.1, r.2.2.1, r.2.2.2⟩
theorem zhok {q : zMI} (hq : q ∈ zM) {r : Nat × Nat × Nat × Nat} (hr : r ∈ q.hh) : r.2.2.2 ≠ 0 ∧ r.2.2.2 < 10000 ∧ ∃ x, zlk (q.cn * 10000 + r.2.2.2) zEL = some x := by
  have h1 := List.all_eq_true.mp (List.all_eq_true.mp zM_h q hq) r hr
  simp only [decide_eq_true_eq] at h1
  exact ⟨h1.1, h1.2.1, Option.isSome_iff_exists.mp h1.2.2⟩
theorem zel_lt {k x : Nat} (h : zlk k zEL = some x) : x < 2 := by
  have := List.all_eq_true.mp zEL_r _ (zlk_mem h)
  simpa using this
theorem zpass {q : zMI} {d : Nat} {p : Program} {R : Room} {s : State} {m : MethodId} {args : Array Value} {meth : Method} {c : Code} (C : zCt l D tA adK adV b sc N0 q d p R s m args meth c) {pc x : Nat} (hx : x < 2) {r : Nat × Nat × Nat × Nat} (hr : r ∈ q.hh) (hm : ¬ zmt q pc x r) :
    covers (zent r) pc = false ∨ ((zent r).catchType ≠ 0 ∧ ∃ nm : String, (Cond.classLink (zCN.getD q.cn "") (zent r).catchType nm).before args s = true ∧ va_Nc (zEN x) nm s) := by
  obtain ⟨hx0, hb, hml, hrt, hlk, hini, htab, hown, hts, hKn, hEx, hN0, hfr, hlo, hmc, hms, hnt, hqM⟩ := C
  obtain ⟨h1, h2, x1, h3⟩ := zhok hqM hr
  by_cases hc : r.1 ≤ pc ∧ pc < r.2.1
  · refine Or.inr ⟨h1, zEN x1, hts _ (zel_in h2 h3), ?_⟩
    have hne : x1 ≠ x := fun h => hm ⟨hc.1, hc.2, by rw [h3, h]⟩
    have h4 := zel_lt h3
    rcases zEN_lt hx with rfl | rfl
    · rcases zEN_lt h4 with rfl | rfl
      · exact absurd rfl hne
      · exact hKn.2.2.2.1.1
    · rcases zEN_lt h4 with rfl | rfl
      · exact hKn.2.2.2.1.2
      · exact absurd rfl hne
  · refine Or.inl ?_
    show (decide (r.1 ≤ pc) && decide (pc < r.2.1)) = false
    by_cases h5 : r.1 ≤ pc
    · have h6 : ¬ pc < r.2.1 := fun h => hc ⟨h5, h⟩
      simp [h6]
    · simp [h5]
end ZB
end
section
/-! THE MACHINE IS SOUND: where it comes to an end, the JVM does -/
section ZO
variable {l : Launch} {D : va_G} {tA : FieldType → ClassId} {adK adV : Nat → Nat} {b : Nat} {sc : Nat × (Nat → Int32)} {N0 : Nat}
variable {q : zMI} {d : Nat} {p : Program} {e : Env} {R : Room} {s : State} {m : MethodId} {args : Array Value} {below : List Frame} {meth : Method} {c : Code} {ρ0 : List Nat}
/-- an exception at pc: caught here, or out -/
theorem zexcp (C : zCt l D tA adK adV b sc N0 q d p R s m args meth c) {pc x kc ks : Nat} (hx : x < 2) {als : List Value} {ws1 : List zC} {Q : zPost} {H : Heap} {locs : List Loc} {ρ1 : List Nat} {wr : va_W} {ls : Array Slot} {rest : List Value} {q9 : Addr} {ce : Cell}
    (hA : match zhd q pc x q.hh with
      | some h => zSd l D tA adK adV b sc N0 = zSd l D tA adK adV b sc N0 ∧ zCo l D tA adK adV b N0 q p e R s m args below meth c ρ0 (vx_MQ below (zQc D tA adK adV b N0 ρ0 Q) (zXC D tA adK adV b N0 ρ0 Q) args s q.mc q.ms (zAr N0)) h als [zJ] ws1 kc ks
      | none => Q (.inr x) ws1) (hkc : kc ≤ q.mc) (hks : ks ≤ q.ms) (hρ : ∃ r, ρ1 = ρ0 ++ r) (hdy : zDy D tA adK adV b N0 q.nL als ws1 s H locs ρ1 wr ls) (hce : H[q9]? = some ce) (hcv : ce.vm = .none) (hcl : s.vm.findClass (zEN x) = some ce.cls) :
    vx_W p l e R s m args below meth c H locs kc ks (vx_MQ below (zQc D tA adK adV b N0 ρ0 Q) (zXC D tA adK adV b N0 ρ0 Q) args s q.mc q.ms (zAr N0)) (F0 m pc ls rest) q9 := by
  have C' := C
  obtain ⟨hx0, hb, hml, hrt, hlk, hini, htab, hown, hts, hKn, hEx, hN0, hfr, hlo, hmc, hms, hnt, hqM⟩ := C
  cases hz : zhd q pc x q.hh with
  | none =>
    rw [hz] at hA
    have hn := zhd_none hz
    refine vx_outP hown hlk (fun z hz => ?_) hce hcv hcl (fun t ht hal => ⟨x, ws1, ρ1, wr, rfl, hA, hρ, by rw [ht]; exact hdy.2.1, hdy.2.2.1, hdy.2.2.2.1, hdy.1.F ht⟩) hdy.1.2.2 hkc hks
    rw [htab] at hz
    obtain ⟨r, hr, rfl⟩ := List.mem_map.mp hz
    exact zpass C' hx hr (hn r hr)
  | some h =>
    rw [hz] at hA
    obtain ⟨pre, r, suf, e1, e2, e3, e4⟩ := zhd_some hz
    have hr : r ∈ q.hh := by rw [e1]; simp
    obtain ⟨g1, g2, -⟩ := zhok hqM hr
    have g3 : (Cond.classLink (zCN.getD q.cn "") (zent r).catchType (zEN x)).before args s = true := hts _ (zel_in g2 e3.2.2)
    refine vx_catch (own := zCN.getD q.cn "") (name := zEN x) hown (pre.map zent) (zent r) (suf.map zent) (by rw [htab, e1]; simp [tableOf, zent]; rfl) (fun z hz => ?_) ?_ g1 g3 (zcast hKn hx) hce hcv hcl ?_
    · obtain ⟨r1, hr1, rfl⟩ := List.mem_map.mp hz
      exact zpass C' hx (by rw [e1]; simp [hr1]) (e2 r1 hr1)
    · show (decide (r.1 ≤ pc) && decide (pc < r.2.1)) = true
      simp [e3.1, e3.2.1]
    · rw [show (zent r).handlerPc = h from e4]
      exact hA.2 hkc hks H locs ρ1 wr ls _ hρ hdy ⟨Or.inl ⟨q9, rfl⟩, trivial⟩
/-- behind a call -/
theorem zbehind (C : zCt l D tA adK adV b sc N0 q d p R s m args meth c) {mi pc kc ks : Nat} (hq : zM[mi]? = some q) {als rest : List Value} {q1 : zMI} {Q Q1 : zPost} (hA : zafter (zSd l D tA adK adV b sc N0) q q1 mi d pc 3 als rest kc ks Q Q1) (hkc : kc + q1.mc ≤ q.mc) (hks : ks + q1.ms ≤ q.ms)
    {ws : List zC} {H : Heap} {locs : List Loc} {ρ : List Nat} {wr : va_W} {ls : Array Slot} {rest' st0 : List Value} (hρ : ∃ r, ρ = ρ0 ++ r) (hdy : zDy D tA adK adV b N0 q.nL als ws s H locs ρ wr ls) (hst : zsr (zad adK adV b) ρ rest rest')
    {a : Array Value} (hr : vx_Run p l e R s m args below meth c H locs kc ks q1.mc q1.ms (F0 m pc ls st0) rest' (zQc D tA adK adV b N0 ρ Q1 a) (zXC D tA adK adV b N0 ρ Q1) (zAr N0)) :
    W p l e R s m args below meth c H locs kc ks (vx_MQ below (zQc D tA adK adV b N0 ρ0 Q) (zXC D tA adK adV b N0 ρ0 Q) args s q.mc q.ms (zAr N0)) (F0 m pc ls st0) := by
  obtain ⟨y1, y2, y3, y4, y5, y6⟩ := hdy
  obtain ⟨r0, rfl⟩ := hρ
  intro T hT X
  rcases hr T hT X with ⟨v', st₀, t, T', L, h0, X', hL, e1, e2, ⟨v, v'', ws1, ρ1, wr1, hv, k1, k2, ⟨r1, rfl⟩, k4, k5, k6, k7⟩, st⟩ | ⟨q9, st₀, t, T', L, E, ce, h0, X', hL, e1, e2, ⟨x, ws1, ρ1, wr1, rfl, k1, ⟨r1, rfl⟩, k4, k5, k6, k7⟩, hce, hcv, hcl, st⟩
  · cases hv
    obtain ⟨j1, j2, j3⟩ := vx_keep h0 e1 y1 (fun q _ h => h) (fun q h => h) hL k7
    have hW := hA.1 v ws1 k1 q hq p e R s m args below meth c ρ0 C hkc hks T'.heap (locs ++ L) _ wr1 ls (v'.toList ++ rest') ⟨r0 ++ r1, by simp⟩ ⟨j3, by rw [e1]; exact k4, k5, k6, zlr_mono _ y5, y6⟩ (zsr_cat (by
      cases v with
      | none => cases v' with
        | none => trivial
        | some z => exact k2.elim
      | some w => cases v' with
        | none => exact k2.elim
        | some z => exact ⟨k2, trivial⟩) (zsr_mono _ hst))
    obtain ⟨t2, a1, b1⟩ := hW T' rfl X'
    exact ⟨t2, st t2 a1, b1⟩
  · obtain ⟨j1, j2, j3⟩ := vx_keep h0 e1 y1 (fun q _ h => h) (fun q h => h) hL k7
    obtain ⟨hx2, hA2⟩ := hA.2 x ws1 k1
    have hW := zexcp (e := e) (below := below) (ρ0 := ρ0) (Q := Q) (pc := pc) (kc := kc + q1.mc) (ks := ks + q1.ms) (als := als) (ws1 := ws1) (H := T'.heap) (locs := locs ++ L) (ρ1 := ρ0 ++ r0 ++ r1) (wr := wr1) (ls := ls) (rest := rest') (q9 := q9) (ce := ce) C hx2 (by
      cases hz : zhd q pc x q.hh with
      | none => rw [hz] at hA2; exact hA2
      | some h => rw [hz] at hA2; exact ⟨rfl, hA2 q hq p e R s m args below meth c ρ0 C⟩) hkc hks ⟨r0 ++ r1, by simp⟩ ⟨j3, by rw [e1]; exact k4, k5, k6, zlr_mono _ y5, y6⟩ (by rw [e1]; exact hce) hcv hcl
    obtain ⟨t2, a1, b1⟩ := hW T' rfl X'
    exact ⟨t2, st.trans a1, b1⟩
end ZO
end
section
/-! the machine's calls, ends and throws are the JVM's -/
theorem zCL_r : zCL.all (fun e => decide (e.2 < 100)) = true := by decide +kernel
theorem zML_x : zML.all (fun e => decide ((e.2 = 1010 → e.1 % 10000 = 138) ∧ (e.2 = 1011 → e.1 % 10000 = 72))) = true := by decide +kernel
theorem zres_iv {cn j : Nat} {r : Instr} (h : zres cn r = .invokevirtual j) : ∃ k, r = .invokevirtual k ∧ zlk (cn * 10000 + k) zML = some j ∧ zisV j = true := by
  cases r <;> simp only [zres] at h <;> (try (cases h; done)) <;> (repeat' split at h) <;> (try (cases h; done))
  cases h
  exact ⟨_, rfl, by assumption, by assumption⟩
theorem zres_is {cn j : Nat} {r : Instr} (h : zres cn r = .invokestatic j) : ∃ k, r = .invokestatic k ∧ zlk (cn * 10000 + k) zML = some j ∧ (zisS j = true ∨ 1000 ≤ j) := by
  cases r <;> simp only [zres] at h <;> (try (cases h; done)) <;> (repeat' split at h) <;> (try (cases h; done))
  cases h
  exact ⟨_, rfl, by assumption, by assumption⟩
theorem zres_ip {cn j : Nat} {r : Instr} (h : zres cn r = .invokespecial j) : ∃ k, r = .invokespecial k ∧ ((zlk (cn * 10000 + k) zML = some j ∧ (zisI j = true ∨ 1000 ≤ j)) ∨ ∃ j1, j = 2000 + j1 ∧ zlk (cn * 10000 + k) zNL = some j1 ∧ zisI j1 = true) := by
  cases r <;> simp only [zres] at h <;> (try (cases h; done)) <;> (repeat' split at h) <;> (try (cases h; done))
  · cases h
    exact ⟨_, rfl, Or.inl ⟨by assumption, by assumption⟩⟩
  · cases h
    exact ⟨_, rfl, Or.inr ⟨_, rfl, by assumption, by assumption⟩⟩
theorem zres_re {cn : Nat} {r : Instr} (h : zres cn r = .ireturn) : r = .ireturn := by
  cases r <;> simp only [zres] at h <;> (try (cases h; done)) <;> (repeat' split at h) <;> (try (cases h; done))
  rfl
theorem zres_rv {cn : Nat} {r : Instr} (h : zres cn r = .return_) : r = .return_ := by
  cases r <;> simp only [zres] at h <;> (try (cases h; done)) <;> (repeat' split at h) <;> (try (cases h; done))
  rfl
theorem zres_dup {cn : Nat} {r : Instr} (h : zres cn r = .dup) : r = .dup := by
  cases r <;> simp only [zres] at h <;> (try (cases h; done)) <;> (repeat' split at h) <;> (try (cases h; done))
  rfl
theorem zres_at {cn : Nat} {r : Instr} (h : zres cn r = .athrow) : r = .athrow := by
  cases r <;> simp only [zres] at h <;> (try (cases h; done)) <;> (repeat' split at h) <;> (try (cases h; done))
  rfl
theorem zres_ne {cn x : Nat} {r : Instr} (h : zres cn r = .new (100 + x)) : ∃ k, r = .new k ∧ zlk (cn * 10000 + k) zEL = some x := by
  cases r <;> simp only [zres] at h <;> (try (cases h; done)) <;> (repeat' split at h) <;> (try (cases h; done))
  · next k _ y hz =>
    have h1 := List.all_eq_true.mp zCL_r _ (zlk_mem hz)
    simp only [decide_eq_true_eq, Instr.new.injEq] at h1 h
    omega
  · next y hz =>
    simp only [Instr.new.injEq] at h
    exact ⟨_, rfl, by rw [hz]; congr 1; omega⟩
theorem zres_lc {cn x : Nat} (hx : x < 48) {r : Instr} (h : zres cn r = .ldc x) : ∃ k, r = .ldc k ∧ zlk (cn * 10000 + k) zSL = some x := by
  cases r <;> simp only [zres] at h <;> (try (cases h; done)) <;> (repeat' split at h) <;> (try (cases h; done))
  · next k _ y hz => cases h; exact ⟨k, rfl, hz⟩
  · next k _ _ y hz => simp only [Instr.ldc.injEq] at h; omega
theorem zres_lw {cn x : Nat} (hx : x < 48) {r : Instr} (h : zres cn r = .ldc_w x) : ∃ k, r = .ldc_w k ∧ zlk (cn * 10000 + k) zSL = some x := by
  cases r <;> simp only [zres] at h <;> (try (cases h; done)) <;> (repeat' split at h) <;> (try (cases h; done))
  · next k _ y hz => cases h; exact ⟨k, rfl, hz⟩
  · next k _ _ y hz => simp only [Instr.ldc_w.injEq] at h; omega
theorem zis_V {j : Nat} {q1 : zMI} (hq : zM[j]? = some q1) (hj : j < 234) (h : zisV j = true) : Cond.instanceMethod q1.y ∈ zws ∧ Cond.selects q1.y.cls q1.y q1.y ∈ zws := by
  have hv : j < zMv.length := by rw [zM_len.2.1]; exact hj
  have e1 : zMv.getD j (9999, 9999) = zMv[j] := by simp [List.getD_eq_getElem?_getD, List.getElem?_eq_getElem hv]
  simp only [zisV, decide_eq_true_eq, e1] at h
  have h1 := List.all_eq_true.mp zM_v (q1, zMv[j]) (List.mem_of_getElem? (i := j) (by simp [List.getElem?_zip_eq_some, List.getElem?_take_of_lt hj, hq, hv]))
  simp only [Bool.and_eq_true, Bool.or_eq_true, decide_eq_true_eq] at h1
  exact ⟨zws_of (List.mem_of_getElem? (h1.1.resolve_left h.1)) rfl, zws_of (List.mem_of_getElem? (h1.2.resolve_left h.2)) rfl⟩
theorem zis_I {j : Nat} {q1 : zMI} (hq : zM[j]? = some q1) (hj : j < 234) (h : zisI j = true) : Cond.instanceMethod q1.y ∈ zws := by
  have hv : j < zMv.length := by rw [zM_len.2.1]; exact hj
  have e1 : zMv.getD j (9999, 9999) = zMv[j] := by simp [List.getD_eq_getElem?_getD, List.getElem?_eq_getElem hv]
  simp only [zisI, decide_eq_true_eq, e1] at h
  have h1 := List.all_eq_true.mp zM_v (q1, zMv[j]) (List.mem_of_getElem? (i := j) (by simp [List.getElem?_zip_eq_some, List.getElem?_take_of_lt hj, hq, hv]))
  simp only [Bool.and_eq_true, Bool.or_eq_true, decide_eq_true_eq] at h1
  exact zws_of (List.mem_of_getElem? (h1.1.resolve_left h)) rfl
theorem zis_S {j : Nat} {q1 : zMI} (hq : zM[j]? = some q1) (hj : j < 234) (h : zisS j = true) : Cond.static q1.y ∈ zws := by
  have hv : j < zMs.length := by rw [zM_len.2.2]; exact hj
  have e1 : zMs.getD j 9999 = zMs[j] := by simp [List.getD_eq_getElem?_getD, List.getElem?_eq_getElem hv]
  simp only [zisS, decide_eq_true_eq, e1] at h
  have h1 := List.all_eq_true.mp zM_s (q1, zMs[j]) (List.mem_of_getElem? (i := j) (by simp [List.getElem?_zip_eq_some, List.getElem?_take_of_lt hj, hq, hv]))
  simp only [Bool.or_eq_true, decide_eq_true_eq] at h1
  exact zws_of (List.mem_of_getElem? (h1.resolve_left h)) rfl
theorem zcy_m {j : Nat} {q1 : zMI} (hq : zM[j]? = some q1) (hj : j < 234) : zcy j = q1.y := by
  unfold zcy
  rw [if_neg (by omega), if_neg (by omega), if_neg (by omega), if_neg (by omega), if_neg (by omega), if_neg (by omega)]
  simp [List.getD_eq_getElem?_getD, hq]
theorem zgood_in {ws : List Cond} (h : ∀ w ∈ ws, w ∈ zws) : GoodIn zws ws := fun w hw => zgood w (h w hw)
end
section
/-! THE MACHINE IS SOUND -/
section ZU
variable {l : Launch} {D : va_G} {tA : FieldType → ClassId} {adK adV : Nat → Nat} {b : Nat} {sc : Nat × (Nat → Int32)} {N0 : Nat}
variable {q : zMI} {d : Nat} {p : Program} {e : Env} {R : Room} {s : State} {m : MethodId} {args : Array Value} {below : List Frame} {meth : Method} {c : Code} {ρ0 : List Nat}
/-- what a call hands over -/
theorem zpre (C : zCt l D tA adK adV b sc N0 q d p R s m args meth c) {als : List Value} {ws : List zC} {H : Heap} {locs : List Loc} {ρ : List Nat} {wr : va_W} {ls : Array Slot} (hdy : zDy D tA adK adV b N0 q.nL als ws s H locs ρ wr ls) (as' : List Value) : PreS s H (zPc D tA adK adV b sc N0 wr as') as' := by
  obtain ⟨hx, hb, hml, hrt, hlk, hini, htab, hown, hts, hKn, hEx, hN0, hfr, hlo, hmc, hms, hnt, hqM⟩ := C
  obtain ⟨y1, y2, y3, y4, y5, y6⟩ := hdy
  refine ⟨zPc_blind, fun U hU hW => ⟨rfl, hKn.warm hW, ?_, ?_, ?_, y3⟩⟩
  · rw [hU]; exact (hEx.kept y1.2.1).moved hW.alike
  · rw [hU]; exact Nat.le_trans hN0 y1.1
  · rw [hU]; exact y2
theorem zroomR (C : zCt l D tA adK adV b sc N0 q d p R s m args meth c) {q1 : zMI} (h : q1.nL ≤ 40) (hd : 1 ≤ d) : (zrm (d - 1) q1).frames + 1 ≤ R.frames ∧ 8 + (q1.nL + 11) + (zrm (d - 1) q1).locals ≤ R.locals := by
  obtain ⟨hx, hb, hml, hrt, hlk, hini, htab, hown, hts, hKn, hEx, hN0, hfr, hlo, hmc, hms, hnt, hqM⟩ := C
  simp only [zrm]
  omega
theorem zsV {b0 : Nat} {as' rest' : List Value} : (Value.ref b0 :: as').reverse ++ rest' = as'.reverse ++ Value.ref b0 :: rest' := by simp
/-- a call of an instance method -/
theorem zcall_V (C : zCt l D tA adK adV b sc N0 q d p R s m args meth c) {mi pc j : Nat} (hq : zM[mi]? = some q) (hop : zop mi pc = some (.invokevirtual j, 3)) {q1 : zMI} (hq1 : zM[j]? = some q1) (hj : j < 234) {als as rest : List Value} {b0 : Nat} {ws : List zC} {kc ks : Nat} {Q : zPost} (hnp : as.length = q1.np) (hrc : zrcv ws b0 q1.cn = true) (hh : q1.hh = []) (hc : zcall (zSd l D tA adK adV b sc N0) q mi d pc 3 als rest (.ref b0 :: as) ws kc ks Q j q1) :
    zCo l D tA adK adV b N0 q p e R s m args below meth c ρ0 (vx_MQ below (zQc D tA adK adV b N0 ρ0 Q) (zXC D tA adK adV b N0 ρ0 Q) args s q.mc q.ms (zAr N0)) pc als (as.reverse ++ .ref b0 :: rest) ws kc ks := by
  obtain ⟨hd, hwd, hcat, hlen, hkc1, hks1, Q1, hP, hA⟩ := hc
  obtain ⟨r, hdec, hlen9, -, hres⟩ := zop_spec hq hop
  obtain ⟨k, rfl, hz, hV⟩ := zres_iv hres
  simp only [zil, Bool.and_eq_true, beq_iff_eq, decide_eq_true_eq] at hlen9
  have hT := ztake hq1 hj
  obtain ⟨g1, g2, g3, g4, g5⟩ := zMg_spec hT
  obtain ⟨v1, v2⟩ := zis_V hq1 hj hV
  intro hkc hks H locs ρ wr ls st hρ hdy hst
  obtain ⟨x1, x2, rfl, h1, h2⟩ := zsr_app hst
  obtain ⟨a', rest', rfl, ha, h3⟩ := zsr_ref h2
  have hargs : zsr (zad adK adV b) ρ (.ref b0 :: as) (.ref a' :: x1.reverse) := ⟨⟨a', rfl, ha⟩, by simpa using zsr_rev h1⟩
  have hM := zbody hq1 hj hP (C.2.2.2.2.2.2.2.2.2.2.2.2.2.2.2.2.1) hargs hcat hlen hdy.2.2.2.1
  have hsz := zlr_size hdy.2.2.2.2.1
  have hw := zsr_wd h3
  have hlink : Cond.methodLink (zCN.getD q.cn "") k q1.y ∈ zws := by have := zml_in hlen9.2 hz; rwa [zcy_m hq1 hj] at this
  have hrecv : ∃ cellB : Cell, H[a']? = some cellB ∧ cellB.vm.isStatics = false ∧ s.vm.findClass q1.y.cls = some cellB.cls := by
    rw [g3]
    unfold zrcv at hrc
    split at hrc
    · next hb0 =>
      rw [if_pos hb0] at ha
      split at hrc
      · next ci fs hw2 =>
        simp only [decide_eq_true_eq] at hrc
        obtain ⟨rfl, hci⟩ := hrc
        obtain ⟨e2, k2, fs', rfl, -⟩ := zwr_at hdy.2.2.2.1 hw2 ha
        exact va_recv (C.2.2.2.2.2.2.2.2.2.1).1 hdy.2.1 (zcl_at hci) k2
      · cases hrc
    · next hb0 =>
      rw [if_neg hb0] at ha
      simp only [decide_eq_true_eq] at hrc
      obtain ⟨hi, hcn⟩ := hrc
      rw [zad_K hb0 hi] at ha
      subst ha
      obtain ⟨cell, c1, c2, c3, c4⟩ := (((C.2.2.2.2.2.2.2.2.2.2.1).1 _ hi).1).kept hdy.1.2.1
      rw [hcn]
      exact ⟨cell, c1, c2, c3⟩
  have hpre := zpre C hdy (.ref a' :: x1.reverse)
  have hrun := vx_runV (H := H) (locs := locs) (cells := kc) (slots := ks) (below := below) (e := e) (meth := meth) (As := x1.reverse) (rest := rest') (b := a') (g := F0 m pc ls (x1 ++ .ref a' :: rest')) (Ts := zws) (own := zCN.getD q.cn "") (index := k) (n := q1.np) (nL := q.nL) (cc := q.cc) (bytes := q1.cc) (maxL := q1.nL) (ret := q1.rt) (C := q1.y.cls)
    ⟨C.1, C.2.1, C.2.2.1, C.2.2.2.2.2.2.2.1, C.2.2.2.2.2.2.2.2.1⟩ hM
    (cwV q1.np C.2.2.2.2.2.2.2.2.1 (zgood_in (fun w hw => by
        simp only [wsV, List.mem_append, List.mem_cons, List.not_mem_nil, or_false] at hw
        rcases hw with (rfl | rfl | rfl | rfl) | (rfl | hw)
        · exact hlink
        · exact v1
        · exact v2
        · exact zinit_in hT
        · exact zkw_in hT
        · exact hw)) (by rw [zkw, if_pos hh]) rfl rfl ⟨rfl, g2⟩ (zroomR C g4 hd))
    ⟨hpre.1, hrecv, hpre.2⟩ rfl (by rw [List.length_reverse, ← hnp]; have := zsr_len h1; simpa using this) (by show ls.size = _; rw [hsz, hdy.2.2.2.2.2]) (by simp) (by show 2 * 0 + _ ≤ _; omega) hdec ⟨by have := C.2.2.2.2.2.2.2.2.2.2.2.2.2.2.1; omega, by have := C.2.2.2.2.2.2.2.2.2.2.2.2.2.2.2.1; omega⟩
  exact zbehind C hq hA hkc1 hks1 hρ hdy h3 hrun
/-- a call of a static method -/
theorem zcall_S (C : zCt l D tA adK adV b sc N0 q d p R s m args meth c) {mi pc j : Nat} (hq : zM[mi]? = some q) (hop : zop mi pc = some (.invokestatic j, 3)) {q1 : zMI} (hq1 : zM[j]? = some q1) (hj : j < 234) {als as rest : List Value} {ws : List zC} {kc ks : Nat} {Q : zPost} (hnp : as.length = q1.np) (hc : zcall (zSd l D tA adK adV b sc N0) q mi d pc 3 als rest as ws kc ks Q j q1) :
    zCo l D tA adK adV b N0 q p e R s m args below meth c ρ0 (vx_MQ below (zQc D tA adK adV b N0 ρ0 Q) (zXC D tA adK adV b N0 ρ0 Q) args s q.mc q.ms (zAr N0)) pc als (as.reverse ++ rest) ws kc ks := by
  obtain ⟨hd, hwd, hcat, hlen, hkc1, hks1, Q1, hP, hA⟩ := hc
  obtain ⟨r, hdec, hlen9, -, hres⟩ := zop_spec hq hop
  obtain ⟨k, rfl, hz, hV⟩ := zres_is hres
  simp only [zil, Bool.and_eq_true, beq_iff_eq, decide_eq_true_eq] at hlen9
  have hT := ztake hq1 hj
  obtain ⟨g1, g2, g3, g4, g5⟩ := zMg_spec hT
  have v1 := zis_S hq1 hj (hV.resolve_right (by omega))
  intro hkc hks H locs ρ wr ls st hρ hdy hst
  obtain ⟨x1, rest', rfl, h1, h3⟩ := zsr_app hst
  have hargs : zsr (zad adK adV b) ρ as x1.reverse := by simpa using zsr_rev h1
  have hM := zbody hq1 hj hP (C.2.2.2.2.2.2.2.2.2.2.2.2.2.2.2.2.1) hargs hcat hlen hdy.2.2.2.1
  have hsz := zlr_size hdy.2.2.2.2.1
  have hw := zsr_wd h3
  have hlink : Cond.methodLink (zCN.getD q.cn "") k q1.y ∈ zws := by have := zml_in hlen9.2 hz; rwa [zcy_m hq1 hj] at this
  have hgd : GoodIn zws (va_wsS (zCN.getD q.cn "") k q1.y (zkw q1 :: zws)) := zgood_in (fun w hw => by
        simp only [va_wsS, List.mem_append, List.mem_cons, List.not_mem_nil, or_false] at hw
        rcases hw with (rfl | rfl | rfl) | (rfl | hw)
        · exact hlink
        · exact v1
        · exact zinit_in hT
        · exact zkw_in hT
        · exact hw)
  have hlenA : x1.reverse.length = q1.np := by rw [List.length_reverse, ← hnp]; have := zsr_len h1; simpa using this
  have hfit : kc + q1.mc ≤ R.cells ∧ ks + q1.ms ≤ R.slots := ⟨by have := C.2.2.2.2.2.2.2.2.2.2.2.2.2.2.1; omega, by have := C.2.2.2.2.2.2.2.2.2.2.2.2.2.2.2.1; omega⟩
  by_cases hh : q1.hh = []
  · have hrun := vx_runS (H := H) (locs := locs) (cells := kc) (slots := ks) (below := below) (e := e) (meth := meth) (As := x1.reverse) (rest := rest') (g := F0 m pc ls (x1 ++ rest')) (Ts := zws) (own := zCN.getD q.cn "") (index := k) (n := q1.np) (nL := q.nL) (cc := q.cc) (bytes := q1.cc) (maxL := q1.nL) (ret := q1.rt)
      ⟨C.1, C.2.1, C.2.2.1, C.2.2.2.2.2.2.2.1, C.2.2.2.2.2.2.2.2.1⟩ hM (va_cwS q1.np C.2.2.2.2.2.2.2.2.1 hgd (by rw [zkw, if_pos hh]) rfl rfl g2 (zroomR C g4 hd)) (zpre C hdy x1.reverse) rfl hlenA (by show ls.size = _; rw [hsz, hdy.2.2.2.2.2]) (by simp) (by show 2 * 0 + _ ≤ _; omega) hdec hfit
    exact zbehind C hq hA hkc1 hks1 hρ hdy h3 hrun
  · have hrun := vx_runSX (H := H) (locs := locs) (cells := kc) (slots := ks) (below := below) (e := e) (meth := meth) (As := x1.reverse) (rest := rest') (g := F0 m pc ls (x1 ++ rest')) (Ts := zws) (own := zCN.getD q.cn "") (index := k) (n := q1.np) (nL := q.nL) (cc := q.cc) (bytes := q1.cc) (maxL := q1.nL) (ret := q1.rt) (hh := q1.hh)
      ⟨C.1, C.2.1, C.2.2.1, C.2.2.2.2.2.2.2.1, C.2.2.2.2.2.2.2.2.1⟩ hM (vx_cwSW q1.np C.2.2.2.2.2.2.2.2.1 hgd (by rw [zkw, if_neg hh]) rfl rfl g2 (zroomR C g4 hd)) (zpre C hdy x1.reverse) rfl hlenA (by show ls.size = _; rw [hsz, hdy.2.2.2.2.2]) (by simp) (by show 2 * 0 + _ ≤ _; omega) hdec hfit
    exact zbehind C hq hA hkc1 hks1 hρ hdy h3 hrun
theorem zmetOf {y : MethodName} {ws : List Cond} {rm : Room} {Pc : Array Value → State → Prop} {Qc : Array Value → State → Outcome → State → Prop} {XC : String → State → State → Prop} {mc ms : Nat} {free : Addr → Prop} (h : vx_Met l y ws rm Pc Qc XC mc ms free) (hX : ∀ E st t, ¬ XC E st t) : Met l y ws rm Pc Qc mc ms free := by
  intro p e ha hc hk s m args below hf happ hP hK
  obtain ⟨n, o, h1, h2, h3, h4⟩ := h p e ha hc hk s m args below hf happ hP hK
  refine ⟨n, o, h1, h2, h3, ?_⟩
  rcases h4 with h4 | ⟨q, -, E, ce, L, h5, -⟩
  · exact h4
  · exact (hX _ _ _ h5).elim
/-- a call of a constructor -/
theorem zcall_I (C : zCt l D tA adK adV b sc N0 q d p R s m args meth c) {mi pc j j0 : Nat} (hq : zM[mi]? = some q) (hop : zop mi pc = some (.invokespecial j0, 3)) (hj0 : j0 = j ∨ j0 = 2000 + j) {q1 : zMI} (hq1 : zM[j]? = some q1) (hj : j < 234) (hini : q1.ini = true) (hh : q1.hh = []) {als as rest : List Value} {b0 : Nat} {ws : List zC} {kc ks : Nat} {Q : zPost} (hnp : as.length = q1.np) (hd : 1 ≤ d) (hwd : zwd rest ≤ 8) (hcl : zwd as = as.length ∧ as.length + 1 ≤ q1.nL) (hkc1 : kc + q1.mc ≤ q.mc) (hks1 : ks + q1.ms ≤ q.ms) {Q1 : zPost}
    (hP : zSd l D tA adK adV b sc N0 j (d - 1) 0 (zloc q1 (.ref b0 :: as)) [] ws 0 0 Q1) (hA : ∀ v ws1, Q1 (.inl v) ws1 → zSd l D tA adK adV b sc N0 mi d (pc + 3) als (v.toList ++ rest) ws1 (kc + q1.mc) (ks + q1.ms) Q) (hX : ∀ x ws1, ¬ Q1 (.inr x) ws1) :
    zCo l D tA adK adV b N0 q p e R s m args below meth c ρ0 (vx_MQ below (zQc D tA adK adV b N0 ρ0 Q) (zXC D tA adK adV b N0 ρ0 Q) args s q.mc q.ms (zAr N0)) pc als (as.reverse ++ .ref b0 :: rest) ws kc ks := by
  obtain ⟨r, hdec, hlen9, -, hres⟩ := zop_spec hq hop
  obtain ⟨k, rfl, hz⟩ := zres_ip hres
  simp only [zil, Bool.and_eq_true, beq_iff_eq, decide_eq_true_eq] at hlen9
  have hT := ztake hq1 hj
  obtain ⟨g1, g2, g3, g4, g5⟩ := zMg_spec hT
  have hM9 : q1 ∈ zM := List.mem_of_getElem? hq1
  obtain ⟨hnm, hrt⟩ := (zMn_spec hM9).2.2.1 hini
  intro hkc hks H locs ρ wr ls st hρ hdy hst
  obtain ⟨x1, x2, rfl, h1, h2⟩ := zsr_app hst
  obtain ⟨a', rest', rfl, ha, h3⟩ := zsr_ref h2
  have hargs : zsr (zad adK adV b) ρ (.ref b0 :: as) (.ref a' :: x1.reverse) := ⟨⟨a', rfl, ha⟩, by simpa using zsr_rev h1⟩
  have hM0 := zbody hq1 hj hP (C.2.2.2.2.2.2.2.2.2.2.2.2.2.2.2.2.1) hargs (by have := hcl.1; simp only [zwd, List.map_cons, List.sum_cons, List.length_cons] at this ⊢; show 1 + _ = _; omega) (by simpa using hcl.2) hdy.2.2.2.1
  have hM := zmetOf hM0 (fun E st t hx => by obtain ⟨x, ws1, -, -, -, hx, -⟩ := hx; exact hX x ws1 hx)
  have hsz := zlr_size hdy.2.2.2.2.1
  have hw := zsr_wd h3
  have hlenA : x1.reverse.length = q1.np := by rw [List.length_reverse, ← hnp]; have := zsr_len h1; simpa using this
  have hfit : kc + q1.mc ≤ R.cells ∧ ks + q1.ms ≤ R.slots := ⟨by have := C.2.2.2.2.2.2.2.2.2.2.2.2.2.2.1; omega, by have := C.2.2.2.2.2.2.2.2.2.2.2.2.2.2.2.1; omega⟩
  have hts := C.2.2.2.2.2.2.2.2.1
  have hgd : GoodIn zws (zkw q1 :: zws) := zgood_in (fun w hw => by
        rcases List.mem_cons.mp hw with rfl | hw
        · exact zkw_in hT
        · exact hw)
  have hkw : (zkw q1 :: zws) = Cond.code q1.y q1.cc q1.nL none :: zws := by rw [zkw, if_pos hh, hrt]
  have fin : ∀ (hr : va_Run p l e R s m args below meth c H locs kc ks q1.mc q1.ms (F0 m pc ls (x1 ++ .ref a' :: rest')) rest' (zQc D tA adK adV b N0 ρ Q1 (Value.ref a' :: x1.reverse).toArray) (zAr N0)), W p l e R s m args below meth c H locs kc ks (vx_MQ below (zQc D tA adK adV b N0 ρ0 Q) (zXC D tA adK adV b N0 ρ0 Q) args s q.mc q.ms (zAr N0)) (F0 m pc ls (x1 ++ .ref a' :: rest')) := by
    intro hr
    have hr' : vx_Run p l e R s m args below meth c H locs kc ks q1.mc q1.ms (F0 m pc ls (x1 ++ .ref a' :: rest')) rest' (zQc D tA adK adV b N0 ρ Q1 (Value.ref a' :: x1.reverse).toArray) (zXC D tA adK adV b N0 ρ Q1) (zAr N0) := fun T hT X => Or.inl (hr T hT X)
    exact zbehind (q1 := q1) (Q1 := Q1) C hq ⟨hA, fun x ws1 hx => (hX x ws1 hx).elim⟩ hkc1 hks1 hρ hdy h3 hr'
  have hS : CallFix p m c q.cc q.nL s args zws (zCN.getD q.cn "") := ⟨C.1, C.2.1, C.2.2.1, C.2.2.2.2.2.2.2.1, hts⟩
  have hpre := zpre C hdy (.ref a' :: x1.reverse)
  rcases hz with ⟨hz, hI⟩ | ⟨j1, hj1, hz, hI⟩
  · have hjj : j0 = j := by
      have := List.all_eq_true.mp zML_r _ (zlk_mem hz)
      simp only [decide_eq_true_eq] at this
      omega
    subst hjj
    have v1 := zis_I hq1 hj (hI.resolve_right (by omega))
    have hlink : Cond.methodLink (zCN.getD q.cn "") k q1.y ∈ zws := by have := zml_in hlen9.2 hz; rwa [zcy_m hq1 hj] at this
    exact fin (va_runI hS hM (cwI q1.np hts hgd hkw rfl rfl (hts _ (zinit_in hT)) (hts _ hlink) (hts _ v1) hnm g2 (zroomR C g4 hd)) hpre rfl hlenA (by show ls.size = _; rw [hsz, hdy.2.2.2.2.2]) (by simp) (by show 2 * 0 + _ ≤ _; omega) hdec hfit)
  · have hjj : j1 = j := by
      have := List.all_eq_true.mp zNL_r _ (zlk_mem hz)
      simp only [decide_eq_true_eq] at this
      omega
    subst hjj
    have v1 := zis_I hq1 hj hI
    have hnw : va_Nw (.methodLinkNest (zCN.getD q.cn "") k q1.y "CobblePorts") s := by
      have h5 : znc (q.cn * 10000 + k, j1) ∈ zxw := List.mem_append_left _ (List.mem_map.mpr ⟨_, zlk_mem hz, rfl⟩)
      have h6 := (C.2.2.2.2.2.2.2.2.2.1).2.2.1 _ h5
      simpa only [znc, (zdiv (a := q.cn) hlen9.2).1, (zdiv (a := q.cn) hlen9.2).2, zcy_m hq1 hj] using h6
    exact fin (va_runIN hS hM ⟨va_cnB q1.np hts hgd hkw rfl rfl hnw (hts _ (zinit_in hT)) g2 (zroomR C g4 hd), hnm, hts _ v1⟩ hpre rfl hlenA (by show ls.size = _; rw [hsz, hdy.2.2.2.2.2]) (by simp) (by show 2 * 0 + _ ≤ _; omega) hdec hfit)
end ZU
end
section
/-! THE MACHINE IS SOUND: all its steps -/
theorem zNSE_i : Cond.initialized zNSE ∈ zws := zat1 (i := 23) rfl rfl
theorem zIAE_i : Cond.initialized zIAE ∈ zws := zat1 (i := 15) rfl rfl
theorem zrx_0 : decode (zrx0 0) 0 = .ok (.aload_n 0, 1) ∧ decode (zrx0 0) 1 = .ok (.aload_n 1, 1) ∧ decode (zrx0 0) 2 = .ok (.invokespecial 13, 3) ∧ decode (zrx0 0) 5 = .ok (.return_, 1) := by decide +kernel
theorem zrx_1 : decode (zrx0 1) 0 = .ok (.aload_n 0, 1) ∧ decode (zrx0 1) 1 = .ok (.aload_n 1, 1) ∧ decode (zrx0 1) 2 = .ok (.invokespecial 7, 3) ∧ decode (zrx0 1) 5 = .ok (.return_, 1) := by decide +kernel
theorem zfit_n : Bundle.fit zNSE = true ∧ Bundle.fit zIAE = true ∧ ∀ n ∈ zRE, Bundle.fit n = true := by decide +kernel
section ZV
variable {l : Launch} {D : va_G} {tA : FieldType → ClassId} {adK adV : Nat → Nat} {b : Nat} {sc : Nat × (Nat → Int32)} {N0 : Nat}
variable {q : zMI} {d : Nat} {p : Program} {e : Env} {R : Room} {s : State} {m : MethodId} {args : Array Value} {below : List Frame} {meth : Method} {c : Code} {ρ0 : List Nat}
theorem zaw_ok (C : zCt l D tA adK adV b sc N0 q d p R s m args meth c) {x : Nat} (hx : x < 2) : ∀ w ∈ zaw x, w.before args s = true := by
  obtain ⟨hx0, hb, hml, hrt, hlk, hini, htab, hown, hts, hKn, hEx, hN0, hfr, hlo, hmc, hms, hnt, hqM⟩ := C
  intro w hw
  have hm : w ∈ zaw 0 ++ zaw 1 := by
    rcases zEN_lt hx with rfl | rfl
    · exact List.mem_append_left _ hw
    · exact List.mem_append_right _ hw
  cases hg : goodWord w with
  | true =>
    have h1 := List.all_eq_true.mp zaw_good w (List.mem_filter.mpr ⟨hm, hg⟩)
    exact hts w (zws_of (by simpa using h1) hg)
  | false =>
    have h1 : w ∈ zxw := List.mem_append_right _ (List.mem_filter.mpr ⟨hm, by rw [hg]; rfl⟩)
    exact va_Nw.use (zkk_on (List.all_eq_true.mp zxw_kk w h1)) (hKn.2.2.1 w h1)
theorem zthrow (C : zCt l D tA adK adV b sc N0 q d p R s m args meth c) {mi pc x z : Nat} (hq : zM[mi]? = some q) (hx : x < 2) (hz : z < 48) (hcn : q.cn = 9) (hh : q.hh = []) (hd : 6 ≤ d) {als ast : List Value} {ws : List zC} {kc ks : Nat} {Q : zPost} (hwd : zwd ast ≤ 8) (hkc1 : kc + 1 ≤ q.mc) (hks1 : ks + 6 ≤ q.ms) (h0 : zop mi pc = some (.new (100 + x), 3)) (h3 : zop mi (pc + 3) = some (.dup, 1))
    (h4 : (zop mi (pc + 4) = some (.ldc z, 2) ∧ zop mi (pc + 6) = some (.invokespecial (1010 + x), 3) ∧ zop mi (pc + 9) = some (.athrow, 1)) ∨ (zop mi (pc + 4) = some (.ldc_w z, 3) ∧ zop mi (pc + 7) = some (.invokespecial (1010 + x), 3) ∧ zop mi (pc + 10) = some (.athrow, 1))) (hQ : Q (.inr x) ws) :
    zCo l D tA adK adV b N0 q p e R s m args below meth c ρ0 (vx_MQ below (zQc D tA adK adV b N0 ρ0 Q) (zXC D tA adK adV b N0 ρ0 Q) args s q.mc q.ms (zAr N0)) pc als ast ws kc ks := by
  have C' := C
  obtain ⟨hx0, hb, hml, hrt, hlk, hini, htab, hown, hts, hKn, hEx, hN0, hfr, hlo, hmc, hms, hnt, hqM⟩ := C
  have hown9 : zCN.getD q.cn "" = "CobblePorts" := by rw [hcn]; rfl
  rw [hown9] at hown
  obtain ⟨r0, d0, l0, -, e0⟩ := zop_spec hq h0
  obtain ⟨ik, rfl, hel⟩ := zres_ne e0
  simp only [zil, Bool.and_eq_true, beq_iff_eq, decide_eq_true_eq] at l0
  have hk := hts _ (zel_in l0.2 hel)
  rw [hown9] at hk
  obtain ⟨r3, d3, -, -, e3⟩ := zop_spec hq h3
  cases zres_dup e3
  -- the text, the constructor, the throw
  have hic : ∀ {pc' k : Nat}, zlk (q.cn * 10000 + k) zML = some (1010 + x) → k < 10000 → k = zic0 x := by
    intro pc' k h hk9
    have h1 := List.all_eq_true.mp zML_x _ (zlk_mem h)
    simp only [decide_eq_true_eq, (zdiv (a := q.cn) hk9).2] at h1
    rcases zEN_lt hx with rfl | rfl
    · exact h1.1 rfl
    · exact h1.2 rfl
  have hctor : ∀ {pc' : Nat}, zop mi pc' = some (.invokespecial (1010 + x), 3) → decode q.cc pc' = .ok (.invokespecial (zic0 x), 3) := by
    intro pc' h
    obtain ⟨r, hd9, hl9, -, he9⟩ := zop_spec hq h
    obtain ⟨k, rfl, hz9⟩ := zres_ip he9
    simp only [zil, Bool.and_eq_true, beq_iff_eq, decide_eq_true_eq] at hl9
    rcases hz9 with ⟨hz9, -⟩ | ⟨j1, hj1, hz9, -⟩
    · rw [← hic (pc' := pc') hz9 hl9.2]; exact hd9
    · have h8 := List.all_eq_true.mp zNL_r _ (zlk_mem hz9)
      simp only [decide_eq_true_eq] at h8
      omega
  have hath : ∀ {pc' : Nat}, zop mi pc' = some (.athrow, 1) → decode q.cc pc' = .ok (.athrow, 1) := by
    intro pc' h
    obtain ⟨r, hd9, -, -, he9⟩ := zop_spec hq h
    cases zres_at he9
    exact hd9
  have key : ∃ (n4 is : Nat) (i4 : Instr), decode q.cc (pc + 4) = .ok (i4, n4) ∧ ((i4 = .ldc is ∧ n4 = 2) ∨ (i4 = .ldc_w is ∧ n4 = 3)) ∧ decode q.cc (pc + 4 + n4) = .ok (.invokespecial (zic0 x), 3) ∧ decode q.cc (pc + 4 + n4 + 3) = .ok (.athrow, 1) ∧ vk_R "CobblePorts" is (zsn z).2.2 (adK z) s := by
    have hv := hKn.2.1 z hz
    rcases h4 with ⟨h5, h6, h7⟩ | ⟨h5, h6, h7⟩
    · obtain ⟨r, hd9, hl9, -, he9⟩ := zop_spec hq h5
      obtain ⟨k, rfl, hs⟩ := zres_lc hz he9
      simp only [zil, Bool.and_eq_true, beq_iff_eq, decide_eq_true_eq] at hl9
      obtain ⟨-, g2, g3⟩ := zsl_in hl9.2 hs
      rw [g2, g3, hown9] at hv
      exact ⟨2, k, _, hd9, Or.inl ⟨rfl, rfl⟩, hctor h6, hath h7, hv⟩
    · obtain ⟨r, hd9, hl9, -, he9⟩ := zop_spec hq h5
      obtain ⟨k, rfl, hs⟩ := zres_lw hz he9
      simp only [zil, Bool.and_eq_true, beq_iff_eq, decide_eq_true_eq] at hl9
      obtain ⟨-, g2, g3⟩ := zsl_in hl9.2 hs
      rw [g2, g3, hown9] at hv
      exact ⟨3, k, _, hd9, Or.inr ⟨rfl, rfl⟩, hctor h6, hath h7, hv⟩
  obtain ⟨n4, is, i4, d4, hi4, d6, d9, hv⟩ := key
  have hrx : decode (zrx0 x) 0 = .ok (.aload_n 0, 1) ∧ decode (zrx0 x) 1 = .ok (.aload_n 1, 1) ∧ decode (zrx0 x) 2 = .ok (.invokespecial (zix0 x), 3) ∧ decode (zrx0 x) 5 = .ok (.return_, 1) := by
    rcases zEN_lt hx with rfl | rfl
    · exact zrx_0
    · exact zrx_1
  have hinit : Cond.initialized (zEN x) ∈ zws := by
    rcases zEN_lt hx with rfl | rfl
    · exact zNSE_i
    · exact zIAE_i
  have hfitn : Bundle.fit (zEN x) = true := by
    rcases zEN_lt hx with rfl | rfl
    · exact zfit_n.1
    · exact zfit_n.2.1
  intro hkc hks H locs ρ wr ls st hρ hdy hst
  have hsz := zlr_size hdy.2.2.2.2.1
  have hw := zsr_wd hst
  obtain ⟨y1, y2, y3, y4, y5, y6⟩ := hdy
  refine zthrowW (names := zRE) (A := zAr N0) hx0 hb hnt hrx.1 hrx.2.1 hrx.2.2.1 hrx.2.2.2 hown hfitn zfit_n.2.2 hk (hts _ hinit) hv (zaw_ok C' hx) (fun w hw9 => ?_) hEx.2.2.2.2.1 hEx.2.2.2.2.2 y1 (by rw [hsz, y6, hml]) d0 d3 d4 hi4 d6 d9 (fun z9 hz9 => by rw [htab, hh] at hz9; cases hz9) (by show 2 + 3 < _; omega) (by show _ + (13 * (2 + 1) + 43) ≤ _; omega) (by omega) (by omega) hlk (fun t hal hsz9 hkeep => ?_) y1.2.2 hkc1 hks1
  · rcases List.mem_cons.mp hw9 with rfl | hw9
    · rfl
    · rcases List.mem_cons.mp hw9 with rfl | hw9
      · rfl
      · have hm : w ∈ zaw 0 ++ zaw 1 := by
          rcases zEN_lt hx with rfl | rfl
          · exact List.mem_append_left _ hw9
          · exact List.mem_append_right _ hw9
        exact List.all_eq_true.mp zaw_ot w hm
  · exact ⟨x, ws, ρ, wr, rfl, hQ, hρ, y2.kept (fun k q hk9 => hkeep q.1 (y2 k q hk9).lt), y3, y4, Nat.le_trans y1.1 hsz9, fun q h1 h2 => (hkeep q (Nat.lt_of_lt_of_le h1 y1.1)).trans (y1.2.1 q h1 h2)⟩
theorem zclose : ∀ (mi d pc : Nat) (als ast : List Value) (ws : List zC) (kc ks : Nat) (Q : zPost), zstep sc (zSd l D tA adK adV b sc N0) mi d pc als ast ws kc ks Q → zSd l D tA adK adV b sc N0 mi d pc als ast ws kc ks Q := by
  intro mi d pc als ast ws kc ks Q ⟨q, i, n, hq, hop, hst⟩ q' hq' p e R s m args below meth c ρ0 C
  cases hq.symm.trans hq'
  rcases hst with ⟨pc', ls', st', ws', kc', ks', a1, a2⟩ | ⟨v, rfl, rfl, hr, hkc, hks, hQ⟩ | ⟨rfl, rfl, hr, hkc, hks, hQ⟩ | ⟨j, q1, as, b0, rest, rfl, b2, b3, rfl, b5, b6, b7, b8⟩ | ⟨j, q1, as, rest, rfl, b2, b3, rfl, b5, b6⟩ | ⟨j, j0, q1, as, b0, rest, rfl, b2, b3, b4, b5, b6, rfl, b8, b9, c1, c1a, c2, c3, Q1, c4, c5, c6⟩ | ⟨x, z, rfl, hx, hz, hcn, hh, hd, hwd, hkc, hks, h3, h4, hQ⟩
  · obtain ⟨r, hdec, hlen, hjk, hres⟩ := zop_spec hq hop
    subst hres
    exact zinst C hdec hlen hjk a1 (a2 q hq p e R s m args below meth c ρ0 C)
  · obtain ⟨r, hdec, hlen, hjk, hres⟩ := zop_spec hq hop
    cases zres_re hres
    simp only [zil, beq_iff_eq] at hlen
    subst hlen
    intro hkc' hks' H locs ρ wr ls st hρ hdy hst
    obtain ⟨hx0, hb, hml, hrt, hlk, hini, htab, hown, hts, hKn, hEx, hN0, hfr, hlo, hmc, hms, hnt, hqM⟩ := C
    obtain ⟨t1, rfl, h1⟩ := zsr_int hst
    cases zsr_nil h1
    obtain ⟨y1, y2, y3, y4, y5, y6⟩ := hdy
    refine W.widen hkc hks (vx_ret ?_)
    have hty : ∃ ty, q.rt = some ty ∧ narrow ty (.int v) = .int v := by
      cases hrt9 : q.rt with
      | none => rw [hrt9] at hr; cases hr
      | some ty =>
        rw [hrt9] at hr
        refine ⟨ty, rfl, ?_⟩
        cases ty <;> simp only [zret, Bool.false_eq_true, decide_eq_true_eq] at hr
        case int => rfl
        case boolean => rcases hr with rfl | rfl <;> decide
        case byte => subst hr; decide
        case char =>
          have := pk_nc v
          rw [hr] at this
          exact this
    obtain ⟨ty, hty1, hty2⟩ := hty
    exact W.zret hx0 hb (hrt.trans hty1) hty2 (fun t ht hW => ⟨some (.int v), some (.int v), ws, ρ, wr, rfl, hQ, rfl, hρ, by rw [ht]; exact y2, y3, y4, y1.F ht⟩) y1.2.2 hdec hlk
  · obtain ⟨r, hdec, hlen, hjk, hres⟩ := zop_spec hq hop
    cases zres_rv hres
    simp only [zil, beq_iff_eq] at hlen
    subst hlen
    intro hkc' hks' H locs ρ wr ls st hρ hdy hst
    obtain ⟨hx0, hb, hml, hrt, hlk, hini, htab, hown, hts, hKn, hEx, hN0, hfr, hlo, hmc, hms, hnt, hqM⟩ := C
    cases zsr_nil hst
    obtain ⟨y1, y2, y3, y4, y5, y6⟩ := hdy
    refine W.widen hkc hks (vx_ret ?_)
    exact W.vret hx0 hb (hrt.trans hr) (fun t ht hW => ⟨none, none, ws, ρ, wr, rfl, hQ, trivial, hρ, by rw [ht]; exact y2, y3, y4, y1.F ht⟩) y1.2.2 hdec hlk
  · have hn3 : n = 3 := by
      obtain ⟨r, -, hlen, -, hres⟩ := zop_spec hq hop
      obtain ⟨k, rfl, -, -⟩ := zres_iv hres
      simp only [zil, Bool.and_eq_true, beq_iff_eq] at hlen
      exact hlen.1
    subst hn3
    exact zcall_V C hq hop b2 b3 b5 b6 b7 b8
  · have hn3 : n = 3 := by
      obtain ⟨r, -, hlen, -, hres⟩ := zop_spec hq hop
      obtain ⟨k, rfl, -, -⟩ := zres_is hres
      simp only [zil, Bool.and_eq_true, beq_iff_eq] at hlen
      exact hlen.1
    subst hn3
    exact zcall_S C hq hop b2 b3 b5 b6
  · have hn3 : n = 3 := by
      obtain ⟨r, -, hlen, -, hres⟩ := zop_spec hq hop
      obtain ⟨k, rfl, -⟩ := zres_ip hres
      simp only [zil, Bool.and_eq_true, beq_iff_eq] at hlen
      exact hlen.1
    subst hn3
    exact zcall_I C hq hop b2 b3 b4 b5 b6 b8 b9 c1 c1a c2 c3 c4 c5 c6
  · have hn3 : n = 3 := by
      obtain ⟨r, -, hlen, -, hres⟩ := zop_spec hq hop
      obtain ⟨k, rfl, -⟩ := zres_ne hres
      simp only [zil, Bool.and_eq_true, beq_iff_eq] at hlen
      exact hlen.1
    subst hn3
    exact zthrow C hq hx hz hcn hh hd hwd hkc hks hop h3 h4 hQ
/-- THE MACHINE IS SOUND -/
theorem z_sound {mi pc : Nat} {als ast : List Value} {ws : List zC} {kc ks : Nat} {Q : zPost} (h : zEv sc mi d pc als ast ws kc ks Q) : zSd l D tA adK adV b sc N0 mi d pc als ast ws kc ks Q := h _ zclose
end ZV
end
section
/-! the start: what the Statement gives, as the machine's surroundings ask for it -/
def znarr : List Cond := flatC (Jvm.Cond.and given_1 narrow_1)
def zSP : List Nat := [35, 69, 77, 87, 97, 107, 114, 124, 134, 142, 148, 156, 165, 172, 178, 187, 196, 208, 217, 244, 260, 295, 312, 348, 365, 381, 416, 434, 459, 483, 520, 542, 552, 562, 575, 585, 596, 607, 616, 623, 632, 642, 653, 662, 673, 684, 692, 700]
def zvt (i : Nat) : Term := .field (.string (zsn i).1 (zsn i).2.1) "java/lang/String" "value" "[B"
def zStrC (i : Nat) : List Cond := [.exactly (.string (zsn i).1 (zsn i).2.1) "java/lang/String", .eq (.field (.string (zsn i).1 (zsn i).2.1) "java/lang/String" "coder" "B") (.int 0), .arrayOf (zvt i) .byte, .eq (.length (zvt i)) (.int (Int32.ofNat (zByt.getD i []).length))] ++ (List.range (zByt.getD i []).length).map (fun j => .eq (.elem (zvt i) (.int (Int32.ofNat j))) (.int ((zByt.getD i []).getD j 0)))
theorem zStr_c : (List.range 48).all (fun i => decide ((znarr.drop (zSP.getD i 0)).take (zStrC i).length = zStrC i)) = true := by decide +kernel
theorem zStr_len : (List.range 48).all (fun i => decide ((zByt.getD i []).length < 100)) = true := by decide +kernel
theorem zStr_in {i : Nat} (hi : i < 48) : ∀ w ∈ zStrC i, w ∈ znarr := by
  intro w hw
  have h := zrange zStr_c hi
  simp only [decide_eq_true_eq] at h
  rw [← h] at hw
  exact List.mem_of_mem_drop (List.mem_of_mem_take hw)
theorem zNC1 : Cond.not (.castable zNSE zIAE) ∈ znarr := List.mem_of_getElem? (i := 22) (by decide +kernel)
theorem zNC2 : Cond.not (.castable zIAE zNSE) ∈ znarr := List.mem_of_getElem? (i := 34) (by decide +kernel)
theorem zUS : Cond.isRef (.static Bundle.tN "UNASSIGNED_STACK" Bundle.steD) ∈ znarr := List.mem_of_getElem? (i := 4) (by decide +kernel)
theorem zSS : Cond.isRef (.static Bundle.tN "SUPPRESSED_SENTINEL" Bundle.listD) ∈ znarr := List.mem_of_getElem? (i := 5) (by decide +kernel)
theorem zCS : Cond.eq (.static "java/lang/String" "COMPACT_STRINGS" "Z") (.int 1) ∈ znarr := List.mem_of_getElem? (i := 6) (by decide +kernel)
theorem zSI : Cond.isRef (.static "jdk/internal/util/Preconditions" "SIOOBE_FORMATTER" "Ljava/util/function/BiFunction;") ∈ znarr := List.mem_of_getElem? (i := 7) (by decide +kernel)
theorem zlsU : Cond.laysStatic Bundle.tN "UNASSIGNED_STACK" Bundle.steD ∈ lw_tbl := List.mem_of_getElem? (i := 650) (by decide +kernel)
theorem zlsN : Cond.laysStatic Bundle.tN "SUPPRESSED_SENTINEL" Bundle.listD ∈ lw_tbl := List.mem_of_getElem? (i := 652) (by decide +kernel)
theorem zlsC : Cond.laysStatic "java/lang/String" "COMPACT_STRINGS" "Z" ∈ lw_tbl := List.mem_of_getElem? (i := 735) (by decide +kernel)
theorem zlsI : Cond.laysStatic "jdk/internal/util/Preconditions" "SIOOBE_FORMATTER" "Ljava/util/function/BiFunction;" ∈ lw_tbl := List.mem_of_getElem? (i := 751) (by decide +kernel)
theorem ziT : Cond.initialized Bundle.tN ∈ lw_tbl := List.mem_of_getElem? (i := 94) (by decide +kernel)
theorem ziS : Cond.initialized "java/lang/String" ∈ lw_tbl := List.mem_of_getElem? (i := 99) (by decide +kernel)
theorem ziP : Cond.initialized "jdk/internal/util/Preconditions" ∈ lw_tbl := List.mem_of_getElem? (i := 101) (by decide +kernel)
theorem zaoT : Cond.arrayOver (.object "CobblePorts$Trip") ∈ lw_tbl := List.mem_of_getElem? (i := 409) (by decide +kernel)
theorem zaoS : Cond.arrayOver (.object "java/lang/String") ∈ lw_tbl := List.mem_of_getElem? (i := 1190) (by decide +kernel)
theorem zsn_ref {i : Nat} (hi : i < 48) : Cond.stringRef (zsn i).1 (zsn i).2.1 (zsn i).2.2 ∈ lw_tbl := by
  have h : (List.range 48).all (fun i => decide (lw_tbl[zSLp.getD i 0]? = some (Cond.stringRef (zsn i).1 (zsn i).2.1 (zsn i).2.2))) = true := by decide +kernel
  have := zrange h hi
  simp only [decide_eq_true_eq] at this
  exact List.mem_of_getElem? this
theorem zxw_tbl : ∀ w ∈ zxw, w ∈ lw_tbl := by
  intro w hw
  rcases List.mem_append.mp hw with h | h
  · obtain ⟨e, he, rfl⟩ := List.mem_map.mp h
    exact zNL_ok he
  · have := List.all_eq_true.mp zxw_in w h
    simpa using this
/-- the machine's surroundings at the law's entry -/
theorem zbegin {s : State} {b L : Nat} {xs : Nat → Int32} (hts : ∀ w ∈ lw_tbl, w.before #[Value.ref b] s = true) (hgv : (Jvm.Cond.and given_1 narrow_1).before #[Value.ref b] s = true) (hX : va_X b L xs s s.heap) (hbl : b < s.heap.size) (hL : L ≤ 3072) :
    ∃ (D : va_G) (tA : FieldType → ClassId) (adK adV : Nat → Nat), zKn D tA adK s ∧ zEx adK adV b (L, xs) s.heap.size s s.heap := by
  have hnar := flat_of_before _ hgv
  have hA : ∀ a : Nat, a < s.heap.size → ¬ zAr s.heap.size a := fun a h h2 => Nat.not_le.mpr h h2
  have hts' : ∀ w ∈ zws, w.before #[Value.ref b] s = true := fun w hw => hts w (zws_in hw)
  -- classes
  have hcls : ∀ ci, ∃ x : ClassId × (Nat → Nat), ci < 11 → u_Kn s (zCN.getD ci "") (zT ci) (zNF ci) x.1 x.2 := by
    intro ci
    by_cases h : ci < 11
    · have hI := zrange zI_c h
      simp only [decide_eq_true_eq] at hI
      obtain ⟨cC, iS, hk⟩ := u_known hts' (zlay h) (hts _ (List.mem_of_getElem? hI.1))
      exact ⟨(cC, iS), fun _ => hk⟩
    · exact ⟨(0, fun _ => 0), fun h' => absurd h' h⟩
  obtain ⟨fD, hfD⟩ := Classical.axiomOfChoice hcls
  -- rows' classes
  obtain ⟨cI, kI, mI, i1, i2, i3⟩ := Cond.arrayClass_spec (hts _ (zws_in zarr_i))
  obtain ⟨cB, kB, mB, b1, b2, b3⟩ := Cond.arrayClass_spec (hts _ (zws_in zarr_b))
  obtain ⟨cL, kL, mL, l1, l2, l3⟩ := Cond.arrayClass_spec (hts _ (zws_in zarr_l))
  obtain ⟨mT, cT, kT, t0, -, t1, t2, t3⟩ := Cond.arrayOver_spec (hts _ zaoT)
  obtain ⟨mS, cS, kS, s0, -, s1, s2, s3⟩ := Cond.arrayOver_spec (hts _ zaoS)
  obtain ⟨tA, hI, hB, hLo, hT, hS⟩ : ∃ tA : FieldType → ClassId, tA .int = cI ∧ tA .byte = cB ∧ tA .long = cL ∧ tA zTrip = cT ∧ tA zString = cS :=
    ⟨fun ty => match ty with
      | .int => cI
      | .byte => cB
      | .long => cL
      | .object n => if n = "CobblePorts$Trip" then cT else cS
      | _ => 0, rfl, rfl, rfl, by simp, by simp⟩
  have hK : va_K ((fun ci => (fD ci).1), fun ci => (fD ci).2) zcl (ztys tA) s := by
    refine ⟨fun ci q hq => ?_, fun k q hk => ?_⟩
    · have h := zcl_lt hq
      rw [zcl_at h] at hq
      cases hq
      exact hfD ci h
    · have hk5 : k < 5 := (List.getElem?_eq_some_iff.mp hk).1
      match k, hk5, hk with
      | 0, _, hk => cases hk; rw [hI]; exact ⟨fun n z => ⟨fun k h => (by cases h), kI, i2, mI, i3⟩, i1⟩
      | 1, _, hk => cases hk; rw [hB]; exact ⟨fun n z => ⟨fun k h => (by cases h), kB, b2, mB, b3⟩, b1⟩
      | 2, _, hk => cases hk; rw [hLo]; exact ⟨fun n z => ⟨fun k h => (by cases h), kL, l2, mL, l3⟩, l1⟩
      | 3, _, hk => cases hk; rw [hT]; exact ⟨fun n z => ⟨fun k h => (by cases h), kT, t1, mT, t2⟩, kT, mT, t1, t2, t0, t3⟩
      | 4, _, hk => cases hk; rw [hS]; exact ⟨fun n z => ⟨fun k h => (by cases h), kS, s1, mS, s2⟩, kS, mS, s1, s2, s0, s3⟩
  -- texts
  have hstr : ∀ i : Nat, ∃ x : Nat × Nat, i < 48 → (Term.string (zsn i).1 (zsn i).2.1).eval #[Value.ref b] s none [] s = some (.ref x.1) ∧ va_O "java/lang/String" x.1 (zAr s.heap.size) s s.heap ∧ va_OF "java/lang/String" "coder" "B" (.int 0) x.1 (zAr s.heap.size) s s.heap ∧ va_OF "java/lang/String" "value" "[B" (.ref x.2) x.1 (zAr s.heap.size) s s.heap ∧ va_T .byte x.2 (zByt.getD i []).length (fun j => .int ((zByt.getD i []).getD j 0)) (zAr s.heap.size) s s.heap := by
    intro i
    by_cases hi : i < 48
    · have hin := zStr_in hi
      have w : ∀ {c : Cond}, c ∈ zStrC i → c.before #[Value.ref b] s = true := fun hc => hnar _ (hin _ hc)
      have hlen := zrange zStr_len hi
      simp only [decide_eq_true_eq] at hlen
      obtain ⟨a, c, cA, kA, q1, q2, q3, q4, q5, q6, -⟩ := Cond.exactly_spec (args := #[Value.ref b]) (first := s) (o := none) (s := s) (idx := []) (t := .string (zsn i).1 (zsn i).2.1) (cls := "java/lang/String") (w (by simp [zStrC]))
      obtain ⟨t, ht, hT⟩ := va_Tof (f := fun j => .int ((zByt.getD i []).getD j 0)) (A := zAr s.heap.size) (show (zByt.getD i []).length < 2 ^ 31 by omega) (w (c := .arrayOf (zvt i) .byte) (by simp [zStrC])) (va_eqt (w (c := .eq (.length (zvt i)) (.int (Int32.ofNat (zByt.getD i []).length))) (by simp [zStrC])))
        (fun j hj => va_eqt (w (c := .eq (.elem (zvt i) (.int (Int32.ofNat j))) (.int ((zByt.getD i []).getD j 0))) (List.mem_append_right _ (List.mem_map.mpr ⟨j, List.mem_range.mpr hj, rfl⟩)))) hA
      exact ⟨(a, t), fun _ => ⟨q1, ⟨cA, q3, q5, by rw [q6]; exact q2, hA a (Array.getElem?_eq_some_iff.mp q3).1⟩, vk_OFof q1 (va_eqt (w (by simp [zStrC]))) hA, vk_OFof q1 ht hA, hT⟩⟩
    · exact ⟨(0, 0), fun h => absurd h hi⟩
  obtain ⟨ad, had⟩ := Classical.axiomOfChoice hstr
  refine ⟨_, tA, fun i => (ad i).1, fun i => (ad i).2, ⟨hK, fun i hi => vk_R.of (hts _ (zsn_ref hi)) (had i hi).1, fun w hw => va_Nw.of (zkk_on (List.all_eq_true.mp zxw_kk w hw)) (hts _ (zxw_tbl w hw)), ⟨va_Nc.of (hnar _ zNC1), va_Nc.of (hnar _ zNC2)⟩, va_AO.of (hts _ zaoT), va_AO.of (hts _ zaoS)⟩,
    fun i hi => (had i hi).2, ?_, va_Zof (hts _ zlsC) (hts _ ziS) (va_eqi (hnar _ zCS)) hA, va_Zqof (hts _ zlsI) (hts _ ziP) (hnar _ zSI) hA, vx_Zqof (hts _ zlsU) (hts _ ziT) (hnar _ zUS) hA, vx_Zqof (hts _ zlsN) (hts _ ziT) (hnar _ zSS) hA⟩
  obtain ⟨scr, x1, x2, x3, x4, x5⟩ := hX
  refine ⟨scr, x1, x2, x3, ?_, ?_, x5, hA b hbl⟩
  · show L ≤ _
    omega
  · show _ = Int32.ofNat L
    rw [x4]
end
section
theorem o0_0 : zop 0 0 = some (.aload_n 0, 1) := by decide +kernel
theorem o0_1 : zop 0 1 = some (.invokespecial 1000, 3) := by decide +kernel
theorem o0_4 : zop 0 4 = some (.aload_n 0, 1) := by decide +kernel
theorem o0_5 : zop 0 5 = some (.iconst 4, 1) := by decide +kernel
theorem o0_6 : zop 0 6 = some (.newarray .int, 2) := by decide +kernel
theorem o0_8 : zop 0 8 = some (.putfield 0, 3) := by decide +kernel
theorem o0_11 : zop 0 11 = some (.aload_n 0, 1) := by decide +kernel
theorem o0_12 : zop 0 12 = some (.iconst 4, 1) := by decide +kernel
theorem o0_13 : zop 0 13 = some (.newarray .int, 2) := by decide +kernel
theorem o0_15 : zop 0 15 = some (.putfield 1, 3) := by decide +kernel
theorem o0_18 : zop 0 18 = some (.aload_n 0, 1) := by decide +kernel
theorem o0_19 : zop 0 19 = some (.iconst 4, 1) := by decide +kernel
theorem o0_20 : zop 0 20 = some (.anewarray 5, 3) := by decide +kernel
theorem o0_23 : zop 0 23 = some (.putfield 2, 3) := by decide +kernel
theorem o0_26 : zop 0 26 = some (.aload_n 0, 1) := by decide +kernel
theorem o0_27 : zop 0 27 = some (.iconst (-1), 1) := by decide +kernel
theorem o0_28 : zop 0 28 = some (.putfield 3, 3) := by decide +kernel
theorem o0_31 : zop 0 31 = some (.aload_n 0, 1) := by decide +kernel
theorem o0_32 : zop 0 32 = some (.iconst (-1), 1) := by decide +kernel
theorem o0_33 : zop 0 33 = some (.putfield 4, 3) := by decide +kernel
theorem o0_36 : zop 0 36 = some (.aload_n 0, 1) := by decide +kernel
theorem o0_37 : zop 0 37 = some (.iconst 0, 1) := by decide +kernel
theorem o0_38 : zop 0 38 = some (.putfield 5, 3) := by decide +kernel
theorem o0_41 : zop 0 41 = some (.aload_n 0, 1) := by decide +kernel
theorem o0_42 : zop 0 42 = some (.iconst 0, 1) := by decide +kernel
theorem o0_43 : zop 0 43 = some (.putfield 6, 3) := by decide +kernel
theorem o0_46 : zop 0 46 = some (.iconst 0, 1) := by decide +kernel
theorem o0_47 : zop 0 47 = some (.istore_n 1, 1) := by decide +kernel
theorem o0_48 : zop 0 48 = some (.iload_n 1, 1) := by decide +kernel
theorem o0_49 : zop 0 49 = some (.iconst 4, 1) := by decide +kernel
theorem o0_50 : zop 0 50 = some (.if_icmp .ge 22, 3) := by decide +kernel
theorem o0_53 : zop 0 53 = some (.aload_n 0, 1) := by decide +kernel
theorem o0_54 : zop 0 54 = some (.getfield 2, 3) := by decide +kernel
theorem o0_57 : zop 0 57 = some (.iload_n 1, 1) := by decide +kernel
theorem o0_58 : zop 0 58 = some (.new 5, 3) := by decide +kernel
theorem o0_61 : zop 0 61 = some (.dup, 1) := by decide +kernel
theorem o0_62 : zop 0 62 = some (.invokespecial 2049, 3) := by decide +kernel
theorem o0_65 : zop 0 65 = some (.aastore, 1) := by decide +kernel
theorem o0_66 : zop 0 66 = some (.iinc 1 1, 3) := by decide +kernel
theorem o0_69 : zop 0 69 = some (.goto (-21), 3) := by decide +kernel
theorem o0_72 : zop 0 72 = some (.return_, 1) := by decide +kernel
theorem o1_0 : zop 1 0 = some (.aload_n 0, 1) := by decide +kernel
theorem o1_1 : zop 1 1 = some (.iconst (-1), 1) := by decide +kernel
theorem o1_2 : zop 1 2 = some (.putfield 3, 3) := by decide +kernel
theorem o1_5 : zop 1 5 = some (.aload_n 0, 1) := by decide +kernel
theorem o1_6 : zop 1 6 = some (.iconst 0, 1) := by decide +kernel
theorem o1_7 : zop 1 7 = some (.putfield 6, 3) := by decide +kernel
theorem o1_10 : zop 1 10 = some (.aload_n 0, 1) := by decide +kernel
theorem o1_11 : zop 1 11 = some (.aload_n 2, 1) := by decide +kernel
theorem o1_12 : zop 1 12 = some (.invokevirtual 2, 3) := by decide +kernel
theorem o1_15 : zop 1 15 = some (.aload_n 0, 1) := by decide +kernel
theorem o1_16 : zop 1 16 = some (.aload_n 1, 1) := by decide +kernel
theorem o1_17 : zop 1 17 = some (.aload_n 2, 1) := by decide +kernel
theorem o1_18 : zop 1 18 = some (.iconst 0, 1) := by decide +kernel
theorem o1_19 : zop 1 19 = some (.invokevirtual 3, 3) := by decide +kernel
theorem o1_22 : zop 1 22 = some (.aload_n 0, 1) := by decide +kernel
theorem o1_23 : zop 1 23 = some (.getfield 6, 3) := by decide +kernel
theorem o1_26 : zop 1 26 = some (.ireturn, 1) := by decide +kernel
theorem o2_0 : zop 2 0 = some (.iconst 0, 1) := by decide +kernel
theorem o2_1 : zop 2 1 = some (.istore_n 2, 1) := by decide +kernel
theorem o2_2 : zop 2 2 = some (.iload_n 2, 1) := by decide +kernel
theorem o2_3 : zop 2 3 = some (.aload_n 1, 1) := by decide +kernel
theorem o2_4 : zop 2 4 = some (.getfield 109, 3) := by decide +kernel
theorem o2_7 : zop 2 7 = some (.if_icmp .ge 77, 3) := by decide +kernel
theorem o2_10 : zop 2 10 = some (.aload_n 1, 1) := by decide +kernel
theorem o2_11 : zop 2 11 = some (.getfield 103, 3) := by decide +kernel
theorem o2_14 : zop 2 14 = some (.iload_n 2, 1) := by decide +kernel
theorem o2_15 : zop 2 15 = some (.iaload, 1) := by decide +kernel
theorem o2_16 : zop 2 16 = some (.istore_n 3, 1) := by decide +kernel
theorem o2_17 : zop 2 17 = some (.aload_n 1, 1) := by decide +kernel
theorem o2_18 : zop 2 18 = some (.getfield 102, 3) := by decide +kernel
theorem o2_21 : zop 2 21 = some (.iload_n 3, 1) := by decide +kernel
theorem o2_22 : zop 2 22 = some (.iaload, 1) := by decide +kernel
theorem o2_23 : zop 2 23 = some (.istore 4, 2) := by decide +kernel
theorem o2_25 : zop 2 25 = some (.iconst 0, 1) := by decide +kernel
theorem o2_26 : zop 2 26 = some (.istore 5, 2) := by decide +kernel
theorem o2_28 : zop 2 28 = some (.iload 5, 2) := by decide +kernel
theorem o2_30 : zop 2 30 = some (.iload_n 2, 1) := by decide +kernel
theorem o2_31 : zop 2 31 = some (.if_icmp .ge 29, 3) := by decide +kernel
theorem o2_34 : zop 2 34 = some (.aload_n 1, 1) := by decide +kernel
theorem o2_35 : zop 2 35 = some (.getfield 103, 3) := by decide +kernel
theorem o2_38 : zop 2 38 = some (.iload 5, 2) := by decide +kernel
theorem o2_40 : zop 2 40 = some (.iaload, 1) := by decide +kernel
theorem o2_41 : zop 2 41 = some (.iload_n 3, 1) := by decide +kernel
theorem o2_42 : zop 2 42 = some (.if_icmp .ne 12, 3) := by decide +kernel
theorem o2_45 : zop 2 45 = some (.aload_n 1, 1) := by decide +kernel
theorem o2_46 : zop 2 46 = some (.getfield 104, 3) := by decide +kernel
theorem o2_49 : zop 2 49 = some (.iload 5, 2) := by decide +kernel
theorem o2_51 : zop 2 51 = some (.iaload, 1) := by decide +kernel
theorem o2_52 : zop 2 52 = some (.istore 4, 2) := by decide +kernel
theorem o2_54 : zop 2 54 = some (.iinc 5 1, 3) := by decide +kernel
theorem o2_57 : zop 2 57 = some (.goto (-29), 3) := by decide +kernel
theorem o2_60 : zop 2 60 = some (.aload_n 0, 1) := by decide +kernel
theorem o2_61 : zop 2 61 = some (.getfield 2, 3) := by decide +kernel
theorem o2_64 : zop 2 64 = some (.iload_n 2, 1) := by decide +kernel
theorem o2_65 : zop 2 65 = some (.aaload, 1) := by decide +kernel
theorem o2_66 : zop 2 66 = some (.iload_n 3, 1) := by decide +kernel
theorem o2_67 : zop 2 67 = some (.iload 4, 2) := by decide +kernel
theorem o2_69 : zop 2 69 = some (.aload_n 1, 1) := by decide +kernel
theorem o2_70 : zop 2 70 = some (.getfield 104, 3) := by decide +kernel
theorem o2_73 : zop 2 73 = some (.iload_n 2, 1) := by decide +kernel
theorem o2_74 : zop 2 74 = some (.iaload, 1) := by decide +kernel
theorem o2_75 : zop 2 75 = some (.invokevirtual 50, 3) := by decide +kernel
theorem o2_78 : zop 2 78 = some (.iinc 2 1, 3) := by decide +kernel
theorem o2_81 : zop 2 81 = some (.goto (-79), 3) := by decide +kernel
theorem o2_84 : zop 2 84 = some (.return_, 1) := by decide +kernel
theorem o3_0 : zop 3 0 = some (.iload_n 3, 1) := by decide +kernel
theorem o3_1 : zop 3 1 = some (.aload_n 2, 1) := by decide +kernel
theorem o3_2 : zop 3 2 = some (.getfield 109, 3) := by decide +kernel
theorem o3_5 : zop 3 5 = some (.if_icmp .ge 8, 3) := by decide +kernel
theorem o3_8 : zop 3 8 = some (.iload_n 3, 1) := by decide +kernel
theorem o3_9 : zop 3 9 = some (.iconst 4, 1) := by decide +kernel
theorem o3_10 : zop 3 10 = some (.if_icmp .lt 10, 3) := by decide +kernel
theorem o3_13 : zop 3 13 = some (.aload_n 0, 1) := by decide +kernel
theorem o3_14 : zop 3 14 = some (.aload_n 1, 1) := by decide +kernel
theorem o3_15 : zop 3 15 = some (.aload_n 2, 1) := by decide +kernel
theorem o3_16 : zop 3 16 = some (.invokevirtual 4, 3) := by decide +kernel
theorem o3_19 : zop 3 19 = some (.return_, 1) := by decide +kernel
theorem o3_20 : zop 3 20 = some (.aload_n 0, 1) := by decide +kernel
theorem o3_21 : zop 3 21 = some (.getfield 2, 3) := by decide +kernel
theorem o3_24 : zop 3 24 = some (.iload_n 3, 1) := by decide +kernel
theorem o3_25 : zop 3 25 = some (.aaload, 1) := by decide +kernel
theorem o3_26 : zop 3 26 = some (.astore 4, 2) := by decide +kernel
theorem o3_28 : zop 3 28 = some (.aload 4, 2) := by decide +kernel
theorem o3_30 : zop 3 30 = some (.getfield 501, 3) := by decide +kernel
theorem o3_33 : zop 3 33 = some (.aload 4, 2) := by decide +kernel
theorem o3_35 : zop 3 35 = some (.getfield 502, 3) := by decide +kernel
theorem o3_38 : zop 3 38 = some (.if_icmp .ne 7, 3) := by decide +kernel
theorem o3_41 : zop 3 41 = some (.iconst 1, 1) := by decide +kernel
theorem o3_42 : zop 3 42 = some (.goto 4, 3) := by decide +kernel
theorem o3_45 : zop 3 45 = some (.iconst 0, 1) := by decide +kernel
theorem o3_46 : zop 3 46 = some (.istore 5, 2) := by decide +kernel
theorem o3_48 : zop 3 48 = some (.iload 5, 2) := by decide +kernel
theorem o3_50 : zop 3 50 = some (.ifCond .eq 7, 3) := by decide +kernel
theorem o3_53 : zop 3 53 = some (.iconst 0, 1) := by decide +kernel
theorem o3_54 : zop 3 54 = some (.goto 13, 3) := by decide +kernel
theorem o3_57 : zop 3 57 = some (.aload_n 1, 1) := by decide +kernel
theorem o3_58 : zop 3 58 = some (.getfield 705, 3) := by decide +kernel
theorem o3_61 : zop 3 61 = some (.aload 4, 2) := by decide +kernel
theorem o3_63 : zop 3 63 = some (.getfield 500, 3) := by decide +kernel
theorem o3_66 : zop 3 66 = some (.iaload, 1) := by decide +kernel
theorem o3_67 : zop 3 67 = some (.istore 6, 2) := by decide +kernel
theorem o3_69 : zop 3 69 = some (.iload 6, 2) := by decide +kernel
theorem o3_71 : zop 3 71 = some (.ifCond .lt 52, 3) := by decide +kernel
theorem o3_74 : zop 3 74 = some (.iload 5, 2) := by decide +kernel
theorem o3_76 : zop 3 76 = some (.ifCond .ne 24, 3) := by decide +kernel
theorem o3_79 : zop 3 79 = some (.aload 4, 2) := by decide +kernel
theorem o3_81 : zop 3 81 = some (.aload_n 1, 1) := by decide +kernel
theorem o3_82 : zop 3 82 = some (.aload_n 2, 1) := by decide +kernel
theorem o3_83 : zop 3 83 = some (.getfield 100, 3) := by decide +kernel
theorem o3_86 : zop 3 86 = some (.aload_n 1, 1) := by decide +kernel
theorem o3_87 : zop 3 87 = some (.aload 4, 2) := by decide +kernel
theorem o3_89 : zop 3 89 = some (.getfield 500, 3) := by decide +kernel
theorem o3_92 : zop 3 92 = some (.iload 6, 2) := by decide +kernel
theorem o3_94 : zop 3 94 = some (.invokevirtual 71, 3) := by decide +kernel
theorem o3_97 : zop 3 97 = some (.invokevirtual 52, 3) := by decide +kernel
theorem o3_100 : zop 3 100 = some (.aload_n 0, 1) := by decide +kernel
theorem o3_101 : zop 3 101 = some (.getfield 1, 3) := by decide +kernel
theorem o3_104 : zop 3 104 = some (.iload_n 3, 1) := by decide +kernel
theorem o3_105 : zop 3 105 = some (.iload 6, 2) := by decide +kernel
theorem o3_107 : zop 3 107 = some (.iastore, 1) := by decide +kernel
theorem o3_108 : zop 3 108 = some (.aload_n 0, 1) := by decide +kernel
theorem o3_109 : zop 3 109 = some (.aload_n 1, 1) := by decide +kernel
theorem o3_110 : zop 3 110 = some (.aload_n 2, 1) := by decide +kernel
theorem o3_111 : zop 3 111 = some (.iload_n 3, 1) := by decide +kernel
theorem o3_112 : zop 3 112 = some (.iconst 1, 1) := by decide +kernel
theorem o3_113 : zop 3 113 = some (.iadd, 1) := by decide +kernel
theorem o3_114 : zop 3 114 = some (.invokevirtual 3, 3) := by decide +kernel
theorem o3_117 : zop 3 117 = some (.iinc 6 (-1), 3) := by decide +kernel
theorem o3_120 : zop 3 120 = some (.goto (-51), 3) := by decide +kernel
theorem o3_123 : zop 3 123 = some (.aload 4, 2) := by decide +kernel
theorem o3_125 : zop 3 125 = some (.aload_n 1, 1) := by decide +kernel
theorem o3_126 : zop 3 126 = some (.aload_n 2, 1) := by decide +kernel
theorem o3_127 : zop 3 127 = some (.getfield 100, 3) := by decide +kernel
theorem o3_130 : zop 3 130 = some (.invokevirtual 51, 3) := by decide +kernel
theorem o3_133 : zop 3 133 = some (.return_, 1) := by decide +kernel
theorem o4_0 : zop 4 0 = some (.aload_n 0, 1) := by decide +kernel
theorem o4_1 : zop 4 1 = some (.getfield 3, 3) := by decide +kernel
theorem o4_4 : zop 4 4 = some (.iconst (-1), 1) := by decide +kernel
theorem o4_5 : zop 4 5 = some (.if_icmp .eq 12, 3) := by decide +kernel
theorem o4_8 : zop 4 8 = some (.aload_n 0, 1) := by decide +kernel
theorem o4_9 : zop 4 9 = some (.aload_n 1, 1) := by decide +kernel
theorem o4_10 : zop 4 10 = some (.aload_n 2, 1) := by decide +kernel
theorem o4_11 : zop 4 11 = some (.invokevirtual 5, 3) := by decide +kernel
theorem o4_14 : zop 4 14 = some (.goto 24, 3) := by decide +kernel
theorem o4_17 : zop 4 17 = some (.aload_n 2, 1) := by decide +kernel
theorem o4_18 : zop 4 18 = some (.invokevirtual 10, 3) := by decide +kernel
theorem o4_21 : zop 4 21 = some (.ifCond .eq 17, 3) := by decide +kernel
theorem o4_24 : zop 4 24 = some (.aload_n 0, 1) := by decide +kernel
theorem o4_25 : zop 4 25 = some (.dup, 1) := by decide +kernel
theorem o4_26 : zop 4 26 = some (.getfield 6, 3) := by decide +kernel
theorem o4_29 : zop 4 29 = some (.iconst 1, 1) := by decide +kernel
theorem o4_30 : zop 4 30 = some (.iadd, 1) := by decide +kernel
theorem o4_31 : zop 4 31 = some (.putfield 6, 3) := by decide +kernel
theorem o4_34 : zop 4 34 = some (.aload_n 0, 1) := by decide +kernel
theorem o4_35 : zop 4 35 = some (.invokevirtual 6, 3) := by decide +kernel
theorem o4_38 : zop 4 38 = some (.return_, 1) := by decide +kernel
theorem o5_0 : zop 5 0 = some (.aload_n 2, 1) := by decide +kernel
theorem o5_1 : zop 5 1 = some (.getfield 100, 3) := by decide +kernel
theorem o5_4 : zop 5 4 = some (.aload_n 1, 1) := by decide +kernel
theorem o5_5 : zop 5 5 = some (.aload_n 0, 1) := by decide +kernel
theorem o5_6 : zop 5 6 = some (.getfield 3, 3) := by decide +kernel
theorem o5_9 : zop 5 9 = some (.invokevirtual 19, 3) := by decide +kernel
theorem o5_12 : zop 5 12 = some (.ifCond .le 4, 3) := by decide +kernel
theorem o5_15 : zop 5 15 = some (.return_, 1) := by decide +kernel
theorem o5_16 : zop 5 16 = some (.aload_n 2, 1) := by decide +kernel
theorem o5_17 : zop 5 17 = some (.getfield 100, 3) := by decide +kernel
theorem o5_20 : zop 5 20 = some (.aload_n 1, 1) := by decide +kernel
theorem o5_21 : zop 5 21 = some (.invokevirtual 20, 3) := by decide +kernel
theorem o5_24 : zop 5 24 = some (.istore_n 3, 1) := by decide +kernel
theorem o5_25 : zop 5 25 = some (.iconst 0, 1) := by decide +kernel
theorem o5_26 : zop 5 26 = some (.istore 4, 2) := by decide +kernel
theorem o5_28 : zop 5 28 = some (.iconst 0, 1) := by decide +kernel
theorem o5_29 : zop 5 29 = some (.istore 5, 2) := by decide +kernel
theorem o5_31 : zop 5 31 = some (.iload 5, 2) := by decide +kernel
theorem o5_33 : zop 5 33 = some (.aload_n 2, 1) := by decide +kernel
theorem o5_34 : zop 5 34 = some (.getfield 109, 3) := by decide +kernel
theorem o5_37 : zop 5 37 = some (.if_icmp .ge 21, 3) := by decide +kernel
theorem o5_40 : zop 5 40 = some (.iload 4, 2) := by decide +kernel
theorem o5_42 : zop 5 42 = some (.aload_n 0, 1) := by decide +kernel
theorem o5_43 : zop 5 43 = some (.getfield 1, 3) := by decide +kernel
theorem o5_46 : zop 5 46 = some (.iload 5, 2) := by decide +kernel
theorem o5_48 : zop 5 48 = some (.iaload, 1) := by decide +kernel
theorem o5_49 : zop 5 49 = some (.iadd, 1) := by decide +kernel
theorem o5_50 : zop 5 50 = some (.istore 4, 2) := by decide +kernel
theorem o5_52 : zop 5 52 = some (.iinc 5 1, 3) := by decide +kernel
theorem o5_55 : zop 5 55 = some (.goto (-24), 3) := by decide +kernel
theorem o5_58 : zop 5 58 = some (.aload_n 0, 1) := by decide +kernel
theorem o5_59 : zop 5 59 = some (.getfield 4, 3) := by decide +kernel
theorem o5_62 : zop 5 62 = some (.iconst (-1), 1) := by decide +kernel
theorem o5_63 : zop 5 63 = some (.if_icmp .eq 28, 3) := by decide +kernel
theorem o5_66 : zop 5 66 = some (.iload_n 3, 1) := by decide +kernel
theorem o5_67 : zop 5 67 = some (.aload_n 0, 1) := by decide +kernel
theorem o5_68 : zop 5 68 = some (.getfield 4, 3) := by decide +kernel
theorem o5_71 : zop 5 71 = some (.if_icmp .lt 20, 3) := by decide +kernel
theorem o5_74 : zop 5 74 = some (.iload_n 3, 1) := by decide +kernel
theorem o5_75 : zop 5 75 = some (.aload_n 0, 1) := by decide +kernel
theorem o5_76 : zop 5 76 = some (.getfield 4, 3) := by decide +kernel
theorem o5_79 : zop 5 79 = some (.if_icmp .ne 27, 3) := by decide +kernel
theorem o5_82 : zop 5 82 = some (.iload 4, 2) := by decide +kernel
theorem o5_84 : zop 5 84 = some (.aload_n 0, 1) := by decide +kernel
theorem o5_85 : zop 5 85 = some (.getfield 5, 3) := by decide +kernel
theorem o5_88 : zop 5 88 = some (.if_icmp .lt 18, 3) := by decide +kernel
theorem o5_91 : zop 5 91 = some (.aload_n 0, 1) := by decide +kernel
theorem o5_92 : zop 5 92 = some (.iload_n 3, 1) := by decide +kernel
theorem o5_93 : zop 5 93 = some (.putfield 4, 3) := by decide +kernel
theorem o5_96 : zop 5 96 = some (.aload_n 0, 1) := by decide +kernel
theorem o5_97 : zop 5 97 = some (.iload 4, 2) := by decide +kernel
theorem o5_99 : zop 5 99 = some (.putfield 5, 3) := by decide +kernel
theorem o5_102 : zop 5 102 = some (.aload_n 0, 1) := by decide +kernel
theorem o5_103 : zop 5 103 = some (.invokevirtual 6, 3) := by decide +kernel
theorem o5_106 : zop 5 106 = some (.return_, 1) := by decide +kernel
theorem o6_0 : zop 6 0 = some (.aload_n 0, 1) := by decide +kernel
theorem o6_1 : zop 6 1 = some (.getfield 1, 3) := by decide +kernel
theorem o6_4 : zop 6 4 = some (.iconst 0, 1) := by decide +kernel
theorem o6_5 : zop 6 5 = some (.aload_n 0, 1) := by decide +kernel
theorem o6_6 : zop 6 6 = some (.getfield 0, 3) := by decide +kernel
theorem o6_9 : zop 6 9 = some (.iconst 0, 1) := by decide +kernel
theorem o6_10 : zop 6 10 = some (.iconst 4, 1) := by decide +kernel
theorem o6_11 : zop 6 11 = some (.invokestatic 1003, 3) := by decide +kernel
theorem o6_14 : zop 6 14 = some (.return_, 1) := by decide +kernel
theorem o7_0 : zop 7 0 = some (.aload_n 0, 1) := by decide +kernel
theorem o7_1 : zop 7 1 = some (.iload_n 3, 1) := by decide +kernel
theorem o7_2 : zop 7 2 = some (.putfield 3, 3) := by decide +kernel
theorem o7_5 : zop 7 5 = some (.aload_n 0, 1) := by decide +kernel
theorem o7_6 : zop 7 6 = some (.iconst (-1), 1) := by decide +kernel
theorem o7_7 : zop 7 7 = some (.putfield 4, 3) := by decide +kernel
theorem o7_10 : zop 7 10 = some (.aload_n 0, 1) := by decide +kernel
theorem o7_11 : zop 7 11 = some (.aload_n 2, 1) := by decide +kernel
theorem o7_12 : zop 7 12 = some (.invokevirtual 2, 3) := by decide +kernel
theorem o7_15 : zop 7 15 = some (.aload_n 0, 1) := by decide +kernel
theorem o7_16 : zop 7 16 = some (.aload_n 1, 1) := by decide +kernel
theorem o7_17 : zop 7 17 = some (.aload_n 2, 1) := by decide +kernel
theorem o7_18 : zop 7 18 = some (.iconst 0, 1) := by decide +kernel
theorem o7_19 : zop 7 19 = some (.invokevirtual 3, 3) := by decide +kernel
theorem o7_22 : zop 7 22 = some (.aload_n 0, 1) := by decide +kernel
theorem o7_23 : zop 7 23 = some (.getfield 4, 3) := by decide +kernel
theorem o7_26 : zop 7 26 = some (.ireturn, 1) := by decide +kernel
theorem o8_0 : zop 8 0 = some (.aload_n 0, 1) := by decide +kernel
theorem o8_1 : zop 8 1 = some (.invokespecial 1000, 3) := by decide +kernel
theorem o8_4 : zop 8 4 = some (.aload_n 0, 1) := by decide +kernel
theorem o8_5 : zop 8 5 = some (.new 2, 3) := by decide +kernel
theorem o8_8 : zop 8 8 = some (.dup, 1) := by decide +kernel
theorem o8_9 : zop 8 9 = some (.invokespecial 2016, 3) := by decide +kernel
theorem o8_12 : zop 8 12 = some (.putfield 100, 3) := by decide +kernel
theorem o8_15 : zop 8 15 = some (.aload_n 0, 1) := by decide +kernel
theorem o8_16 : zop 8 16 = some (.new 6, 3) := by decide +kernel
theorem o8_19 : zop 8 19 = some (.dup, 1) := by decide +kernel
theorem o8_20 : zop 8 20 = some (.invokespecial 2053, 3) := by decide +kernel
theorem o8_23 : zop 8 23 = some (.putfield 101, 3) := by decide +kernel
theorem o8_26 : zop 8 26 = some (.aload_n 0, 1) := by decide +kernel
theorem o8_27 : zop 8 27 = some (.iconst 5, 1) := by decide +kernel
theorem o8_28 : zop 8 28 = some (.newarray .int, 2) := by decide +kernel
theorem o8_30 : zop 8 30 = some (.putfield 102, 3) := by decide +kernel
theorem o8_33 : zop 8 33 = some (.aload_n 0, 1) := by decide +kernel
theorem o8_34 : zop 8 34 = some (.iconst 4, 1) := by decide +kernel
theorem o8_35 : zop 8 35 = some (.newarray .int, 2) := by decide +kernel
theorem o8_37 : zop 8 37 = some (.putfield 103, 3) := by decide +kernel
theorem o8_40 : zop 8 40 = some (.aload_n 0, 1) := by decide +kernel
theorem o8_41 : zop 8 41 = some (.iconst 4, 1) := by decide +kernel
theorem o8_42 : zop 8 42 = some (.newarray .int, 2) := by decide +kernel
theorem o8_44 : zop 8 44 = some (.putfield 104, 3) := by decide +kernel
theorem o8_47 : zop 8 47 = some (.aload_n 0, 1) := by decide +kernel
theorem o8_48 : zop 8 48 = some (.bipush 10, 2) := by decide +kernel
theorem o8_50 : zop 8 50 = some (.newarray .int, 2) := by decide +kernel
theorem o8_52 : zop 8 52 = some (.putfield 105, 3) := by decide +kernel
theorem o8_55 : zop 8 55 = some (.aload_n 0, 1) := by decide +kernel
theorem o8_56 : zop 8 56 = some (.bipush 10, 2) := by decide +kernel
theorem o8_58 : zop 8 58 = some (.newarray .int, 2) := by decide +kernel
theorem o8_60 : zop 8 60 = some (.putfield 106, 3) := by decide +kernel
theorem o8_63 : zop 8 63 = some (.aload_n 0, 1) := by decide +kernel
theorem o8_64 : zop 8 64 = some (.bipush 10, 2) := by decide +kernel
theorem o8_66 : zop 8 66 = some (.newarray .int, 2) := by decide +kernel
theorem o8_68 : zop 8 68 = some (.putfield 107, 3) := by decide +kernel
theorem o8_71 : zop 8 71 = some (.aload_n 0, 1) := by decide +kernel
theorem o8_72 : zop 8 72 = some (.iconst 3, 1) := by decide +kernel
theorem o8_73 : zop 8 73 = some (.newarray .int, 2) := by decide +kernel
theorem o8_75 : zop 8 75 = some (.putfield 108, 3) := by decide +kernel
theorem o8_78 : zop 8 78 = some (.aload_n 0, 1) := by decide +kernel
theorem o8_79 : zop 8 79 = some (.iconst 0, 1) := by decide +kernel
theorem o8_80 : zop 8 80 = some (.putfield 109, 3) := by decide +kernel
theorem o8_83 : zop 8 83 = some (.aload_n 0, 1) := by decide +kernel
theorem o8_84 : zop 8 84 = some (.iconst 0, 1) := by decide +kernel
theorem o8_85 : zop 8 85 = some (.putfield 110, 3) := by decide +kernel
theorem o8_88 : zop 8 88 = some (.aload_n 0, 1) := by decide +kernel
theorem o8_89 : zop 8 89 = some (.new 5, 3) := by decide +kernel
theorem o8_92 : zop 8 92 = some (.dup, 1) := by decide +kernel
theorem o8_93 : zop 8 93 = some (.invokespecial 2049, 3) := by decide +kernel
theorem o8_96 : zop 8 96 = some (.putfield 111, 3) := by decide +kernel
theorem o8_99 : zop 8 99 = some (.return_, 1) := by decide +kernel
theorem o9_0 : zop 9 0 = some (.aload_n 0, 1) := by decide +kernel
theorem o9_1 : zop 9 1 = some (.getfield 101, 3) := by decide +kernel
theorem o9_4 : zop 9 4 = some (.aload_n 0, 1) := by decide +kernel
theorem o9_5 : zop 9 5 = some (.getfield 111, 3) := by decide +kernel
theorem o9_8 : zop 9 8 = some (.invokevirtual 54, 3) := by decide +kernel
theorem o9_11 : zop 9 11 = some (.aload_n 0, 1) := by decide +kernel
theorem o9_12 : zop 9 12 = some (.getfield 111, 3) := by decide +kernel
theorem o9_15 : zop 9 15 = some (.aload_n 1, 1) := by decide +kernel
theorem o9_16 : zop 9 16 = some (.aload_n 0, 1) := by decide +kernel
theorem o9_17 : zop 9 17 = some (.getfield 100, 3) := by decide +kernel
theorem o9_20 : zop 9 20 = some (.invokevirtual 51, 3) := by decide +kernel
theorem o9_23 : zop 9 23 = some (.aload_n 0, 1) := by decide +kernel
theorem o9_24 : zop 9 24 = some (.getfield 102, 3) := by decide +kernel
theorem o9_27 : zop 9 27 = some (.aload_n 0, 1) := by decide +kernel
theorem o9_28 : zop 9 28 = some (.getfield 111, 3) := by decide +kernel
theorem o9_31 : zop 9 31 = some (.getfield 500, 3) := by decide +kernel
theorem o9_34 : zop 9 34 = some (.aload_n 0, 1) := by decide +kernel
theorem o9_35 : zop 9 35 = some (.getfield 111, 3) := by decide +kernel
theorem o9_38 : zop 9 38 = some (.getfield 501, 3) := by decide +kernel
theorem o9_41 : zop 9 41 = some (.iastore, 1) := by decide +kernel
theorem o9_42 : zop 9 42 = some (.return_, 1) := by decide +kernel
theorem o10_0 : zop 10 0 = some (.iconst 0, 1) := by decide +kernel
theorem o10_1 : zop 10 1 = some (.istore_n 1, 1) := by decide +kernel
theorem o10_2 : zop 10 2 = some (.iload_n 1, 1) := by decide +kernel
theorem o10_3 : zop 10 3 = some (.aload_n 0, 1) := by decide +kernel
theorem o10_4 : zop 10 4 = some (.getfield 110, 3) := by decide +kernel
theorem o10_7 : zop 10 7 = some (.if_icmp .ge 39, 3) := by decide +kernel
theorem o10_10 : zop 10 10 = some (.aload_n 0, 1) := by decide +kernel
theorem o10_11 : zop 10 11 = some (.getfield 100, 3) := by decide +kernel
theorem o10_14 : zop 10 14 = some (.aload_n 0, 1) := by decide +kernel
theorem o10_15 : zop 10 15 = some (.getfield 105, 3) := by decide +kernel
theorem o10_18 : zop 10 18 = some (.iload_n 1, 1) := by decide +kernel
theorem o10_19 : zop 10 19 = some (.iaload, 1) := by decide +kernel
theorem o10_20 : zop 10 20 = some (.aload_n 0, 1) := by decide +kernel
theorem o10_21 : zop 10 21 = some (.getfield 106, 3) := by decide +kernel
theorem o10_24 : zop 10 24 = some (.iload_n 1, 1) := by decide +kernel
theorem o10_25 : zop 10 25 = some (.iaload, 1) := by decide +kernel
theorem o10_26 : zop 10 26 = some (.invokevirtual 21, 3) := by decide +kernel
theorem o10_29 : zop 10 29 = some (.aload_n 0, 1) := by decide +kernel
theorem o10_30 : zop 10 30 = some (.getfield 107, 3) := by decide +kernel
theorem o10_33 : zop 10 33 = some (.iload_n 1, 1) := by decide +kernel
theorem o10_34 : zop 10 34 = some (.iaload, 1) := by decide +kernel
theorem o10_35 : zop 10 35 = some (.if_icmp .eq 5, 3) := by decide +kernel
theorem o10_38 : zop 10 38 = some (.iconst 0, 1) := by decide +kernel
theorem o10_39 : zop 10 39 = some (.ireturn, 1) := by decide +kernel
theorem o10_40 : zop 10 40 = some (.iinc 1 1, 3) := by decide +kernel
theorem o10_43 : zop 10 43 = some (.goto (-41), 3) := by decide +kernel
theorem o10_46 : zop 10 46 = some (.iconst 1, 1) := by decide +kernel
theorem o10_47 : zop 10 47 = some (.ireturn, 1) := by decide +kernel
theorem o11_0 : zop 11 0 = some (.aload_n 0, 1) := by decide +kernel
theorem o11_1 : zop 11 1 = some (.getfield 100, 3) := by decide +kernel
theorem o11_4 : zop 11 4 = some (.aload_n 1, 1) := by decide +kernel
theorem o11_5 : zop 11 5 = some (.getfield 100, 3) := by decide +kernel
theorem o11_8 : zop 11 8 = some (.invokevirtual 26, 3) := by decide +kernel
theorem o11_11 : zop 11 11 = some (.aload_n 0, 1) := by decide +kernel
theorem o11_12 : zop 11 12 = some (.getfield 101, 3) := by decide +kernel
theorem o11_15 : zop 11 15 = some (.aload_n 1, 1) := by decide +kernel
theorem o11_16 : zop 11 16 = some (.getfield 101, 3) := by decide +kernel
theorem o11_19 : zop 11 19 = some (.invokevirtual 56, 3) := by decide +kernel
theorem o11_22 : zop 11 22 = some (.aload_n 1, 1) := by decide +kernel
theorem o11_23 : zop 11 23 = some (.getfield 102, 3) := by decide +kernel
theorem o11_26 : zop 11 26 = some (.iconst 0, 1) := by decide +kernel
theorem o11_27 : zop 11 27 = some (.aload_n 0, 1) := by decide +kernel
theorem o11_28 : zop 11 28 = some (.getfield 102, 3) := by decide +kernel
theorem o11_31 : zop 11 31 = some (.iconst 0, 1) := by decide +kernel
theorem o11_32 : zop 11 32 = some (.iconst 5, 1) := by decide +kernel
theorem o11_33 : zop 11 33 = some (.invokestatic 1003, 3) := by decide +kernel
theorem o11_36 : zop 11 36 = some (.aload_n 1, 1) := by decide +kernel
theorem o11_37 : zop 11 37 = some (.getfield 103, 3) := by decide +kernel
theorem o11_40 : zop 11 40 = some (.iconst 0, 1) := by decide +kernel
theorem o11_41 : zop 11 41 = some (.aload_n 0, 1) := by decide +kernel
theorem o11_42 : zop 11 42 = some (.getfield 103, 3) := by decide +kernel
theorem o11_45 : zop 11 45 = some (.iconst 0, 1) := by decide +kernel
theorem o11_46 : zop 11 46 = some (.iconst 4, 1) := by decide +kernel
theorem o11_47 : zop 11 47 = some (.invokestatic 1003, 3) := by decide +kernel
theorem o11_50 : zop 11 50 = some (.aload_n 1, 1) := by decide +kernel
theorem o11_51 : zop 11 51 = some (.getfield 104, 3) := by decide +kernel
theorem o11_54 : zop 11 54 = some (.iconst 0, 1) := by decide +kernel
theorem o11_55 : zop 11 55 = some (.aload_n 0, 1) := by decide +kernel
theorem o11_56 : zop 11 56 = some (.getfield 104, 3) := by decide +kernel
theorem o11_59 : zop 11 59 = some (.iconst 0, 1) := by decide +kernel
theorem o11_60 : zop 11 60 = some (.iconst 4, 1) := by decide +kernel
theorem o11_61 : zop 11 61 = some (.invokestatic 1003, 3) := by decide +kernel
theorem o11_64 : zop 11 64 = some (.aload_n 1, 1) := by decide +kernel
theorem o11_65 : zop 11 65 = some (.getfield 105, 3) := by decide +kernel
theorem o11_68 : zop 11 68 = some (.iconst 0, 1) := by decide +kernel
theorem o11_69 : zop 11 69 = some (.aload_n 0, 1) := by decide +kernel
theorem o11_70 : zop 11 70 = some (.getfield 105, 3) := by decide +kernel
theorem o11_73 : zop 11 73 = some (.iconst 0, 1) := by decide +kernel
theorem o11_74 : zop 11 74 = some (.bipush 10, 2) := by decide +kernel
theorem o11_76 : zop 11 76 = some (.invokestatic 1003, 3) := by decide +kernel
theorem o11_79 : zop 11 79 = some (.aload_n 1, 1) := by decide +kernel
theorem o11_80 : zop 11 80 = some (.getfield 106, 3) := by decide +kernel
theorem o11_83 : zop 11 83 = some (.iconst 0, 1) := by decide +kernel
theorem o11_84 : zop 11 84 = some (.aload_n 0, 1) := by decide +kernel
theorem o11_85 : zop 11 85 = some (.getfield 106, 3) := by decide +kernel
theorem o11_88 : zop 11 88 = some (.iconst 0, 1) := by decide +kernel
theorem o11_89 : zop 11 89 = some (.bipush 10, 2) := by decide +kernel
theorem o11_91 : zop 11 91 = some (.invokestatic 1003, 3) := by decide +kernel
theorem o11_94 : zop 11 94 = some (.aload_n 1, 1) := by decide +kernel
theorem o11_95 : zop 11 95 = some (.getfield 107, 3) := by decide +kernel
theorem o11_98 : zop 11 98 = some (.iconst 0, 1) := by decide +kernel
theorem o11_99 : zop 11 99 = some (.aload_n 0, 1) := by decide +kernel
theorem o11_100 : zop 11 100 = some (.getfield 107, 3) := by decide +kernel
theorem o11_103 : zop 11 103 = some (.iconst 0, 1) := by decide +kernel
theorem o11_104 : zop 11 104 = some (.bipush 10, 2) := by decide +kernel
theorem o11_106 : zop 11 106 = some (.invokestatic 1003, 3) := by decide +kernel
theorem o11_109 : zop 11 109 = some (.aload_n 1, 1) := by decide +kernel
theorem o11_110 : zop 11 110 = some (.getfield 108, 3) := by decide +kernel
theorem o11_113 : zop 11 113 = some (.iconst 0, 1) := by decide +kernel
theorem o11_114 : zop 11 114 = some (.aload_n 0, 1) := by decide +kernel
theorem o11_115 : zop 11 115 = some (.getfield 108, 3) := by decide +kernel
theorem o11_118 : zop 11 118 = some (.iconst 0, 1) := by decide +kernel
theorem o11_119 : zop 11 119 = some (.iconst 3, 1) := by decide +kernel
theorem o11_120 : zop 11 120 = some (.invokestatic 1003, 3) := by decide +kernel
theorem o11_123 : zop 11 123 = some (.aload_n 0, 1) := by decide +kernel
theorem o11_124 : zop 11 124 = some (.aload_n 1, 1) := by decide +kernel
theorem o11_125 : zop 11 125 = some (.getfield 109, 3) := by decide +kernel
theorem o11_128 : zop 11 128 = some (.putfield 109, 3) := by decide +kernel
theorem o11_131 : zop 11 131 = some (.aload_n 0, 1) := by decide +kernel
theorem o11_132 : zop 11 132 = some (.aload_n 1, 1) := by decide +kernel
theorem o11_133 : zop 11 133 = some (.getfield 110, 3) := by decide +kernel
theorem o11_136 : zop 11 136 = some (.putfield 110, 3) := by decide +kernel
theorem o11_139 : zop 11 139 = some (.return_, 1) := by decide +kernel
theorem o12_0 : zop 12 0 = some (.aload_n 0, 1) := by decide +kernel
theorem o12_1 : zop 12 1 = some (.getfield 100, 3) := by decide +kernel
theorem o12_4 : zop 12 4 = some (.aload_n 1, 1) := by decide +kernel
theorem o12_5 : zop 12 5 = some (.invokevirtual 27, 3) := by decide +kernel
theorem o12_8 : zop 12 8 = some (.aload_n 0, 1) := by decide +kernel
theorem o12_9 : zop 12 9 = some (.getfield 101, 3) := by decide +kernel
theorem o12_12 : zop 12 12 = some (.invokevirtual 57, 3) := by decide +kernel
theorem o12_15 : zop 12 15 = some (.aload_n 1, 1) := by decide +kernel
theorem o12_16 : zop 12 16 = some (.getfield 706, 3) := by decide +kernel
theorem o12_19 : zop 12 19 = some (.iconst 0, 1) := by decide +kernel
theorem o12_20 : zop 12 20 = some (.aload_n 0, 1) := by decide +kernel
theorem o12_21 : zop 12 21 = some (.getfield 102, 3) := by decide +kernel
theorem o12_24 : zop 12 24 = some (.iconst 0, 1) := by decide +kernel
theorem o12_25 : zop 12 25 = some (.iconst 5, 1) := by decide +kernel
theorem o12_26 : zop 12 26 = some (.invokestatic 1003, 3) := by decide +kernel
theorem o12_29 : zop 12 29 = some (.aload_n 0, 1) := by decide +kernel
theorem o12_30 : zop 12 30 = some (.iconst 0, 1) := by decide +kernel
theorem o12_31 : zop 12 31 = some (.putfield 109, 3) := by decide +kernel
theorem o12_34 : zop 12 34 = some (.aload_n 0, 1) := by decide +kernel
theorem o12_35 : zop 12 35 = some (.iconst 0, 1) := by decide +kernel
theorem o12_36 : zop 12 36 = some (.putfield 110, 3) := by decide +kernel
theorem o12_39 : zop 12 39 = some (.return_, 1) := by decide +kernel
theorem o13_0 : zop 13 0 = some (.aload_n 0, 1) := by decide +kernel
theorem o13_1 : zop 13 1 = some (.getfield 111, 3) := by decide +kernel
theorem o13_4 : zop 13 4 = some (.iload_n 2, 1) := by decide +kernel
theorem o13_5 : zop 13 5 = some (.aload_n 0, 1) := by decide +kernel
theorem o13_6 : zop 13 6 = some (.getfield 102, 3) := by decide +kernel
theorem o13_9 : zop 13 9 = some (.iload_n 2, 1) := by decide +kernel
theorem o13_10 : zop 13 10 = some (.iaload, 1) := by decide +kernel
theorem o13_11 : zop 13 11 = some (.iload_n 3, 1) := by decide +kernel
theorem o13_12 : zop 13 12 = some (.invokevirtual 50, 3) := by decide +kernel
theorem o13_15 : zop 13 15 = some (.aload_n 0, 1) := by decide +kernel
theorem o13_16 : zop 13 16 = some (.getfield 111, 3) := by decide +kernel
theorem o13_19 : zop 13 19 = some (.aload_n 1, 1) := by decide +kernel
theorem o13_20 : zop 13 20 = some (.aload_n 0, 1) := by decide +kernel
theorem o13_21 : zop 13 21 = some (.getfield 100, 3) := by decide +kernel
theorem o13_24 : zop 13 24 = some (.aload_n 1, 1) := by decide +kernel
theorem o13_25 : zop 13 25 = some (.iload_n 2, 1) := by decide +kernel
theorem o13_26 : zop 13 26 = some (.iload 4, 2) := by decide +kernel
theorem o13_28 : zop 13 28 = some (.invokevirtual 71, 3) := by decide +kernel
theorem o13_31 : zop 13 31 = some (.invokevirtual 52, 3) := by decide +kernel
theorem o13_34 : zop 13 34 = some (.aload_n 0, 1) := by decide +kernel
theorem o13_35 : zop 13 35 = some (.getfield 101, 3) := by decide +kernel
theorem o13_38 : zop 13 38 = some (.aload_n 1, 1) := by decide +kernel
theorem o13_39 : zop 13 39 = some (.aload_n 0, 1) := by decide +kernel
theorem o13_40 : zop 13 40 = some (.getfield 100, 3) := by decide +kernel
theorem o13_43 : zop 13 43 = some (.aload_n 0, 1) := by decide +kernel
theorem o13_44 : zop 13 44 = some (.getfield 111, 3) := by decide +kernel
theorem o13_47 : zop 13 47 = some (.iload 4, 2) := by decide +kernel
theorem o13_49 : zop 13 49 = some (.invokevirtual 64, 3) := by decide +kernel
theorem o13_52 : zop 13 52 = some (.aload_n 0, 1) := by decide +kernel
theorem o13_53 : zop 13 53 = some (.getfield 102, 3) := by decide +kernel
theorem o13_56 : zop 13 56 = some (.iload_n 2, 1) := by decide +kernel
theorem o13_57 : zop 13 57 = some (.iload_n 3, 1) := by decide +kernel
theorem o13_58 : zop 13 58 = some (.iastore, 1) := by decide +kernel
theorem o13_59 : zop 13 59 = some (.aload_n 0, 1) := by decide +kernel
theorem o13_60 : zop 13 60 = some (.getfield 111, 3) := by decide +kernel
theorem o13_63 : zop 13 63 = some (.getfield 503, 3) := by decide +kernel
theorem o13_66 : zop 13 66 = some (.ireturn, 1) := by decide +kernel
theorem o14_0 : zop 14 0 = some (.aload_n 0, 1) := by decide +kernel
theorem o14_1 : zop 14 1 = some (.getfield 109, 3) := by decide +kernel
theorem o14_4 : zop 14 4 = some (.iconst 4, 1) := by decide +kernel
theorem o14_5 : zop 14 5 = some (.if_icmp .ge 33, 3) := by decide +kernel
theorem o14_8 : zop 14 8 = some (.aload_n 0, 1) := by decide +kernel
theorem o14_9 : zop 14 9 = some (.getfield 103, 3) := by decide +kernel
theorem o14_12 : zop 14 12 = some (.aload_n 0, 1) := by decide +kernel
theorem o14_13 : zop 14 13 = some (.getfield 109, 3) := by decide +kernel
theorem o14_16 : zop 14 16 = some (.iload_n 1, 1) := by decide +kernel
theorem o14_17 : zop 14 17 = some (.iastore, 1) := by decide +kernel
theorem o14_18 : zop 14 18 = some (.aload_n 0, 1) := by decide +kernel
theorem o14_19 : zop 14 19 = some (.getfield 104, 3) := by decide +kernel
theorem o14_22 : zop 14 22 = some (.aload_n 0, 1) := by decide +kernel
theorem o14_23 : zop 14 23 = some (.getfield 109, 3) := by decide +kernel
theorem o14_26 : zop 14 26 = some (.iload_n 2, 1) := by decide +kernel
theorem o14_27 : zop 14 27 = some (.iastore, 1) := by decide +kernel
theorem o14_28 : zop 14 28 = some (.aload_n 0, 1) := by decide +kernel
theorem o14_29 : zop 14 29 = some (.dup, 1) := by decide +kernel
theorem o14_30 : zop 14 30 = some (.getfield 109, 3) := by decide +kernel
theorem o14_33 : zop 14 33 = some (.iconst 1, 1) := by decide +kernel
theorem o14_34 : zop 14 34 = some (.iadd, 1) := by decide +kernel
theorem o14_35 : zop 14 35 = some (.putfield 109, 3) := by decide +kernel
theorem o14_38 : zop 14 38 = some (.return_, 1) := by decide +kernel
theorem o15_0 : zop 15 0 = some (.aload_n 0, 1) := by decide +kernel
theorem o15_1 : zop 15 1 = some (.getfield 110, 3) := by decide +kernel
theorem o15_4 : zop 15 4 = some (.bipush 10, 2) := by decide +kernel
theorem o15_6 : zop 15 6 = some (.if_icmp .ge 43, 3) := by decide +kernel
theorem o15_9 : zop 15 9 = some (.aload_n 0, 1) := by decide +kernel
theorem o15_10 : zop 15 10 = some (.getfield 105, 3) := by decide +kernel
theorem o15_13 : zop 15 13 = some (.aload_n 0, 1) := by decide +kernel
theorem o15_14 : zop 15 14 = some (.getfield 110, 3) := by decide +kernel
theorem o15_17 : zop 15 17 = some (.iload_n 1, 1) := by decide +kernel
theorem o15_18 : zop 15 18 = some (.iastore, 1) := by decide +kernel
theorem o15_19 : zop 15 19 = some (.aload_n 0, 1) := by decide +kernel
theorem o15_20 : zop 15 20 = some (.getfield 106, 3) := by decide +kernel
theorem o15_23 : zop 15 23 = some (.aload_n 0, 1) := by decide +kernel
theorem o15_24 : zop 15 24 = some (.getfield 110, 3) := by decide +kernel
theorem o15_27 : zop 15 27 = some (.iload_n 2, 1) := by decide +kernel
theorem o15_28 : zop 15 28 = some (.iastore, 1) := by decide +kernel
theorem o15_29 : zop 15 29 = some (.aload_n 0, 1) := by decide +kernel
theorem o15_30 : zop 15 30 = some (.getfield 107, 3) := by decide +kernel
theorem o15_33 : zop 15 33 = some (.aload_n 0, 1) := by decide +kernel
theorem o15_34 : zop 15 34 = some (.getfield 110, 3) := by decide +kernel
theorem o15_37 : zop 15 37 = some (.iload_n 3, 1) := by decide +kernel
theorem o15_38 : zop 15 38 = some (.iastore, 1) := by decide +kernel
theorem o15_39 : zop 15 39 = some (.aload_n 0, 1) := by decide +kernel
theorem o15_40 : zop 15 40 = some (.dup, 1) := by decide +kernel
theorem o15_41 : zop 15 41 = some (.getfield 110, 3) := by decide +kernel
theorem o15_44 : zop 15 44 = some (.iconst 1, 1) := by decide +kernel
theorem o15_45 : zop 15 45 = some (.iadd, 1) := by decide +kernel
theorem o15_46 : zop 15 46 = some (.putfield 110, 3) := by decide +kernel
theorem o15_49 : zop 15 49 = some (.return_, 1) := by decide +kernel
theorem o16_0 : zop 16 0 = some (.aload_n 0, 1) := by decide +kernel
theorem o16_1 : zop 16 1 = some (.invokespecial 1000, 3) := by decide +kernel
theorem o16_4 : zop 16 4 = some (.aload_n 0, 1) := by decide +kernel
theorem o16_5 : zop 16 5 = some (.bipush 6, 2) := by decide +kernel
theorem o16_7 : zop 16 7 = some (.newarray .int, 2) := by decide +kernel
theorem o16_9 : zop 16 9 = some (.putfield 200, 3) := by decide +kernel
theorem o16_12 : zop 16 12 = some (.aload_n 0, 1) := by decide +kernel
theorem o16_13 : zop 16 13 = some (.sipush 240, 3) := by decide +kernel
theorem o16_16 : zop 16 16 = some (.newarray .int, 2) := by decide +kernel
theorem o16_18 : zop 16 18 = some (.putfield 201, 3) := by decide +kernel
theorem o16_21 : zop 16 21 = some (.aload_n 0, 1) := by decide +kernel
theorem o16_22 : zop 16 22 = some (.bipush 36, 2) := by decide +kernel
theorem o16_24 : zop 16 24 = some (.newarray .int, 2) := by decide +kernel
theorem o16_26 : zop 16 26 = some (.putfield 202, 3) := by decide +kernel
theorem o16_29 : zop 16 29 = some (.return_, 1) := by decide +kernel
theorem o17_0 : zop 17 0 = some (.iload_n 2, 1) := by decide +kernel
theorem o17_1 : zop 17 1 = some (.bipush 40, 2) := by decide +kernel
theorem o17_3 : zop 17 3 = some (.imul, 1) := by decide +kernel
theorem o17_4 : zop 17 4 = some (.istore 4, 2) := by decide +kernel
theorem o17_6 : zop 17 6 = some (.aload_n 0, 1) := by decide +kernel
theorem o17_7 : zop 17 7 = some (.getfield 201, 3) := by decide +kernel
theorem o17_10 : zop 17 10 = some (.iload 4, 2) := by decide +kernel
theorem o17_12 : zop 17 12 = some (.iload_n 3, 1) := by decide +kernel
theorem o17_13 : zop 17 13 = some (.iadd, 1) := by decide +kernel
theorem o17_14 : zop 17 14 = some (.iaload, 1) := by decide +kernel
theorem o17_15 : zop 17 15 = some (.istore 5, 2) := by decide +kernel
theorem o17_17 : zop 17 17 = some (.aload_n 0, 1) := by decide +kernel
theorem o17_18 : zop 17 18 = some (.getfield 200, 3) := by decide +kernel
theorem o17_21 : zop 17 21 = some (.iload_n 2, 1) := by decide +kernel
theorem o17_22 : zop 17 22 = some (.dup2, 1) := by decide +kernel
theorem o17_23 : zop 17 23 = some (.iaload, 1) := by decide +kernel
theorem o17_24 : zop 17 24 = some (.iconst 1, 1) := by decide +kernel
theorem o17_25 : zop 17 25 = some (.isub, 1) := by decide +kernel
theorem o17_26 : zop 17 26 = some (.iastore, 1) := by decide +kernel
theorem o17_27 : zop 17 27 = some (.iload_n 3, 1) := by decide +kernel
theorem o17_28 : zop 17 28 = some (.istore 6, 2) := by decide +kernel
theorem o17_30 : zop 17 30 = some (.iload 6, 2) := by decide +kernel
theorem o17_32 : zop 17 32 = some (.aload_n 0, 1) := by decide +kernel
theorem o17_33 : zop 17 33 = some (.getfield 200, 3) := by decide +kernel
theorem o17_36 : zop 17 36 = some (.iload_n 2, 1) := by decide +kernel
theorem o17_37 : zop 17 37 = some (.iaload, 1) := by decide +kernel
theorem o17_38 : zop 17 38 = some (.if_icmp .ge 31, 3) := by decide +kernel
theorem o17_41 : zop 17 41 = some (.aload_n 0, 1) := by decide +kernel
theorem o17_42 : zop 17 42 = some (.getfield 201, 3) := by decide +kernel
theorem o17_45 : zop 17 45 = some (.iload 4, 2) := by decide +kernel
theorem o17_47 : zop 17 47 = some (.iload 6, 2) := by decide +kernel
theorem o17_49 : zop 17 49 = some (.iadd, 1) := by decide +kernel
theorem o17_50 : zop 17 50 = some (.aload_n 0, 1) := by decide +kernel
theorem o17_51 : zop 17 51 = some (.getfield 201, 3) := by decide +kernel
theorem o17_54 : zop 17 54 = some (.iload 4, 2) := by decide +kernel
theorem o17_56 : zop 17 56 = some (.iload 6, 2) := by decide +kernel
theorem o17_58 : zop 17 58 = some (.iadd, 1) := by decide +kernel
theorem o17_59 : zop 17 59 = some (.iconst 1, 1) := by decide +kernel
theorem o17_60 : zop 17 60 = some (.iadd, 1) := by decide +kernel
theorem o17_61 : zop 17 61 = some (.iaload, 1) := by decide +kernel
theorem o17_62 : zop 17 62 = some (.iastore, 1) := by decide +kernel
theorem o17_63 : zop 17 63 = some (.iinc 6 1, 3) := by decide +kernel
theorem o17_66 : zop 17 66 = some (.goto (-36), 3) := by decide +kernel
theorem o17_69 : zop 17 69 = some (.aload_n 0, 1) := by decide +kernel
theorem o17_70 : zop 17 70 = some (.getfield 202, 3) := by decide +kernel
theorem o17_73 : zop 17 73 = some (.iload_n 2, 1) := by decide +kernel
theorem o17_74 : zop 17 74 = some (.bipush 6, 2) := by decide +kernel
theorem o17_76 : zop 17 76 = some (.imul, 1) := by decide +kernel
theorem o17_77 : zop 17 77 = some (.aload_n 1, 1) := by decide +kernel
theorem o17_78 : zop 17 78 = some (.getfield 702, 3) := by decide +kernel
theorem o17_81 : zop 17 81 = some (.iload 5, 2) := by decide +kernel
theorem o17_83 : zop 17 83 = some (.iaload, 1) := by decide +kernel
theorem o17_84 : zop 17 84 = some (.iadd, 1) := by decide +kernel
theorem o17_85 : zop 17 85 = some (.dup2, 1) := by decide +kernel
theorem o17_86 : zop 17 86 = some (.iaload, 1) := by decide +kernel
theorem o17_87 : zop 17 87 = some (.iconst 1, 1) := by decide +kernel
theorem o17_88 : zop 17 88 = some (.isub, 1) := by decide +kernel
theorem o17_89 : zop 17 89 = some (.iastore, 1) := by decide +kernel
theorem o17_90 : zop 17 90 = some (.iload 5, 2) := by decide +kernel
theorem o17_92 : zop 17 92 = some (.ireturn, 1) := by decide +kernel
theorem o18_0 : zop 18 0 = some (.aload_n 0, 1) := by decide +kernel
theorem o18_1 : zop 18 1 = some (.getfield 200, 3) := by decide +kernel
theorem o18_4 : zop 18 4 = some (.iload_n 2, 1) := by decide +kernel
theorem o18_5 : zop 18 5 = some (.iaload, 1) := by decide +kernel
theorem o18_6 : zop 18 6 = some (.bipush 40, 2) := by decide +kernel
theorem o18_8 : zop 18 8 = some (.if_icmp .ge 17, 3) := by decide +kernel
theorem o18_11 : zop 18 11 = some (.iload_n 3, 1) := by decide +kernel
theorem o18_12 : zop 18 12 = some (.ifCond .lt 13, 3) := by decide +kernel
theorem o18_15 : zop 18 15 = some (.iload_n 3, 1) := by decide +kernel
theorem o18_16 : zop 18 16 = some (.aload_n 0, 1) := by decide +kernel
theorem o18_17 : zop 18 17 = some (.getfield 200, 3) := by decide +kernel
theorem o18_20 : zop 18 20 = some (.iload_n 2, 1) := by decide +kernel
theorem o18_21 : zop 18 21 = some (.iaload, 1) := by decide +kernel
theorem o18_22 : zop 18 22 = some (.if_icmp .le 4, 3) := by decide +kernel
theorem o18_25 : zop 18 25 = some (.return_, 1) := by decide +kernel
theorem o18_26 : zop 18 26 = some (.iload_n 2, 1) := by decide +kernel
theorem o18_27 : zop 18 27 = some (.bipush 40, 2) := by decide +kernel
theorem o18_29 : zop 18 29 = some (.imul, 1) := by decide +kernel
theorem o18_30 : zop 18 30 = some (.istore 5, 2) := by decide +kernel
theorem o18_32 : zop 18 32 = some (.aload_n 0, 1) := by decide +kernel
theorem o18_33 : zop 18 33 = some (.getfield 200, 3) := by decide +kernel
theorem o18_36 : zop 18 36 = some (.iload_n 2, 1) := by decide +kernel
theorem o18_37 : zop 18 37 = some (.iaload, 1) := by decide +kernel
theorem o18_38 : zop 18 38 = some (.istore 6, 2) := by decide +kernel
theorem o18_40 : zop 18 40 = some (.iload 6, 2) := by decide +kernel
theorem o18_42 : zop 18 42 = some (.iload_n 3, 1) := by decide +kernel
theorem o18_43 : zop 18 43 = some (.if_icmp .le 31, 3) := by decide +kernel
theorem o18_46 : zop 18 46 = some (.aload_n 0, 1) := by decide +kernel
theorem o18_47 : zop 18 47 = some (.getfield 201, 3) := by decide +kernel
theorem o18_50 : zop 18 50 = some (.iload 5, 2) := by decide +kernel
theorem o18_52 : zop 18 52 = some (.iload 6, 2) := by decide +kernel
theorem o18_54 : zop 18 54 = some (.iadd, 1) := by decide +kernel
theorem o18_55 : zop 18 55 = some (.aload_n 0, 1) := by decide +kernel
theorem o18_56 : zop 18 56 = some (.getfield 201, 3) := by decide +kernel
theorem o18_59 : zop 18 59 = some (.iload 5, 2) := by decide +kernel
theorem o18_61 : zop 18 61 = some (.iload 6, 2) := by decide +kernel
theorem o18_63 : zop 18 63 = some (.iadd, 1) := by decide +kernel
theorem o18_64 : zop 18 64 = some (.iconst 1, 1) := by decide +kernel
theorem o18_65 : zop 18 65 = some (.isub, 1) := by decide +kernel
theorem o18_66 : zop 18 66 = some (.iaload, 1) := by decide +kernel
theorem o18_67 : zop 18 67 = some (.iastore, 1) := by decide +kernel
theorem o18_68 : zop 18 68 = some (.iinc 6 (-1), 3) := by decide +kernel
theorem o18_71 : zop 18 71 = some (.goto (-31), 3) := by decide +kernel
theorem o18_74 : zop 18 74 = some (.aload_n 0, 1) := by decide +kernel
theorem o18_75 : zop 18 75 = some (.getfield 201, 3) := by decide +kernel
theorem o18_78 : zop 18 78 = some (.iload 5, 2) := by decide +kernel
theorem o18_80 : zop 18 80 = some (.iload_n 3, 1) := by decide +kernel
theorem o18_81 : zop 18 81 = some (.iadd, 1) := by decide +kernel
theorem o18_82 : zop 18 82 = some (.iload 4, 2) := by decide +kernel
theorem o18_84 : zop 18 84 = some (.iastore, 1) := by decide +kernel
theorem o18_85 : zop 18 85 = some (.aload_n 0, 1) := by decide +kernel
theorem o18_86 : zop 18 86 = some (.getfield 200, 3) := by decide +kernel
theorem o18_89 : zop 18 89 = some (.iload_n 2, 1) := by decide +kernel
theorem o18_90 : zop 18 90 = some (.dup2, 1) := by decide +kernel
theorem o18_91 : zop 18 91 = some (.iaload, 1) := by decide +kernel
theorem o18_92 : zop 18 92 = some (.iconst 1, 1) := by decide +kernel
theorem o18_93 : zop 18 93 = some (.iadd, 1) := by decide +kernel
theorem o18_94 : zop 18 94 = some (.iastore, 1) := by decide +kernel
theorem o18_95 : zop 18 95 = some (.aload_n 0, 1) := by decide +kernel
theorem o18_96 : zop 18 96 = some (.getfield 202, 3) := by decide +kernel
theorem o18_99 : zop 18 99 = some (.iload_n 2, 1) := by decide +kernel
theorem o18_100 : zop 18 100 = some (.bipush 6, 2) := by decide +kernel
theorem o18_102 : zop 18 102 = some (.imul, 1) := by decide +kernel
theorem o18_103 : zop 18 103 = some (.aload_n 1, 1) := by decide +kernel
theorem o18_104 : zop 18 104 = some (.getfield 702, 3) := by decide +kernel
theorem o18_107 : zop 18 107 = some (.iload 4, 2) := by decide +kernel
theorem o18_109 : zop 18 109 = some (.iaload, 1) := by decide +kernel
theorem o18_110 : zop 18 110 = some (.iadd, 1) := by decide +kernel
theorem o18_111 : zop 18 111 = some (.dup2, 1) := by decide +kernel
theorem o18_112 : zop 18 112 = some (.iaload, 1) := by decide +kernel
theorem o18_113 : zop 18 113 = some (.iconst 1, 1) := by decide +kernel
theorem o18_114 : zop 18 114 = some (.iadd, 1) := by decide +kernel
theorem o18_115 : zop 18 115 = some (.iastore, 1) := by decide +kernel
theorem o18_116 : zop 18 116 = some (.return_, 1) := by decide +kernel
theorem o19_0 : zop 19 0 = some (.iconst 0, 1) := by decide +kernel
theorem o19_1 : zop 19 1 = some (.aload_n 1, 1) := by decide +kernel
theorem o19_2 : zop 19 2 = some (.getfield 700, 3) := by decide +kernel
theorem o19_5 : zop 19 5 = some (.iload_n 2, 1) := by decide +kernel
theorem o19_6 : zop 19 6 = some (.iaload, 1) := by decide +kernel
theorem o19_7 : zop 19 7 = some (.aload_n 0, 1) := by decide +kernel
theorem o19_8 : zop 19 8 = some (.getfield 200, 3) := by decide +kernel
theorem o19_11 : zop 19 11 = some (.iload_n 2, 1) := by decide +kernel
theorem o19_12 : zop 19 12 = some (.iaload, 1) := by decide +kernel
theorem o19_13 : zop 19 13 = some (.isub, 1) := by decide +kernel
theorem o19_14 : zop 19 14 = some (.invokestatic 1002, 3) := by decide +kernel
theorem o19_17 : zop 19 17 = some (.ireturn, 1) := by decide +kernel
theorem o20_0 : zop 20 0 = some (.iconst 0, 1) := by decide +kernel
theorem o20_1 : zop 20 1 = some (.istore_n 2, 1) := by decide +kernel
theorem o20_2 : zop 20 2 = some (.iconst 0, 1) := by decide +kernel
theorem o20_3 : zop 20 3 = some (.istore_n 3, 1) := by decide +kernel
theorem o20_4 : zop 20 4 = some (.iload_n 3, 1) := by decide +kernel
theorem o20_5 : zop 20 5 = some (.aload_n 1, 1) := by decide +kernel
theorem o20_6 : zop 20 6 = some (.getfield 708, 3) := by decide +kernel
theorem o20_9 : zop 20 9 = some (.if_icmp .ge 18, 3) := by decide +kernel
theorem o20_12 : zop 20 12 = some (.iload_n 2, 1) := by decide +kernel
theorem o20_13 : zop 20 13 = some (.aload_n 0, 1) := by decide +kernel
theorem o20_14 : zop 20 14 = some (.aload_n 1, 1) := by decide +kernel
theorem o20_15 : zop 20 15 = some (.iload_n 3, 1) := by decide +kernel
theorem o20_16 : zop 20 16 = some (.invokevirtual 19, 3) := by decide +kernel
theorem o20_19 : zop 20 19 = some (.iadd, 1) := by decide +kernel
theorem o20_20 : zop 20 20 = some (.istore_n 2, 1) := by decide +kernel
theorem o20_21 : zop 20 21 = some (.iinc 3 1, 3) := by decide +kernel
theorem o20_24 : zop 20 24 = some (.goto (-20), 3) := by decide +kernel
theorem o20_27 : zop 20 27 = some (.iload_n 2, 1) := by decide +kernel
theorem o20_28 : zop 20 28 = some (.ireturn, 1) := by decide +kernel
theorem o21_0 : zop 21 0 = some (.aload_n 0, 1) := by decide +kernel
theorem o21_1 : zop 21 1 = some (.getfield 202, 3) := by decide +kernel
theorem o21_4 : zop 21 4 = some (.iload_n 1, 1) := by decide +kernel
theorem o21_5 : zop 21 5 = some (.bipush 6, 2) := by decide +kernel
theorem o21_7 : zop 21 7 = some (.imul, 1) := by decide +kernel
theorem o21_8 : zop 21 8 = some (.iload_n 2, 1) := by decide +kernel
theorem o21_9 : zop 21 9 = some (.iadd, 1) := by decide +kernel
theorem o21_10 : zop 21 10 = some (.iaload, 1) := by decide +kernel
theorem o21_11 : zop 21 11 = some (.ireturn, 1) := by decide +kernel
theorem o22_0 : zop 22 0 = some (.iconst (-1), 1) := by decide +kernel
theorem o22_1 : zop 22 1 = some (.istore 4, 2) := by decide +kernel
theorem o22_3 : zop 22 3 = some (.aload_n 1, 1) := by decide +kernel
theorem o22_4 : zop 22 4 = some (.getfield 704, 3) := by decide +kernel
theorem o22_7 : zop 22 7 = some (.iload_n 2, 1) := by decide +kernel
theorem o22_8 : zop 22 8 = some (.iaload, 1) := by decide +kernel
theorem o22_9 : zop 22 9 = some (.iconst 1, 1) := by decide +kernel
theorem o22_10 : zop 22 10 = some (.if_icmp .ne 14, 3) := by decide +kernel
theorem o22_13 : zop 22 13 = some (.aload_n 0, 1) := by decide +kernel
theorem o22_14 : zop 22 14 = some (.aload_n 1, 1) := by decide +kernel
theorem o22_15 : zop 22 15 = some (.iload_n 3, 1) := by decide +kernel
theorem o22_16 : zop 22 16 = some (.invokevirtual 23, 3) := by decide +kernel
theorem o22_19 : zop 22 19 = some (.istore 4, 2) := by decide +kernel
theorem o22_21 : zop 22 21 = some (.goto 27, 3) := by decide +kernel
theorem o22_24 : zop 22 24 = some (.aload_n 1, 1) := by decide +kernel
theorem o22_25 : zop 22 25 = some (.getfield 704, 3) := by decide +kernel
theorem o22_28 : zop 22 28 = some (.iload_n 2, 1) := by decide +kernel
theorem o22_29 : zop 22 29 = some (.iaload, 1) := by decide +kernel
theorem o22_30 : zop 22 30 = some (.iconst 2, 1) := by decide +kernel
theorem o22_31 : zop 22 31 = some (.if_icmp .ne 17, 3) := by decide +kernel
theorem o22_34 : zop 22 34 = some (.aload_n 0, 1) := by decide +kernel
theorem o22_35 : zop 22 35 = some (.aload_n 1, 1) := by decide +kernel
theorem o22_36 : zop 22 36 = some (.iload_n 3, 1) := by decide +kernel
theorem o22_37 : zop 22 37 = some (.aload_n 1, 1) := by decide +kernel
theorem o22_38 : zop 22 38 = some (.getfield 706, 3) := by decide +kernel
theorem o22_41 : zop 22 41 = some (.iload_n 2, 1) := by decide +kernel
theorem o22_42 : zop 22 42 = some (.iaload, 1) := by decide +kernel
theorem o22_43 : zop 22 43 = some (.invokevirtual 25, 3) := by decide +kernel
theorem o22_46 : zop 22 46 = some (.istore 4, 2) := by decide +kernel
theorem o22_48 : zop 22 48 = some (.iload 4, 2) := by decide +kernel
theorem o22_50 : zop 22 50 = some (.iconst (-1), 1) := by decide +kernel
theorem o22_51 : zop 22 51 = some (.if_icmp .ne 14, 3) := by decide +kernel
theorem o22_54 : zop 22 54 = some (.aload_n 0, 1) := by decide +kernel
theorem o22_55 : zop 22 55 = some (.getfield 200, 3) := by decide +kernel
theorem o22_58 : zop 22 58 = some (.iload_n 3, 1) := by decide +kernel
theorem o22_59 : zop 22 59 = some (.iaload, 1) := by decide +kernel
theorem o22_60 : zop 22 60 = some (.iconst 1, 1) := by decide +kernel
theorem o22_61 : zop 22 61 = some (.isub, 1) := by decide +kernel
theorem o22_62 : zop 22 62 = some (.goto 5, 3) := by decide +kernel
theorem o22_65 : zop 22 65 = some (.iload 4, 2) := by decide +kernel
theorem o22_67 : zop 22 67 = some (.ireturn, 1) := by decide +kernel
theorem o23_0 : zop 23 0 = some (.iconst (-1), 1) := by decide +kernel
theorem o23_1 : zop 23 1 = some (.istore_n 3, 1) := by decide +kernel
theorem o23_2 : zop 23 2 = some (.iconst (-1), 1) := by decide +kernel
theorem o23_3 : zop 23 3 = some (.istore 4, 2) := by decide +kernel
theorem o23_5 : zop 23 5 = some (.iconst 0, 1) := by decide +kernel
theorem o23_6 : zop 23 6 = some (.istore 5, 2) := by decide +kernel
theorem o23_8 : zop 23 8 = some (.iload 5, 2) := by decide +kernel
theorem o23_10 : zop 23 10 = some (.aload_n 0, 1) := by decide +kernel
theorem o23_11 : zop 23 11 = some (.getfield 200, 3) := by decide +kernel
theorem o23_14 : zop 23 14 = some (.iload_n 2, 1) := by decide +kernel
theorem o23_15 : zop 23 15 = some (.iaload, 1) := by decide +kernel
theorem o23_16 : zop 23 16 = some (.if_icmp .ge 36, 3) := by decide +kernel
theorem o23_19 : zop 23 19 = some (.aload_n 1, 1) := by decide +kernel
theorem o23_20 : zop 23 20 = some (.getfield 703, 3) := by decide +kernel
theorem o23_23 : zop 23 23 = some (.aload_n 0, 1) := by decide +kernel
theorem o23_24 : zop 23 24 = some (.iload_n 2, 1) := by decide +kernel
theorem o23_25 : zop 23 25 = some (.iload 5, 2) := by decide +kernel
theorem o23_27 : zop 23 27 = some (.invokevirtual 24, 3) := by decide +kernel
theorem o23_30 : zop 23 30 = some (.iaload, 1) := by decide +kernel
theorem o23_31 : zop 23 31 = some (.istore 6, 2) := by decide +kernel
theorem o23_33 : zop 23 33 = some (.iload 6, 2) := by decide +kernel
theorem o23_35 : zop 23 35 = some (.iload_n 3, 1) := by decide +kernel
theorem o23_36 : zop 23 36 = some (.if_icmp .lt 10, 3) := by decide +kernel
theorem o23_39 : zop 23 39 = some (.iload 6, 2) := by decide +kernel
theorem o23_41 : zop 23 41 = some (.istore_n 3, 1) := by decide +kernel
theorem o23_42 : zop 23 42 = some (.iload 5, 2) := by decide +kernel
theorem o23_44 : zop 23 44 = some (.istore 4, 2) := by decide +kernel
theorem o23_46 : zop 23 46 = some (.iinc 5 1, 3) := by decide +kernel
theorem o23_49 : zop 23 49 = some (.goto (-41), 3) := by decide +kernel
theorem o23_52 : zop 23 52 = some (.iload 4, 2) := by decide +kernel
theorem o23_54 : zop 23 54 = some (.ireturn, 1) := by decide +kernel
theorem o24_0 : zop 24 0 = some (.aload_n 0, 1) := by decide +kernel
theorem o24_1 : zop 24 1 = some (.getfield 201, 3) := by decide +kernel
theorem o24_4 : zop 24 4 = some (.iload_n 1, 1) := by decide +kernel
theorem o24_5 : zop 24 5 = some (.bipush 40, 2) := by decide +kernel
theorem o24_7 : zop 24 7 = some (.imul, 1) := by decide +kernel
theorem o24_8 : zop 24 8 = some (.iload_n 2, 1) := by decide +kernel
theorem o24_9 : zop 24 9 = some (.iadd, 1) := by decide +kernel
theorem o24_10 : zop 24 10 = some (.iaload, 1) := by decide +kernel
theorem o24_11 : zop 24 11 = some (.ireturn, 1) := by decide +kernel
theorem o25_0 : zop 25 0 = some (.aload_n 0, 1) := by decide +kernel
theorem o25_1 : zop 25 1 = some (.getfield 200, 3) := by decide +kernel
theorem o25_4 : zop 25 4 = some (.iload_n 2, 1) := by decide +kernel
theorem o25_5 : zop 25 5 = some (.iaload, 1) := by decide +kernel
theorem o25_6 : zop 25 6 = some (.iconst 1, 1) := by decide +kernel
theorem o25_7 : zop 25 7 = some (.isub, 1) := by decide +kernel
theorem o25_8 : zop 25 8 = some (.istore 4, 2) := by decide +kernel
theorem o25_10 : zop 25 10 = some (.iload 4, 2) := by decide +kernel
theorem o25_12 : zop 25 12 = some (.ifCond .lt 28, 3) := by decide +kernel
theorem o25_15 : zop 25 15 = some (.aload_n 1, 1) := by decide +kernel
theorem o25_16 : zop 25 16 = some (.getfield 702, 3) := by decide +kernel
theorem o25_19 : zop 25 19 = some (.aload_n 0, 1) := by decide +kernel
theorem o25_20 : zop 25 20 = some (.iload_n 2, 1) := by decide +kernel
theorem o25_21 : zop 25 21 = some (.iload 4, 2) := by decide +kernel
theorem o25_23 : zop 25 23 = some (.invokevirtual 24, 3) := by decide +kernel
theorem o25_26 : zop 25 26 = some (.iaload, 1) := by decide +kernel
theorem o25_27 : zop 25 27 = some (.iload_n 3, 1) := by decide +kernel
theorem o25_28 : zop 25 28 = some (.if_icmp .ne 6, 3) := by decide +kernel
theorem o25_31 : zop 25 31 = some (.iload 4, 2) := by decide +kernel
theorem o25_33 : zop 25 33 = some (.ireturn, 1) := by decide +kernel
theorem o25_34 : zop 25 34 = some (.iinc 4 (-1), 3) := by decide +kernel
theorem o25_37 : zop 25 37 = some (.goto (-27), 3) := by decide +kernel
theorem o25_40 : zop 25 40 = some (.iconst (-1), 1) := by decide +kernel
theorem o25_41 : zop 25 41 = some (.ireturn, 1) := by decide +kernel
theorem o26_0 : zop 26 0 = some (.aload_n 1, 1) := by decide +kernel
theorem o26_1 : zop 26 1 = some (.getfield 200, 3) := by decide +kernel
theorem o26_4 : zop 26 4 = some (.iconst 0, 1) := by decide +kernel
theorem o26_5 : zop 26 5 = some (.aload_n 0, 1) := by decide +kernel
theorem o26_6 : zop 26 6 = some (.getfield 200, 3) := by decide +kernel
theorem o26_9 : zop 26 9 = some (.iconst 0, 1) := by decide +kernel
theorem o26_10 : zop 26 10 = some (.bipush 6, 2) := by decide +kernel
theorem o26_12 : zop 26 12 = some (.invokestatic 1003, 3) := by decide +kernel
theorem o26_15 : zop 26 15 = some (.aload_n 1, 1) := by decide +kernel
theorem o26_16 : zop 26 16 = some (.getfield 201, 3) := by decide +kernel
theorem o26_19 : zop 26 19 = some (.iconst 0, 1) := by decide +kernel
theorem o26_20 : zop 26 20 = some (.aload_n 0, 1) := by decide +kernel
theorem o26_21 : zop 26 21 = some (.getfield 201, 3) := by decide +kernel
theorem o26_24 : zop 26 24 = some (.iconst 0, 1) := by decide +kernel
theorem o26_25 : zop 26 25 = some (.sipush 240, 3) := by decide +kernel
theorem o26_28 : zop 26 28 = some (.invokestatic 1003, 3) := by decide +kernel
theorem o26_31 : zop 26 31 = some (.aload_n 1, 1) := by decide +kernel
theorem o26_32 : zop 26 32 = some (.getfield 202, 3) := by decide +kernel
theorem o26_35 : zop 26 35 = some (.iconst 0, 1) := by decide +kernel
theorem o26_36 : zop 26 36 = some (.aload_n 0, 1) := by decide +kernel
theorem o26_37 : zop 26 37 = some (.getfield 202, 3) := by decide +kernel
theorem o26_40 : zop 26 40 = some (.iconst 0, 1) := by decide +kernel
theorem o26_41 : zop 26 41 = some (.bipush 36, 2) := by decide +kernel
theorem o26_43 : zop 26 43 = some (.invokestatic 1003, 3) := by decide +kernel
theorem o26_46 : zop 26 46 = some (.return_, 1) := by decide +kernel
theorem o27_0 : zop 27 0 = some (.aload_n 0, 1) := by decide +kernel
theorem o27_1 : zop 27 1 = some (.getfield 200, 3) := by decide +kernel
theorem o27_4 : zop 27 4 = some (.iconst 0, 1) := by decide +kernel
theorem o27_5 : zop 27 5 = some (.invokestatic 233, 3) := by decide +kernel
theorem o27_8 : zop 27 8 = some (.aload_n 0, 1) := by decide +kernel
theorem o27_9 : zop 27 9 = some (.getfield 202, 3) := by decide +kernel
theorem o27_12 : zop 27 12 = some (.iconst 0, 1) := by decide +kernel
theorem o27_13 : zop 27 13 = some (.invokestatic 233, 3) := by decide +kernel
theorem o27_16 : zop 27 16 = some (.iconst 0, 1) := by decide +kernel
theorem o27_17 : zop 27 17 = some (.istore_n 2, 1) := by decide +kernel
theorem o27_18 : zop 27 18 = some (.iload_n 2, 1) := by decide +kernel
theorem o27_19 : zop 27 19 = some (.aload_n 1, 1) := by decide +kernel
theorem o27_20 : zop 27 20 = some (.getfield 709, 3) := by decide +kernel
theorem o27_23 : zop 27 23 = some (.if_icmp .ge 29, 3) := by decide +kernel
theorem o27_26 : zop 27 26 = some (.aload_n 1, 1) := by decide +kernel
theorem o27_27 : zop 27 27 = some (.getfield 702, 3) := by decide +kernel
theorem o27_30 : zop 27 30 = some (.iload_n 2, 1) := by decide +kernel
theorem o27_31 : zop 27 31 = some (.iaload, 1) := by decide +kernel
theorem o27_32 : zop 27 32 = some (.istore_n 3, 1) := by decide +kernel
theorem o27_33 : zop 27 33 = some (.aload_n 0, 1) := by decide +kernel
theorem o27_34 : zop 27 34 = some (.aload_n 1, 1) := by decide +kernel
theorem o27_35 : zop 27 35 = some (.iload_n 3, 1) := by decide +kernel
theorem o27_36 : zop 27 36 = some (.aload_n 0, 1) := by decide +kernel
theorem o27_37 : zop 27 37 = some (.getfield 200, 3) := by decide +kernel
theorem o27_40 : zop 27 40 = some (.iload_n 3, 1) := by decide +kernel
theorem o27_41 : zop 27 41 = some (.iaload, 1) := by decide +kernel
theorem o27_42 : zop 27 42 = some (.iload_n 2, 1) := by decide +kernel
theorem o27_43 : zop 27 43 = some (.invokevirtual 18, 3) := by decide +kernel
theorem o27_46 : zop 27 46 = some (.iinc 2 1, 3) := by decide +kernel
theorem o27_49 : zop 27 49 = some (.goto (-31), 3) := by decide +kernel
theorem o27_52 : zop 27 52 = some (.return_, 1) := by decide +kernel
theorem o28_0 : zop 28 0 = some (.iconst 0, 1) := by decide +kernel
theorem o28_1 : zop 28 1 = some (.istore_n 2, 1) := by decide +kernel
theorem o28_2 : zop 28 2 = some (.iload_n 2, 1) := by decide +kernel
theorem o28_3 : zop 28 3 = some (.bipush 6, 2) := by decide +kernel
theorem o28_5 : zop 28 5 = some (.if_icmp .ge 39, 3) := by decide +kernel
theorem o28_8 : zop 28 8 = some (.iconst 0, 1) := by decide +kernel
theorem o28_9 : zop 28 9 = some (.istore_n 3, 1) := by decide +kernel
theorem o28_10 : zop 28 10 = some (.iload_n 3, 1) := by decide +kernel
theorem o28_11 : zop 28 11 = some (.aload_n 0, 1) := by decide +kernel
theorem o28_12 : zop 28 12 = some (.getfield 200, 3) := by decide +kernel
theorem o28_15 : zop 28 15 = some (.iload_n 2, 1) := by decide +kernel
theorem o28_16 : zop 28 16 = some (.iaload, 1) := by decide +kernel
theorem o28_17 : zop 28 17 = some (.if_icmp .ge 21, 3) := by decide +kernel
theorem o28_20 : zop 28 20 = some (.aload_n 0, 1) := by decide +kernel
theorem o28_21 : zop 28 21 = some (.iload_n 2, 1) := by decide +kernel
theorem o28_22 : zop 28 22 = some (.iload_n 3, 1) := by decide +kernel
theorem o28_23 : zop 28 23 = some (.invokevirtual 24, 3) := by decide +kernel
theorem o28_26 : zop 28 26 = some (.iload_n 1, 1) := by decide +kernel
theorem o28_27 : zop 28 27 = some (.if_icmp .ne 5, 3) := by decide +kernel
theorem o28_30 : zop 28 30 = some (.iload_n 3, 1) := by decide +kernel
theorem o28_31 : zop 28 31 = some (.ireturn, 1) := by decide +kernel
theorem o28_32 : zop 28 32 = some (.iinc 3 1, 3) := by decide +kernel
theorem o28_35 : zop 28 35 = some (.goto (-25), 3) := by decide +kernel
theorem o28_38 : zop 28 38 = some (.iinc 2 1, 3) := by decide +kernel
theorem o28_41 : zop 28 41 = some (.goto (-39), 3) := by decide +kernel
theorem o28_44 : zop 28 44 = some (.iconst (-1), 1) := by decide +kernel
theorem o28_45 : zop 28 45 = some (.ireturn, 1) := by decide +kernel
theorem o29_0 : zop 29 0 = some (.iconst 0, 1) := by decide +kernel
theorem o29_1 : zop 29 1 = some (.istore 4, 2) := by decide +kernel
theorem o29_3 : zop 29 3 = some (.iconst 0, 1) := by decide +kernel
theorem o29_4 : zop 29 4 = some (.istore 5, 2) := by decide +kernel
theorem o29_6 : zop 29 6 = some (.iconst 0, 1) := by decide +kernel
theorem o29_7 : zop 29 7 = some (.istore 6, 2) := by decide +kernel
theorem o29_9 : zop 29 9 = some (.iload 6, 2) := by decide +kernel
theorem o29_11 : zop 29 11 = some (.aload_n 0, 1) := by decide +kernel
theorem o29_12 : zop 29 12 = some (.getfield 200, 3) := by decide +kernel
theorem o29_15 : zop 29 15 = some (.iload_n 2, 1) := by decide +kernel
theorem o29_16 : zop 29 16 = some (.iaload, 1) := by decide +kernel
theorem o29_17 : zop 29 17 = some (.if_icmp .ge 67, 3) := by decide +kernel
theorem o29_20 : zop 29 20 = some (.aload_n 0, 1) := by decide +kernel
theorem o29_21 : zop 29 21 = some (.iload_n 2, 1) := by decide +kernel
theorem o29_22 : zop 29 22 = some (.iload 6, 2) := by decide +kernel
theorem o29_24 : zop 29 24 = some (.invokevirtual 24, 3) := by decide +kernel
theorem o29_27 : zop 29 27 = some (.istore 7, 2) := by decide +kernel
theorem o29_29 : zop 29 29 = some (.bipush 10, 2) := by decide +kernel
theorem o29_31 : zop 29 31 = some (.aload_n 1, 1) := by decide +kernel
theorem o29_32 : zop 29 32 = some (.getfield 703, 3) := by decide +kernel
theorem o29_35 : zop 29 35 = some (.iload 7, 2) := by decide +kernel
theorem o29_37 : zop 29 37 = some (.iaload, 1) := by decide +kernel
theorem o29_38 : zop 29 38 = some (.isub, 1) := by decide +kernel
theorem o29_39 : zop 29 39 = some (.aload_n 1, 1) := by decide +kernel
theorem o29_40 : zop 29 40 = some (.getfield 702, 3) := by decide +kernel
theorem o29_43 : zop 29 43 = some (.iload 7, 2) := by decide +kernel
theorem o29_45 : zop 29 45 = some (.iaload, 1) := by decide +kernel
theorem o29_46 : zop 29 46 = some (.iload_n 3, 1) := by decide +kernel
theorem o29_47 : zop 29 47 = some (.if_icmp .ne 7, 3) := by decide +kernel
theorem o29_50 : zop 29 50 = some (.iconst 0, 1) := by decide +kernel
theorem o29_51 : zop 29 51 = some (.goto 4, 3) := by decide +kernel
theorem o29_54 : zop 29 54 = some (.iconst 5, 1) := by decide +kernel
theorem o29_55 : zop 29 55 = some (.iadd, 1) := by decide +kernel
theorem o29_56 : zop 29 56 = some (.istore 8, 2) := by decide +kernel
theorem o29_58 : zop 29 58 = some (.iload 4, 2) := by decide +kernel
theorem o29_60 : zop 29 60 = some (.iload 5, 2) := by decide +kernel
theorem o29_62 : zop 29 62 = some (.invokestatic 1001, 3) := by decide +kernel
theorem o29_65 : zop 29 65 = some (.iload 8, 2) := by decide +kernel
theorem o29_67 : zop 29 67 = some (.iadd, 1) := by decide +kernel
theorem o29_68 : zop 29 68 = some (.istore 9, 2) := by decide +kernel
theorem o29_70 : zop 29 70 = some (.iload 5, 2) := by decide +kernel
theorem o29_72 : zop 29 72 = some (.istore 4, 2) := by decide +kernel
theorem o29_74 : zop 29 74 = some (.iload 9, 2) := by decide +kernel
theorem o29_76 : zop 29 76 = some (.istore 5, 2) := by decide +kernel
theorem o29_78 : zop 29 78 = some (.iinc 6 1, 3) := by decide +kernel
theorem o29_81 : zop 29 81 = some (.goto (-72), 3) := by decide +kernel
theorem o29_84 : zop 29 84 = some (.iload 4, 2) := by decide +kernel
theorem o29_86 : zop 29 86 = some (.iload 5, 2) := by decide +kernel
theorem o29_88 : zop 29 88 = some (.invokestatic 1001, 3) := by decide +kernel
theorem o29_91 : zop 29 91 = some (.ireturn, 1) := by decide +kernel
theorem o30_0 : zop 30 0 = some (.aload_n 0, 1) := by decide +kernel
theorem o30_1 : zop 30 1 = some (.getfield 200, 3) := by decide +kernel
theorem o30_4 : zop 30 4 = some (.iload_n 1, 1) := by decide +kernel
theorem o30_5 : zop 30 5 = some (.iaload, 1) := by decide +kernel
theorem o30_6 : zop 30 6 = some (.istore 4, 2) := by decide +kernel
theorem o30_8 : zop 30 8 = some (.iload 4, 2) := by decide +kernel
theorem o30_10 : zop 30 10 = some (.iconst 2, 1) := by decide +kernel
theorem o30_11 : zop 30 11 = some (.if_icmp .ge 4, 3) := by decide +kernel
theorem o30_14 : zop 30 14 = some (.return_, 1) := by decide +kernel
theorem o30_15 : zop 30 15 = some (.iload_n 1, 1) := by decide +kernel
theorem o30_16 : zop 30 16 = some (.bipush 40, 2) := by decide +kernel
theorem o30_18 : zop 30 18 = some (.imul, 1) := by decide +kernel
theorem o30_19 : zop 30 19 = some (.istore 5, 2) := by decide +kernel
theorem o30_21 : zop 30 21 = some (.iload_n 2, 1) := by decide +kernel
theorem o30_22 : zop 30 22 = some (.istore 6, 2) := by decide +kernel
theorem o30_24 : zop 30 24 = some (.iconst 0, 1) := by decide +kernel
theorem o30_25 : zop 30 25 = some (.istore 7, 2) := by decide +kernel
theorem o30_27 : zop 30 27 = some (.iload 7, 2) := by decide +kernel
theorem o30_29 : zop 30 29 = some (.iload_n 3, 1) := by decide +kernel
theorem o30_30 : zop 30 30 = some (.if_icmp .ge 97, 3) := by decide +kernel
theorem o30_33 : zop 30 33 = some (.iload 6, 2) := by decide +kernel
theorem o30_35 : zop 30 35 = some (.ldc 1000, 2) := by decide +kernel
theorem o30_37 : zop 30 37 = some (.imul, 1) := by decide +kernel
theorem o30_38 : zop 30 38 = some (.sipush 12345, 3) := by decide +kernel
theorem o30_41 : zop 30 41 = some (.iadd, 1) := by decide +kernel
theorem o30_42 : zop 30 42 = some (.istore 6, 2) := by decide +kernel
theorem o30_44 : zop 30 44 = some (.iload 5, 2) := by decide +kernel
theorem o30_46 : zop 30 46 = some (.iload 6, 2) := by decide +kernel
theorem o30_48 : zop 30 48 = some (.bipush 16, 2) := by decide +kernel
theorem o30_50 : zop 30 50 = some (.iushr, 1) := by decide +kernel
theorem o30_51 : zop 30 51 = some (.sipush 32767, 3) := by decide +kernel
theorem o30_54 : zop 30 54 = some (.iand, 1) := by decide +kernel
theorem o30_55 : zop 30 55 = some (.iload 4, 2) := by decide +kernel
theorem o30_57 : zop 30 57 = some (.irem, 1) := by decide +kernel
theorem o30_58 : zop 30 58 = some (.iadd, 1) := by decide +kernel
theorem o30_59 : zop 30 59 = some (.istore 8, 2) := by decide +kernel
theorem o30_61 : zop 30 61 = some (.iload 6, 2) := by decide +kernel
theorem o30_63 : zop 30 63 = some (.ldc 1000, 2) := by decide +kernel
theorem o30_65 : zop 30 65 = some (.imul, 1) := by decide +kernel
theorem o30_66 : zop 30 66 = some (.sipush 12345, 3) := by decide +kernel
theorem o30_69 : zop 30 69 = some (.iadd, 1) := by decide +kernel
theorem o30_70 : zop 30 70 = some (.istore 6, 2) := by decide +kernel
theorem o30_72 : zop 30 72 = some (.iload 5, 2) := by decide +kernel
theorem o30_74 : zop 30 74 = some (.iload 6, 2) := by decide +kernel
theorem o30_76 : zop 30 76 = some (.bipush 16, 2) := by decide +kernel
theorem o30_78 : zop 30 78 = some (.iushr, 1) := by decide +kernel
theorem o30_79 : zop 30 79 = some (.sipush 32767, 3) := by decide +kernel
theorem o30_82 : zop 30 82 = some (.iand, 1) := by decide +kernel
theorem o30_83 : zop 30 83 = some (.iload 4, 2) := by decide +kernel
theorem o30_85 : zop 30 85 = some (.irem, 1) := by decide +kernel
theorem o30_86 : zop 30 86 = some (.iadd, 1) := by decide +kernel
theorem o30_87 : zop 30 87 = some (.istore 9, 2) := by decide +kernel
theorem o30_89 : zop 30 89 = some (.aload_n 0, 1) := by decide +kernel
theorem o30_90 : zop 30 90 = some (.getfield 201, 3) := by decide +kernel
theorem o30_93 : zop 30 93 = some (.iload 8, 2) := by decide +kernel
theorem o30_95 : zop 30 95 = some (.iaload, 1) := by decide +kernel
theorem o30_96 : zop 30 96 = some (.istore 10, 2) := by decide +kernel
theorem o30_98 : zop 30 98 = some (.aload_n 0, 1) := by decide +kernel
theorem o30_99 : zop 30 99 = some (.getfield 201, 3) := by decide +kernel
theorem o30_102 : zop 30 102 = some (.iload 8, 2) := by decide +kernel
theorem o30_104 : zop 30 104 = some (.aload_n 0, 1) := by decide +kernel
theorem o30_105 : zop 30 105 = some (.getfield 201, 3) := by decide +kernel
theorem o30_108 : zop 30 108 = some (.iload 9, 2) := by decide +kernel
theorem o30_110 : zop 30 110 = some (.iaload, 1) := by decide +kernel
theorem o30_111 : zop 30 111 = some (.iastore, 1) := by decide +kernel
theorem o30_112 : zop 30 112 = some (.aload_n 0, 1) := by decide +kernel
theorem o30_113 : zop 30 113 = some (.getfield 201, 3) := by decide +kernel
theorem o30_116 : zop 30 116 = some (.iload 9, 2) := by decide +kernel
theorem o30_118 : zop 30 118 = some (.iload 10, 2) := by decide +kernel
theorem o30_120 : zop 30 120 = some (.iastore, 1) := by decide +kernel
theorem o30_121 : zop 30 121 = some (.iinc 7 1, 3) := by decide +kernel
theorem o30_124 : zop 30 124 = some (.goto (-97), 3) := by decide +kernel
theorem o30_127 : zop 30 127 = some (.return_, 1) := by decide +kernel
theorem o31_0 : zop 31 0 = some (.aload_n 0, 1) := by decide +kernel
theorem o31_1 : zop 31 1 = some (.invokespecial 1000, 3) := by decide +kernel
theorem o31_4 : zop 31 4 = some (.aload_n 0, 1) := by decide +kernel
theorem o31_5 : zop 31 5 = some (.sipush 600, 3) := by decide +kernel
theorem o31_8 : zop 31 8 = some (.newarray .byte, 2) := by decide +kernel
theorem o31_10 : zop 31 10 = some (.putfield 300, 3) := by decide +kernel
theorem o31_13 : zop 31 13 = some (.aload_n 0, 1) := by decide +kernel
theorem o31_14 : zop 31 14 = some (.iconst 0, 1) := by decide +kernel
theorem o31_15 : zop 31 15 = some (.putfield 301, 3) := by decide +kernel
theorem o31_18 : zop 31 18 = some (.aload_n 0, 1) := by decide +kernel
theorem o31_19 : zop 31 19 = some (.iconst 0, 1) := by decide +kernel
theorem o31_20 : zop 31 20 = some (.putfield 302, 3) := by decide +kernel
theorem o31_23 : zop 31 23 = some (.aload_n 0, 1) := by decide +kernel
theorem o31_24 : zop 31 24 = some (.iconst 0, 1) := by decide +kernel
theorem o31_25 : zop 31 25 = some (.putfield 303, 3) := by decide +kernel
theorem o31_28 : zop 31 28 = some (.aload_n 0, 1) := by decide +kernel
theorem o31_29 : zop 31 29 = some (.iconst (-1), 1) := by decide +kernel
theorem o31_30 : zop 31 30 = some (.putfield 304, 3) := by decide +kernel
theorem o31_33 : zop 31 33 = some (.aload_n 0, 1) := by decide +kernel
theorem o31_34 : zop 31 34 = some (.iconst 0, 1) := by decide +kernel
theorem o31_35 : zop 31 35 = some (.putfield 305, 3) := by decide +kernel
theorem o31_38 : zop 31 38 = some (.aload_n 0, 1) := by decide +kernel
theorem o31_39 : zop 31 39 = some (.iconst 0, 1) := by decide +kernel
theorem o31_40 : zop 31 40 = some (.putfield 306, 3) := by decide +kernel
theorem o31_43 : zop 31 43 = some (.return_, 1) := by decide +kernel
theorem o32_0 : zop 32 0 = some (.bipush 24, 2) := by decide +kernel
theorem o32_2 : zop 32 2 = some (.istore_n 2, 1) := by decide +kernel
theorem o32_3 : zop 32 3 = some (.iload_n 2, 1) := by decide +kernel
theorem o32_4 : zop 32 4 = some (.ifCond .lt 42, 3) := by decide +kernel
theorem o32_7 : zop 32 7 = some (.aload_n 0, 1) := by decide +kernel
theorem o32_8 : zop 32 8 = some (.getfield 301, 3) := by decide +kernel
theorem o32_11 : zop 32 11 = some (.sipush 600, 3) := by decide +kernel
theorem o32_14 : zop 32 14 = some (.if_icmp .ge 32, 3) := by decide +kernel
theorem o32_17 : zop 32 17 = some (.aload_n 0, 1) := by decide +kernel
theorem o32_18 : zop 32 18 = some (.getfield 300, 3) := by decide +kernel
theorem o32_21 : zop 32 21 = some (.aload_n 0, 1) := by decide +kernel
theorem o32_22 : zop 32 22 = some (.getfield 301, 3) := by decide +kernel
theorem o32_25 : zop 32 25 = some (.iload_n 1, 1) := by decide +kernel
theorem o32_26 : zop 32 26 = some (.iload_n 2, 1) := by decide +kernel
theorem o32_27 : zop 32 27 = some (.ishr, 1) := by decide +kernel
theorem o32_28 : zop 32 28 = some (.i2b, 1) := by decide +kernel
theorem o32_29 : zop 32 29 = some (.bastore, 1) := by decide +kernel
theorem o32_30 : zop 32 30 = some (.aload_n 0, 1) := by decide +kernel
theorem o32_31 : zop 32 31 = some (.dup, 1) := by decide +kernel
theorem o32_32 : zop 32 32 = some (.getfield 301, 3) := by decide +kernel
theorem o32_35 : zop 32 35 = some (.iconst 1, 1) := by decide +kernel
theorem o32_36 : zop 32 36 = some (.iadd, 1) := by decide +kernel
theorem o32_37 : zop 32 37 = some (.putfield 301, 3) := by decide +kernel
theorem o32_40 : zop 32 40 = some (.iinc 2 (-8), 3) := by decide +kernel
theorem o32_43 : zop 32 43 = some (.goto (-40), 3) := by decide +kernel
theorem o32_46 : zop 32 46 = some (.return_, 1) := by decide +kernel
theorem o33_0 : zop 33 0 = some (.aload_n 0, 1) := by decide +kernel
theorem o33_1 : zop 33 1 = some (.iload_n 1, 1) := by decide +kernel
theorem o33_2 : zop 33 2 = some (.sipush 600, 3) := by decide +kernel
theorem o33_5 : zop 33 5 = some (.invokestatic 1001, 3) := by decide +kernel
theorem o33_8 : zop 33 8 = some (.putfield 306, 3) := by decide +kernel
theorem o33_11 : zop 33 11 = some (.aload_n 0, 1) := by decide +kernel
theorem o33_12 : zop 33 12 = some (.iconst 0, 1) := by decide +kernel
theorem o33_13 : zop 33 13 = some (.putfield 305, 3) := by decide +kernel
theorem o33_16 : zop 33 16 = some (.aload_n 0, 1) := by decide +kernel
theorem o33_17 : zop 33 17 = some (.invokevirtual 34, 3) := by decide +kernel
theorem o33_20 : zop 33 20 = some (.return_, 1) := by decide +kernel
theorem o34_0 : zop 34 0 = some (.aload_n 0, 1) := by decide +kernel
theorem o34_1 : zop 34 1 = some (.getfield 305, 3) := by decide +kernel
theorem o34_4 : zop 34 4 = some (.aload_n 0, 1) := by decide +kernel
theorem o34_5 : zop 34 5 = some (.getfield 306, 3) := by decide +kernel
theorem o34_8 : zop 34 8 = some (.if_icmp .ge 31, 3) := by decide +kernel
theorem o34_11 : zop 34 11 = some (.aload_n 0, 1) := by decide +kernel
theorem o34_12 : zop 34 12 = some (.getfield 300, 3) := by decide +kernel
theorem o34_15 : zop 34 15 = some (.aload_n 0, 1) := by decide +kernel
theorem o34_16 : zop 34 16 = some (.getfield 305, 3) := by decide +kernel
theorem o34_19 : zop 34 19 = some (.baload, 1) := by decide +kernel
theorem o34_20 : zop 34 20 = some (.invokestatic 35, 3) := by decide +kernel
theorem o34_23 : zop 34 23 = some (.ifCond .eq 16, 3) := by decide +kernel
theorem o34_26 : zop 34 26 = some (.aload_n 0, 1) := by decide +kernel
theorem o34_27 : zop 34 27 = some (.dup, 1) := by decide +kernel
theorem o34_28 : zop 34 28 = some (.getfield 305, 3) := by decide +kernel
theorem o34_31 : zop 34 31 = some (.iconst 1, 1) := by decide +kernel
theorem o34_32 : zop 34 32 = some (.iadd, 1) := by decide +kernel
theorem o34_33 : zop 34 33 = some (.putfield 305, 3) := by decide +kernel
theorem o34_36 : zop 34 36 = some (.goto (-36), 3) := by decide +kernel
theorem o34_39 : zop 34 39 = some (.aload_n 0, 1) := by decide +kernel
theorem o34_40 : zop 34 40 = some (.aload_n 0, 1) := by decide +kernel
theorem o34_41 : zop 34 41 = some (.getfield 305, 3) := by decide +kernel
theorem o34_44 : zop 34 44 = some (.putfield 303, 3) := by decide +kernel
theorem o34_47 : zop 34 47 = some (.aload_n 0, 1) := by decide +kernel
theorem o34_48 : zop 34 48 = some (.getfield 303, 3) := by decide +kernel
theorem o34_51 : zop 34 51 = some (.aload_n 0, 1) := by decide +kernel
theorem o34_52 : zop 34 52 = some (.getfield 306, 3) := by decide +kernel
theorem o34_55 : zop 34 55 = some (.if_icmp .lt 11, 3) := by decide +kernel
theorem o34_58 : zop 34 58 = some (.aload_n 0, 1) := by decide +kernel
theorem o34_59 : zop 34 59 = some (.iconst 0, 1) := by decide +kernel
theorem o34_60 : zop 34 60 = some (.putfield 302, 3) := by decide +kernel
theorem o34_63 : zop 34 63 = some (.goto 182, 3) := by decide +kernel
theorem o34_66 : zop 34 66 = some (.aload_n 0, 1) := by decide +kernel
theorem o34_67 : zop 34 67 = some (.getfield 300, 3) := by decide +kernel
theorem o34_70 : zop 34 70 = some (.aload_n 0, 1) := by decide +kernel
theorem o34_71 : zop 34 71 = some (.getfield 303, 3) := by decide +kernel
theorem o34_74 : zop 34 74 = some (.baload, 1) := by decide +kernel
theorem o34_75 : zop 34 75 = some (.invokestatic 36, 3) := by decide +kernel
theorem o34_78 : zop 34 78 = some (.ifCond .eq 47, 3) := by decide +kernel
theorem o34_81 : zop 34 81 = some (.aload_n 0, 1) := by decide +kernel
theorem o34_82 : zop 34 82 = some (.iconst 1, 1) := by decide +kernel
theorem o34_83 : zop 34 83 = some (.putfield 302, 3) := by decide +kernel
theorem o34_86 : zop 34 86 = some (.aload_n 0, 1) := by decide +kernel
theorem o34_87 : zop 34 87 = some (.getfield 305, 3) := by decide +kernel
theorem o34_90 : zop 34 90 = some (.aload_n 0, 1) := by decide +kernel
theorem o34_91 : zop 34 91 = some (.getfield 306, 3) := by decide +kernel
theorem o34_94 : zop 34 94 = some (.if_icmp .ge 151, 3) := by decide +kernel
theorem o34_97 : zop 34 97 = some (.aload_n 0, 1) := by decide +kernel
theorem o34_98 : zop 34 98 = some (.getfield 300, 3) := by decide +kernel
theorem o34_101 : zop 34 101 = some (.aload_n 0, 1) := by decide +kernel
theorem o34_102 : zop 34 102 = some (.getfield 305, 3) := by decide +kernel
theorem o34_105 : zop 34 105 = some (.baload, 1) := by decide +kernel
theorem o34_106 : zop 34 106 = some (.invokestatic 36, 3) := by decide +kernel
theorem o34_109 : zop 34 109 = some (.ifCond .eq 136, 3) := by decide +kernel
theorem o34_112 : zop 34 112 = some (.aload_n 0, 1) := by decide +kernel
theorem o34_113 : zop 34 113 = some (.dup, 1) := by decide +kernel
theorem o34_114 : zop 34 114 = some (.getfield 305, 3) := by decide +kernel
theorem o34_117 : zop 34 117 = some (.iconst 1, 1) := by decide +kernel
theorem o34_118 : zop 34 118 = some (.iadd, 1) := by decide +kernel
theorem o34_119 : zop 34 119 = some (.putfield 305, 3) := by decide +kernel
theorem o34_122 : zop 34 122 = some (.goto (-36), 3) := by decide +kernel
theorem o34_125 : zop 34 125 = some (.aload_n 0, 1) := by decide +kernel
theorem o34_126 : zop 34 126 = some (.getfield 300, 3) := by decide +kernel
theorem o34_129 : zop 34 129 = some (.aload_n 0, 1) := by decide +kernel
theorem o34_130 : zop 34 130 = some (.getfield 303, 3) := by decide +kernel
theorem o34_133 : zop 34 133 = some (.baload, 1) := by decide +kernel
theorem o34_134 : zop 34 134 = some (.invokestatic 37, 3) := by decide +kernel
theorem o34_137 : zop 34 137 = some (.ifCond .eq 93, 3) := by decide +kernel
theorem o34_140 : zop 34 140 = some (.aload_n 0, 1) := by decide +kernel
theorem o34_141 : zop 34 141 = some (.iconst 2, 1) := by decide +kernel
theorem o34_142 : zop 34 142 = some (.putfield 302, 3) := by decide +kernel
theorem o34_145 : zop 34 145 = some (.aload_n 0, 1) := by decide +kernel
theorem o34_146 : zop 34 146 = some (.iconst 0, 1) := by decide +kernel
theorem o34_147 : zop 34 147 = some (.putfield 304, 3) := by decide +kernel
theorem o34_150 : zop 34 150 = some (.aload_n 0, 1) := by decide +kernel
theorem o34_151 : zop 34 151 = some (.getfield 305, 3) := by decide +kernel
theorem o34_154 : zop 34 154 = some (.aload_n 0, 1) := by decide +kernel
theorem o34_155 : zop 34 155 = some (.getfield 306, 3) := by decide +kernel
theorem o34_158 : zop 34 158 = some (.if_icmp .ge 87, 3) := by decide +kernel
theorem o34_161 : zop 34 161 = some (.aload_n 0, 1) := by decide +kernel
theorem o34_162 : zop 34 162 = some (.getfield 300, 3) := by decide +kernel
theorem o34_165 : zop 34 165 = some (.aload_n 0, 1) := by decide +kernel
theorem o34_166 : zop 34 166 = some (.getfield 305, 3) := by decide +kernel
theorem o34_169 : zop 34 169 = some (.baload, 1) := by decide +kernel
theorem o34_170 : zop 34 170 = some (.invokestatic 37, 3) := by decide +kernel
theorem o34_173 : zop 34 173 = some (.ifCond .eq 72, 3) := by decide +kernel
theorem o34_176 : zop 34 176 = some (.aload_n 0, 1) := by decide +kernel
theorem o34_177 : zop 34 177 = some (.aload_n 0, 1) := by decide +kernel
theorem o34_178 : zop 34 178 = some (.getfield 305, 3) := by decide +kernel
theorem o34_181 : zop 34 181 = some (.aload_n 0, 1) := by decide +kernel
theorem o34_182 : zop 34 182 = some (.getfield 303, 3) := by decide +kernel
theorem o34_185 : zop 34 185 = some (.isub, 1) := by decide +kernel
theorem o34_186 : zop 34 186 = some (.iconst 4, 1) := by decide +kernel
theorem o34_187 : zop 34 187 = some (.if_icmp .ge 26, 3) := by decide +kernel
theorem o34_190 : zop 34 190 = some (.aload_n 0, 1) := by decide +kernel
theorem o34_191 : zop 34 191 = some (.getfield 304, 3) := by decide +kernel
theorem o34_194 : zop 34 194 = some (.bipush 10, 2) := by decide +kernel
theorem o34_196 : zop 34 196 = some (.imul, 1) := by decide +kernel
theorem o34_197 : zop 34 197 = some (.aload_n 0, 1) := by decide +kernel
theorem o34_198 : zop 34 198 = some (.getfield 300, 3) := by decide +kernel
theorem o34_201 : zop 34 201 = some (.aload_n 0, 1) := by decide +kernel
theorem o34_202 : zop 34 202 = some (.getfield 305, 3) := by decide +kernel
theorem o34_205 : zop 34 205 = some (.baload, 1) := by decide +kernel
theorem o34_206 : zop 34 206 = some (.bipush 48, 2) := by decide +kernel
theorem o34_208 : zop 34 208 = some (.isub, 1) := by decide +kernel
theorem o34_209 : zop 34 209 = some (.iadd, 1) := by decide +kernel
theorem o34_210 : zop 34 210 = some (.goto 4, 3) := by decide +kernel
theorem o34_213 : zop 34 213 = some (.iconst (-1), 1) := by decide +kernel
theorem o34_214 : zop 34 214 = some (.putfield 304, 3) := by decide +kernel
theorem o34_217 : zop 34 217 = some (.aload_n 0, 1) := by decide +kernel
theorem o34_218 : zop 34 218 = some (.dup, 1) := by decide +kernel
theorem o34_219 : zop 34 219 = some (.getfield 305, 3) := by decide +kernel
theorem o34_222 : zop 34 222 = some (.iconst 1, 1) := by decide +kernel
theorem o34_223 : zop 34 223 = some (.iadd, 1) := by decide +kernel
theorem o34_224 : zop 34 224 = some (.putfield 305, 3) := by decide +kernel
theorem o34_227 : zop 34 227 = some (.goto (-77), 3) := by decide +kernel
theorem o34_230 : zop 34 230 = some (.aload_n 0, 1) := by decide +kernel
theorem o34_231 : zop 34 231 = some (.iconst 3, 1) := by decide +kernel
theorem o34_232 : zop 34 232 = some (.putfield 302, 3) := by decide +kernel
theorem o34_235 : zop 34 235 = some (.aload_n 0, 1) := by decide +kernel
theorem o34_236 : zop 34 236 = some (.dup, 1) := by decide +kernel
theorem o34_237 : zop 34 237 = some (.getfield 305, 3) := by decide +kernel
theorem o34_240 : zop 34 240 = some (.iconst 1, 1) := by decide +kernel
theorem o34_241 : zop 34 241 = some (.iadd, 1) := by decide +kernel
theorem o34_242 : zop 34 242 = some (.putfield 305, 3) := by decide +kernel
theorem o34_245 : zop 34 245 = some (.return_, 1) := by decide +kernel
theorem o35_0 : zop 35 0 = some (.iload_n 0, 1) := by decide +kernel
theorem o35_1 : zop 35 1 = some (.bipush 32, 2) := by decide +kernel
theorem o35_3 : zop 35 3 = some (.if_icmp .eq 9, 3) := by decide +kernel
theorem o35_6 : zop 35 6 = some (.iload_n 0, 1) := by decide +kernel
theorem o35_7 : zop 35 7 = some (.bipush 10, 2) := by decide +kernel
theorem o35_9 : zop 35 9 = some (.if_icmp .ne 7, 3) := by decide +kernel
theorem o35_12 : zop 35 12 = some (.iconst 1, 1) := by decide +kernel
theorem o35_13 : zop 35 13 = some (.goto 4, 3) := by decide +kernel
theorem o35_16 : zop 35 16 = some (.iconst 0, 1) := by decide +kernel
theorem o35_17 : zop 35 17 = some (.ireturn, 1) := by decide +kernel
theorem o36_0 : zop 36 0 = some (.iload_n 0, 1) := by decide +kernel
theorem o36_1 : zop 36 1 = some (.bipush 97, 2) := by decide +kernel
theorem o36_3 : zop 36 3 = some (.if_icmp .lt 13, 3) := by decide +kernel
theorem o36_6 : zop 36 6 = some (.iload_n 0, 1) := by decide +kernel
theorem o36_7 : zop 36 7 = some (.bipush 122, 2) := by decide +kernel
theorem o36_9 : zop 36 9 = some (.if_icmp .gt 7, 3) := by decide +kernel
theorem o36_12 : zop 36 12 = some (.iconst 1, 1) := by decide +kernel
theorem o36_13 : zop 36 13 = some (.goto 4, 3) := by decide +kernel
theorem o36_16 : zop 36 16 = some (.iconst 0, 1) := by decide +kernel
theorem o36_17 : zop 36 17 = some (.ireturn, 1) := by decide +kernel
theorem o37_0 : zop 37 0 = some (.iload_n 0, 1) := by decide +kernel
theorem o37_1 : zop 37 1 = some (.bipush 48, 2) := by decide +kernel
theorem o37_3 : zop 37 3 = some (.if_icmp .lt 13, 3) := by decide +kernel
theorem o37_6 : zop 37 6 = some (.iload_n 0, 1) := by decide +kernel
theorem o37_7 : zop 37 7 = some (.bipush 57, 2) := by decide +kernel
theorem o37_9 : zop 37 9 = some (.if_icmp .gt 7, 3) := by decide +kernel
theorem o37_12 : zop 37 12 = some (.iconst 1, 1) := by decide +kernel
theorem o37_13 : zop 37 13 = some (.goto 4, 3) := by decide +kernel
theorem o37_16 : zop 37 16 = some (.iconst 0, 1) := by decide +kernel
theorem o37_17 : zop 37 17 = some (.ireturn, 1) := by decide +kernel
theorem o38_0 : zop 38 0 = some (.aload_n 0, 1) := by decide +kernel
theorem o38_1 : zop 38 1 = some (.getfield 302, 3) := by decide +kernel
theorem o38_4 : zop 38 4 = some (.iconst 1, 1) := by decide +kernel
theorem o38_5 : zop 38 5 = some (.if_icmp .ne 19, 3) := by decide +kernel
theorem o38_8 : zop 38 8 = some (.aload_n 0, 1) := by decide +kernel
theorem o38_9 : zop 38 9 = some (.getfield 305, 3) := by decide +kernel
theorem o38_12 : zop 38 12 = some (.aload_n 0, 1) := by decide +kernel
theorem o38_13 : zop 38 13 = some (.getfield 303, 3) := by decide +kernel
theorem o38_16 : zop 38 16 = some (.isub, 1) := by decide +kernel
theorem o38_17 : zop 38 17 = some (.aload_n 1, 1) := by decide +kernel
theorem o38_18 : zop 38 18 = some (.invokevirtual 226, 3) := by decide +kernel
theorem o38_21 : zop 38 21 = some (.if_icmp .eq 5, 3) := by decide +kernel
theorem o38_24 : zop 38 24 = some (.iconst 0, 1) := by decide +kernel
theorem o38_25 : zop 38 25 = some (.ireturn, 1) := by decide +kernel
theorem o38_26 : zop 38 26 = some (.iconst 0, 1) := by decide +kernel
theorem o38_27 : zop 38 27 = some (.istore_n 2, 1) := by decide +kernel
theorem o38_28 : zop 38 28 = some (.iload_n 2, 1) := by decide +kernel
theorem o38_29 : zop 38 29 = some (.aload_n 1, 1) := by decide +kernel
theorem o38_30 : zop 38 30 = some (.invokevirtual 226, 3) := by decide +kernel
theorem o38_33 : zop 38 33 = some (.if_icmp .ge 30, 3) := by decide +kernel
theorem o38_36 : zop 38 36 = some (.aload_n 0, 1) := by decide +kernel
theorem o38_37 : zop 38 37 = some (.getfield 300, 3) := by decide +kernel
theorem o38_40 : zop 38 40 = some (.aload_n 0, 1) := by decide +kernel
theorem o38_41 : zop 38 41 = some (.getfield 303, 3) := by decide +kernel
theorem o38_44 : zop 38 44 = some (.iload_n 2, 1) := by decide +kernel
theorem o38_45 : zop 38 45 = some (.iadd, 1) := by decide +kernel
theorem o38_46 : zop 38 46 = some (.baload, 1) := by decide +kernel
theorem o38_47 : zop 38 47 = some (.aload_n 1, 1) := by decide +kernel
theorem o38_48 : zop 38 48 = some (.iload_n 2, 1) := by decide +kernel
theorem o38_49 : zop 38 49 = some (.invokevirtual 228, 3) := by decide +kernel
theorem o38_52 : zop 38 52 = some (.if_icmp .eq 5, 3) := by decide +kernel
theorem o38_55 : zop 38 55 = some (.iconst 0, 1) := by decide +kernel
theorem o38_56 : zop 38 56 = some (.ireturn, 1) := by decide +kernel
theorem o38_57 : zop 38 57 = some (.iinc 2 1, 3) := by decide +kernel
theorem o38_60 : zop 38 60 = some (.goto (-32), 3) := by decide +kernel
theorem o38_63 : zop 38 63 = some (.iconst 1, 1) := by decide +kernel
theorem o38_64 : zop 38 64 = some (.ireturn, 1) := by decide +kernel
theorem o39_0 : zop 39 0 = some (.aload_n 0, 1) := by decide +kernel
theorem o39_1 : zop 39 1 = some (.getfield 302, 3) := by decide +kernel
theorem o39_4 : zop 39 4 = some (.iconst 3, 1) := by decide +kernel
theorem o39_5 : zop 39 5 = some (.if_icmp .ne 31, 3) := by decide +kernel
theorem o39_8 : zop 39 8 = some (.aload_n 0, 1) := by decide +kernel
theorem o39_9 : zop 39 9 = some (.getfield 303, 3) := by decide +kernel
theorem o39_12 : zop 39 12 = some (.aload_n 0, 1) := by decide +kernel
theorem o39_13 : zop 39 13 = some (.getfield 306, 3) := by decide +kernel
theorem o39_16 : zop 39 16 = some (.if_icmp .ge 20, 3) := by decide +kernel
theorem o39_19 : zop 39 19 = some (.aload_n 0, 1) := by decide +kernel
theorem o39_20 : zop 39 20 = some (.getfield 300, 3) := by decide +kernel
theorem o39_23 : zop 39 23 = some (.aload_n 0, 1) := by decide +kernel
theorem o39_24 : zop 39 24 = some (.getfield 303, 3) := by decide +kernel
theorem o39_27 : zop 39 27 = some (.baload, 1) := by decide +kernel
theorem o39_28 : zop 39 28 = some (.iload_n 1, 1) := by decide +kernel
theorem o39_29 : zop 39 29 = some (.if_icmp .ne 7, 3) := by decide +kernel
theorem o39_32 : zop 39 32 = some (.iconst 1, 1) := by decide +kernel
theorem o39_33 : zop 39 33 = some (.goto 4, 3) := by decide +kernel
theorem o39_36 : zop 39 36 = some (.iconst 0, 1) := by decide +kernel
theorem o39_37 : zop 39 37 = some (.ireturn, 1) := by decide +kernel
theorem o40_0 : zop 40 0 = some (.aload_n 0, 1) := by decide +kernel
theorem o40_1 : zop 40 1 = some (.invokespecial 1000, 3) := by decide +kernel
theorem o40_4 : zop 40 4 = some (.aload_n 0, 1) := by decide +kernel
theorem o40_5 : zop 40 5 = some (.sipush 600, 3) := by decide +kernel
theorem o40_8 : zop 40 8 = some (.newarray .int, 2) := by decide +kernel
theorem o40_10 : zop 40 10 = some (.putfield 400, 3) := by decide +kernel
theorem o40_13 : zop 40 13 = some (.aload_n 0, 1) := by decide +kernel
theorem o40_14 : zop 40 14 = some (.bipush 6, 2) := by decide +kernel
theorem o40_16 : zop 40 16 = some (.newarray .int, 2) := by decide +kernel
theorem o40_18 : zop 40 18 = some (.putfield 401, 3) := by decide +kernel
theorem o40_21 : zop 40 21 = some (.aload_n 0, 1) := by decide +kernel
theorem o40_22 : zop 40 22 = some (.bipush 40, 2) := by decide +kernel
theorem o40_24 : zop 40 24 = some (.newarray .int, 2) := by decide +kernel
theorem o40_26 : zop 40 26 = some (.putfield 402, 3) := by decide +kernel
theorem o40_29 : zop 40 29 = some (.aload_n 0, 1) := by decide +kernel
theorem o40_30 : zop 40 30 = some (.iconst 0, 1) := by decide +kernel
theorem o40_31 : zop 40 31 = some (.putfield 403, 3) := by decide +kernel
theorem o40_34 : zop 40 34 = some (.aload_n 0, 1) := by decide +kernel
theorem o40_35 : zop 40 35 = some (.iconst 0, 1) := by decide +kernel
theorem o40_36 : zop 40 36 = some (.putfield 404, 3) := by decide +kernel
theorem o40_39 : zop 40 39 = some (.return_, 1) := by decide +kernel
theorem o41_0 : zop 41 0 = some (.aload_n 0, 1) := by decide +kernel
theorem o41_1 : zop 41 1 = some (.getfield 403, 3) := by decide +kernel
theorem o41_4 : zop 41 4 = some (.sipush 600, 3) := by decide +kernel
theorem o41_7 : zop 41 7 = some (.if_icmp .ge 23, 3) := by decide +kernel
theorem o41_10 : zop 41 10 = some (.aload_n 0, 1) := by decide +kernel
theorem o41_11 : zop 41 11 = some (.getfield 400, 3) := by decide +kernel
theorem o41_14 : zop 41 14 = some (.aload_n 0, 1) := by decide +kernel
theorem o41_15 : zop 41 15 = some (.getfield 403, 3) := by decide +kernel
theorem o41_18 : zop 41 18 = some (.iload_n 1, 1) := by decide +kernel
theorem o41_19 : zop 41 19 = some (.iastore, 1) := by decide +kernel
theorem o41_20 : zop 41 20 = some (.aload_n 0, 1) := by decide +kernel
theorem o41_21 : zop 41 21 = some (.dup, 1) := by decide +kernel
theorem o41_22 : zop 41 22 = some (.getfield 403, 3) := by decide +kernel
theorem o41_25 : zop 41 25 = some (.iconst 1, 1) := by decide +kernel
theorem o41_26 : zop 41 26 = some (.iadd, 1) := by decide +kernel
theorem o41_27 : zop 41 27 = some (.putfield 403, 3) := by decide +kernel
theorem o41_30 : zop 41 30 = some (.return_, 1) := by decide +kernel
theorem o42_0 : zop 42 0 = some (.aload_n 1, 1) := by decide +kernel
theorem o42_1 : zop 42 1 = some (.getfield 400, 3) := by decide +kernel
theorem o42_4 : zop 42 4 = some (.iconst 0, 1) := by decide +kernel
theorem o42_5 : zop 42 5 = some (.aload_n 0, 1) := by decide +kernel
theorem o42_6 : zop 42 6 = some (.getfield 400, 3) := by decide +kernel
theorem o42_9 : zop 42 9 = some (.iconst 0, 1) := by decide +kernel
theorem o42_10 : zop 42 10 = some (.sipush 600, 3) := by decide +kernel
theorem o42_13 : zop 42 13 = some (.invokestatic 1003, 3) := by decide +kernel
theorem o42_16 : zop 42 16 = some (.aload_n 0, 1) := by decide +kernel
theorem o42_17 : zop 42 17 = some (.aload_n 1, 1) := by decide +kernel
theorem o42_18 : zop 42 18 = some (.getfield 403, 3) := by decide +kernel
theorem o42_21 : zop 42 21 = some (.putfield 403, 3) := by decide +kernel
theorem o42_24 : zop 42 24 = some (.return_, 1) := by decide +kernel
theorem o43_0 : zop 43 0 = some (.iconst (-1), 1) := by decide +kernel
theorem o43_1 : zop 43 1 = some (.iload_n 1, 1) := by decide +kernel
theorem o43_2 : zop 43 2 = some (.isub, 1) := by decide +kernel
theorem o43_3 : zop 43 3 = some (.istore_n 3, 1) := by decide +kernel
theorem o43_4 : zop 43 4 = some (.iload_n 3, 1) := by decide +kernel
theorem o43_5 : zop 43 5 = some (.ifCond .lt 16, 3) := by decide +kernel
theorem o43_8 : zop 43 8 = some (.iload_n 3, 1) := by decide +kernel
theorem o43_9 : zop 43 9 = some (.bipush 6, 2) := by decide +kernel
theorem o43_11 : zop 43 11 = some (.if_icmp .ge 10, 3) := by decide +kernel
theorem o43_14 : zop 43 14 = some (.aload_n 0, 1) := by decide +kernel
theorem o43_15 : zop 43 15 = some (.getfield 401, 3) := by decide +kernel
theorem o43_18 : zop 43 18 = some (.iload_n 3, 1) := by decide +kernel
theorem o43_19 : zop 43 19 = some (.iload_n 2, 1) := by decide +kernel
theorem o43_20 : zop 43 20 = some (.iastore, 1) := by decide +kernel
theorem o43_21 : zop 43 21 = some (.return_, 1) := by decide +kernel
theorem o44_0 : zop 44 0 = some (.aload_n 0, 1) := by decide +kernel
theorem o44_1 : zop 44 1 = some (.getfield 403, 3) := by decide +kernel
theorem o44_4 : zop 44 4 = some (.ifCond .ne 5, 3) := by decide +kernel
theorem o44_7 : zop 44 7 = some (.iconst 0, 1) := by decide +kernel
theorem o44_8 : zop 44 8 = some (.ireturn, 1) := by decide +kernel
theorem o44_9 : zop 44 9 = some (.aload_n 0, 1) := by decide +kernel
theorem o44_10 : zop 44 10 = some (.iconst 0, 1) := by decide +kernel
theorem o44_11 : zop 44 11 = some (.putfield 404, 3) := by decide +kernel
theorem o44_14 : zop 44 14 = some (.iconst 0, 1) := by decide +kernel
theorem o44_15 : zop 44 15 = some (.istore_n 1, 1) := by decide +kernel
theorem o44_16 : zop 44 16 = some (.iload_n 1, 1) := by decide +kernel
theorem o44_17 : zop 44 17 = some (.aload_n 0, 1) := by decide +kernel
theorem o44_18 : zop 44 18 = some (.getfield 403, 3) := by decide +kernel
theorem o44_21 : zop 44 21 = some (.if_icmp .ge 26, 3) := by decide +kernel
theorem o44_24 : zop 44 24 = some (.iload_n 1, 1) := by decide +kernel
theorem o44_25 : zop 44 25 = some (.sipush 600, 3) := by decide +kernel
theorem o44_28 : zop 44 28 = some (.if_icmp .ge 19, 3) := by decide +kernel
theorem o44_31 : zop 44 31 = some (.aload_n 0, 1) := by decide +kernel
theorem o44_32 : zop 44 32 = some (.aload_n 0, 1) := by decide +kernel
theorem o44_33 : zop 44 33 = some (.getfield 400, 3) := by decide +kernel
theorem o44_36 : zop 44 36 = some (.iload_n 1, 1) := by decide +kernel
theorem o44_37 : zop 44 37 = some (.iaload, 1) := by decide +kernel
theorem o44_38 : zop 44 38 = some (.invokevirtual 45, 3) := by decide +kernel
theorem o44_41 : zop 44 41 = some (.iinc 1 1, 3) := by decide +kernel
theorem o44_44 : zop 44 44 = some (.goto (-28), 3) := by decide +kernel
theorem o44_47 : zop 44 47 = some (.aload_n 0, 1) := by decide +kernel
theorem o44_48 : zop 44 48 = some (.invokevirtual 47, 3) := by decide +kernel
theorem o44_51 : zop 44 51 = some (.ireturn, 1) := by decide +kernel
theorem o45_0 : zop 45 0 = some (.iload_n 1, 1) := by decide +kernel
theorem o45_1 : zop 45 1 = some (.ifCond .lt 11, 3) := by decide +kernel
theorem o45_4 : zop 45 4 = some (.aload_n 0, 1) := by decide +kernel
theorem o45_5 : zop 45 5 = some (.iload_n 1, 1) := by decide +kernel
theorem o45_6 : zop 45 6 = some (.invokevirtual 46, 3) := by decide +kernel
theorem o45_9 : zop 45 9 = some (.goto 69, 3) := by decide +kernel
theorem o45_12 : zop 45 12 = some (.iload_n 1, 1) := by decide +kernel
theorem o45_13 : zop 45 13 = some (.bipush (-6), 2) := by decide +kernel
theorem o45_15 : zop 45 15 = some (.if_icmp .lt 18, 3) := by decide +kernel
theorem o45_18 : zop 45 18 = some (.aload_n 0, 1) := by decide +kernel
theorem o45_19 : zop 45 19 = some (.aload_n 0, 1) := by decide +kernel
theorem o45_20 : zop 45 20 = some (.getfield 401, 3) := by decide +kernel
theorem o45_23 : zop 45 23 = some (.iconst (-1), 1) := by decide +kernel
theorem o45_24 : zop 45 24 = some (.iload_n 1, 1) := by decide +kernel
theorem o45_25 : zop 45 25 = some (.isub, 1) := by decide +kernel
theorem o45_26 : zop 45 26 = some (.iaload, 1) := by decide +kernel
theorem o45_27 : zop 45 27 = some (.invokevirtual 46, 3) := by decide +kernel
theorem o45_30 : zop 45 30 = some (.goto 48, 3) := by decide +kernel
theorem o45_33 : zop 45 33 = some (.iload_n 1, 1) := by decide +kernel
theorem o45_34 : zop 45 34 = some (.bipush (-13), 2) := by decide +kernel
theorem o45_36 : zop 45 36 = some (.if_icmp .ne 22, 3) := by decide +kernel
theorem o45_39 : zop 45 39 = some (.aload_n 0, 1) := by decide +kernel
theorem o45_40 : zop 45 40 = some (.aload_n 0, 1) := by decide +kernel
theorem o45_41 : zop 45 41 = some (.invokevirtual 47, 3) := by decide +kernel
theorem o45_44 : zop 45 44 = some (.ifCond .ne 7, 3) := by decide +kernel
theorem o45_47 : zop 45 47 = some (.iconst 1, 1) := by decide +kernel
theorem o45_48 : zop 45 48 = some (.goto 4, 3) := by decide +kernel
theorem o45_51 : zop 45 51 = some (.iconst 0, 1) := by decide +kernel
theorem o45_52 : zop 45 52 = some (.invokevirtual 46, 3) := by decide +kernel
theorem o45_55 : zop 45 55 = some (.goto 23, 3) := by decide +kernel
theorem o45_58 : zop 45 58 = some (.aload_n 0, 1) := by decide +kernel
theorem o45_59 : zop 45 59 = some (.invokevirtual 47, 3) := by decide +kernel
theorem o45_62 : zop 45 62 = some (.istore_n 2, 1) := by decide +kernel
theorem o45_63 : zop 45 63 = some (.aload_n 0, 1) := by decide +kernel
theorem o45_64 : zop 45 64 = some (.invokevirtual 47, 3) := by decide +kernel
theorem o45_67 : zop 45 67 = some (.istore_n 3, 1) := by decide +kernel
theorem o45_68 : zop 45 68 = some (.aload_n 0, 1) := by decide +kernel
theorem o45_69 : zop 45 69 = some (.iload_n 1, 1) := by decide +kernel
theorem o45_70 : zop 45 70 = some (.iload_n 3, 1) := by decide +kernel
theorem o45_71 : zop 45 71 = some (.iload_n 2, 1) := by decide +kernel
theorem o45_72 : zop 45 72 = some (.invokestatic 48, 3) := by decide +kernel
theorem o45_75 : zop 45 75 = some (.invokevirtual 46, 3) := by decide +kernel
theorem o45_78 : zop 45 78 = some (.return_, 1) := by decide +kernel
theorem o46_0 : zop 46 0 = some (.aload_n 0, 1) := by decide +kernel
theorem o46_1 : zop 46 1 = some (.getfield 404, 3) := by decide +kernel
theorem o46_4 : zop 46 4 = some (.bipush 40, 2) := by decide +kernel
theorem o46_6 : zop 46 6 = some (.if_icmp .ge 23, 3) := by decide +kernel
theorem o46_9 : zop 46 9 = some (.aload_n 0, 1) := by decide +kernel
theorem o46_10 : zop 46 10 = some (.getfield 402, 3) := by decide +kernel
theorem o46_13 : zop 46 13 = some (.aload_n 0, 1) := by decide +kernel
theorem o46_14 : zop 46 14 = some (.getfield 404, 3) := by decide +kernel
theorem o46_17 : zop 46 17 = some (.iload_n 1, 1) := by decide +kernel
theorem o46_18 : zop 46 18 = some (.iastore, 1) := by decide +kernel
theorem o46_19 : zop 46 19 = some (.aload_n 0, 1) := by decide +kernel
theorem o46_20 : zop 46 20 = some (.dup, 1) := by decide +kernel
theorem o46_21 : zop 46 21 = some (.getfield 404, 3) := by decide +kernel
theorem o46_24 : zop 46 24 = some (.iconst 1, 1) := by decide +kernel
theorem o46_25 : zop 46 25 = some (.iadd, 1) := by decide +kernel
theorem o46_26 : zop 46 26 = some (.putfield 404, 3) := by decide +kernel
theorem o46_29 : zop 46 29 = some (.return_, 1) := by decide +kernel
theorem o47_0 : zop 47 0 = some (.aload_n 0, 1) := by decide +kernel
theorem o47_1 : zop 47 1 = some (.getfield 404, 3) := by decide +kernel
theorem o47_4 : zop 47 4 = some (.ifCond .gt 5, 3) := by decide +kernel
theorem o47_7 : zop 47 7 = some (.iconst 0, 1) := by decide +kernel
theorem o47_8 : zop 47 8 = some (.ireturn, 1) := by decide +kernel
theorem o47_9 : zop 47 9 = some (.aload_n 0, 1) := by decide +kernel
theorem o47_10 : zop 47 10 = some (.dup, 1) := by decide +kernel
theorem o47_11 : zop 47 11 = some (.getfield 404, 3) := by decide +kernel
theorem o47_14 : zop 47 14 = some (.iconst 1, 1) := by decide +kernel
theorem o47_15 : zop 47 15 = some (.isub, 1) := by decide +kernel
theorem o47_16 : zop 47 16 = some (.putfield 404, 3) := by decide +kernel
theorem o47_19 : zop 47 19 = some (.aload_n 0, 1) := by decide +kernel
theorem o47_20 : zop 47 20 = some (.getfield 402, 3) := by decide +kernel
theorem o47_23 : zop 47 23 = some (.aload_n 0, 1) := by decide +kernel
theorem o47_24 : zop 47 24 = some (.getfield 404, 3) := by decide +kernel
theorem o47_27 : zop 47 27 = some (.iaload, 1) := by decide +kernel
theorem o47_28 : zop 47 28 = some (.ireturn, 1) := by decide +kernel
end
