section
-- ===== PART A: goes FIRST, ahead of the names: the tables' words, and 'selects' of the private methods out of them =====
/-- a private method of a class that the tables say can be made, by its rows of tables_1 -/
def lw_okq (q : MethodName × Nat) : Prop := (q.1.cls ≠ "java/lang/invoke/MethodHandle" ∧ q.1.cls ≠ "java/lang/invoke/VarHandle") ∧ Cond.instantiable q.1.cls q.2 ∈ tables_1 ∧ Cond.privateMethod q.1 ∈ tables_1 ∧ Cond.instanceMethod q.1 ∈ tables_1
theorem lw_p0 : lw_okq (⟨"ShipPower", "advance", "()V"⟩, 8) := ⟨⟨by decide +kernel, by decide +kernel⟩, List.mem_of_getElem? (i := 21) (by decide +kernel), List.mem_of_getElem? (i := 386) (by decide +kernel), List.mem_of_getElem? (i := 387) (by decide +kernel)⟩
theorem lw_p1 : lw_okq (⟨"ShipPower$Coupling", "crank", "(LShipPower$PowerSet;)V"⟩, 4) := ⟨⟨by decide +kernel, by decide +kernel⟩, List.mem_of_getElem? (i := 233) (by decide +kernel), List.mem_of_getElem? (i := 394) (by decide +kernel), List.mem_of_getElem? (i := 395) (by decide +kernel)⟩
theorem lw_p2 : lw_okq (⟨"ShipPower$Coupling", "cool", "(LShipPower$PowerSet;)V"⟩, 4) := ⟨⟨by decide +kernel, by decide +kernel⟩, List.mem_of_getElem? (i := 233) (by decide +kernel), List.mem_of_getElem? (i := 414) (by decide +kernel), List.mem_of_getElem? (i := 415) (by decide +kernel)⟩
theorem lw_p3 : lw_okq (⟨"ShipPower$Coupling", "turn", "(LShipPower$PowerSet;)V"⟩, 4) := ⟨⟨by decide +kernel, by decide +kernel⟩, List.mem_of_getElem? (i := 233) (by decide +kernel), List.mem_of_getElem? (i := 418) (by decide +kernel), List.mem_of_getElem? (i := 419) (by decide +kernel)⟩
theorem lw_p4 : lw_okq (⟨"ShipPower$Coupling", "freeEssentialBus", "()Z"⟩, 4) := ⟨⟨by decide +kernel, by decide +kernel⟩, List.mem_of_getElem? (i := 233) (by decide +kernel), List.mem_of_getElem? (i := 456) (by decide +kernel), List.mem_of_getElem? (i := 457) (by decide +kernel)⟩
theorem lw_p5 : lw_okq (⟨"ShipPower$Board", "change", "(II)Z"⟩, 5) := ⟨⟨by decide +kernel, by decide +kernel⟩, List.mem_of_getElem? (i := 58) (by decide +kernel), List.mem_of_getElem? (i := 468) (by decide +kernel), List.mem_of_getElem? (i := 469) (by decide +kernel)⟩
theorem lw_p6 : lw_okq (⟨"ShipPower$Board", "findLeads", "()V"⟩, 5) := ⟨⟨by decide +kernel, by decide +kernel⟩, List.mem_of_getElem? (i := 58) (by decide +kernel), List.mem_of_getElem? (i := 472) (by decide +kernel), List.mem_of_getElem? (i := 473) (by decide +kernel)⟩
theorem lw_p7 : lw_okq (⟨"ShipPower$Coupling", "mayClose", "(LShipPower$PowerSet;)Z"⟩, 4) := ⟨⟨by decide +kernel, by decide +kernel⟩, List.mem_of_getElem? (i := 233) (by decide +kernel), List.mem_of_getElem? (i := 477) (by decide +kernel), List.mem_of_getElem? (i := 478) (by decide +kernel)⟩
theorem lw_p8 : lw_okq (⟨"ShipPower$Coupling", "inStep", "(III)Z"⟩, 4) := ⟨⟨by decide +kernel, by decide +kernel⟩, List.mem_of_getElem? (i := 233) (by decide +kernel), List.mem_of_getElem? (i := 481) (by decide +kernel), List.mem_of_getElem? (i := 482) (by decide +kernel)⟩
theorem lw_p9 : lw_okq (⟨"ShipPower$Coupling", "tieMayClose", "()Z"⟩, 4) := ⟨⟨by decide +kernel, by decide +kernel⟩, List.mem_of_getElem? (i := 233) (by decide +kernel), List.mem_of_getElem? (i := 511) (by decide +kernel), List.mem_of_getElem? (i := 512) (by decide +kernel)⟩
theorem lw_p10 : lw_okq (⟨"ShipPower$Coupling", "countLiveTicks", "(I)Z"⟩, 4) := ⟨⟨by decide +kernel, by decide +kernel⟩, List.mem_of_getElem? (i := 233) (by decide +kernel), List.mem_of_getElem? (i := 522) (by decide +kernel), List.mem_of_getElem? (i := 523) (by decide +kernel)⟩
theorem lw_p11 : lw_okq (⟨"ShipPower$Plant", "clear", "(LShipPower$PowerSet;)V"⟩, 9) := ⟨⟨by decide +kernel, by decide +kernel⟩, List.mem_of_getElem? (i := 85) (by decide +kernel), List.mem_of_getElem? (i := 531) (by decide +kernel), List.mem_of_getElem? (i := 532) (by decide +kernel)⟩
theorem lw_p12 : lw_okq (⟨"ShipPower$Coupling", "feed", "(II)V"⟩, 4) := ⟨⟨by decide +kernel, by decide +kernel⟩, List.mem_of_getElem? (i := 233) (by decide +kernel), List.mem_of_getElem? (i := 535) (by decide +kernel), List.mem_of_getElem? (i := 536) (by decide +kernel)⟩
theorem lw_p13 : lw_okq (⟨"ShipPower$Sharing", "steer", "(II)V"⟩, 2) := ⟨⟨by decide +kernel, by decide +kernel⟩, List.mem_of_getElem? (i := 253) (by decide +kernel), List.mem_of_getElem? (i := 548) (by decide +kernel), List.mem_of_getElem? (i := 549) (by decide +kernel)⟩
theorem lw_p14 : lw_okq (⟨"ShipPower$Sharing", "share", "(II)V"⟩, 2) := ⟨⟨by decide +kernel, by decide +kernel⟩, List.mem_of_getElem? (i := 253) (by decide +kernel), List.mem_of_getElem? (i := 574) (by decide +kernel), List.mem_of_getElem? (i := 575) (by decide +kernel)⟩
theorem lw_p15 : lw_okq (⟨"ShipPower$Sharing", "findParts", "(I)I"⟩, 2) := ⟨⟨by decide +kernel, by decide +kernel⟩, List.mem_of_getElem? (i := 253) (by decide +kernel), List.mem_of_getElem? (i := 578) (by decide +kernel), List.mem_of_getElem? (i := 579) (by decide +kernel)⟩
def lw_privs_1 : List (MethodName × Nat) := [(⟨"ShipPower", "advance", "()V"⟩, 8), (⟨"ShipPower$Coupling", "crank", "(LShipPower$PowerSet;)V"⟩, 4), (⟨"ShipPower$Coupling", "cool", "(LShipPower$PowerSet;)V"⟩, 4), (⟨"ShipPower$Coupling", "turn", "(LShipPower$PowerSet;)V"⟩, 4), (⟨"ShipPower$Coupling", "freeEssentialBus", "()Z"⟩, 4), (⟨"ShipPower$Board", "change", "(II)Z"⟩, 5), (⟨"ShipPower$Board", "findLeads", "()V"⟩, 5), (⟨"ShipPower$Coupling", "mayClose", "(LShipPower$PowerSet;)Z"⟩, 4), (⟨"ShipPower$Coupling", "inStep", "(III)Z"⟩, 4), (⟨"ShipPower$Coupling", "tieMayClose", "()Z"⟩, 4), (⟨"ShipPower$Coupling", "countLiveTicks", "(I)Z"⟩, 4), (⟨"ShipPower$Plant", "clear", "(LShipPower$PowerSet;)V"⟩, 9), (⟨"ShipPower$Coupling", "feed", "(II)V"⟩, 4), (⟨"ShipPower$Sharing", "steer", "(II)V"⟩, 2), (⟨"ShipPower$Sharing", "share", "(II)V"⟩, 2), (⟨"ShipPower$Sharing", "findParts", "(I)I"⟩, 2)]
theorem lw_r1 : ∀ q ∈ lw_privs_1, lw_okq q := List.forall_mem_cons.mpr ⟨lw_p0, List.forall_mem_cons.mpr ⟨lw_p1, List.forall_mem_cons.mpr ⟨lw_p2, List.forall_mem_cons.mpr ⟨lw_p3, List.forall_mem_cons.mpr ⟨lw_p4, List.forall_mem_cons.mpr ⟨lw_p5, List.forall_mem_cons.mpr ⟨lw_p6, List.forall_mem_cons.mpr ⟨lw_p7, List.forall_mem_cons.mpr ⟨lw_p8, List.forall_mem_cons.mpr ⟨lw_p9, List.forall_mem_cons.mpr ⟨lw_p10, List.forall_mem_cons.mpr ⟨lw_p11, List.forall_mem_cons.mpr ⟨lw_p12, List.forall_mem_cons.mpr ⟨lw_p13, List.forall_mem_cons.mpr ⟨lw_p14, List.forall_mem_cons.mpr ⟨lw_p15, fun _ h => absurd h List.not_mem_nil⟩⟩⟩⟩⟩⟩⟩⟩⟩⟩⟩⟩⟩⟩⟩⟩
theorem lw_p16 : lw_okq (⟨"ShipPower$Sharing", "partOf", "(LShipPower$PowerSet;)I"⟩, 2) := ⟨⟨by decide +kernel, by decide +kernel⟩, List.mem_of_getElem? (i := 253) (by decide +kernel), List.mem_of_getElem? (i := 582) (by decide +kernel), List.mem_of_getElem? (i := 583) (by decide +kernel)⟩
theorem lw_p17 : lw_okq (⟨"ShipPower$Protection", "warm", "(LShipPower$PowerSet;)V"⟩, 5) := ⟨⟨by decide +kernel, by decide +kernel⟩, List.mem_of_getElem? (i := 266) (by decide +kernel), List.mem_of_getElem? (i := 591) (by decide +kernel), List.mem_of_getElem? (i := 592) (by decide +kernel)⟩
theorem lw_p18 : lw_okq (⟨"ShipPower$Protection", "isOffTooLong", "(LShipPower$PowerSet;)Z"⟩, 5) := ⟨⟨by decide +kernel, by decide +kernel⟩, List.mem_of_getElem? (i := 266) (by decide +kernel), List.mem_of_getElem? (i := 601) (by decide +kernel), List.mem_of_getElem? (i := 602) (by decide +kernel)⟩
theorem lw_p19 : lw_okq (⟨"ShipPower$Protection", "strays", "(LShipPower$PowerSet;)Z"⟩, 5) := ⟨⟨by decide +kernel, by decide +kernel⟩, List.mem_of_getElem? (i := 266) (by decide +kernel), List.mem_of_getElem? (i := 605) (by decide +kernel), List.mem_of_getElem? (i := 606) (by decide +kernel)⟩
theorem lw_p20 : lw_okq (⟨"ShipPower$Protection", "isLowTooLong", "(I)Z"⟩, 5) := ⟨⟨by decide +kernel, by decide +kernel⟩, List.mem_of_getElem? (i := 266) (by decide +kernel), List.mem_of_getElem? (i := 620) (by decide +kernel), List.mem_of_getElem? (i := 621) (by decide +kernel)⟩
theorem lw_p21 : lw_okq (⟨"ShipPower$Protection", "isStrained", "(I)Z"⟩, 5) := ⟨⟨by decide +kernel, by decide +kernel⟩, List.mem_of_getElem? (i := 266) (by decide +kernel), List.mem_of_getElem? (i := 631) (by decide +kernel), List.mem_of_getElem? (i := 632) (by decide +kernel)⟩
theorem lw_p22 : lw_okq (⟨"ShipPower$Protection", "mayShed", "()Z"⟩, 5) := ⟨⟨by decide +kernel, by decide +kernel⟩, List.mem_of_getElem? (i := 266) (by decide +kernel), List.mem_of_getElem? (i := 637) (by decide +kernel), List.mem_of_getElem? (i := 638) (by decide +kernel)⟩
theorem lw_p23 : lw_okq (⟨"ShipPower$Protection", "shedLeastClass", "(I)V"⟩, 5) := ⟨⟨by decide +kernel, by decide +kernel⟩, List.mem_of_getElem? (i := 266) (by decide +kernel), List.mem_of_getElem? (i := 641) (by decide +kernel), List.mem_of_getElem? (i := 642) (by decide +kernel)⟩
theorem lw_p24 : lw_okq (⟨"ShipPower$Protection", "leastClass", "(I)I"⟩, 5) := ⟨⟨by decide +kernel, by decide +kernel⟩, List.mem_of_getElem? (i := 266) (by decide +kernel), List.mem_of_getElem? (i := 645) (by decide +kernel), List.mem_of_getElem? (i := 646) (by decide +kernel)⟩
theorem lw_p25 : lw_okq (⟨"ShipPower$Protection", "isConnectedIn", "(LShipPower$Consumer;I)Z"⟩, 5) := ⟨⟨by decide +kernel, by decide +kernel⟩, List.mem_of_getElem? (i := 266) (by decide +kernel), List.mem_of_getElem? (i := 649) (by decide +kernel), List.mem_of_getElem? (i := 650) (by decide +kernel)⟩
theorem lw_p26 : lw_okq (⟨"ShipPower$Manager", "needAt", "(I)I"⟩, 5) := ⟨⟨by decide +kernel, by decide +kernel⟩, List.mem_of_getElem? (i := 289) (by decide +kernel), List.mem_of_getElem? (i := 682) (by decide +kernel), List.mem_of_getElem? (i := 683) (by decide +kernel)⟩
theorem lw_p27 : lw_okq (⟨"ShipPower$Manager", "comingAt", "(I)I"⟩, 5) := ⟨⟨by decide +kernel, by decide +kernel⟩, List.mem_of_getElem? (i := 289) (by decide +kernel), List.mem_of_getElem? (i := 689) (by decide +kernel), List.mem_of_getElem? (i := 690) (by decide +kernel)⟩
theorem lw_p28 : lw_okq (⟨"ShipPower$Manager", "inspect", "(III)V"⟩, 5) := ⟨⟨by decide +kernel, by decide +kernel⟩, List.mem_of_getElem? (i := 289) (by decide +kernel), List.mem_of_getElem? (i := 697) (by decide +kernel), List.mem_of_getElem? (i := 698) (by decide +kernel)⟩
theorem lw_p29 : lw_okq (⟨"ShipPower$Manager", "nextToStart", "(I)LShipPower$PowerSet;"⟩, 5) := ⟨⟨by decide +kernel, by decide +kernel⟩, List.mem_of_getElem? (i := 289) (by decide +kernel), List.mem_of_getElem? (i := 701) (by decide +kernel), List.mem_of_getElem? (i := 702) (by decide +kernel)⟩
theorem lw_p30 : lw_okq (⟨"ShipPower$Manager", "lastOn", "(I)LShipPower$PowerSet;"⟩, 5) := ⟨⟨by decide +kernel, by decide +kernel⟩, List.mem_of_getElem? (i := 289) (by decide +kernel), List.mem_of_getElem? (i := 718) (by decide +kernel), List.mem_of_getElem? (i := 719) (by decide +kernel)⟩
theorem lw_p31 : lw_okq (⟨"ShipPower$Manager", "mainSetsOn", "(I)I"⟩, 5) := ⟨⟨by decide +kernel, by decide +kernel⟩, List.mem_of_getElem? (i := 289) (by decide +kernel), List.mem_of_getElem? (i := 723) (by decide +kernel), List.mem_of_getElem? (i := 724) (by decide +kernel)⟩
def lw_privs_2 : List (MethodName × Nat) := [(⟨"ShipPower$Sharing", "partOf", "(LShipPower$PowerSet;)I"⟩, 2), (⟨"ShipPower$Protection", "warm", "(LShipPower$PowerSet;)V"⟩, 5), (⟨"ShipPower$Protection", "isOffTooLong", "(LShipPower$PowerSet;)Z"⟩, 5), (⟨"ShipPower$Protection", "strays", "(LShipPower$PowerSet;)Z"⟩, 5), (⟨"ShipPower$Protection", "isLowTooLong", "(I)Z"⟩, 5), (⟨"ShipPower$Protection", "isStrained", "(I)Z"⟩, 5), (⟨"ShipPower$Protection", "mayShed", "()Z"⟩, 5), (⟨"ShipPower$Protection", "shedLeastClass", "(I)V"⟩, 5), (⟨"ShipPower$Protection", "leastClass", "(I)I"⟩, 5), (⟨"ShipPower$Protection", "isConnectedIn", "(LShipPower$Consumer;I)Z"⟩, 5), (⟨"ShipPower$Manager", "needAt", "(I)I"⟩, 5), (⟨"ShipPower$Manager", "comingAt", "(I)I"⟩, 5), (⟨"ShipPower$Manager", "inspect", "(III)V"⟩, 5), (⟨"ShipPower$Manager", "nextToStart", "(I)LShipPower$PowerSet;"⟩, 5), (⟨"ShipPower$Manager", "lastOn", "(I)LShipPower$PowerSet;"⟩, 5), (⟨"ShipPower$Manager", "mainSetsOn", "(I)I"⟩, 5)]
theorem lw_r2 : ∀ q ∈ lw_privs_2, lw_okq q := List.forall_mem_cons.mpr ⟨lw_p16, List.forall_mem_cons.mpr ⟨lw_p17, List.forall_mem_cons.mpr ⟨lw_p18, List.forall_mem_cons.mpr ⟨lw_p19, List.forall_mem_cons.mpr ⟨lw_p20, List.forall_mem_cons.mpr ⟨lw_p21, List.forall_mem_cons.mpr ⟨lw_p22, List.forall_mem_cons.mpr ⟨lw_p23, List.forall_mem_cons.mpr ⟨lw_p24, List.forall_mem_cons.mpr ⟨lw_p25, List.forall_mem_cons.mpr ⟨lw_p26, List.forall_mem_cons.mpr ⟨lw_p27, List.forall_mem_cons.mpr ⟨lw_p28, List.forall_mem_cons.mpr ⟨lw_p29, List.forall_mem_cons.mpr ⟨lw_p30, List.forall_mem_cons.mpr ⟨lw_p31, fun _ h => absurd h List.not_mem_nil⟩⟩⟩⟩⟩⟩⟩⟩⟩⟩⟩⟩⟩⟩⟩⟩
theorem lw_p32 : lw_okq (⟨"ShipPower$Manager", "sendAwayAll", "(I)V"⟩, 5) := ⟨⟨by decide +kernel, by decide +kernel⟩, List.mem_of_getElem? (i := 289) (by decide +kernel), List.mem_of_getElem? (i := 738) (by decide +kernel), List.mem_of_getElem? (i := 739) (by decide +kernel)⟩
theorem lw_p33 : lw_okq (⟨"ShipPower$Ladder", "beginBlackout", "()V"⟩, 6) := ⟨⟨by decide +kernel, by decide +kernel⟩, List.mem_of_getElem? (i := 314) (by decide +kernel), List.mem_of_getElem? (i := 747) (by decide +kernel), List.mem_of_getElem? (i := 748) (by decide +kernel)⟩
theorem lw_p34 : lw_okq (⟨"ShipPower$Ladder", "storeConsumers", "()V"⟩, 6) := ⟨⟨by decide +kernel, by decide +kernel⟩, List.mem_of_getElem? (i := 314) (by decide +kernel), List.mem_of_getElem? (i := 751) (by decide +kernel), List.mem_of_getElem? (i := 752) (by decide +kernel)⟩
theorem lw_p35 : lw_okq (⟨"ShipPower$Ladder", "startFirstTwo", "()V"⟩, 6) := ⟨⟨by decide +kernel, by decide +kernel⟩, List.mem_of_getElem? (i := 314) (by decide +kernel), List.mem_of_getElem? (i := 758) (by decide +kernel), List.mem_of_getElem? (i := 759) (by decide +kernel)⟩
theorem lw_p36 : lw_okq (⟨"ShipPower$Ladder", "goTo", "(I)V"⟩, 6) := ⟨⟨by decide +kernel, by decide +kernel⟩, List.mem_of_getElem? (i := 314) (by decide +kernel), List.mem_of_getElem? (i := 763) (by decide +kernel), List.mem_of_getElem? (i := 764) (by decide +kernel)⟩
theorem lw_p37 : lw_okq (⟨"ShipPower$Ladder", "bringBackClass", "()V"⟩, 6) := ⟨⟨by decide +kernel, by decide +kernel⟩, List.mem_of_getElem? (i := 314) (by decide +kernel), List.mem_of_getElem? (i := 768) (by decide +kernel), List.mem_of_getElem? (i := 769) (by decide +kernel)⟩
theorem lw_p38 : lw_okq (⟨"java/lang/Throwable", "fillInStackTrace", "(I)Ljava/lang/Throwable;"⟩, 6) := ⟨⟨by decide +kernel, by decide +kernel⟩, List.mem_of_getElem? (i := 873) (by decide +kernel), List.mem_of_getElem? (i := 871) (by decide +kernel), List.mem_of_getElem? (i := 872) (by decide +kernel)⟩
theorem lw_p39 : lw_okq (⟨"ShipPowerModel", "step", "()V"⟩, 44) := ⟨⟨by decide +kernel, by decide +kernel⟩, List.mem_of_getElem? (i := 1065) (by decide +kernel), List.mem_of_getElem? (i := 1213) (by decide +kernel), List.mem_of_getElem? (i := 1214) (by decide +kernel)⟩
theorem lw_p40 : lw_okq (⟨"ShipPowerModel", "stepSet", "(I)V"⟩, 44) := ⟨⟨by decide +kernel, by decide +kernel⟩, List.mem_of_getElem? (i := 1065) (by decide +kernel), List.mem_of_getElem? (i := 1217) (by decide +kernel), List.mem_of_getElem? (i := 1218) (by decide +kernel)⟩
theorem lw_p41 : lw_okq (⟨"ShipPowerModel", "tell", "(II)V"⟩, 44) := ⟨⟨by decide +kernel, by decide +kernel⟩, List.mem_of_getElem? (i := 1065) (by decide +kernel), List.mem_of_getElem? (i := 1221) (by decide +kernel), List.mem_of_getElem? (i := 1222) (by decide +kernel)⟩
theorem lw_p42 : lw_okq (⟨"ShipPowerModel", "live", "(I)Z"⟩, 44) := ⟨⟨by decide +kernel, by decide +kernel⟩, List.mem_of_getElem? (i := 1065) (by decide +kernel), List.mem_of_getElem? (i := 1229) (by decide +kernel), List.mem_of_getElem? (i := 1230) (by decide +kernel)⟩
theorem lw_p43 : lw_okq (⟨"ShipPowerModel", "runs", "(I)Z"⟩, 44) := ⟨⟨by decide +kernel, by decide +kernel⟩, List.mem_of_getElem? (i := 1065) (by decide +kernel), List.mem_of_getElem? (i := 1233) (by decide +kernel), List.mem_of_getElem? (i := 1234) (by decide +kernel)⟩
theorem lw_p44 : lw_okq (⟨"ShipPowerModel", "lead", "(I)I"⟩, 44) := ⟨⟨by decide +kernel, by decide +kernel⟩, List.mem_of_getElem? (i := 1065) (by decide +kernel), List.mem_of_getElem? (i := 1237) (by decide +kernel), List.mem_of_getElem? (i := 1238) (by decide +kernel)⟩
theorem lw_p45 : lw_okq (⟨"ShipPowerModel", "joined", "(II)Z"⟩, 44) := ⟨⟨by decide +kernel, by decide +kernel⟩, List.mem_of_getElem? (i := 1065) (by decide +kernel), List.mem_of_getElem? (i := 1241) (by decide +kernel), List.mem_of_getElem? (i := 1242) (by decide +kernel)⟩
theorem lw_p46 : lw_okq (⟨"ShipPowerModel", "isIn", "(II)Z"⟩, 44) := ⟨⟨by decide +kernel, by decide +kernel⟩, List.mem_of_getElem? (i := 1065) (by decide +kernel), List.mem_of_getElem? (i := 1245) (by decide +kernel), List.mem_of_getElem? (i := 1246) (by decide +kernel)⟩
theorem lw_p47 : lw_okq (⟨"ShipPowerModel", "closings", "()V"⟩, 44) := ⟨⟨by decide +kernel, by decide +kernel⟩, List.mem_of_getElem? (i := 1065) (by decide +kernel), List.mem_of_getElem? (i := 1254) (by decide +kernel), List.mem_of_getElem? (i := 1255) (by decide +kernel)⟩
def lw_privs_3 : List (MethodName × Nat) := [(⟨"ShipPower$Manager", "sendAwayAll", "(I)V"⟩, 5), (⟨"ShipPower$Ladder", "beginBlackout", "()V"⟩, 6), (⟨"ShipPower$Ladder", "storeConsumers", "()V"⟩, 6), (⟨"ShipPower$Ladder", "startFirstTwo", "()V"⟩, 6), (⟨"ShipPower$Ladder", "goTo", "(I)V"⟩, 6), (⟨"ShipPower$Ladder", "bringBackClass", "()V"⟩, 6), (⟨"java/lang/Throwable", "fillInStackTrace", "(I)Ljava/lang/Throwable;"⟩, 6), (⟨"ShipPowerModel", "step", "()V"⟩, 44), (⟨"ShipPowerModel", "stepSet", "(I)V"⟩, 44), (⟨"ShipPowerModel", "tell", "(II)V"⟩, 44), (⟨"ShipPowerModel", "live", "(I)Z"⟩, 44), (⟨"ShipPowerModel", "runs", "(I)Z"⟩, 44), (⟨"ShipPowerModel", "lead", "(I)I"⟩, 44), (⟨"ShipPowerModel", "joined", "(II)Z"⟩, 44), (⟨"ShipPowerModel", "isIn", "(II)Z"⟩, 44), (⟨"ShipPowerModel", "closings", "()V"⟩, 44)]
theorem lw_r3 : ∀ q ∈ lw_privs_3, lw_okq q := List.forall_mem_cons.mpr ⟨lw_p32, List.forall_mem_cons.mpr ⟨lw_p33, List.forall_mem_cons.mpr ⟨lw_p34, List.forall_mem_cons.mpr ⟨lw_p35, List.forall_mem_cons.mpr ⟨lw_p36, List.forall_mem_cons.mpr ⟨lw_p37, List.forall_mem_cons.mpr ⟨lw_p38, List.forall_mem_cons.mpr ⟨lw_p39, List.forall_mem_cons.mpr ⟨lw_p40, List.forall_mem_cons.mpr ⟨lw_p41, List.forall_mem_cons.mpr ⟨lw_p42, List.forall_mem_cons.mpr ⟨lw_p43, List.forall_mem_cons.mpr ⟨lw_p44, List.forall_mem_cons.mpr ⟨lw_p45, List.forall_mem_cons.mpr ⟨lw_p46, List.forall_mem_cons.mpr ⟨lw_p47, fun _ h => absurd h List.not_mem_nil⟩⟩⟩⟩⟩⟩⟩⟩⟩⟩⟩⟩⟩⟩⟩⟩
theorem lw_p48 : lw_okq (⟨"ShipPowerModel", "moves", "(IZ)Z"⟩, 44) := ⟨⟨by decide +kernel, by decide +kernel⟩, List.mem_of_getElem? (i := 1065) (by decide +kernel), List.mem_of_getElem? (i := 1258) (by decide +kernel), List.mem_of_getElem? (i := 1259) (by decide +kernel)⟩
theorem lw_p49 : lw_okq (⟨"ShipPowerModel", "closeSet", "(I)V"⟩, 44) := ⟨⟨by decide +kernel, by decide +kernel⟩, List.mem_of_getElem? (i := 1065) (by decide +kernel), List.mem_of_getElem? (i := 1262) (by decide +kernel), List.mem_of_getElem? (i := 1263) (by decide +kernel)⟩
theorem lw_p50 : lw_okq (⟨"ShipPowerModel", "leaves", "(I)V"⟩, 44) := ⟨⟨by decide +kernel, by decide +kernel⟩, List.mem_of_getElem? (i := 1065) (by decide +kernel), List.mem_of_getElem? (i := 1266) (by decide +kernel), List.mem_of_getElem? (i := 1267) (by decide +kernel)⟩
theorem lw_p51 : lw_okq (⟨"ShipPowerModel", "setGroup", "(III)V"⟩, 44) := ⟨⟨by decide +kernel, by decide +kernel⟩, List.mem_of_getElem? (i := 1065) (by decide +kernel), List.mem_of_getElem? (i := 1270) (by decide +kernel), List.mem_of_getElem? (i := 1271) (by decide +kernel)⟩
theorem lw_p52 : lw_okq (⟨"ShipPowerModel", "inStep", "(IIII)Z"⟩, 44) := ⟨⟨by decide +kernel, by decide +kernel⟩, List.mem_of_getElem? (i := 1065) (by decide +kernel), List.mem_of_getElem? (i := 1274) (by decide +kernel), List.mem_of_getElem? (i := 1275) (by decide +kernel)⟩
theorem lw_p53 : lw_okq (⟨"ShipPowerModel", "closeTie", "()V"⟩, 44) := ⟨⟨by decide +kernel, by decide +kernel⟩, List.mem_of_getElem? (i := 1065) (by decide +kernel), List.mem_of_getElem? (i := 1284) (by decide +kernel), List.mem_of_getElem? (i := 1285) (by decide +kernel)⟩
theorem lw_p54 : lw_okq (⟨"ShipPowerModel", "feeders", "()V"⟩, 44) := ⟨⟨by decide +kernel, by decide +kernel⟩, List.mem_of_getElem? (i := 1065) (by decide +kernel), List.mem_of_getElem? (i := 1288) (by decide +kernel), List.mem_of_getElem? (i := 1289) (by decide +kernel)⟩
theorem lw_p55 : lw_okq (⟨"ShipPowerModel", "feed", "(II)V"⟩, 44) := ⟨⟨by decide +kernel, by decide +kernel⟩, List.mem_of_getElem? (i := 1065) (by decide +kernel), List.mem_of_getElem? (i := 1292) (by decide +kernel), List.mem_of_getElem? (i := 1293) (by decide +kernel)⟩
theorem lw_p56 : lw_okq (⟨"ShipPowerModel", "cools", "(II)Z"⟩, 44) := ⟨⟨by decide +kernel, by decide +kernel⟩, List.mem_of_getElem? (i := 1065) (by decide +kernel), List.mem_of_getElem? (i := 1296) (by decide +kernel), List.mem_of_getElem? (i := 1297) (by decide +kernel)⟩
theorem lw_p57 : lw_okq (⟨"ShipPowerModel", "groups", "()V"⟩, 44) := ⟨⟨by decide +kernel, by decide +kernel⟩, List.mem_of_getElem? (i := 1065) (by decide +kernel), List.mem_of_getElem? (i := 1300) (by decide +kernel), List.mem_of_getElem? (i := 1301) (by decide +kernel)⟩
theorem lw_p58 : lw_okq (⟨"ShipPowerModel", "demandOf", "(I)I"⟩, 44) := ⟨⟨by decide +kernel, by decide +kernel⟩, List.mem_of_getElem? (i := 1065) (by decide +kernel), List.mem_of_getElem? (i := 1306) (by decide +kernel), List.mem_of_getElem? (i := 1307) (by decide +kernel)⟩
theorem lw_p59 : lw_okq (⟨"ShipPowerModel", "demand", "(I)I"⟩, 44) := ⟨⟨by decide +kernel, by decide +kernel⟩, List.mem_of_getElem? (i := 1065) (by decide +kernel), List.mem_of_getElem? (i := 1310) (by decide +kernel), List.mem_of_getElem? (i := 1311) (by decide +kernel)⟩
theorem lw_p60 : lw_okq (⟨"ShipPowerModel", "first", "(I)I"⟩, 44) := ⟨⟨by decide +kernel, by decide +kernel⟩, List.mem_of_getElem? (i := 1065) (by decide +kernel), List.mem_of_getElem? (i := 1314) (by decide +kernel), List.mem_of_getElem? (i := 1315) (by decide +kernel)⟩
theorem lw_p61 : lw_okq (⟨"ShipPowerModel", "capacityOf", "(I)I"⟩, 44) := ⟨⟨by decide +kernel, by decide +kernel⟩, List.mem_of_getElem? (i := 1065) (by decide +kernel), List.mem_of_getElem? (i := 1318) (by decide +kernel), List.mem_of_getElem? (i := 1319) (by decide +kernel)⟩
theorem lw_p62 : lw_okq (⟨"ShipPowerModel", "loads", "(I)V"⟩, 44) := ⟨⟨by decide +kernel, by decide +kernel⟩, List.mem_of_getElem? (i := 1065) (by decide +kernel), List.mem_of_getElem? (i := 1326) (by decide +kernel), List.mem_of_getElem? (i := 1327) (by decide +kernel)⟩
theorem lw_p63 : lw_okq (⟨"ShipPowerModel", "shareOf", "(I)I"⟩, 44) := ⟨⟨by decide +kernel, by decide +kernel⟩, List.mem_of_getElem? (i := 1065) (by decide +kernel), List.mem_of_getElem? (i := 1330) (by decide +kernel), List.mem_of_getElem? (i := 1331) (by decide +kernel)⟩
def lw_privs_4 : List (MethodName × Nat) := [(⟨"ShipPowerModel", "moves", "(IZ)Z"⟩, 44), (⟨"ShipPowerModel", "closeSet", "(I)V"⟩, 44), (⟨"ShipPowerModel", "leaves", "(I)V"⟩, 44), (⟨"ShipPowerModel", "setGroup", "(III)V"⟩, 44), (⟨"ShipPowerModel", "inStep", "(IIII)Z"⟩, 44), (⟨"ShipPowerModel", "closeTie", "()V"⟩, 44), (⟨"ShipPowerModel", "feeders", "()V"⟩, 44), (⟨"ShipPowerModel", "feed", "(II)V"⟩, 44), (⟨"ShipPowerModel", "cools", "(II)Z"⟩, 44), (⟨"ShipPowerModel", "groups", "()V"⟩, 44), (⟨"ShipPowerModel", "demandOf", "(I)I"⟩, 44), (⟨"ShipPowerModel", "demand", "(I)I"⟩, 44), (⟨"ShipPowerModel", "first", "(I)I"⟩, 44), (⟨"ShipPowerModel", "capacityOf", "(I)I"⟩, 44), (⟨"ShipPowerModel", "loads", "(I)V"⟩, 44), (⟨"ShipPowerModel", "shareOf", "(I)I"⟩, 44)]
theorem lw_r4 : ∀ q ∈ lw_privs_4, lw_okq q := List.forall_mem_cons.mpr ⟨lw_p48, List.forall_mem_cons.mpr ⟨lw_p49, List.forall_mem_cons.mpr ⟨lw_p50, List.forall_mem_cons.mpr ⟨lw_p51, List.forall_mem_cons.mpr ⟨lw_p52, List.forall_mem_cons.mpr ⟨lw_p53, List.forall_mem_cons.mpr ⟨lw_p54, List.forall_mem_cons.mpr ⟨lw_p55, List.forall_mem_cons.mpr ⟨lw_p56, List.forall_mem_cons.mpr ⟨lw_p57, List.forall_mem_cons.mpr ⟨lw_p58, List.forall_mem_cons.mpr ⟨lw_p59, List.forall_mem_cons.mpr ⟨lw_p60, List.forall_mem_cons.mpr ⟨lw_p61, List.forall_mem_cons.mpr ⟨lw_p62, List.forall_mem_cons.mpr ⟨lw_p63, fun _ h => absurd h List.not_mem_nil⟩⟩⟩⟩⟩⟩⟩⟩⟩⟩⟩⟩⟩⟩⟩⟩
theorem lw_p64 : lw_okq (⟨"ShipPowerModel", "protect", "()V"⟩, 44) := ⟨⟨by decide +kernel, by decide +kernel⟩, List.mem_of_getElem? (i := 1065) (by decide +kernel), List.mem_of_getElem? (i := 1334) (by decide +kernel), List.mem_of_getElem? (i := 1335) (by decide +kernel)⟩
theorem lw_p65 : lw_okq (⟨"ShipPowerModel", "watch", "(I)V"⟩, 44) := ⟨⟨by decide +kernel, by decide +kernel⟩, List.mem_of_getElem? (i := 1065) (by decide +kernel), List.mem_of_getElem? (i := 1338) (by decide +kernel), List.mem_of_getElem? (i := 1339) (by decide +kernel)⟩
theorem lw_p66 : lw_okq (⟨"ShipPowerModel", "onIn", "(I)I"⟩, 44) := ⟨⟨by decide +kernel, by decide +kernel⟩, List.mem_of_getElem? (i := 1065) (by decide +kernel), List.mem_of_getElem? (i := 1342) (by decide +kernel), List.mem_of_getElem? (i := 1343) (by decide +kernel)⟩
theorem lw_p67 : lw_okq (⟨"ShipPowerModel", "shedding", "(I)V"⟩, 44) := ⟨⟨by decide +kernel, by decide +kernel⟩, List.mem_of_getElem? (i := 1065) (by decide +kernel), List.mem_of_getElem? (i := 1347) (by decide +kernel), List.mem_of_getElem? (i := 1348) (by decide +kernel)⟩
theorem lw_p68 : lw_okq (⟨"ShipPowerModel", "isStrained", "(I)Z"⟩, 44) := ⟨⟨by decide +kernel, by decide +kernel⟩, List.mem_of_getElem? (i := 1065) (by decide +kernel), List.mem_of_getElem? (i := 1351) (by decide +kernel), List.mem_of_getElem? (i := 1352) (by decide +kernel)⟩
theorem lw_p69 : lw_okq (⟨"ShipPowerModel", "waiting", "()V"⟩, 44) := ⟨⟨by decide +kernel, by decide +kernel⟩, List.mem_of_getElem? (i := 1065) (by decide +kernel), List.mem_of_getElem? (i := 1356) (by decide +kernel), List.mem_of_getElem? (i := 1357) (by decide +kernel)⟩
theorem lw_p70 : lw_okq (⟨"ShipPowerModel", "fits", "(I)Z"⟩, 44) := ⟨⟨by decide +kernel, by decide +kernel⟩, List.mem_of_getElem? (i := 1065) (by decide +kernel), List.mem_of_getElem? (i := 1360) (by decide +kernel), List.mem_of_getElem? (i := 1361) (by decide +kernel)⟩
theorem lw_p71 : lw_okq (⟨"ShipPowerModel", "isHeavy", "(I)Z"⟩, 44) := ⟨⟨by decide +kernel, by decide +kernel⟩, List.mem_of_getElem? (i := 1065) (by decide +kernel), List.mem_of_getElem? (i := 1364) (by decide +kernel), List.mem_of_getElem? (i := 1365) (by decide +kernel)⟩
theorem lw_p72 : lw_okq (⟨"ShipPowerModel", "connect", "(II)V"⟩, 44) := ⟨⟨by decide +kernel, by decide +kernel⟩, List.mem_of_getElem? (i := 1065) (by decide +kernel), List.mem_of_getElem? (i := 1368) (by decide +kernel), List.mem_of_getElem? (i := 1369) (by decide +kernel)⟩
theorem lw_p73 : lw_okq (⟨"ShipPowerModel", "manage", "(I)V"⟩, 44) := ⟨⟨by decide +kernel, by decide +kernel⟩, List.mem_of_getElem? (i := 1065) (by decide +kernel), List.mem_of_getElem? (i := 1372) (by decide +kernel), List.mem_of_getElem? (i := 1373) (by decide +kernel)⟩
theorem lw_p74 : lw_okq (⟨"ShipPowerModel", "reserve", "()I"⟩, 44) := ⟨⟨by decide +kernel, by decide +kernel⟩, List.mem_of_getElem? (i := 1065) (by decide +kernel), List.mem_of_getElem? (i := 1376) (by decide +kernel), List.mem_of_getElem? (i := 1377) (by decide +kernel)⟩
theorem lw_p75 : lw_okq (⟨"ShipPowerModel", "startUp", "(I)V"⟩, 44) := ⟨⟨by decide +kernel, by decide +kernel⟩, List.mem_of_getElem? (i := 1065) (by decide +kernel), List.mem_of_getElem? (i := 1380) (by decide +kernel), List.mem_of_getElem? (i := 1381) (by decide +kernel)⟩
theorem lw_p76 : lw_okq (⟨"ShipPowerModel", "unload", "(I)V"⟩, 44) := ⟨⟨by decide +kernel, by decide +kernel⟩, List.mem_of_getElem? (i := 1065) (by decide +kernel), List.mem_of_getElem? (i := 1384) (by decide +kernel), List.mem_of_getElem? (i := 1385) (by decide +kernel)⟩
theorem lw_p77 : lw_okq (⟨"ShipPowerModel", "unloading", "()V"⟩, 44) := ⟨⟨by decide +kernel, by decide +kernel⟩, List.mem_of_getElem? (i := 1065) (by decide +kernel), List.mem_of_getElem? (i := 1388) (by decide +kernel), List.mem_of_getElem? (i := 1389) (by decide +kernel)⟩
theorem lw_p78 : lw_okq (⟨"ShipPowerModel", "darkness", "()V"⟩, 44) := ⟨⟨by decide +kernel, by decide +kernel⟩, List.mem_of_getElem? (i := 1065) (by decide +kernel), List.mem_of_getElem? (i := 1392) (by decide +kernel), List.mem_of_getElem? (i := 1393) (by decide +kernel)⟩
theorem lw_p79 : lw_okq (⟨"ShipPowerModel", "blackOut", "()V"⟩, 44) := ⟨⟨by decide +kernel, by decide +kernel⟩, List.mem_of_getElem? (i := 1065) (by decide +kernel), List.mem_of_getElem? (i := 1396) (by decide +kernel), List.mem_of_getElem? (i := 1397) (by decide +kernel)⟩
def lw_privs_5 : List (MethodName × Nat) := [(⟨"ShipPowerModel", "protect", "()V"⟩, 44), (⟨"ShipPowerModel", "watch", "(I)V"⟩, 44), (⟨"ShipPowerModel", "onIn", "(I)I"⟩, 44), (⟨"ShipPowerModel", "shedding", "(I)V"⟩, 44), (⟨"ShipPowerModel", "isStrained", "(I)Z"⟩, 44), (⟨"ShipPowerModel", "waiting", "()V"⟩, 44), (⟨"ShipPowerModel", "fits", "(I)Z"⟩, 44), (⟨"ShipPowerModel", "isHeavy", "(I)Z"⟩, 44), (⟨"ShipPowerModel", "connect", "(II)V"⟩, 44), (⟨"ShipPowerModel", "manage", "(I)V"⟩, 44), (⟨"ShipPowerModel", "reserve", "()I"⟩, 44), (⟨"ShipPowerModel", "startUp", "(I)V"⟩, 44), (⟨"ShipPowerModel", "unload", "(I)V"⟩, 44), (⟨"ShipPowerModel", "unloading", "()V"⟩, 44), (⟨"ShipPowerModel", "darkness", "()V"⟩, 44), (⟨"ShipPowerModel", "blackOut", "()V"⟩, 44)]
theorem lw_r5 : ∀ q ∈ lw_privs_5, lw_okq q := List.forall_mem_cons.mpr ⟨lw_p64, List.forall_mem_cons.mpr ⟨lw_p65, List.forall_mem_cons.mpr ⟨lw_p66, List.forall_mem_cons.mpr ⟨lw_p67, List.forall_mem_cons.mpr ⟨lw_p68, List.forall_mem_cons.mpr ⟨lw_p69, List.forall_mem_cons.mpr ⟨lw_p70, List.forall_mem_cons.mpr ⟨lw_p71, List.forall_mem_cons.mpr ⟨lw_p72, List.forall_mem_cons.mpr ⟨lw_p73, List.forall_mem_cons.mpr ⟨lw_p74, List.forall_mem_cons.mpr ⟨lw_p75, List.forall_mem_cons.mpr ⟨lw_p76, List.forall_mem_cons.mpr ⟨lw_p77, List.forall_mem_cons.mpr ⟨lw_p78, List.forall_mem_cons.mpr ⟨lw_p79, fun _ h => absurd h List.not_mem_nil⟩⟩⟩⟩⟩⟩⟩⟩⟩⟩⟩⟩⟩⟩⟩⟩
theorem lw_p80 : lw_okq (⟨"ShipPowerModel", "ladderTo", "(I)V"⟩, 44) := ⟨⟨by decide +kernel, by decide +kernel⟩, List.mem_of_getElem? (i := 1065) (by decide +kernel), List.mem_of_getElem? (i := 1400) (by decide +kernel), List.mem_of_getElem? (i := 1401) (by decide +kernel)⟩
theorem lw_p81 : lw_okq (⟨"ShipPowerModel", "bits", "()I"⟩, 44) := ⟨⟨by decide +kernel, by decide +kernel⟩, List.mem_of_getElem? (i := 1065) (by decide +kernel), List.mem_of_getElem? (i := 1404) (by decide +kernel), List.mem_of_getElem? (i := 1405) (by decide +kernel)⟩
def lw_privs_6 : List (MethodName × Nat) := [(⟨"ShipPowerModel", "ladderTo", "(I)V"⟩, 44), (⟨"ShipPowerModel", "bits", "()I"⟩, 44)]
theorem lw_r6 : ∀ q ∈ lw_privs_6, lw_okq q := List.forall_mem_cons.mpr ⟨lw_p80, List.forall_mem_cons.mpr ⟨lw_p81, fun _ h => absurd h List.not_mem_nil⟩⟩
def lw_privs : List (MethodName × Nat) := lw_privs_1 ++ (lw_privs_2 ++ (lw_privs_3 ++ (lw_privs_4 ++ (lw_privs_5 ++ (lw_privs_6)))))
def lw_tbl : List Cond := k2_sels lw_privs ++ tables_1
theorem lw_privs_ok : ∀ q ∈ lw_privs, lw_okq q := by
  show ∀ q ∈ lw_privs_1 ++ (lw_privs_2 ++ (lw_privs_3 ++ (lw_privs_4 ++ (lw_privs_5 ++ (lw_privs_6))))), lw_okq q
  exact List.forall_mem_append.mpr ⟨lw_r1, List.forall_mem_append.mpr ⟨lw_r2, List.forall_mem_append.mpr ⟨lw_r3, List.forall_mem_append.mpr ⟨lw_r4, List.forall_mem_append.mpr ⟨lw_r5, lw_r6⟩⟩⟩⟩⟩
end
section
/-! names: the words that every method may use, the classes, their fields -/
def rx_bw : List Jvm.Cond := lw_tbl.filter goodWord
theorem rx_bw_t {w : Jvm.Cond} (h : w ∈ tables_1) (hg : goodWord w = true) : w ∈ rx_bw := List.mem_filter.mpr ⟨List.mem_append_right _ h, hg⟩
theorem rx_bw_p {q : MethodName × Nat} (h : q ∈ lw_privs) : Jvm.Cond.selects q.1.cls q.1 q.1 ∈ rx_bw := List.mem_filter.mpr ⟨List.mem_append_left _ (List.mem_map.mpr ⟨q, h, rfl⟩), rfl⟩
theorem rx_t1 {w : Jvm.Cond} (h : w ∈ tables_1_1) : w ∈ tables_1 := List.mem_append_left _ h
theorem rx_t2 {w : Jvm.Cond} (h : w ∈ tables_1_2) : w ∈ tables_1 := List.mem_append_right _ (List.mem_append_left _ h)
theorem rx_t3 {w : Jvm.Cond} (h : w ∈ tables_1_3) : w ∈ tables_1 := List.mem_append_right _ (List.mem_append_right _ (List.mem_append_left _ h))
theorem rx_t4 {w : Jvm.Cond} (h : w ∈ tables_1_4) : w ∈ tables_1 := List.mem_append_right _ (List.mem_append_right _ (List.mem_append_right _ (List.mem_append_left _ h)))
theorem rx_t5 {w : Jvm.Cond} (h : w ∈ tables_1_5) : w ∈ tables_1 := List.mem_append_right _ (List.mem_append_right _ (List.mem_append_right _ (List.mem_append_right _ (List.mem_append_left _ h))))
theorem rx_t6 {w : Jvm.Cond} (h : w ∈ tables_1_6) : w ∈ tables_1 := List.mem_append_right _ (List.mem_append_right _ (List.mem_append_right _ (List.mem_append_right _ (List.mem_append_right _ (List.mem_append_left _ h)))))
theorem rx_t7 {w : Jvm.Cond} (h : w ∈ tables_1_7) : w ∈ tables_1 := List.mem_append_right _ (List.mem_append_right _ (List.mem_append_right _ (List.mem_append_right _ (List.mem_append_right _ (List.mem_append_right _ (h))))))
theorem rx_p1 {q : MethodName × Nat} (h : q ∈ lw_privs_1) : q ∈ lw_privs := List.mem_append_left _ h
theorem rx_p2 {q : MethodName × Nat} (h : q ∈ lw_privs_2) : q ∈ lw_privs := List.mem_append_right _ (List.mem_append_left _ h)
theorem rx_p3 {q : MethodName × Nat} (h : q ∈ lw_privs_3) : q ∈ lw_privs := List.mem_append_right _ (List.mem_append_right _ (List.mem_append_left _ h))
theorem rx_p4 {q : MethodName × Nat} (h : q ∈ lw_privs_4) : q ∈ lw_privs := List.mem_append_right _ (List.mem_append_right _ (List.mem_append_right _ (List.mem_append_left _ h)))
theorem rx_p5 {q : MethodName × Nat} (h : q ∈ lw_privs_5) : q ∈ lw_privs := List.mem_append_right _ (List.mem_append_right _ (List.mem_append_right _ (List.mem_append_right _ (List.mem_append_left _ h))))
theorem rx_p6 {q : MethodName × Nat} (h : q ∈ lw_privs_6) : q ∈ lw_privs := List.mem_append_right _ (List.mem_append_right _ (List.mem_append_right _ (List.mem_append_right _ (List.mem_append_right _ (h)))))
def rx_fl0 : List (String × String × String × Bool) := [("ShipPower", "journal", "LShipPower$Journal;", true), ("ShipPower", "board", "LShipPower$Board;", true), ("ShipPower", "plant", "LShipPower$Plant;", true), ("ShipPower", "coupling", "LShipPower$Coupling;", true), ("ShipPower", "sharing", "LShipPower$Sharing;", true), ("ShipPower", "protection", "LShipPower$Protection;", true), ("ShipPower", "manager", "LShipPower$Manager;", true), ("ShipPower", "ladder", "LShipPower$Ladder;", true)]
def rx_T0 : u_T := fun k => rx_fl0.getD k ("", "", "", false)
def rx_ft0 : List FieldType := [.object "ShipPower$Journal", .object "ShipPower$Board", .object "ShipPower$Plant", .object "ShipPower$Coupling", .object "ShipPower$Sharing", .object "ShipPower$Protection", .object "ShipPower$Manager", .object "ShipPower$Ladder"]
def rx_fl1 : List (String × String × String × Bool) := [("ShipPower$Board", "journal", "LShipPower$Journal;", true), ("ShipPower$Board", "leads", "[I", true), ("ShipPower$Board", "closed", "I", false), ("ShipPower$Board", "sticking", "I", false), ("ShipPower$Board", "refused", "I", false)]
def rx_T1 : u_T := fun k => rx_fl1.getD k ("", "", "", false)
def rx_ft1 : List FieldType := [.object "ShipPower$Journal", .array .int, .int, .int, .int]
def rx_fl2 : List (String × String × String × Bool) := [("ShipPower$Consumer", "number", "I", true), ("ShipPower$Consumer", "bus", "I", true), ("ShipPower$Consumer", "cls", "I", true), ("ShipPower$Consumer", "kilowatts", "I", true), ("ShipPower$Consumer", "firstDemand", "I", true), ("ShipPower$Consumer", "state", "I", false), ("ShipPower$Consumer", "firstTick", "I", false)]
def rx_T2 : u_T := fun k => rx_fl2.getD k ("", "", "", false)
def rx_ft2 : List FieldType := [.int, .int, .int, .int, .int, .int, .int]
def rx_fl3 : List (String × String × String × Bool) := [("ShipPower$Coupling", "plant", "LShipPower$Plant;", true), ("ShipPower$Coupling", "board", "LShipPower$Board;", true), ("ShipPower$Coupling", "liveTicks", "[I", true), ("ShipPower$Coupling", "tieOrdered", "Z", false)]
def rx_T3 : u_T := fun k => rx_fl3.getD k ("", "", "", false)
def rx_ft3 : List FieldType := [.object "ShipPower$Plant", .object "ShipPower$Board", .array .int, .boolean]
def rx_fl4 : List (String × String × String × Bool) := [("ShipPower$Journal", "times", "[I", true), ("ShipPower$Journal", "kinds", "[I", true), ("ShipPower$Journal", "subjects", "[I", true), ("ShipPower$Journal", "now", "I", false), ("ShipPower$Journal", "total", "I", false)]
def rx_T4 : u_T := fun k => rx_fl4.getD k ("", "", "", false)
def rx_ft4 : List FieldType := [.array .int, .array .int, .array .int, .int, .int]
def rx_fl5 : List (String × String × String × Bool) := [("ShipPower$Ladder", "plant", "LShipPower$Plant;", true), ("ShipPower$Ladder", "manager", "LShipPower$Manager;", true), ("ShipPower$Ladder", "darkTicks", "I", false), ("ShipPower$Ladder", "step", "I", false), ("ShipPower$Ladder", "nextClass", "I", false), ("ShipPower$Ladder", "blackouts", "I", false)]
def rx_T5 : u_T := fun k => rx_fl5.getD k ("", "", "", false)
def rx_ft5 : List FieldType := [.object "ShipPower$Plant", .object "ShipPower$Manager", .int, .int, .int, .int]
def rx_fl6 : List (String × String × String × Bool) := [("ShipPower$Manager", "plant", "LShipPower$Plant;", true), ("ShipPower$Manager", "startOrder", "[I", true), ("ShipPower$Manager", "calmLooks", "[I", true), ("ShipPower$Manager", "reserve", "I", false), ("ShipPower$Manager", "parallelTicks", "I", false)]
def rx_T6 : u_T := fun k => rx_fl6.getD k ("", "", "", false)
def rx_ft6 : List FieldType := [.object "ShipPower$Plant", .array .int, .array .int, .int, .int]
def rx_fl7 : List (String × String × String × Bool) := [("ShipPower$Plant", "journal", "LShipPower$Journal;", true), ("ShipPower$Plant", "board", "LShipPower$Board;", true), ("ShipPower$Plant", "sets", "[LShipPower$PowerSet;", true), ("ShipPower$Plant", "consumers", "[LShipPower$Consumer;", true), ("ShipPower$Plant", "frequencies", "[I", true), ("ShipPower$Plant", "phases", "[I", true), ("ShipPower$Plant", "consumerCount", "I", false), ("ShipPower$Plant", "shoreIsThere", "Z", false), ("ShipPower$Plant", "shoreFrequency", "I", false)]
def rx_T7 : u_T := fun k => rx_fl7.getD k ("", "", "", false)
def rx_ft7 : List FieldType := [.object "ShipPower$Journal", .object "ShipPower$Board", .array (.object "ShipPower$PowerSet"), .array (.object "ShipPower$Consumer"), .array .int, .array .int, .int, .boolean, .int]
def rx_fl8 : List (String × String × String × Bool) := [("ShipPower$PowerSet", "number", "I", true), ("ShipPower$PowerSet", "bus", "I", true), ("ShipPower$PowerSet", "rating", "I", true), ("ShipPower$PowerSet", "state", "I", false), ("ShipPower$PowerSet", "failure", "I", false), ("ShipPower$PowerSet", "speed", "I", false), ("ShipPower$PowerSet", "phase", "I", false), ("ShipPower$PowerSet", "load", "I", false), ("ShipPower$PowerSet", "heat", "J", false), ("ShipPower$PowerSet", "weight", "I", false), ("ShipPower$PowerSet", "left", "I", false), ("ShipPower$PowerSet", "tries", "I", false), ("ShipPower$PowerSet", "offTicks", "I", false)]
def rx_T8 : u_T := fun k => rx_fl8.getD k ("", "", "", false)
def rx_ft8 : List FieldType := [.int, .int, .int, .int, .int, .int, .int, .int, .long, .int, .int, .int, .int]
def rx_fl9 : List (String × String × String × Bool) := [("ShipPower$Protection", "plant", "LShipPower$Plant;", true), ("ShipPower$Protection", "lowTicks", "[I", true), ("ShipPower$Protection", "hasShed", "Z", false), ("ShipPower$Protection", "latestShedding", "I", false), ("ShipPower$Protection", "shedSoFar", "I", false)]
def rx_T9 : u_T := fun k => rx_fl9.getD k ("", "", "", false)
def rx_ft9 : List FieldType := [.object "ShipPower$Plant", .array .int, .boolean, .int, .int]
def rx_fl10 : List (String × String × String × Bool) := [("ShipPower$Sharing", "plant", "LShipPower$Plant;", true), ("ShipPower$Sharing", "parts", "[I", true)]
def rx_T10 : u_T := fun k => rx_fl10.getD k ("", "", "", false)
def rx_ft10 : List FieldType := [.object "ShipPower$Plant", .array .int]
def rx_fl11 : List (String × String × String × Bool) := [("ShipPowerModel", "thrown", "I", false), ("ShipPowerModel", "now", "I", false), ("ShipPowerModel", "state", "[I", true), ("ShipPowerModel", "speed", "[I", true), ("ShipPowerModel", "phase", "[I", true), ("ShipPowerModel", "load", "[I", true), ("ShipPowerModel", "heat", "[I", true), ("ShipPowerModel", "weight", "[I", true), ("ShipPowerModel", "tries", "[I", true), ("ShipPowerModel", "left", "[I", true), ("ShipPowerModel", "failure", "[I", true), ("ShipPowerModel", "away", "[I", true), ("ShipPowerModel", "closed", "[Z", true), ("ShipPowerModel", "sticks", "[Z", true), ("ShipPowerModel", "stuck", "I", false), ("ShipPowerModel", "ordered", "Z", false), ("ShipPowerModel", "frequency", "[I", true), ("ShipPowerModel", "turned", "[I", true), ("ShipPowerModel", "low", "[I", true), ("ShipPowerModel", "calm", "[I", true), ("ShipPowerModel", "liveTicks", "[I", true), ("ShipPowerModel", "parallel", "I", false), ("ShipPowerModel", "modeNow", "I", false), ("ShipPowerModel", "startOrder", "[I", true), ("ShipPowerModel", "shoreIsThere", "Z", false), ("ShipPowerModel", "shoreSpeed", "I", false), ("ShipPowerModel", "consumers", "I", false), ("ShipPowerModel", "at", "[I", true), ("ShipPowerModel", "kind", "[I", true), ("ShipPowerModel", "kilowatts", "[I", true), ("ShipPowerModel", "factors", "[I", true), ("ShipPowerModel", "is", "[I", true), ("ShipPowerModel", "since", "[I", true), ("ShipPowerModel", "wasShed", "Z", false), ("ShipPowerModel", "shedAt", "I", false), ("ShipPowerModel", "shedSoFar", "I", false), ("ShipPowerModel", "dark", "I", false), ("ShipPowerModel", "ladder", "I", false), ("ShipPowerModel", "coming", "I", false), ("ShipPowerModel", "blackouts", "I", false), ("ShipPowerModel", "events", "I", false), ("ShipPowerModel", "eventTick", "[I", true), ("ShipPowerModel", "eventWhat", "[I", true), ("ShipPowerModel", "eventWhich", "[I", true)]
def rx_T11 : u_T := fun k => rx_fl11.getD k ("", "", "", false)
def rx_ft11 : List FieldType := [.int, .int, .array .int, .array .int, .array .int, .array .int, .array .int, .array .int, .array .int, .array .int, .array .int, .array .int, .array .boolean, .array .boolean, .int, .boolean, .array .int, .array .int, .array .int, .array .int, .array .int, .int, .int, .array .int, .boolean, .int, .int, .array .int, .array .int, .array .int, .array .int, .array .int, .array .int, .boolean, .int, .int, .int, .int, .int, .int, .int, .array .int, .array .int, .array .int]
def rx_cl : List vw_C := [("ShipPower", rx_T0, 8), ("ShipPower$Board", rx_T1, 5), ("ShipPower$Consumer", rx_T2, 7), ("ShipPower$Coupling", rx_T3, 4), ("ShipPower$Journal", rx_T4, 5), ("ShipPower$Ladder", rx_T5, 6), ("ShipPower$Manager", rx_T6, 5), ("ShipPower$Plant", rx_T7, 9), ("ShipPower$PowerSet", rx_T8, 13), ("ShipPower$Protection", rx_T9, 5), ("ShipPower$Sharing", rx_T10, 2), ("ShipPowerModel", rx_T11, 44)]
def rx_fts : List (List FieldType) := [rx_ft0, rx_ft1, rx_ft2, rx_ft3, rx_ft4, rx_ft5, rx_ft6, rx_ft7, rx_ft8, rx_ft9, rx_ft10, rx_ft11]
def rx_fc (t : FieldType) : Nat := match t with
  | .int => 0
  | .boolean => 1
  | .long => 2
  | .object _ => 3
  | .array _ => 3
  | _ => 9
def rx_dk : List (List Nat) := [[3, 3, 3, 3, 3, 3, 3, 3], [3, 3, 0, 0, 0], [0, 0, 0, 0, 0, 0, 0], [3, 3, 3, 1], [3, 3, 3, 0, 0], [3, 3, 0, 0, 0, 0], [3, 3, 3, 0, 0], [3, 3, 3, 3, 3, 3, 0, 1, 0], [0, 0, 0, 0, 0, 0, 0, 0, 2, 0, 0, 0, 0], [3, 3, 1, 0, 0], [3, 3], [0, 0, 3, 3, 3, 3, 3, 3, 3, 3, 3, 3, 3, 3, 0, 1, 3, 3, 3, 3, 3, 0, 0, 3, 1, 0, 0, 3, 3, 3, 3, 3, 3, 1, 0, 0, 0, 0, 0, 0, 0, 3, 3, 3]]
/-- what is known of a class, by its number -/
def rx_COk (i : Nat) (q : vw_C) : Prop := (∀ w ∈ u_ws q.1 q.2.1 q.2.2, w ∈ rx_bw) ∧ (∀ a, a < q.2.2 → ∀ b, b < q.2.2 → a ≠ b → (q.2.1 a).2.1 ≠ (q.2.1 b).2.1) ∧ Jvm.Cond.instantiable q.1 q.2.2 ∈ rx_bw ∧ Jvm.Cond.initialized q.1 ∈ rx_bw ∧ ∃ fs ks : List _, rx_fts[i]? = some fs ∧ rx_dk[i]? = some ks ∧ fs.length = q.2.2 ∧ ks = fs.map rx_fc ∧ ∀ k, k < q.2.2 → parseFieldDescriptor (q.2.1 k).2.2.1 = some (fs.getD k .int)
theorem rx_in0 : ∀ w ∈ u_ws "ShipPower" rx_T0 8, w ∈ rx_bw := by
  intro w hw
  obtain ⟨k, hk, rfl⟩ := List.mem_map.mp hw
  have hk := List.mem_range.mp hk
  match k, hk with
  | 0, _ => exact rx_bw_t (rx_t2 (List.mem_of_getElem? (i := 108) rfl)) rfl
  | 1, _ => exact rx_bw_t (rx_t2 (List.mem_of_getElem? (i := 110) rfl)) rfl
  | 2, _ => exact rx_bw_t (rx_t2 (List.mem_of_getElem? (i := 112) rfl)) rfl
  | 3, _ => exact rx_bw_t (rx_t2 (List.mem_of_getElem? (i := 114) rfl)) rfl
  | 4, _ => exact rx_bw_t (rx_t2 (List.mem_of_getElem? (i := 116) rfl)) rfl
  | 5, _ => exact rx_bw_t (rx_t2 (List.mem_of_getElem? (i := 118) rfl)) rfl
  | 6, _ => exact rx_bw_t (rx_t2 (List.mem_of_getElem? (i := 120) rfl)) rfl
  | 7, _ => exact rx_bw_t (rx_t2 (List.mem_of_getElem? (i := 122) rfl)) rfl
  | n + 8, hk => exact absurd hk (by omega)
theorem rx_nm0 : ∀ a, a < 8 → ∀ b, b < 8 → a ≠ b → (rx_T0 a).2.1 ≠ (rx_T0 b).2.1 := by decide +kernel
theorem rx_ty0 : ∀ k, k < 8 → parseFieldDescriptor (rx_T0 k).2.2.1 = some (rx_ft0.getD k .int) := by decide +kernel
theorem rx_c0 : rx_COk 0 ("ShipPower", rx_T0, 8) := ⟨rx_in0, rx_nm0, rx_bw_t (rx_t1 (List.mem_of_getElem? (i := 21) rfl)) rfl, rx_bw_t (rx_t1 (List.mem_of_getElem? (i := 1) rfl)) rfl, rx_ft0, [3, 3, 3, 3, 3, 3, 3, 3], rfl, rfl, rfl, by decide +kernel, rx_ty0⟩
theorem rx_in1 : ∀ w ∈ u_ws "ShipPower$Board" rx_T1 5, w ∈ rx_bw := by
  intro w hw
  obtain ⟨k, hk, rfl⟩ := List.mem_map.mp hw
  have hk := List.mem_range.mp hk
  match k, hk with
  | 0, _ => exact rx_bw_t (rx_t1 (List.mem_of_getElem? (i := 73) rfl)) rfl
  | 1, _ => exact rx_bw_t (rx_t1 (List.mem_of_getElem? (i := 75) rfl)) rfl
  | 2, _ => exact rx_bw_t (rx_t1 (List.mem_of_getElem? (i := 77) rfl)) rfl
  | 3, _ => exact rx_bw_t (rx_t1 (List.mem_of_getElem? (i := 79) rfl)) rfl
  | 4, _ => exact rx_bw_t (rx_t1 (List.mem_of_getElem? (i := 81) rfl)) rfl
  | n + 5, hk => exact absurd hk (by omega)
theorem rx_nm1 : ∀ a, a < 5 → ∀ b, b < 5 → a ≠ b → (rx_T1 a).2.1 ≠ (rx_T1 b).2.1 := by decide +kernel
theorem rx_ty1 : ∀ k, k < 5 → parseFieldDescriptor (rx_T1 k).2.2.1 = some (rx_ft1.getD k .int) := by decide +kernel
theorem rx_c1 : rx_COk 1 ("ShipPower$Board", rx_T1, 5) := ⟨rx_in1, rx_nm1, rx_bw_t (rx_t1 (List.mem_of_getElem? (i := 58) rfl)) rfl, rx_bw_t (rx_t1 (List.mem_of_getElem? (i := 3) rfl)) rfl, rx_ft1, [3, 3, 0, 0, 0], rfl, rfl, rfl, by decide +kernel, rx_ty1⟩
theorem rx_in2 : ∀ w ∈ u_ws "ShipPower$Consumer" rx_T2 7, w ∈ rx_bw := by
  intro w hw
  obtain ⟨k, hk, rfl⟩ := List.mem_map.mp hw
  have hk := List.mem_range.mp hk
  match k, hk with
  | 0, _ => exact rx_bw_t (rx_t4 (List.mem_of_getElem? (i := 230) rfl)) rfl
  | 1, _ => exact rx_bw_t (rx_t4 (List.mem_of_getElem? (i := 232) rfl)) rfl
  | 2, _ => exact rx_bw_t (rx_t4 (List.mem_of_getElem? (i := 234) rfl)) rfl
  | 3, _ => exact rx_bw_t (rx_t4 (List.mem_of_getElem? (i := 236) rfl)) rfl
  | 4, _ => exact rx_bw_t (rx_t4 (List.mem_of_getElem? (i := 238) rfl)) rfl
  | 5, _ => exact rx_bw_t (rx_t5 (List.mem_of_getElem? (i := 0) rfl)) rfl
  | 6, _ => exact rx_bw_t (rx_t5 (List.mem_of_getElem? (i := 2) rfl)) rfl
  | n + 7, hk => exact absurd hk (by omega)
theorem rx_nm2 : ∀ a, a < 7 → ∀ b, b < 7 → a ≠ b → (rx_T2 a).2.1 ≠ (rx_T2 b).2.1 := by decide +kernel
theorem rx_ty2 : ∀ k, k < 7 → parseFieldDescriptor (rx_T2 k).2.2.1 = some (rx_ft2.getD k .int) := by decide +kernel
theorem rx_c2 : rx_COk 2 ("ShipPower$Consumer", rx_T2, 7) := ⟨rx_in2, rx_nm2, rx_bw_t (rx_t4 (List.mem_of_getElem? (i := 203) rfl)) rfl, rx_bw_t (rx_t1 (List.mem_of_getElem? (i := 17) rfl)) rfl, rx_ft2, [0, 0, 0, 0, 0, 0, 0], rfl, rfl, rfl, by decide +kernel, rx_ty2⟩
theorem rx_in3 : ∀ w ∈ u_ws "ShipPower$Coupling" rx_T3 4, w ∈ rx_bw := by
  intro w hw
  obtain ⟨k, hk, rfl⟩ := List.mem_map.mp hw
  have hk := List.mem_range.mp hk
  match k, hk with
  | 0, _ => exact rx_bw_t (rx_t2 (List.mem_of_getElem? (i := 3) rfl)) rfl
  | 1, _ => exact rx_bw_t (rx_t2 (List.mem_of_getElem? (i := 5) rfl)) rfl
  | 2, _ => exact rx_bw_t (rx_t2 (List.mem_of_getElem? (i := 7) rfl)) rfl
  | 3, _ => exact rx_bw_t (rx_t2 (List.mem_of_getElem? (i := 9) rfl)) rfl
  | n + 4, hk => exact absurd hk (by omega)
theorem rx_nm3 : ∀ a, a < 4 → ∀ b, b < 4 → a ≠ b → (rx_T3 a).2.1 ≠ (rx_T3 b).2.1 := by decide +kernel
theorem rx_ty3 : ∀ k, k < 4 → parseFieldDescriptor (rx_T3 k).2.2.1 = some (rx_ft3.getD k .int) := by decide +kernel
theorem rx_c3 : rx_COk 3 ("ShipPower$Coupling", rx_T3, 4) := ⟨rx_in3, rx_nm3, rx_bw_t (rx_t1 (List.mem_of_getElem? (i := 233) rfl)) rfl, rx_bw_t (rx_t1 (List.mem_of_getElem? (i := 6) rfl)) rfl, rx_ft3, [3, 3, 3, 1], rfl, rfl, rfl, by decide +kernel, rx_ty3⟩
theorem rx_in4 : ∀ w ∈ u_ws "ShipPower$Journal" rx_T4 5, w ∈ rx_bw := by
  intro w hw
  obtain ⟨k, hk, rfl⟩ := List.mem_map.mp hw
  have hk := List.mem_range.mp hk
  match k, hk with
  | 0, _ => exact rx_bw_t (rx_t1 (List.mem_of_getElem? (i := 45) rfl)) rfl
  | 1, _ => exact rx_bw_t (rx_t1 (List.mem_of_getElem? (i := 47) rfl)) rfl
  | 2, _ => exact rx_bw_t (rx_t1 (List.mem_of_getElem? (i := 49) rfl)) rfl
  | 3, _ => exact rx_bw_t (rx_t1 (List.mem_of_getElem? (i := 51) rfl)) rfl
  | 4, _ => exact rx_bw_t (rx_t1 (List.mem_of_getElem? (i := 53) rfl)) rfl
  | n + 5, hk => exact absurd hk (by omega)
theorem rx_nm4 : ∀ a, a < 5 → ∀ b, b < 5 → a ≠ b → (rx_T4 a).2.1 ≠ (rx_T4 b).2.1 := by decide +kernel
theorem rx_ty4 : ∀ k, k < 5 → parseFieldDescriptor (rx_T4 k).2.2.1 = some (rx_ft4.getD k .int) := by decide +kernel
theorem rx_c4 : rx_COk 4 ("ShipPower$Journal", rx_T4, 5) := ⟨rx_in4, rx_nm4, rx_bw_t (rx_t1 (List.mem_of_getElem? (i := 29) rfl)) rfl, rx_bw_t (rx_t1 (List.mem_of_getElem? (i := 2) rfl)) rfl, rx_ft4, [3, 3, 3, 0, 0], rfl, rfl, rfl, by decide +kernel, rx_ty4⟩
theorem rx_in5 : ∀ w ∈ u_ws "ShipPower$Ladder" rx_T5 6, w ∈ rx_bw := by
  intro w hw
  obtain ⟨k, hk, rfl⟩ := List.mem_map.mp hw
  have hk := List.mem_range.mp hk
  match k, hk with
  | 0, _ => exact rx_bw_t (rx_t2 (List.mem_of_getElem? (i := 87) rfl)) rfl
  | 1, _ => exact rx_bw_t (rx_t2 (List.mem_of_getElem? (i := 89) rfl)) rfl
  | 2, _ => exact rx_bw_t (rx_t2 (List.mem_of_getElem? (i := 91) rfl)) rfl
  | 3, _ => exact rx_bw_t (rx_t2 (List.mem_of_getElem? (i := 93) rfl)) rfl
  | 4, _ => exact rx_bw_t (rx_t2 (List.mem_of_getElem? (i := 95) rfl)) rfl
  | 5, _ => exact rx_bw_t (rx_t2 (List.mem_of_getElem? (i := 97) rfl)) rfl
  | n + 6, hk => exact absurd hk (by omega)
theorem rx_nm5 : ∀ a, a < 6 → ∀ b, b < 6 → a ≠ b → (rx_T5 a).2.1 ≠ (rx_T5 b).2.1 := by decide +kernel
theorem rx_ty5 : ∀ k, k < 6 → parseFieldDescriptor (rx_T5 k).2.2.1 = some (rx_ft5.getD k .int) := by decide +kernel
theorem rx_c5 : rx_COk 5 ("ShipPower$Ladder", rx_T5, 6) := ⟨rx_in5, rx_nm5, rx_bw_t (rx_t2 (List.mem_of_getElem? (i := 74) rfl)) rfl, rx_bw_t (rx_t1 (List.mem_of_getElem? (i := 10) rfl)) rfl, rx_ft5, [3, 3, 0, 0, 0, 0], rfl, rfl, rfl, by decide +kernel, rx_ty5⟩
theorem rx_in6 : ∀ w ∈ u_ws "ShipPower$Manager" rx_T6 5, w ∈ rx_bw := by
  intro w hw
  obtain ⟨k, hk, rfl⟩ := List.mem_map.mp hw
  have hk := List.mem_range.mp hk
  match k, hk with
  | 0, _ => exact rx_bw_t (rx_t2 (List.mem_of_getElem? (i := 62) rfl)) rfl
  | 1, _ => exact rx_bw_t (rx_t2 (List.mem_of_getElem? (i := 64) rfl)) rfl
  | 2, _ => exact rx_bw_t (rx_t2 (List.mem_of_getElem? (i := 66) rfl)) rfl
  | 3, _ => exact rx_bw_t (rx_t2 (List.mem_of_getElem? (i := 68) rfl)) rfl
  | 4, _ => exact rx_bw_t (rx_t2 (List.mem_of_getElem? (i := 70) rfl)) rfl
  | n + 5, hk => exact absurd hk (by omega)
theorem rx_nm6 : ∀ a, a < 5 → ∀ b, b < 5 → a ≠ b → (rx_T6 a).2.1 ≠ (rx_T6 b).2.1 := by decide +kernel
theorem rx_ty6 : ∀ k, k < 5 → parseFieldDescriptor (rx_T6 k).2.2.1 = some (rx_ft6.getD k .int) := by decide +kernel
theorem rx_c6 : rx_COk 6 ("ShipPower$Manager", rx_T6, 5) := ⟨rx_in6, rx_nm6, rx_bw_t (rx_t2 (List.mem_of_getElem? (i := 49) rfl)) rfl, rx_bw_t (rx_t1 (List.mem_of_getElem? (i := 9) rfl)) rfl, rx_ft6, [3, 3, 3, 0, 0], rfl, rfl, rfl, by decide +kernel, rx_ty6⟩
theorem rx_in7 : ∀ w ∈ u_ws "ShipPower$Plant" rx_T7 9, w ∈ rx_bw := by
  intro w hw
  obtain ⟨k, hk, rfl⟩ := List.mem_map.mp hw
  have hk := List.mem_range.mp hk
  match k, hk with
  | 0, _ => exact rx_bw_t (rx_t1 (List.mem_of_getElem? (i := 213) rfl)) rfl
  | 1, _ => exact rx_bw_t (rx_t1 (List.mem_of_getElem? (i := 215) rfl)) rfl
  | 2, _ => exact rx_bw_t (rx_t1 (List.mem_of_getElem? (i := 217) rfl)) rfl
  | 3, _ => exact rx_bw_t (rx_t1 (List.mem_of_getElem? (i := 219) rfl)) rfl
  | 4, _ => exact rx_bw_t (rx_t1 (List.mem_of_getElem? (i := 221) rfl)) rfl
  | 5, _ => exact rx_bw_t (rx_t1 (List.mem_of_getElem? (i := 223) rfl)) rfl
  | 6, _ => exact rx_bw_t (rx_t1 (List.mem_of_getElem? (i := 225) rfl)) rfl
  | 7, _ => exact rx_bw_t (rx_t1 (List.mem_of_getElem? (i := 227) rfl)) rfl
  | 8, _ => exact rx_bw_t (rx_t1 (List.mem_of_getElem? (i := 229) rfl)) rfl
  | n + 9, hk => exact absurd hk (by omega)
theorem rx_nm7 : ∀ a, a < 9 → ∀ b, b < 9 → a ≠ b → (rx_T7 a).2.1 ≠ (rx_T7 b).2.1 := by decide +kernel
theorem rx_ty7 : ∀ k, k < 9 → parseFieldDescriptor (rx_T7 k).2.2.1 = some (rx_ft7.getD k .int) := by decide +kernel
theorem rx_c7 : rx_COk 7 ("ShipPower$Plant", rx_T7, 9) := ⟨rx_in7, rx_nm7, rx_bw_t (rx_t1 (List.mem_of_getElem? (i := 85) rfl)) rfl, rx_bw_t (rx_t1 (List.mem_of_getElem? (i := 4) rfl)) rfl, rx_ft7, [3, 3, 3, 3, 3, 3, 0, 1, 0], rfl, rfl, rfl, by decide +kernel, rx_ty7⟩
theorem rx_in8 : ∀ w ∈ u_ws "ShipPower$PowerSet" rx_T8 13, w ∈ rx_bw := by
  intro w hw
  obtain ⟨k, hk, rfl⟩ := List.mem_map.mp hw
  have hk := List.mem_range.mp hk
  match k, hk with
  | 0, _ => exact rx_bw_t (rx_t1 (List.mem_of_getElem? (i := 152) rfl)) rfl
  | 1, _ => exact rx_bw_t (rx_t1 (List.mem_of_getElem? (i := 154) rfl)) rfl
  | 2, _ => exact rx_bw_t (rx_t1 (List.mem_of_getElem? (i := 156) rfl)) rfl
  | 3, _ => exact rx_bw_t (rx_t1 (List.mem_of_getElem? (i := 158) rfl)) rfl
  | 4, _ => exact rx_bw_t (rx_t1 (List.mem_of_getElem? (i := 160) rfl)) rfl
  | 5, _ => exact rx_bw_t (rx_t1 (List.mem_of_getElem? (i := 162) rfl)) rfl
  | 6, _ => exact rx_bw_t (rx_t1 (List.mem_of_getElem? (i := 164) rfl)) rfl
  | 7, _ => exact rx_bw_t (rx_t1 (List.mem_of_getElem? (i := 166) rfl)) rfl
  | 8, _ => exact rx_bw_t (rx_t1 (List.mem_of_getElem? (i := 168) rfl)) rfl
  | 9, _ => exact rx_bw_t (rx_t1 (List.mem_of_getElem? (i := 170) rfl)) rfl
  | 10, _ => exact rx_bw_t (rx_t1 (List.mem_of_getElem? (i := 172) rfl)) rfl
  | 11, _ => exact rx_bw_t (rx_t1 (List.mem_of_getElem? (i := 174) rfl)) rfl
  | 12, _ => exact rx_bw_t (rx_t1 (List.mem_of_getElem? (i := 176) rfl)) rfl
  | n + 13, hk => exact absurd hk (by omega)
theorem rx_nm8 : ∀ a, a < 13 → ∀ b, b < 13 → a ≠ b → (rx_T8 a).2.1 ≠ (rx_T8 b).2.1 := by decide +kernel
theorem rx_ty8 : ∀ k, k < 13 → parseFieldDescriptor (rx_T8 k).2.2.1 = some (rx_ft8.getD k .int) := by decide +kernel
theorem rx_c8 : rx_COk 8 ("ShipPower$PowerSet", rx_T8, 13) := ⟨rx_in8, rx_nm8, rx_bw_t (rx_t1 (List.mem_of_getElem? (i := 94) rfl)) rfl, rx_bw_t (rx_t1 (List.mem_of_getElem? (i := 5) rfl)) rfl, rx_ft8, [0, 0, 0, 0, 0, 0, 0, 0, 2, 0, 0, 0, 0], rfl, rfl, rfl, by decide +kernel, rx_ty8⟩
theorem rx_in9 : ∀ w ∈ u_ws "ShipPower$Protection" rx_T9 5, w ∈ rx_bw := by
  intro w hw
  obtain ⟨k, hk, rfl⟩ := List.mem_map.mp hw
  have hk := List.mem_range.mp hk
  match k, hk with
  | 0, _ => exact rx_bw_t (rx_t2 (List.mem_of_getElem? (i := 37) rfl)) rfl
  | 1, _ => exact rx_bw_t (rx_t2 (List.mem_of_getElem? (i := 39) rfl)) rfl
  | 2, _ => exact rx_bw_t (rx_t2 (List.mem_of_getElem? (i := 41) rfl)) rfl
  | 3, _ => exact rx_bw_t (rx_t2 (List.mem_of_getElem? (i := 43) rfl)) rfl
  | 4, _ => exact rx_bw_t (rx_t2 (List.mem_of_getElem? (i := 45) rfl)) rfl
  | n + 5, hk => exact absurd hk (by omega)
theorem rx_nm9 : ∀ a, a < 5 → ∀ b, b < 5 → a ≠ b → (rx_T9 a).2.1 ≠ (rx_T9 b).2.1 := by decide +kernel
theorem rx_ty9 : ∀ k, k < 5 → parseFieldDescriptor (rx_T9 k).2.2.1 = some (rx_ft9.getD k .int) := by decide +kernel
theorem rx_c9 : rx_COk 9 ("ShipPower$Protection", rx_T9, 5) := ⟨rx_in9, rx_nm9, rx_bw_t (rx_t2 (List.mem_of_getElem? (i := 26) rfl)) rfl, rx_bw_t (rx_t1 (List.mem_of_getElem? (i := 8) rfl)) rfl, rx_ft9, [3, 3, 1, 0, 0], rfl, rfl, rfl, by decide +kernel, rx_ty9⟩
theorem rx_in10 : ∀ w ∈ u_ws "ShipPower$Sharing" rx_T10 2, w ∈ rx_bw := by
  intro w hw
  obtain ⟨k, hk, rfl⟩ := List.mem_map.mp hw
  have hk := List.mem_range.mp hk
  match k, hk with
  | 0, _ => exact rx_bw_t (rx_t2 (List.mem_of_getElem? (i := 20) rfl)) rfl
  | 1, _ => exact rx_bw_t (rx_t2 (List.mem_of_getElem? (i := 22) rfl)) rfl
  | n + 2, hk => exact absurd hk (by omega)
theorem rx_nm10 : ∀ a, a < 2 → ∀ b, b < 2 → a ≠ b → (rx_T10 a).2.1 ≠ (rx_T10 b).2.1 := by decide +kernel
theorem rx_ty10 : ∀ k, k < 2 → parseFieldDescriptor (rx_T10 k).2.2.1 = some (rx_ft10.getD k .int) := by decide +kernel
theorem rx_c10 : rx_COk 10 ("ShipPower$Sharing", rx_T10, 2) := ⟨rx_in10, rx_nm10, rx_bw_t (rx_t2 (List.mem_of_getElem? (i := 13) rfl)) rfl, rx_bw_t (rx_t1 (List.mem_of_getElem? (i := 7) rfl)) rfl, rx_ft10, [3, 3], rfl, rfl, rfl, by decide +kernel, rx_ty10⟩
theorem rx_in11 : ∀ w ∈ u_ws "ShipPowerModel" rx_T11 44, w ∈ rx_bw := by
  intro w hw
  obtain ⟨k, hk, rfl⟩ := List.mem_map.mp hw
  have hk := List.mem_range.mp hk
  match k, hk with
  | 0, _ => exact rx_bw_t (rx_t5 (List.mem_of_getElem? (i := 154) rfl)) rfl
  | 1, _ => exact rx_bw_t (rx_t5 (List.mem_of_getElem? (i := 156) rfl)) rfl
  | 2, _ => exact rx_bw_t (rx_t5 (List.mem_of_getElem? (i := 158) rfl)) rfl
  | 3, _ => exact rx_bw_t (rx_t5 (List.mem_of_getElem? (i := 160) rfl)) rfl
  | 4, _ => exact rx_bw_t (rx_t5 (List.mem_of_getElem? (i := 162) rfl)) rfl
  | 5, _ => exact rx_bw_t (rx_t5 (List.mem_of_getElem? (i := 164) rfl)) rfl
  | 6, _ => exact rx_bw_t (rx_t5 (List.mem_of_getElem? (i := 166) rfl)) rfl
  | 7, _ => exact rx_bw_t (rx_t5 (List.mem_of_getElem? (i := 168) rfl)) rfl
  | 8, _ => exact rx_bw_t (rx_t5 (List.mem_of_getElem? (i := 170) rfl)) rfl
  | 9, _ => exact rx_bw_t (rx_t5 (List.mem_of_getElem? (i := 172) rfl)) rfl
  | 10, _ => exact rx_bw_t (rx_t5 (List.mem_of_getElem? (i := 174) rfl)) rfl
  | 11, _ => exact rx_bw_t (rx_t5 (List.mem_of_getElem? (i := 176) rfl)) rfl
  | 12, _ => exact rx_bw_t (rx_t5 (List.mem_of_getElem? (i := 178) rfl)) rfl
  | 13, _ => exact rx_bw_t (rx_t5 (List.mem_of_getElem? (i := 180) rfl)) rfl
  | 14, _ => exact rx_bw_t (rx_t5 (List.mem_of_getElem? (i := 182) rfl)) rfl
  | 15, _ => exact rx_bw_t (rx_t5 (List.mem_of_getElem? (i := 184) rfl)) rfl
  | 16, _ => exact rx_bw_t (rx_t5 (List.mem_of_getElem? (i := 186) rfl)) rfl
  | 17, _ => exact rx_bw_t (rx_t5 (List.mem_of_getElem? (i := 188) rfl)) rfl
  | 18, _ => exact rx_bw_t (rx_t5 (List.mem_of_getElem? (i := 190) rfl)) rfl
  | 19, _ => exact rx_bw_t (rx_t5 (List.mem_of_getElem? (i := 192) rfl)) rfl
  | 20, _ => exact rx_bw_t (rx_t5 (List.mem_of_getElem? (i := 194) rfl)) rfl
  | 21, _ => exact rx_bw_t (rx_t5 (List.mem_of_getElem? (i := 196) rfl)) rfl
  | 22, _ => exact rx_bw_t (rx_t5 (List.mem_of_getElem? (i := 198) rfl)) rfl
  | 23, _ => exact rx_bw_t (rx_t5 (List.mem_of_getElem? (i := 200) rfl)) rfl
  | 24, _ => exact rx_bw_t (rx_t5 (List.mem_of_getElem? (i := 202) rfl)) rfl
  | 25, _ => exact rx_bw_t (rx_t5 (List.mem_of_getElem? (i := 204) rfl)) rfl
  | 26, _ => exact rx_bw_t (rx_t5 (List.mem_of_getElem? (i := 206) rfl)) rfl
  | 27, _ => exact rx_bw_t (rx_t5 (List.mem_of_getElem? (i := 208) rfl)) rfl
  | 28, _ => exact rx_bw_t (rx_t5 (List.mem_of_getElem? (i := 210) rfl)) rfl
  | 29, _ => exact rx_bw_t (rx_t5 (List.mem_of_getElem? (i := 212) rfl)) rfl
  | 30, _ => exact rx_bw_t (rx_t5 (List.mem_of_getElem? (i := 214) rfl)) rfl
  | 31, _ => exact rx_bw_t (rx_t5 (List.mem_of_getElem? (i := 216) rfl)) rfl
  | 32, _ => exact rx_bw_t (rx_t5 (List.mem_of_getElem? (i := 218) rfl)) rfl
  | 33, _ => exact rx_bw_t (rx_t5 (List.mem_of_getElem? (i := 220) rfl)) rfl
  | 34, _ => exact rx_bw_t (rx_t5 (List.mem_of_getElem? (i := 222) rfl)) rfl
  | 35, _ => exact rx_bw_t (rx_t5 (List.mem_of_getElem? (i := 224) rfl)) rfl
  | 36, _ => exact rx_bw_t (rx_t5 (List.mem_of_getElem? (i := 226) rfl)) rfl
  | 37, _ => exact rx_bw_t (rx_t5 (List.mem_of_getElem? (i := 228) rfl)) rfl
  | 38, _ => exact rx_bw_t (rx_t5 (List.mem_of_getElem? (i := 230) rfl)) rfl
  | 39, _ => exact rx_bw_t (rx_t5 (List.mem_of_getElem? (i := 232) rfl)) rfl
  | 40, _ => exact rx_bw_t (rx_t5 (List.mem_of_getElem? (i := 234) rfl)) rfl
  | 41, _ => exact rx_bw_t (rx_t5 (List.mem_of_getElem? (i := 236) rfl)) rfl
  | 42, _ => exact rx_bw_t (rx_t5 (List.mem_of_getElem? (i := 238) rfl)) rfl
  | 43, _ => exact rx_bw_t (rx_t6 (List.mem_of_getElem? (i := 0) rfl)) rfl
  | n + 44, hk => exact absurd hk (by omega)
theorem rx_nm11 : ∀ a, a < 44 → ∀ b, b < 44 → a ≠ b → (rx_T11 a).2.1 ≠ (rx_T11 b).2.1 := by decide +kernel
theorem rx_ty11 : ∀ k, k < 44 → parseFieldDescriptor (rx_T11 k).2.2.1 = some (rx_ft11.getD k .int) := by decide +kernel
theorem rx_c11 : rx_COk 11 ("ShipPowerModel", rx_T11, 44) := ⟨rx_in11, rx_nm11, rx_bw_t (rx_t5 (List.mem_of_getElem? (i := 105) rfl)) rfl, rx_bw_t (rx_t1 (List.mem_of_getElem? (i := 11) rfl)) rfl, rx_ft11, [0, 0, 3, 3, 3, 3, 3, 3, 3, 3, 3, 3, 3, 3, 0, 1, 3, 3, 3, 3, 3, 0, 0, 3, 1, 0, 0, 3, 3, 3, 3, 3, 3, 1, 0, 0, 0, 0, 0, 0, 0, 3, 3, 3], rfl, rfl, rfl, by decide +kernel, rx_ty11⟩
theorem rx_cl_ok : ∀ (i : Nat) (q : vw_C), rx_cl[i]? = some q → rx_COk i q := by
  intro i q h
  match i, h with
  | 0, h => cases h; exact rx_c0
  | 1, h => cases h; exact rx_c1
  | 2, h => cases h; exact rx_c2
  | 3, h => cases h; exact rx_c3
  | 4, h => cases h; exact rx_c4
  | 5, h => cases h; exact rx_c5
  | 6, h => cases h; exact rx_c6
  | 7, h => cases h; exact rx_c7
  | 8, h => cases h; exact rx_c8
  | 9, h => cases h; exact rx_c9
  | 10, h => cases h; exact rx_c10
  | 11, h => cases h; exact rx_c11
  | n + 12, h => exact absurd h (by simp [rx_cl])
def rx_sn : List String := ["BUS_OF_SET", "RATING_OF_SET", "RESERVE_OF_MODE", "EVENT_OF_STATE"]
def rx_nm : List (String × Nat × MethodName) := [("ShipPower", 9, ⟨"ShipPower$Journal", "<init>", "()V"⟩), ("ShipPower$Coupling", 95, ⟨"ShipPower", "approach", "(III)I"⟩), ("ShipPower$Coupling", 102, ⟨"ShipPower", "turned", "(II)I"⟩), ("ShipPower$Sharing", 59, ⟨"ShipPower", "approach", "(III)I"⟩), ("ShipPower$Sharing", 66, ⟨"ShipPower", "turned", "(II)I"⟩)]
def rx_nf : List (String × Nat × String) := [("ShipPower$Manager", 18, "RESERVE_OF_MODE"), ("ShipPower$Plant", 84, "EVENT_OF_STATE"), ("ShipPower$PowerSet", 15, "BUS_OF_SET"), ("ShipPower$PowerSet", 22, "RATING_OF_SET")]
def rx_ao : List String := ["ShipPower$Consumer", "ShipPower$PowerSet"]
end
section
/-! A MACHINE THAT RUNS THE BYTECODE OVER INTERVALS. Values: an int between two numbers, a long between two, a reference to the k-th cell of the world or null, a reference to the j-th read-only array. -/
abbrev rx_V : Type := (Int × Int) ⊕ ((Int × Int) ⊕ (Option Nat ⊕ Nat))
abbrev rx_C : Type := (Nat × List rx_V) ⊕ (Nat × List rx_V)
abbrev rx_H : Type := List rx_C
abbrev rx_F : Type := List (Option rx_V)
theorem rx_lg (a b : Int) : a < b ∨ b ≤ a := by omega
/-- comparing whole numbers, quick in the kernel -/
def rx_le (a b : Int) : Bool := match a, b with
  | .ofNat m, .ofNat n => Nat.ble m n
  | .negSucc _, .ofNat _ => true
  | .ofNat _, .negSucc _ => false
  | .negSucc m, .negSucc n => Nat.ble n m
theorem rx_le_iff (a b : Int) : rx_le a b = true ↔ a ≤ b := by
  cases a with
  | ofNat m =>
    cases b with
    | ofNat n => simp [rx_le]
    | negSucc n => simp only [rx_le]; constructor
                   · intro h; cases h
                   · intro h; simp only [Int.ofNat_eq_natCast] at h; omega
  | negSucc m =>
    cases b with
    | ofNat n => simp only [rx_le, true_iff, Int.ofNat_eq_natCast]; omega
    | negSucc n => simp only [rx_le, Nat.ble_eq]; omega
theorem rx_le_t {a b : Int} (h : rx_le a b = true) : a ≤ b := (rx_le_iff a b).mp h
theorem rx_le_f {a b : Int} (h : rx_le a b = false) : b < a := by
  rcases rx_lg b a with q | q
  · exact q
  · rw [(rx_le_iff a b).mpr q] at h; cases h
/-- a number in its normal form, handed on -/
def rx_fI {β : Type} (z : Int) (k : Int → β) : β := match z with
  | .ofNat 0 => k (.ofNat 0)
  | .ofNat (n + 1) => k (.ofNat (Nat.succ n))
  | .negSucc 0 => k (.negSucc 0)
  | .negSucc (n + 1) => k (.negSucc (Nat.succ n))
theorem rx_fI_eq {β : Type} (z : Int) (k : Int → β) : rx_fI z k = k z := by
  cases z with
  | ofNat n => cases n <;> rfl
  | negSucc n => cases n <;> rfl
def rx_fN {β : Type} (n : Nat) (k : Nat → β) : β := match n with
  | 0 => k 0
  | m + 1 => k (Nat.succ m)
theorem rx_fN_eq {β : Type} (n : Nat) (k : Nat → β) : rx_fN n k = k n := by cases n <;> rfl
def rx_pI {β : Type} (q : Int × Int) (k : rx_V → β) : β := rx_fI q.1 fun a => rx_fI q.2 fun b => k (.inl (a, b))
def rx_pL {β : Type} (q : Int × Int) (k : rx_V → β) : β := rx_fI q.1 fun a => rx_fI q.2 fun b => k (.inr (.inl (a, b)))
theorem rx_pI_eq {β : Type} (q : Int × Int) (k : rx_V → β) : rx_pI q k = k (.inl q) := by simp only [rx_pI, rx_fI_eq]
theorem rx_pL_eq {β : Type} (q : Int × Int) (k : rx_V → β) : rx_pL q k = k (.inr (.inl q)) := by simp only [rx_pL, rx_fI_eq]
/-- a place of a list, handed on; a list with a place changed, handed on -/
noncomputable def rx_get {α β : Type} (l : List α) : Nat → (α → Option β) → Option β :=
  List.rec (motive := fun _ => Nat → (α → Option β) → Option β) (fun _ _ => none)
    (fun a _ ih i k => Nat.rec (motive := fun _ => Option β) (k a) (fun j _ => ih j k) i) l
theorem rx_get_some {α β : Type} {l : List α} : ∀ {i : Nat} {k : α → Option β} {r : β}, rx_get l i k = some r → ∃ a, l[i]? = some a ∧ k a = some r := by
  induction l with
  | nil => intro i k r h; cases h
  | cons a t ih =>
    intro i k r h
    cases i with
    | zero => exact ⟨a, rfl, h⟩
    | succ j => exact ih (i := j) h
noncomputable def rx_set {α β : Type} (l : List α) : Nat → α → (List α → Option β) → Option β :=
  List.rec (motive := fun _ => Nat → α → (List α → Option β) → Option β) (fun _ _ _ => none)
    (fun a t ih i x k => Nat.rec (motive := fun _ => Option β) (k (x :: t)) (fun j _ => ih j x (fun t' => k (a :: t'))) i) l
theorem rx_set_some {α β : Type} {l : List α} : ∀ {i : Nat} {x : α} {k : List α → Option β} {r : β}, rx_set l i x k = some r → i < l.length ∧ k (l.set i x) = some r := by
  induction l with
  | nil => intro i x k r h; cases h
  | cons a t ih =>
    intro i x k r h
    cases i with
    | zero => exact ⟨Nat.succ_pos _, h⟩
    | succ j =>
      obtain ⟨h1, h2⟩ := ih (i := j) (k := fun t' => k (a :: t')) h
      exact ⟨Nat.succ_lt_succ h1, h2⟩
/-- a cell put behind a list, handed on -/
noncomputable def rx_app {α β : Type} (l : List α) : α → (List α → Option β) → Option β :=
  List.rec (motive := fun _ => α → (List α → Option β) → Option β) (fun x k => k [x])
    (fun a _ ih x k => ih x (fun t' => k (a :: t'))) l
theorem rx_app_eq {α β : Type} {l : List α} : ∀ {x : α} {k : List α → Option β}, rx_app l x k = k (l ++ [x]) := by
  induction l with
  | nil => intro x k; rfl
  | cons a t ih => intro x k; exact ih (k := fun t' => k (a :: t'))
/-- the n topmost of a stack, the deepest first, and the rest -/
noncomputable def rx_pop {β : Type} (n : Nat) : List rx_V → List rx_V → (List rx_V → List rx_V → Option β) → Option β :=
  Nat.rec (motive := fun _ => List rx_V → List rx_V → (List rx_V → List rx_V → Option β) → Option β) (fun st acc k => k acc st)
    (fun _ ih st acc k => List.rec (motive := fun _ => Option β) none (fun a t _ => ih t (a :: acc) k) st) n
theorem rx_pop_some {β : Type} : ∀ {n : Nat} {st acc : List rx_V} {k : List rx_V → List rx_V → Option β} {r : β}, rx_pop n st acc k = some r → ∃ x rest, st = x ++ rest ∧ x.length = n ∧ k (x.reverse ++ acc) rest = some r := by
  intro n
  induction n with
  | zero => intro st acc k r h; exact ⟨[], st, rfl, rfl, h⟩
  | succ n ih =>
    intro st acc k r h
    cases st with
    | nil => cases h
    | cons a t =>
      obtain ⟨x, rest, h1, h2, h3⟩ := ih (st := t) (acc := a :: acc) h
      refine ⟨a :: x, rest, by rw [h1]; rfl, by simp [h2], ?_⟩
      rw [List.reverse_cons, List.append_assoc]
      exact h3
/-! ARITHMETIC on intervals -/
def rx_top : Int × Int := (-2147483648, 2147483647)
def rx_topL : Int × Int := (-9223372036854775808, 9223372036854775807)
def rx_i32 (q : Int × Int) : Int × Int := bif rx_le (-2147483648) q.1 && rx_le q.2 2147483647 then q else rx_top
def rx_i64 (q : Int × Int) : Int × Int := bif rx_le (-9223372036854775808) q.1 && rx_le q.2 9223372036854775807 then q else rx_topL
def rx_min (a b : Int) : Int := bif rx_le a b then a else b
def rx_max (a b : Int) : Int := bif rx_le a b then b else a
def rx_add (a b : Int × Int) : Int × Int := (a.1 + b.1, a.2 + b.2)
def rx_sub (a b : Int × Int) : Int × Int := (a.1 - b.2, a.2 - b.1)
def rx_neg (a : Int × Int) : Int × Int := (-a.2, -a.1)
/-- of numbers from 0 on; else the widest of either size -/
def rx_mul (w : Int × Int) (a b : Int × Int) : Int × Int := bif rx_le 0 a.1 && rx_le 0 b.1 then (a.1 * b.1, a.2 * b.2) else bif rx_le a.2 a.1 && rx_le b.2 b.1 && (rx_le a.1 a.2 && rx_le b.1 b.2) then (a.1 * b.1, a.1 * b.1) else w
/-- by a number above 0 -/
def rx_div (a b : Int × Int) : Int × Int := bif rx_le 0 a.1 then (Int.ediv a.1 b.2, Int.ediv a.2 b.1) else (rx_min a.1 0, rx_max a.2 0)
def rx_one (a : Int × Int) : Bool := rx_le a.2 a.1
/-- the rest: of a number from 0 on by a known one -/
def rx_rem (a b : Int × Int) : Int × Int := bif rx_le 0 a.1 then (bif rx_one a && rx_one b then (Int.emod a.1 b.1, Int.emod a.1 b.1) else (0, rx_min a.2 (b.2 - 1))) else (1 - b.2, b.2 - 1)
def rx_cmp (c : ClassFile.Cond) (a b : Int × Int) : Option Bool := match c with
  | .eq => bif rx_le b.2 a.1 && rx_le a.2 b.1 then some true else bif rx_le b.1 a.2 && rx_le a.1 b.2 then none else some false
  | .ne => bif rx_le b.2 a.1 && rx_le a.2 b.1 then some false else bif rx_le b.1 a.2 && rx_le a.1 b.2 then none else some true
  | .lt => bif rx_le b.2 a.1 then some false else bif rx_le b.1 a.2 then none else some true
  | .ge => bif rx_le b.2 a.1 then some true else bif rx_le b.1 a.2 then none else some false
  | .gt => bif rx_le a.2 b.1 then some false else bif rx_le a.1 b.2 then none else some true
  | .le => bif rx_le a.2 b.1 then some true else bif rx_le a.1 b.2 then none else some false
theorem rx_r32 (x : Int32) : -2147483648 ≤ x.toInt ∧ x.toInt ≤ 2147483647 := ⟨x.le_toInt, by have := x.toInt_lt; omega⟩
theorem rx_r64 (x : Int64) : -9223372036854775808 ≤ x.toInt ∧ x.toInt ≤ 9223372036854775807 := ⟨x.le_toInt, by have := x.toInt_lt; omega⟩
def rx_has (q : Int × Int) (z : Int) : Prop := q.1 ≤ z ∧ z ≤ q.2
theorem rx_has32 {q : Int × Int} {x : Int32} {z : Int} (hz : rx_has q z) (h : -2147483648 ≤ z → z ≤ 2147483647 → x.toInt = z) : rx_has (rx_i32 q) x.toInt := by
  unfold rx_i32
  cases hb : rx_le (-2147483648) q.1 && rx_le q.2 2147483647 with
  | false => exact rx_r32 x
  | true =>
    rw [Bool.and_eq_true] at hb
    have h1 := rx_le_t hb.1
    have h2 := rx_le_t hb.2
    have hz1 := hz.1
    have hz2 := hz.2
    rw [show (bif true then q else rx_top) = q from rfl, h (by omega) (by omega)]
    exact hz
theorem rx_has64 {q : Int × Int} {x : Int64} {z : Int} (hz : rx_has q z) (h : -9223372036854775808 ≤ z → z ≤ 9223372036854775807 → x.toInt = z) : rx_has (rx_i64 q) x.toInt := by
  unfold rx_i64
  cases hb : rx_le (-9223372036854775808) q.1 && rx_le q.2 9223372036854775807 with
  | false => exact rx_r64 x
  | true =>
    rw [Bool.and_eq_true] at hb
    have h1 := rx_le_t hb.1
    have h2 := rx_le_t hb.2
    have hz1 := hz.1
    have hz2 := hz.2
    rw [show (bif true then q else rx_topL) = q from rfl, h (by omega) (by omega)]
    exact hz
theorem rx_has_add {a b : Int × Int} {x y : Int} (ha : rx_has a x) (hb : rx_has b y) : rx_has (rx_add a b) (x + y) := by
  have := ha.1; have := ha.2; have := hb.1; have := hb.2
  exact ⟨by show a.1 + b.1 ≤ _; omega, by show _ ≤ a.2 + b.2; omega⟩
theorem rx_has_sub {a b : Int × Int} {x y : Int} (ha : rx_has a x) (hb : rx_has b y) : rx_has (rx_sub a b) (x - y) := by
  have := ha.1; have := ha.2; have := hb.1; have := hb.2
  exact ⟨by show a.1 - b.2 ≤ _; omega, by show _ ≤ a.2 - b.1; omega⟩
theorem rx_has_neg {a : Int × Int} {x : Int} (ha : rx_has a x) : rx_has (rx_neg a) (-x) := by
  have := ha.1; have := ha.2
  exact ⟨by show -a.2 ≤ _; omega, by show _ ≤ -a.1; omega⟩
theorem rx_bm32 {z : Int} (h1 : -2147483648 ≤ z) (h2 : z ≤ 2147483647) : z.bmod (2 ^ 32) = z := by
  rw [Int.bmod_def]; split <;> omega
theorem rx_bm64 {z : Int} (h1 : -9223372036854775808 ≤ z) (h2 : z ≤ 9223372036854775807) : z.bmod (2 ^ 64) = z := by
  rw [Int.bmod_def]; split <;> omega
theorem rx_iadd {a b : Int × Int} {x y : Int32} (ha : rx_has a x.toInt) (hb : rx_has b y.toInt) : rx_has (rx_i32 (rx_add a b)) (x + y).toInt :=
  rx_has32 (rx_has_add ha hb) fun h1 h2 => by rw [Int32.toInt_add]; exact rx_bm32 h1 h2
theorem rx_isub {a b : Int × Int} {x y : Int32} (ha : rx_has a x.toInt) (hb : rx_has b y.toInt) : rx_has (rx_i32 (rx_sub a b)) (x - y).toInt :=
  rx_has32 (rx_has_sub ha hb) fun h1 h2 => by rw [Int32.toInt_sub]; exact rx_bm32 h1 h2
theorem rx_ineg {a : Int × Int} {x : Int32} (ha : rx_has a x.toInt) : rx_has (rx_i32 (rx_neg a)) (-x).toInt :=
  rx_has32 (rx_has_neg ha) fun h1 h2 => by rw [Int32.toInt_neg]; exact rx_bm32 h1 h2
theorem rx_ladd {a b : Int × Int} {x y : Int64} (ha : rx_has a x.toInt) (hb : rx_has b y.toInt) : rx_has (rx_i64 (rx_add a b)) (x + y).toInt :=
  rx_has64 (rx_has_add ha hb) fun h1 h2 => by rw [Int64.toInt_add]; exact rx_bm64 h1 h2
theorem rx_lsub {a b : Int × Int} {x y : Int64} (ha : rx_has a x.toInt) (hb : rx_has b y.toInt) : rx_has (rx_i64 (rx_sub a b)) (x - y).toInt :=
  rx_has64 (rx_has_sub ha hb) fun h1 h2 => by rw [Int64.toInt_sub]; exact rx_bm64 h1 h2
theorem rx_has_mul {w a b : Int × Int} {x y : Int} (ha : rx_has a x) (hb : rx_has b y) : rx_has (rx_mul w a b) (x * y) ∨ rx_mul w a b = w := by
  obtain ⟨a1, a2⟩ := ha
  obtain ⟨b1, b2⟩ := hb
  unfold rx_mul
  cases h : rx_le 0 a.1 && rx_le 0 b.1 with
  | true =>
    rw [Bool.and_eq_true] at h
    have h1 := rx_le_t h.1
    have h2 := rx_le_t h.2
    refine Or.inl ⟨Int.mul_le_mul a1 b1 h2 (by omega), Int.mul_le_mul a2 b2 (by omega) (by omega)⟩
  | false =>
    rw [show ∀ (p q : Int × Int), (bif false then p else q) = q from fun _ _ => rfl]
    cases h3 : rx_le a.2 a.1 && rx_le b.2 b.1 && (rx_le a.1 a.2 && rx_le b.1 b.2) with
    | true =>
      simp only [Bool.and_eq_true] at h3
      have q1 := rx_le_t h3.1.1
      have q2 := rx_le_t h3.1.2
      have e1 : x = a.1 := by omega
      have e2 : y = b.1 := by omega
      subst e1; subst e2
      exact Or.inl ⟨Int.le_refl _, Int.le_refl _⟩
    | false => exact Or.inr rfl
theorem rx_imul {a b : Int × Int} {x y : Int32} (ha : rx_has a x.toInt) (hb : rx_has b y.toInt) : rx_has (rx_i32 (rx_mul rx_top a b)) (x * y).toInt := by
  rcases rx_has_mul (w := rx_top) ha hb with h | h
  · exact rx_has32 h fun h1 h2 => by rw [Int32.toInt_mul]; exact rx_bm32 h1 h2
  · rw [h]; exact rx_r32 _
theorem rx_lmul {a b : Int × Int} {x y : Int64} (ha : rx_has a x.toInt) (hb : rx_has b y.toInt) : rx_has (rx_i64 (rx_mul rx_topL a b)) (x * y).toInt := by
  rcases rx_has_mul (w := rx_topL) ha hb with h | h
  · exact rx_has64 h fun h1 h2 => by rw [Int64.toInt_mul]; exact rx_bm64 h1 h2
  · rw [h]; exact rx_r64 _
theorem rx_min_l (a b : Int) : rx_min a b ≤ a ∧ rx_min a b ≤ b := by
  unfold rx_min
  cases h : rx_le a b with
  | true => exact ⟨Int.le_refl _, rx_le_t h⟩
  | false => exact ⟨Int.le_of_lt (rx_le_f h), Int.le_refl _⟩
theorem rx_max_l (a b : Int) : a ≤ rx_max a b ∧ b ≤ rx_max a b := by
  unfold rx_max
  cases h : rx_le a b with
  | true => exact ⟨rx_le_t h, Int.le_refl _⟩
  | false => exact ⟨Int.le_refl _, Int.le_of_lt (rx_le_f h)⟩
theorem rx_min_e (a b : Int) : rx_min a b = a ∨ rx_min a b = b := by
  unfold rx_min
  cases h : rx_le a b
  · exact Or.inr rfl
  · exact Or.inl rfl
theorem rx_tdiv_pos {x y : Int} (hx : 0 ≤ x) : x.tdiv y = x / y := Int.tdiv_eq_ediv_of_nonneg hx
theorem rx_has_div {a b : Int × Int} {x y : Int} (hb0 : 0 < b.1) (ha : rx_has a x) (hb : rx_has b y) : rx_has (rx_div a b) (x.tdiv y) := by
  obtain ⟨a1, a2⟩ := ha
  obtain ⟨b1, b2⟩ := hb
  have hy : 0 < y := by omega
  unfold rx_div
  cases h : rx_le 0 a.1 with
  | true =>
    have h1 := rx_le_t h
    rw [rx_tdiv_pos (by omega)]
    refine ⟨?_, ?_⟩
    · show a.1 / b.2 ≤ x / y
      refine Int.le_trans (Int.ediv_le_ediv (by omega) a1) ?_
      exact Int.le_ediv_of_mul_le hy (Int.le_trans (Int.mul_le_mul_of_nonneg_left b2 (Int.ediv_nonneg (by omega) (by omega))) (Int.ediv_mul_le _ (by omega)))
    · show x / y ≤ a.2 / b.1
      refine Int.le_trans (Int.ediv_le_ediv hy a2) ?_
      exact Int.le_ediv_of_mul_le hb0 (Int.le_trans (Int.mul_le_mul_of_nonneg_left b1 (Int.ediv_nonneg (by omega) (by omega))) (Int.ediv_mul_le _ (by omega)))
  | false =>
    have m1 := rx_min_l a.1 0
    have m2 := rx_max_l a.2 0
    refine ⟨?_, ?_⟩
    · show rx_min a.1 0 ≤ x.tdiv y
      rcases rx_lg x 0 with hx | hx
      · have h9 : x ≤ x.tdiv y := by
          have := Int.neg_tdiv (-x) y
          rw [Int.neg_neg] at this
          rw [this, rx_tdiv_pos (by omega)]
          have := Int.ediv_le_self y (show 0 ≤ -x by omega)
          omega
        omega
      · rw [rx_tdiv_pos hx]
        have := Int.ediv_nonneg hx (Int.le_of_lt hy)
        omega
    · show x.tdiv y ≤ rx_max a.2 0
      rcases rx_lg x 0 with hx | hx
      · have h9 : x.tdiv y ≤ 0 := by
          have := Int.neg_tdiv (-x) y
          rw [Int.neg_neg] at this
          rw [this, rx_tdiv_pos (by omega)]
          have := Int.ediv_nonneg (show 0 ≤ -x by omega) (Int.le_of_lt hy)
          omega
        omega
      · rw [rx_tdiv_pos hx]
        have := Int.ediv_le_self y hx
        omega
end
section
theorem rx_tdiv_b {x y : Int} (hy : 0 < y) : (0 ≤ x → 0 ≤ x.tdiv y ∧ x.tdiv y ≤ x) ∧ (x < 0 → x ≤ x.tdiv y ∧ x.tdiv y ≤ 0) := by
  refine ⟨fun hx => ?_, fun hx => ?_⟩
  · rw [rx_tdiv_pos hx]
    exact ⟨Int.ediv_nonneg hx (Int.le_of_lt hy), Int.ediv_le_self y hx⟩
  · have h := Int.neg_tdiv (-x) y
    rw [Int.neg_neg] at h
    rw [h, rx_tdiv_pos (by omega)]
    have h1 := Int.ediv_nonneg (show 0 ≤ -x by omega) (Int.le_of_lt hy)
    have h2 := Int.ediv_le_self y (show 0 ≤ -x by omega)
    omega
theorem rx_tmod_b {x y : Int} (hy : 0 < y) : (0 ≤ x → x.tmod y = x % y ∧ 0 ≤ x.tmod y ∧ x.tmod y < y ∧ x.tmod y ≤ x) ∧ (x < 0 → -y < x.tmod y ∧ x.tmod y ≤ 0 ∧ x ≤ x.tmod y) := by
  have key : ∀ z : Int, 0 ≤ z → z.tmod y = z % y ∧ 0 ≤ z % y ∧ z % y < y ∧ z % y ≤ z := by
    intro z hz
    refine ⟨Int.tmod_eq_emod_of_nonneg hz, Int.emod_nonneg _ (by omega), Int.emod_lt_of_pos _ hy, ?_⟩
    have h1 := Int.mul_ediv_add_emod z y
    have h2 := Int.mul_nonneg (Int.le_of_lt hy) (Int.ediv_nonneg hz (Int.le_of_lt hy))
    omega
  refine ⟨fun hx => ?_, fun hx => ?_⟩
  · obtain ⟨h1, h2, h3, h4⟩ := key x hx
    rw [h1]
    exact ⟨rfl, h2, h3, h4⟩
  · obtain ⟨h1, h2, h3, h4⟩ := key (-x) (by omega)
    have h := Int.neg_tmod (-x) y
    rw [Int.neg_neg] at h
    rw [h, h1]
    omega
theorem rx_divI {x y : Int32} (hy : 0 < y.toInt) : (x / y).toInt = x.toInt.tdiv y.toInt := by
  rw [Int32.toInt_div]
  have hb := rx_tdiv_b (x := x.toInt) hy
  have hx := rx_r32 x
  rcases rx_lg x.toInt 0 with h | h
  · have := hb.2 h; exact rx_bm32 (by omega) (by omega)
  · have := hb.1 h; exact rx_bm32 (by omega) (by omega)
theorem rx_divL {x y : Int64} (hy : 0 < y.toInt) : (x / y).toInt = x.toInt.tdiv y.toInt := by
  rw [Int64.toInt_div]
  have hb := rx_tdiv_b (x := x.toInt) hy
  have hx := rx_r64 x
  rcases rx_lg x.toInt 0 with h | h
  · have := hb.2 h; exact rx_bm64 (by omega) (by omega)
  · have := hb.1 h; exact rx_bm64 (by omega) (by omega)
theorem rx_remI {x y : Int32} (hy : 0 < y.toInt) : (x - x / y * y).toInt = x.toInt.tmod y.toInt := by
  have hx := rx_r32 x
  have hm := rx_tmod_b (x := x.toInt) hy
  have hd := Int.tmod_def x.toInt y.toInt
  have hc : x.toInt.tdiv y.toInt * y.toInt = y.toInt * x.toInt.tdiv y.toInt := Int.mul_comm _ _
  have e1 : (x / y * y).toInt = x.toInt.tdiv y.toInt * y.toInt := by
    rw [Int32.toInt_mul, rx_divI hy]
    rcases rx_lg x.toInt 0 with h | h
    · have := hm.2 h; exact rx_bm32 (by omega) (by omega)
    · have := hm.1 h; exact rx_bm32 (by omega) (by omega)
  rw [Int32.toInt_sub, e1]
  rcases rx_lg x.toInt 0 with h | h
  · have := hm.2 h
    rw [rx_bm32 (by omega) (by omega)]; omega
  · have := hm.1 h
    rw [rx_bm32 (by omega) (by omega)]; omega
theorem rx_has_rem {a b : Int × Int} {x y : Int} (hb0 : 0 < b.1) (ha : rx_has a x) (hb : rx_has b y) : rx_has (rx_rem a b) (x.tmod y) := by
  obtain ⟨a1, a2⟩ := ha
  obtain ⟨b1, b2⟩ := hb
  have hm := rx_tmod_b (x := x) (y := y) (by omega)
  unfold rx_rem
  cases h : rx_le 0 a.1 with
  | true =>
    have h1 := rx_le_t h
    obtain ⟨m1, m2, m3, m4⟩ := hm.1 (by omega)
    cases h2 : rx_one a && rx_one b with
    | true =>
      rw [Bool.and_eq_true] at h2
      have q1 := rx_le_t h2.1
      have q2 := rx_le_t h2.2
      have e1 : x = a.1 := by omega
      have e2 : y = b.1 := by omega
      subst e1; subst e2
      rw [m1]
      exact ⟨Int.le_refl _, Int.le_refl _⟩
    | false =>
      refine ⟨m2, ?_⟩
      show x.tmod y ≤ rx_min a.2 (b.2 - 1)
      rcases rx_min_e a.2 (b.2 - 1) with e | e <;> rw [e] <;> omega
  | false =>
    refine ⟨?_, ?_⟩
    · show 1 - b.2 ≤ x.tmod y
      rcases rx_lg x 0 with hx | hx
      · have := hm.2 hx; omega
      · have := hm.1 hx; omega
    · show x.tmod y ≤ b.2 - 1
      rcases rx_lg x 0 with hx | hx
      · have := hm.2 hx; omega
      · have := hm.1 hx; omega
theorem rx_idiv {a b : Int × Int} {x y : Int32} (hb0 : 0 < b.1) (ha : rx_has a x.toInt) (hb : rx_has b y.toInt) : rx_has (rx_div a b) (x / y).toInt := by
  rw [rx_divI (by have := hb.1; omega)]
  exact rx_has_div hb0 ha hb
theorem rx_ldiv {a b : Int × Int} {x y : Int64} (hb0 : 0 < b.1) (ha : rx_has a x.toInt) (hb : rx_has b y.toInt) : rx_has (rx_div a b) (x / y).toInt := by
  rw [rx_divL (by have := hb.1; omega)]
  exact rx_has_div hb0 ha hb
theorem rx_irem {a b : Int × Int} {x y : Int32} (hb0 : 0 < b.1) (ha : rx_has a x.toInt) (hb : rx_has b y.toInt) : rx_has (rx_rem a b) (x - x / y * y).toInt := by
  rw [rx_remI (by have := hb.1; omega)]
  exact rx_has_rem hb0 ha hb
theorem rx_ne0 {b : Int × Int} {y : Int32} (hb0 : 0 < b.1) (hb : rx_has b y.toInt) : ¬ y = 0 := by
  intro h
  subst h
  have := hb.1
  have h0 : (0 : Int32).toInt = 0 := by decide
  omega
theorem rx_ne0L {b : Int × Int} {y : Int64} (hb0 : 0 < b.1) (hb : rx_has b y.toInt) : ¬ y = 0 := by
  intro h
  subst h
  have := hb.1
  have h0 : (0 : Int64).toInt = 0 := by decide
  omega
/-- bits: of two known numbers, else anything -/
def rx_bit (f : Int32 → Int32 → Int32) (a b : Int × Int) : Int × Int := bif rx_one a && rx_one b then ((f (Int32.ofInt a.1) (Int32.ofInt b.1)).toInt, (f (Int32.ofInt a.1) (Int32.ofInt b.1)).toInt) else rx_top
theorem rx_one_eq {a : Int × Int} {x : Int32} (h : rx_one a = true) (ha : rx_has a x.toInt) : Int32.ofInt a.1 = x := by
  have h1 := rx_le_t h
  have h2 := ha.1
  have h3 := ha.2
  have e : a.1 = x.toInt := by omega
  rw [e, Int32.ofInt_toInt]
theorem rx_has_bit {f : Int32 → Int32 → Int32} {a b : Int × Int} {x y : Int32} (ha : rx_has a x.toInt) (hb : rx_has b y.toInt) : rx_has (rx_bit f a b) (f x y).toInt := by
  unfold rx_bit
  cases h : rx_one a && rx_one b with
  | true =>
    rw [Bool.and_eq_true] at h
    rw [rx_one_eq h.1 ha, rx_one_eq h.2 hb]
    exact ⟨Int.le_refl _, Int.le_refl _⟩
  | false => exact rx_r32 _
theorem rx_i2l {a : Int × Int} {x : Int32} (ha : rx_has a x.toInt) : rx_has a x.toInt64.toInt := by
  rw [Int32.toInt_toInt64]; exact ha
theorem rx_l2i {a : Int × Int} {x : Int64} (ha : rx_has a x.toInt) : rx_has (rx_i32 a) x.toInt32.toInt :=
  rx_has32 ha fun h1 h2 => by rw [Int64.toInt_toInt32]; exact rx_bm32 h1 h2
def rx_lcmp (a b : Int × Int) : Int × Int := bif rx_le a.1 b.2 then (bif rx_le b.1 a.2 then (bif rx_one a && rx_one b then (0, 0) else (-1, 1)) else (-1, -1)) else (1, 1)
theorem rx_has_lcmp {a b : Int × Int} {x y : Int64} (ha : rx_has a x.toInt) (hb : rx_has b y.toInt) : rx_has (rx_lcmp a b) (lg_cmp x y).toInt := by
  obtain ⟨a1, a2⟩ := ha
  obtain ⟨b1, b2⟩ := hb
  have c1 : (1 : Int32).toInt = 1 := by decide
  have c0 : (0 : Int32).toInt = 0 := by decide
  have cm : (-1 : Int32).toInt = -1 := by decide
  have hr : -1 ≤ (lg_cmp x y).toInt ∧ (lg_cmp x y).toInt ≤ 1 := by
    unfold lg_cmp
    split
    · rw [c1]; omega
    · split
      · rw [c0]; omega
      · rw [cm]; omega
  unfold rx_lcmp
  cases h : rx_le a.1 b.2 with
  | false =>
    have h1 := rx_le_f h
    have hlt : y < x := Int64.lt_iff_toInt_lt.mpr (by omega)
    have e : lg_cmp x y = 1 := by simp [lg_cmp, hlt]
    rw [e, c1]
    exact ⟨Int.le_refl _, Int.le_refl _⟩
  | true =>
    cases h2 : rx_le b.1 a.2 with
    | false =>
      have h1 := rx_le_f h2
      have hlt : ¬ y < x := fun q => by have := Int64.lt_iff_toInt_lt.mp q; omega
      have hne : ¬ x = y := fun q => by subst q; omega
      have e : lg_cmp x y = -1 := by simp [lg_cmp, hlt, hne]
      rw [e, cm]
      exact ⟨Int.le_refl _, Int.le_refl _⟩
    | true =>
      have q1 := rx_le_t h
      have q2 := rx_le_t h2
      cases h3 : rx_one a && rx_one b with
      | false => exact hr
      | true =>
        rw [Bool.and_eq_true] at h3
        have o1 := rx_le_t h3.1
        have o2 := rx_le_t h3.2
        have hxy : x = y := Int64.toInt_inj.mp (by omega)
        subst hxy
        have e : lg_cmp x x = 0 := by simp [lg_cmp]
        rw [e, c0]
        exact ⟨Int.le_refl _, Int.le_refl _⟩
/-- what a decided comparison says -/
def rx_rel (c : ClassFile.Cond) (x y : Int) : Prop := match c with
  | .eq => x = y
  | .ne => x ≠ y
  | .lt => x < y
  | .ge => y ≤ x
  | .gt => y < x
  | .le => x ≤ y
theorem rx_cmp_ok {c : ClassFile.Cond} {a b : Int × Int} {x y : Int} {t : Bool} (h : rx_cmp c a b = some t) (ha : rx_has a x) (hb : rx_has b y) : t = true ↔ rx_rel c x y := by
  obtain ⟨a1, a2⟩ := ha
  obtain ⟨b1, b2⟩ := hb
  cases c <;> simp only [rx_cmp] at h <;> simp only [rx_rel]
  · cases h1 : rx_le b.2 a.1 && rx_le a.2 b.1 with
    | true =>
      rw [h1] at h
      cases h
      rw [Bool.and_eq_true] at h1
      have q1 := rx_le_t h1.1
      have q2 := rx_le_t h1.2
      exact ⟨fun _ => by omega, fun _ => rfl⟩
    | false =>
      rw [h1] at h
      cases h2 : rx_le b.1 a.2 && rx_le a.1 b.2 with
      | true => rw [h2] at h; cases h
      | false =>
        rw [h2] at h
        cases h
        rw [Bool.and_eq_false_iff] at h2
        rcases h2 with q | q
        · have q := rx_le_f q
          exact ⟨fun z => (by cases z), fun z => by omega⟩
        · have q := rx_le_f q
          exact ⟨fun z => (by cases z), fun z => by omega⟩
  · cases h1 : rx_le b.2 a.1 && rx_le a.2 b.1 with
    | true =>
      rw [h1] at h
      cases h
      rw [Bool.and_eq_true] at h1
      have q1 := rx_le_t h1.1
      have q2 := rx_le_t h1.2
      exact ⟨fun z => (by cases z), fun z => absurd (by omega) z⟩
    | false =>
      rw [h1] at h
      cases h2 : rx_le b.1 a.2 && rx_le a.1 b.2 with
      | true => rw [h2] at h; cases h
      | false =>
        rw [h2] at h
        cases h
        rw [Bool.and_eq_false_iff] at h2
        rcases h2 with q | q
        · have q := rx_le_f q
          exact ⟨fun _ => by omega, fun _ => rfl⟩
        · have q := rx_le_f q
          exact ⟨fun _ => by omega, fun _ => rfl⟩
  · cases h1 : rx_le b.2 a.1 with
    | true =>
      rw [h1] at h
      cases h
      have q1 := rx_le_t h1
      exact ⟨fun z => (by cases z), fun z => by omega⟩
    | false =>
      rw [h1] at h
      cases h2 : rx_le b.1 a.2 with
      | true => rw [h2] at h; cases h
      | false =>
        rw [h2] at h
        cases h
        have q := rx_le_f h2
        exact ⟨fun _ => by omega, fun _ => rfl⟩
  · cases h1 : rx_le b.2 a.1 with
    | true =>
      rw [h1] at h
      cases h
      have q1 := rx_le_t h1
      exact ⟨fun _ => by omega, fun _ => rfl⟩
    | false =>
      rw [h1] at h
      cases h2 : rx_le b.1 a.2 with
      | true => rw [h2] at h; cases h
      | false =>
        rw [h2] at h
        cases h
        have q := rx_le_f h2
        exact ⟨fun z => (by cases z), fun z => by omega⟩
  · cases h1 : rx_le a.2 b.1 with
    | true =>
      rw [h1] at h
      cases h
      have q1 := rx_le_t h1
      exact ⟨fun z => (by cases z), fun z => by omega⟩
    | false =>
      rw [h1] at h
      cases h2 : rx_le a.1 b.2 with
      | true => rw [h2] at h; cases h
      | false =>
        rw [h2] at h
        cases h
        have q := rx_le_f h2
        exact ⟨fun _ => by omega, fun _ => rfl⟩
  · cases h1 : rx_le a.2 b.1 with
    | true =>
      rw [h1] at h
      cases h
      have q1 := rx_le_t h1
      exact ⟨fun _ => by omega, fun _ => rfl⟩
    | false =>
      rw [h1] at h
      cases h2 : rx_le a.1 b.2 with
      | true => rw [h2] at h; cases h
      | false =>
        rw [h2] at h
        cases h
        have q := rx_le_f h2
        exact ⟨fun z => (by cases z), fun z => by omega⟩
end
section
/-! ONE INSTRUCTION. A row of a method's table: the instruction, where it goes on, where it branches to, what its entry of the pool means (a kind and three numbers). -/
abbrev rx_K : Type := Nat × Nat × Nat × Int
abbrev rx_Row : Type := Instr × Nat × Nat × rx_K
abbrev rx_Tab : Type := Nat → Option rx_Row
def rx_cat (v : rx_V) : Nat := match v with
  | .inr (.inl _) => 2
  | _ => 1
def rx_cats (st : List rx_V) : Nat := (st.map rx_cat).sum
/-- no long that a store into place i would cut -/
def rx_pv (L : rx_F) (i : Nat) : Bool := match i with
  | 0 => true
  | j + 1 => match L[j]? with
    | some (some (.inr (.inl _))) => false
    | _ => true
def rx_bool (q : Int × Int) : Bool := rx_le 0 q.1 && rx_le q.2 1
/-- a true reference (numbers from 200000 on are ints of which some bits are known) -/
def rx_isr (q : Option Nat ⊕ Nat) : Bool := match q with
  | .inl _ => true
  | .inr j => Nat.ble j 199999
/-- bits of an int: 200000 + w: the four lowest pairs; 300000 + c: the lowest pair; 400000 + c: the five lowest -/
def rx_dg (j m : Nat) : Nat := (j - 200000) / 4 ^ m % 4
/-- a value fits a field or an array of the kind t: 0 int, 1 boolean, 2 long, else a reference -/
def rx_fit (t : Nat) (v : rx_V) : Bool := match v with
  | .inl q => (t == 0) || ((t == 1) && rx_bool q)
  | .inr (.inl _) => t == 2
  | .inr (.inr q) => (t == 3) && rx_isr q
def rx_dfl (t : Nat) : rx_V := match t with
  | 0 => .inl (0, 0)
  | 1 => .inl (0, 0)
  | 2 => .inr (.inl (0, 0))
  | _ => .inr (.inr (.inl none))
noncomputable def rx_jump {β : Type} (t : Option Bool) (a b : Option β) : Option β := match t with
  | none => none
  | some true => a
  | some false => b
/-- an array's place, by a known index -/
noncomputable def rx_at {α β : Type} (l : List α) (q : Int × Int) (k : α → Option β) : Option β := bif rx_one q && rx_le 0 q.1 then rx_get l q.1.toNat k else none
noncomputable def rx_put {α β : Type} (l : List α) (q : Int × Int) (x : α) (k : List α → Option β) : Option β := bif rx_one q && rx_le 0 q.1 then rx_set l q.1.toNat x k else none
noncomputable def rx_bin {β : Type} (st : List rx_V) (f : Int × Int → Int × Int → Int × Int) (k : List rx_V → Option β) : Option β := match st with
  | .inl b :: .inl a :: r => rx_pI (f a b) fun v => k (v :: r)
  | _ => none
noncomputable def rx_binL {β : Type} (st : List rx_V) (f : Int × Int → Int × Int → Int × Int) (k : List rx_V → Option β) : Option β := match st with
  | .inr (.inl b) :: .inr (.inl a) :: r => rx_pL (f a b) fun v => k (v :: r)
  | _ => none
/-- the same, the topmost above 0 -/
noncomputable def rx_binD {β : Type} (st : List rx_V) (f : Int × Int → Int × Int → Int × Int) (k : List rx_V → Option β) : Option β := match st with
  | .inl b :: .inl a :: r => bif rx_le 1 b.1 then rx_pI (f a b) fun v => k (v :: r) else none
  | _ => none
noncomputable def rx_ldI {β : Type} (L : rx_F) (i : Nat) (k : rx_V → Option β) : Option β := rx_get L i fun o => match o with
  | some (.inl q) => k (.inl q)
  | some (.inr (.inr (.inr j))) => bif Nat.ble 200000 j then k (.inr (.inr (.inr j))) else none
  | _ => none
noncomputable def rx_ldL {β : Type} (L : rx_F) (i : Nat) (k : rx_V → Option β) : Option β := rx_get L i fun o => match o with
  | some (.inr (.inl q)) => k (.inr (.inl q))
  | _ => none
noncomputable def rx_ldA {β : Type} (L : rx_F) (i : Nat) (k : rx_V → Option β) : Option β := rx_get L i fun o => match o with
  | some (.inr (.inr q)) => bif rx_isr q then k (.inr (.inr q)) else none
  | _ => none
noncomputable def rx_stI {β : Type} (L : rx_F) (i : Nat) (st : List rx_V) (k : rx_F → List rx_V → Option β) : Option β := match st with
  | .inl q :: r => bif rx_pv L i then rx_set L i (some (.inl q)) fun L' => k L' r else none
  | _ => none
noncomputable def rx_stA {β : Type} (L : rx_F) (i : Nat) (st : List rx_V) (k : rx_F → List rx_V → Option β) : Option β := match st with
  | .inr (.inr q) :: r => bif rx_isr q && rx_pv L i then rx_set L i (some (.inr (.inr q))) fun L' => k L' r else none
  | _ => none
noncomputable def rx_stL {β : Type} (L : rx_F) (i : Nat) (st : List rx_V) (k : rx_F → List rx_V → Option β) : Option β := match st with
  | .inr (.inl q) :: r => bif rx_pv L i then rx_set L i (some (.inr (.inl q))) fun L' => rx_set L' (i + 1) none fun L'' => k L'' r else none
  | _ => none
/-- Math.max, min, abs -/
def rx_mx (a b : Int × Int) : Int × Int := (rx_max a.1 b.1, rx_max a.2 b.2)
def rx_mn (a b : Int × Int) : Int × Int := (rx_min a.1 b.1, rx_min a.2 b.2)
def rx_ab (a : Int × Int) : Int × Int := bif rx_le 0 a.1 then a else rx_i32 (bif rx_le a.2 0 then (-a.2, -a.1) else (0, rx_max (-a.1) a.2))
noncomputable def rx_math {β : Type} (t : Nat) (st : List rx_V) (k : List rx_V → Option β) : Option β := match st with
  | .inl b :: .inl a :: r => bif Nat.ble (rx_cats r) 8 then (bif t == 20 then rx_pI (rx_mx a b) fun v => k (v :: r) else bif t == 21 then rx_pI (rx_mn a b) fun v => k (v :: r) else bif t == 22 then rx_pI (rx_ab b) fun v => k (v :: .inl a :: r) else none) else none
  | .inr (.inl b) :: .inr (.inl a) :: r => bif Nat.ble (rx_cats r) 8 then (bif t == 23 then rx_pL (rx_mx a b) fun v => k (v :: r) else bif t == 24 then rx_pL (rx_mn a b) fun v => k (v :: r) else none) else none
  | .inl b :: r => bif Nat.ble (rx_cats r) 8 && (t == 22) then rx_pI (rx_ab b) fun v => k (v :: r) else none
  | _ => none
/-- a table switch's way out -/
def rx_sw (d lo hi : Int) (offs : Array Int) (q : Int × Int) : Option Int := bif rx_le lo q.1 && rx_le q.2 hi then (bif rx_one q then offs[(q.1 - lo).toNat]? else none) else bif rx_le lo q.2 && rx_le q.1 hi then none else some d
noncomputable def rx_step {β : Type} (wr : Bool) (ro : List (List rx_V)) (dfs : Nat → List Nat) (row : rx_Row) (pc : Nat) (h : rx_H) (L : rx_F) (st : List rx_V) (k : Nat → rx_H → rx_F → List rx_V → Nat → Nat → Option β) (call : Nat → List rx_V → List rx_V → Option β) (ret : Option rx_V → Option β) (thr : Nat → Option β) : Option β :=
  match row.1 with
  | .iconst n => bif rx_le (-1) n && rx_le n 5 then rx_pI (n, n) fun v => k row.2.1 h L (v :: st) 0 0 else none
  | .bipush n => bif rx_le (-128) n && rx_le n 127 then rx_pI (n, n) fun v => k row.2.1 h L (v :: st) 0 0 else none
  | .sipush n => bif rx_le (-32768) n && rx_le n 32767 then rx_pI (n, n) fun v => k row.2.1 h L (v :: st) 0 0 else none
  | .lconst n => rx_pL (((n : Nat) : Int), ((n : Nat) : Int)) fun v => k row.2.1 h L (v :: st) 0 0
  | .aconst_null => k row.2.1 h L (.inr (.inr (.inl none)) :: st) 0 0
  | .ldc _ => bif row.2.2.2.1 == 3 then rx_pI (row.2.2.2.2.2.2, row.2.2.2.2.2.2) fun v => k row.2.1 h L (v :: st) 0 0 else none
  | .ldc_w _ => bif row.2.2.2.1 == 3 then rx_pI (row.2.2.2.2.2.2, row.2.2.2.2.2.2) fun v => k row.2.1 h L (v :: st) 0 0 else none
  | .ldc2_w _ => bif row.2.2.2.1 == 4 then rx_pL (row.2.2.2.2.2.2, row.2.2.2.2.2.2) fun v => k row.2.1 h L (v :: st) 0 0 else none
  | .iload_n i => rx_ldI L i fun v => k row.2.1 h L (v :: st) 0 0
  | .iload i => rx_ldI L i fun v => k row.2.1 h L (v :: st) 0 0
  | .lload_n i => rx_ldL L i fun v => k row.2.1 h L (v :: st) 0 0
  | .lload i => rx_ldL L i fun v => k row.2.1 h L (v :: st) 0 0
  | .aload_n i => rx_ldA L i fun v => k row.2.1 h L (v :: st) 0 0
  | .aload i => rx_ldA L i fun v => k row.2.1 h L (v :: st) 0 0
  | .istore_n i => rx_stI L i st fun L' r => k row.2.1 h L' r 0 0
  | .istore i => rx_stI L i st fun L' r => k row.2.1 h L' r 0 0
  | .lstore_n i => rx_stL L i st fun L' r => k row.2.1 h L' r 0 0
  | .lstore i => rx_stL L i st fun L' r => k row.2.1 h L' r 0 0
  | .astore_n i => rx_stA L i st fun L' r => k row.2.1 h L' r 0 0
  | .astore i => rx_stA L i st fun L' r => k row.2.1 h L' r 0 0
  | .iinc i n => bif rx_le (-32768) n && rx_le n 32767 && rx_pv L i then rx_get L i fun o => (match o with
      | some (.inl q) => rx_pI (rx_i32 (rx_add q (n, n))) fun v => rx_set L i (some v) fun L' => k row.2.1 h L' st 0 0
      | _ => none) else none
  | .iadd => rx_bin st (fun a b => rx_i32 (rx_add a b)) fun st' => k row.2.1 h L st' 0 0
  | .isub => rx_bin st (fun a b => rx_i32 (rx_sub a b)) fun st' => k row.2.1 h L st' 0 0
  | .imul => rx_bin st (fun a b => rx_i32 (rx_mul rx_top a b)) fun st' => k row.2.1 h L st' 0 0
  | .iand => match st with
    | .inl b :: .inr (.inr (.inr j)) :: r => bif rx_one b && (rx_le 3 b.1 && rx_le b.1 3) && (Nat.ble 300000 j && Nat.ble j 399999) then rx_fN (j - 300000) fun z => k row.2.1 h L (.inl ((z : Int), (z : Int)) :: r) 0 0 else
      bif rx_one b && (rx_le 31 b.1 && rx_le b.1 31) && (Nat.ble 400000 j && Nat.ble j 499999) then rx_fN (j - 400000) fun z => k row.2.1 h L (.inl ((z : Int), (z : Int)) :: r) 0 0 else none
    | _ => rx_bin st (rx_bit (fun x y => x &&& y)) fun st' => k row.2.1 h L st' 0 0
  | .ior => rx_bin st (rx_bit (fun x y => x ||| y)) fun st' => k row.2.1 h L st' 0 0
  | .ixor => rx_bin st (rx_bit (fun x y => x ^^^ y)) fun st' => k row.2.1 h L st' 0 0
  | .ishl => rx_bin st (rx_bit (fun x y => x <<< (y &&& 31))) fun st' => k row.2.1 h L st' 0 0
  | .ishr => match st with
    | .inl b :: .inr (.inr (.inr j)) :: r => bif rx_one b && (rx_le 0 b.1 && rx_le b.1 6) && (Nat.beq (b.1.toNat % 2) 0 && (Nat.ble 200000 j && Nat.ble j 299999)) then rx_fN (300000 + rx_dg j (b.1.toNat / 2)) fun z => k row.2.1 h L (.inr (.inr (.inr z)) :: r) 0 0 else none
    | _ => rx_bin st (rx_bit (fun x y => x >>> (y &&& 31))) fun st' => k row.2.1 h L st' 0 0
  | .idiv => rx_binD st rx_div fun st' => k row.2.1 h L st' 0 0
  | .irem => rx_binD st rx_rem fun st' => k row.2.1 h L st' 0 0
  | .ineg => match st with
    | .inl a :: r => rx_pI (rx_i32 (rx_neg a)) fun v => k row.2.1 h L (v :: r) 0 0
    | _ => none
  | .ladd => rx_binL st (fun a b => rx_i64 (rx_add a b)) fun st' => k row.2.1 h L st' 0 0
  | .lsub => rx_binL st (fun a b => rx_i64 (rx_sub a b)) fun st' => k row.2.1 h L st' 0 0
  | .lmul => rx_binL st (fun a b => rx_i64 (rx_mul rx_topL a b)) fun st' => k row.2.1 h L st' 0 0
  | .ldiv => match st with
    | .inr (.inl b) :: .inr (.inl a) :: r => bif rx_le 1 b.1 then rx_pL (rx_div a b) fun v => k row.2.1 h L (v :: r) 0 0 else none
    | _ => none
  | .lcmp => match st with
    | .inr (.inl b) :: .inr (.inl a) :: r => rx_pI (rx_lcmp a b) fun v => k row.2.1 h L (v :: r) 0 0
    | _ => none
  | .i2l => match st with
    | .inl a :: r => k row.2.1 h L (.inr (.inl a) :: r) 0 0
    | _ => none
  | .l2i => match st with
    | .inr (.inl a) :: r => rx_pI (rx_i32 a) fun v => k row.2.1 h L (v :: r) 0 0
    | _ => none
  | .goto _ => k row.2.2.1 h L st 0 0
  | .ifCond c _ => match st with
    | .inl a :: r => rx_jump (rx_cmp c a (0, 0)) (k row.2.2.1 h L r 0 0) (k row.2.1 h L r 0 0)
    | _ => none
  | .if_icmp c _ => match st with
    | .inl b :: .inl a :: r => rx_jump (rx_cmp c a b) (k row.2.2.1 h L r 0 0) (k row.2.1 h L r 0 0)
    | _ => none
  | .ifnull _ => match st with
    | .inr (.inr (.inl none)) :: r => k row.2.2.1 h L r 0 0
    | .inr (.inr (.inl (some _))) :: r => k row.2.1 h L r 0 0
    | _ => none
  | .ifnonnull _ => match st with
    | .inr (.inr (.inl none)) :: r => k row.2.1 h L r 0 0
    | .inr (.inr (.inl (some _))) :: r => k row.2.2.1 h L r 0 0
    | _ => none
  | .tableswitch d lo hi offs => match st with
    | .inl q :: r => (match rx_sw d lo hi offs q with
      | some o => bif rx_le 0 ((pc : Int) + o) then k ((pc : Int) + o).toNat h L r 0 0 else none
      | none => none)
    | _ => none
  | .dup => match st with
    | v :: r => bif rx_cat v == 1 then k row.2.1 h L (v :: v :: r) 0 0 else none
    | _ => none
  | .dup2 => match st with
    | v :: w :: r => bif (rx_cat v == 1) && (rx_cat w == 1) then k row.2.1 h L (v :: w :: v :: w :: r) 0 0 else none
    | _ => none
  | .pop => match st with
    | v :: r => bif rx_cat v == 1 then k row.2.1 h L r 0 0 else none
    | _ => none
  | .getfield _ => match st with
    | .inr (.inr (.inl (some a))) :: r => bif row.2.2.2.1 == 1 || row.2.2.2.1 == 14 then rx_get h a fun c => (match c with
        | .inl (ci, fs) => bif ci == row.2.2.2.2.1 then rx_get fs row.2.2.2.2.2.1 fun v => k row.2.1 h L (v :: r) 0 0 else none
        | .inr _ => none) else none
    | _ => none
  | .putfield _ => match st with
    | v :: .inr (.inr (.inl (some a))) :: r => bif wr && ((row.2.2.2.1 == 1 || row.2.2.2.1 == 14) && rx_fit row.2.2.2.2.2.2.toNat v) then rx_get h a fun c => (match c with
        | .inl (ci, f0) => bif ci == row.2.2.2.2.1 then rx_set f0 row.2.2.2.2.2.1 v fun fs => rx_set h a (.inl (ci, fs)) fun h' => k row.2.1 h' L r 0 0 else none
        | .inr _ => none) else none
    | _ => none
  | .getstatic _ => bif row.2.2.2.1 == 2 then k row.2.1 h L (.inr (.inr (.inr row.2.2.2.2.1)) :: st) 0 0 else none
  | .iaload => match st with
    | .inl q :: .inr (.inr (.inl (some a))) :: r => rx_get h a fun c => (match c with
        | .inr (tc, l0) => bif tc == 0 then rx_at l0 q fun v => k row.2.1 h L (v :: r) 0 0 else none
        | .inl _ => none)
    | .inl q :: .inr (.inr (.inr j)) :: r => bif Nat.ble j 199999 then rx_get ro j fun l => rx_at l q fun v => k row.2.1 h L (v :: r) 0 0 else none
    | _ => none
  | .baload => match st with
    | .inl q :: .inr (.inr (.inl (some a))) :: r => rx_get h a fun c => (match c with
        | .inr (tc, l0) => bif tc == 1 then rx_at l0 q fun v => k row.2.1 h L (v :: r) 0 0 else none
        | .inl _ => none)
    | _ => none
  | .laload => match st with
    | .inl q :: .inr (.inr (.inl (some a))) :: r => rx_get h a fun c => (match c with
        | .inr (tc, l0) => bif tc == 2 then rx_at l0 q fun v => k row.2.1 h L (v :: r) 0 0 else none
        | .inl _ => none)
    | _ => none
  | .aaload => match st with
    | .inl q :: .inr (.inr (.inl (some a))) :: r => rx_get h a fun c => (match c with
        | .inr (tc, l0) => bif Nat.ble 3 tc then rx_at l0 q fun v => k row.2.1 h L (v :: r) 0 0 else none
        | .inl _ => none)
    | _ => none
  | .iastore => match st with
    | .inl v :: .inl q :: .inr (.inr (.inl (some a))) :: r => rx_get h a fun c => (match c with
        | .inr (tc, l0) => bif wr && (tc == 0) then rx_put l0 q (.inl v) fun l => rx_set h a (.inr (tc, l)) fun h' => k row.2.1 h' L r 0 0 else none
        | .inl _ => none)
    | _ => none
  | .bastore => match st with
    | .inl v :: .inl q :: .inr (.inr (.inl (some a))) :: r => bif rx_bool v then rx_get h a fun c => (match c with
        | .inr (tc, l0) => bif wr && (tc == 1) then rx_put l0 q (.inl v) fun l => rx_set h a (.inr (tc, l)) fun h' => k row.2.1 h' L r 0 0 else none
        | .inl _ => none) else none
    | _ => none
  | .lastore => match st with
    | .inr (.inl v) :: .inl q :: .inr (.inr (.inl (some a))) :: r => rx_get h a fun c => (match c with
        | .inr (tc, l0) => bif wr && (tc == 2) then rx_put l0 q (.inr (.inl v)) fun l => rx_set h a (.inr (tc, l)) fun h' => k row.2.1 h' L r 0 0 else none
        | .inl _ => none)
    | _ => none
  | .aastore => match st with
    | .inr (.inr (.inl (some b))) :: .inl q :: .inr (.inr (.inl (some a))) :: r => rx_get h b fun d => rx_get h a fun c => (match c, d with
        | .inr (tc, l0), .inl (ci, _) => bif wr && (tc == ci + 3) then rx_put l0 q (.inr (.inr (.inl (some b)))) fun l => rx_set h a (.inr (tc, l)) fun h' => k row.2.1 h' L r 0 0 else none
        | _, _ => none)
    | _ => none
  | .new _ => bif wr && (row.2.2.2.1 == 11) then rx_app h (.inl (row.2.2.2.2.1, (dfs row.2.2.2.2.1).map rx_dfl)) fun h' => k row.2.1 h' L (.inr (.inr (.inl (some h.length))) :: st) 1 (dfs row.2.2.2.2.1).length else bif (row.2.2.2.1 == 15) && Nat.ble (rx_cats st) 8 then thr row.2.2.2.2.1 else none
  | .newarray t => match st with
    | .inl q :: r => bif wr && (rx_one q && rx_le 0 q.1 && rx_le q.1 1000 && (match t with
        | .int => row.2.2.2.2.1 == 0
        | .boolean => row.2.2.2.2.1 == 1
        | .long => row.2.2.2.2.1 == 2
        | _ => false)) then rx_app h (.inr (row.2.2.2.2.1, List.replicate q.1.toNat (rx_dfl row.2.2.2.2.1))) fun h' => k row.2.1 h' L (.inr (.inr (.inl (some h.length))) :: r) 1 q.1.toNat else none
    | _ => none
  | .anewarray _ => match st with
    | .inl q :: r => bif wr && (rx_one q && rx_le 0 q.1 && rx_le q.1 1000 && (row.2.2.2.1 == 13)) then rx_app h (.inr (row.2.2.2.2.1 + 3, List.replicate q.1.toNat (.inr (.inr (.inl none))))) fun h' => k row.2.1 h' L (.inr (.inr (.inl (some h.length))) :: r) 1 q.1.toNat else none
    | _ => none
  | .invokevirtual _ => bif row.2.2.2.1 == 5 then rx_pop row.2.2.2.2.2.1 st [] fun as r => bif Nat.ble (rx_cats r) 8 then (match as with
      | .inr (.inr (.inl (some a))) :: _ => rx_get h a fun c => (match c with
        | .inl (ci, _) => bif ci == row.2.2.2.2.2.2.toNat then call row.2.2.2.2.1 as r else none
        | .inr _ => none)
      | _ => none) else none else none
  | .arraylength => match st with
    | .inr (.inr (.inr j)) :: r => bif Nat.ble j 199999 then rx_get ro j fun l => bif Nat.ble l.length 5000 then rx_pI ((l.length : Int), (l.length : Int)) fun v => k row.2.1 h L (v :: r) 0 0 else none else none
    | _ => none
  | .invokestatic _ => bif row.2.2.2.1 == 6 || (row.2.2.2.1 == 8 || row.2.2.2.1 == 16) then rx_pop row.2.2.2.2.2.1 st [] fun as r => bif Nat.ble (rx_cats r) 8 then call row.2.2.2.2.1 as r else none else rx_math row.2.2.2.1 st fun st' => k row.2.1 h L st' 0 0
  | .invokespecial _ => bif row.2.2.2.1 == 10 then (match st with
      | .inr (.inr (.inl (some _))) :: r => bif Nat.ble (rx_cats r) 8 then k row.2.1 h L r 0 0 else none
      | _ => none) else bif row.2.2.2.1 == 7 || row.2.2.2.1 == 9 then rx_pop row.2.2.2.2.2.1 st [] fun as r => bif Nat.ble (rx_cats r) 8 then (match as with
      | .inr (.inr (.inl (some _))) :: _ => call row.2.2.2.2.1 as r
      | _ => none) else none else none
  | .ireturn => match st with
    | [.inl q] => bif row.2.2.2.2.1 == 0 || rx_bool q then ret (some (.inl q)) else none
    | _ => none
  | .lreturn => match st with
    | [.inr (.inl q)] => ret (some (.inr (.inl q)))
    | _ => none
  | .areturn => match st with
    | [.inr (.inr (.inl q))] => ret (some (.inr (.inr (.inl q))))
    | _ => none
  | .return_ => match st with
    | [] => ret none
    | _ => none
  | _ => none
end
section
/-! WHAT A STATE OF THE LITTLE MACHINE SAYS OF THE GREAT ONE: 'ad' are the addresses of the world's cells, 'sa' those of the read-only arrays -/
def rx_sp (j : Nat) (i : Int32) : Prop := (200000 ≤ j ∧ j ≤ 299999 ∧ ∀ m : Nat, m < 4 → ((i >>> (Int32.ofInt ((2 * m : Nat) : Int) &&& 31)) &&& 3).toInt = ((rx_dg j m : Nat) : Int)) ∨ (300000 ≤ j ∧ j ≤ 399999 ∧ (i &&& 3).toInt = ((j - 300000 : Nat) : Int)) ∨ (400000 ≤ j ∧ j ≤ 499999 ∧ (i &&& 31).toInt = ((j - 400000 : Nat) : Int))
def rx_G (ad sa : List Nat) (v : rx_V) (x : Value) : Prop := match v with
  | .inl q => ∃ i : Int32, x = .int i ∧ rx_has q i.toInt
  | .inr (.inl q) => ∃ i : Int64, x = .long i ∧ rx_has q i.toInt
  | .inr (.inr (.inl none)) => x = .null
  | .inr (.inr (.inl (some k))) => ∃ a, ad[k]? = some a ∧ x = .ref a
  | .inr (.inr (.inr j)) => (j ≤ 199999 ∧ ∃ a, sa[j]? = some a ∧ x = .ref a) ∨ (200000 ≤ j ∧ ∃ i : Int32, x = .int i ∧ rx_sp j i)
def rx_S (ad sa : List Nat) : List rx_V → List Value → Prop
  | [], [] => True
  | v :: vs, x :: xs => rx_G ad sa v x ∧ rx_S ad sa vs xs
  | _, _ => False
theorem rx_G_cat {ad sa : List Nat} {v : rx_V} {x : Value} (h : rx_G ad sa v x) : x.category = rx_cat v := by
  match v, h with
  | .inl q, h => obtain ⟨i, rfl, -⟩ := h; rfl
  | .inr (.inl q), h => obtain ⟨i, rfl, -⟩ := h; rfl
  | .inr (.inr (.inl none)), h => cases h; rfl
  | .inr (.inr (.inl (some k))), h => obtain ⟨a, -, rfl⟩ := h; rfl
  | .inr (.inr (.inr j)), h => rcases h with ⟨-, a, -, rfl⟩ | ⟨-, i, rfl, -⟩ <;> rfl
theorem rx_S_cons {ad sa : List Nat} {v : rx_V} {vs : List rx_V} {l : List Value} (h : rx_S ad sa (v :: vs) l) : ∃ x xs, l = x :: xs ∧ rx_G ad sa v x ∧ rx_S ad sa vs xs := by
  cases l with
  | nil => exact h.elim
  | cons x xs => exact ⟨x, xs, rfl, h.1, h.2⟩
theorem rx_S_nil {ad sa : List Nat} {l : List Value} (h : rx_S ad sa [] l) : l = [] := by
  cases l with
  | nil => rfl
  | cons x xs => exact h.elim
theorem rx_S_len {ad sa : List Nat} : ∀ {vs : List rx_V} {l : List Value}, rx_S ad sa vs l → vs.length = l.length
  | [], [], _ => rfl
  | v :: vs, x :: xs, h => by simp [rx_S_len h.2]
  | [], _ :: _, h => h.elim
  | _ :: _, [], h => h.elim
theorem rx_S_app {ad sa : List Nat} : ∀ {a b : List rx_V} {l : List Value}, rx_S ad sa (a ++ b) l → ∃ l1 l2, l = l1 ++ l2 ∧ rx_S ad sa a l1 ∧ rx_S ad sa b l2
  | [], b, l, h => ⟨[], l, rfl, trivial, h⟩
  | v :: a, b, l, h => by
    obtain ⟨x, xs, rfl, h1, h2⟩ := rx_S_cons h
    obtain ⟨l1, l2, rfl, h3, h4⟩ := rx_S_app h2
    exact ⟨x :: l1, l2, rfl, ⟨h1, h3⟩, h4⟩
theorem rx_S_join {ad sa : List Nat} : ∀ {a b : List rx_V} {l1 l2 : List Value}, rx_S ad sa a l1 → rx_S ad sa b l2 → rx_S ad sa (a ++ b) (l1 ++ l2)
  | [], b, [], l2, _, h => h
  | v :: a, b, x :: l1, l2, h1, h2 => ⟨h1.1, rx_S_join h1.2 h2⟩
  | [], _, _ :: _, _, h, _ => h.elim
  | _ :: _, _, [], _, h, _ => h.elim
theorem rx_S_rev {ad sa : List Nat} : ∀ {a : List rx_V} {l : List Value}, rx_S ad sa a l → rx_S ad sa a.reverse l.reverse
  | [], [], _ => trivial
  | v :: a, x :: l, h => by
    rw [List.reverse_cons, List.reverse_cons]
    exact rx_S_join (rx_S_rev h.2) ⟨h.1, trivial⟩
  | [], _ :: _, h => h.elim
  | _ :: _, [], h => h.elim
theorem rx_S_get {ad sa : List Nat} : ∀ {a : List rx_V} {l : List Value} {i : Nat} {v : rx_V}, rx_S ad sa a l → a[i]? = some v → ∃ x, l[i]? = some x ∧ rx_G ad sa v x
  | v :: a, x :: l, 0, w, h, hi => by cases hi; exact ⟨x, rfl, h.1⟩
  | v :: a, x :: l, i + 1, w, h, hi => rx_S_get (i := i) h.2 hi
  | [], _, _, _, _, hi => by simp at hi
  | _ :: _, [], _, _, h, _ => h.elim
theorem rx_S_set {ad sa : List Nat} : ∀ {a : List rx_V} {l : List Value} {i : Nat} {v : rx_V} {x : Value}, rx_S ad sa a l → rx_G ad sa v x → rx_S ad sa (a.set i v) (l.set i x)
  | [], [], _, _, _, _, _ => trivial
  | _ :: _, _ :: _, 0, _, _, h, hv => ⟨hv, h.2⟩
  | _ :: _, _ :: _, i + 1, _, _, h, hv => ⟨h.1, rx_S_set h.2 hv⟩
  | [], _ :: _, _, _, _, h, _ => h.elim
  | _ :: _, [], _, _, _, h, _ => h.elim
theorem rx_S_cats {ad sa : List Nat} : ∀ {a : List rx_V} {l : List Value}, rx_S ad sa a l → (l.map fun v => v.category).sum = rx_cats a
  | [], [], _ => rfl
  | v :: a, x :: l, h => by
    have h1 := rx_G_cat h.1
    have h2 := rx_S_cats h.2
    simp only [List.map_cons, List.sum_cons, rx_cats] at h2 ⊢
    rw [h1, h2]
  | [], _ :: _, h => h.elim
  | _ :: _, [], h => h.elim
/-- more cells in the world: all that was said still holds -/
theorem rx_G_up {ad ad' sa : List Nat} (hp : ad <+: ad') {v : rx_V} {x : Value} (h : rx_G ad sa v x) : rx_G ad' sa v x := by
  match v, h with
  | .inl q, h => exact h
  | .inr (.inl q), h => exact h
  | .inr (.inr (.inl none)), h => exact h
  | .inr (.inr (.inl (some k))), h =>
    obtain ⟨a, h1, h2⟩ := h
    obtain ⟨r, rfl⟩ := hp
    exact ⟨a, by rw [List.getElem?_append_left (List.getElem?_eq_some_iff.mp h1).1]; exact h1, h2⟩
  | .inr (.inr (.inr j)), h => exact h
theorem rx_S_up {ad ad' sa : List Nat} (hp : ad <+: ad') : ∀ {a : List rx_V} {l : List Value}, rx_S ad sa a l → rx_S ad' sa a l
  | [], [], _ => trivial
  | v :: a, x :: l, h => ⟨rx_G_up hp h.1, rx_S_up hp h.2⟩
  | [], _ :: _, h => h.elim
  | _ :: _, [], h => h.elim
/-- the locals -/
def rx_L (ad sa : List Nat) (nL : Nat) (L : rx_F) (ls : Array Slot) : Prop := ∃ l : List (Nat × Value), lv_has ls nL l ∧ L.length = nL ∧ ∀ (i : Nat) (v : rx_V), L[i]? = some (some v) → ∃ x, (i, x) ∈ l ∧ rx_G ad sa v x
theorem rx_L_up {ad ad' sa : List Nat} (hp : ad <+: ad') {nL : Nat} {L : rx_F} {ls : Array Slot} (h : rx_L ad sa nL L ls) : rx_L ad' sa nL L ls := by
  obtain ⟨l, h1, h2, h3⟩ := h
  refine ⟨l, h1, h2, fun i v hi => ?_⟩
  obtain ⟨x, hx, hv⟩ := h3 i v hi
  exact ⟨x, hx, rx_G_up hp hv⟩
theorem rx_L_get {ad sa : List Nat} {nL : Nat} {L : rx_F} {ls : Array Slot} (h : rx_L ad sa nL L ls) {i : Nat} {v : rx_V} (hi : L[i]? = some (some v)) : ∃ x, ls[i]? = some (.val x) ∧ rx_G ad sa v x := by
  obtain ⟨l, h1, h2, h3⟩ := h
  obtain ⟨x, hx, hv⟩ := h3 i v hi
  exact ⟨x, h1.2.2 _ hx, hv⟩
theorem rx_pv_cat {ad sa : List Nat} {L : rx_F} {i j : Nat} {w : rx_V} {y : Value} (hp : rx_pv L i = true) (hj : j + 1 = i) (hw : L[j]? = some (some w)) (hy : rx_G ad sa w y) : y.category = 1 := by
  subst hj
  rw [rx_G_cat hy]
  have hp : (match L[j]? with
    | some (some (.inr (.inl _))) => false
    | _ => true) = true := hp
  rw [hw] at hp
  match w, hp with
  | .inl q, _ => rfl
  | .inr (.inr q), _ => rfl
/-- a store of one place, told of the list of locals -/
theorem rx_L_set1 {ad sa : List Nat} {nL : Nat} {L : rx_F} {ls : Array Slot} (h : rx_L ad sa nL L ls) {i : Nat} {v : rx_V} {x : Value} (hi : i < L.length) (hp : rx_pv L i = true) (hv : rx_G ad sa v x) (hc : rx_cat v = 1) :
    i < nL ∧ ∃ l, lv_has ls nL l ∧ ∀ ls' : Array Slot, lv_has ls' nL ((i, x) :: l.filter (fun q => !(q.1 == i) && !(q.1 + 1 == i && q.2.category == 2))) → rx_L ad sa nL (L.set i (some v)) ls' := by
  obtain ⟨l, h1, h2, h3⟩ := h
  refine ⟨by omega, l, h1, fun ls' h' => ⟨_, h', by rw [List.length_set]; exact h2, fun j w hj => ?_⟩⟩
  by_cases hij : i = j
  · subst hij
    rw [List.getElem?_set_self hi] at hj
    cases hj
    exact ⟨x, List.mem_cons_self, hv⟩
  · rw [List.getElem?_set_ne hij] at hj
    obtain ⟨y, hy, hw⟩ := h3 j w hj
    refine ⟨y, List.mem_cons_of_mem _ (List.mem_filter.mpr ⟨hy, ?_⟩), hw⟩
    have n1 : (j == i) = false := by simpa using fun e => hij e.symm
    by_cases hji : j + 1 = i
    · have := rx_pv_cat hp hji hj hw
      simp [n1, this]
    · simp [n1, hji]
theorem rx_L_set2 {ad sa : List Nat} {nL : Nat} {L : rx_F} {ls : Array Slot} (h : rx_L ad sa nL L ls) {i : Nat} {v : rx_V} {x : Value} (hi : i + 1 < L.length) (hp : rx_pv L i = true) (hv : rx_G ad sa v x) :
    i + 1 < nL ∧ ∃ l, lv_has ls nL l ∧ ∀ ls' : Array Slot, lv_has ls' nL ((i, x) :: l.filter (fun q => !(q.1 == i) && (!(q.1 == i + 1) && !(q.1 + 1 == i && q.2.category == 2)))) → rx_L ad sa nL ((L.set i (some v)).set (i + 1) none) ls' := by
  obtain ⟨l, h1, h2, h3⟩ := h
  refine ⟨by omega, l, h1, fun ls' h' => ⟨_, h', by rw [List.length_set, List.length_set]; exact h2, fun j w hj => ?_⟩⟩
  by_cases hj1 : i + 1 = j
  · subst hj1
    rw [List.getElem?_set_self (by rw [List.length_set]; exact hi)] at hj
    cases hj
  · rw [List.getElem?_set_ne hj1] at hj
    by_cases hij : i = j
    · subst hij
      rw [List.getElem?_set_self (by omega)] at hj
      cases hj
      exact ⟨x, List.mem_cons_self, hv⟩
    · rw [List.getElem?_set_ne hij] at hj
      obtain ⟨y, hy, hw⟩ := h3 j w hj
      refine ⟨y, List.mem_cons_of_mem _ (List.mem_filter.mpr ⟨hy, ?_⟩), hw⟩
      have n1 : (j == i) = false := by simpa using fun e => hij e.symm
      have n2 : (j == i + 1) = false := by simpa using fun e => hj1 e.symm
      by_cases hji : j + 1 = i
      · have := rx_pv_cat hp hji hj hw
        simp [n1, n2, this]
      · simp [n1, n2, hji]
/-- the cells -/
def rx_cn (n : Nat) : String := match rx_cl[n]? with
  | some q => q.1
  | none => ""
def rx_aty (t : Nat) : FieldType := match t with
  | 0 => .int
  | 1 => .boolean
  | 2 => .long
  | n + 3 => .object (rx_cn n)
def rx_A (ad sa : List Nat) (cA : ClassId) (t : Nat) (l : List rx_V) (E : va_E) : Prop := match t with
  | 0 => ∃ f : Nat → Int32, E = .inl (cA, l.length, .inl f) ∧ ∀ (j : Nat) (v : rx_V), l[j]? = some v → rx_G ad sa v (.int (f j))
  | 1 => ∃ f : Nat → Int32, E = .inl (cA, l.length, .inl f) ∧ ∀ (j : Nat) (v : rx_V), l[j]? = some v → rx_G ad sa v (.int (f j))
  | 2 => ∃ f : Nat → Int64, E = .inl (cA, l.length, .inr (.inl f)) ∧ ∀ (j : Nat) (v : rx_V), l[j]? = some v → rx_G ad sa v (.long (f j))
  | _ + 3 => ∃ f : Nat → Option Nat, E = .inl (cA, l.length, .inr (.inr (.inr (.inr f)))) ∧ ∀ (j : Nat) (v : rx_V), l[j]? = some v → rx_G ad sa v (va_rf (f j))
def rx_E (U : State) (ad sa : List Nat) (c : rx_C) (E : va_E) : Prop := match c with
  | .inl o => ∃ fs : List Value, E = .inr (o.1, fs) ∧ rx_S ad sa o.2 fs
  | .inr o => ∃ cA : ClassId, (ArrOfT U cA (rx_aty o.1) ∧ va_RA U cA (rx_aty o.1)) ∧ rx_A ad sa cA o.1 o.2 E
def rx_W (U : State) (ad sa : List Nat) (h : rx_H) (ws : va_W) : Prop := ws.map Prod.fst = ad ∧ ws.length = h.length ∧ ∀ (k : Nat) (c : rx_C), h[k]? = some c → ∃ (a : Nat) (E : va_E), ws[k]? = some (a, E) ∧ rx_E U ad sa c E
theorem rx_A_up {ad ad' sa : List Nat} (hp : ad <+: ad') {cA : ClassId} {t : Nat} {l : List rx_V} {E : va_E} (h : rx_A ad sa cA t l E) : rx_A ad' sa cA t l E := by
  match t, h with
  | 0, h => obtain ⟨f, h1, h2⟩ := h; exact ⟨f, h1, fun j v hj => rx_G_up hp (h2 j v hj)⟩
  | 1, h => obtain ⟨f, h1, h2⟩ := h; exact ⟨f, h1, fun j v hj => rx_G_up hp (h2 j v hj)⟩
  | 2, h => obtain ⟨f, h1, h2⟩ := h; exact ⟨f, h1, fun j v hj => rx_G_up hp (h2 j v hj)⟩
  | n + 3, h => obtain ⟨f, h1, h2⟩ := h; exact ⟨f, h1, fun j v hj => rx_G_up hp (h2 j v hj)⟩
theorem rx_E_up {U : State} {ad ad' sa : List Nat} (hp : ad <+: ad') {c : rx_C} {E : va_E} (h : rx_E U ad sa c E) : rx_E U ad' sa c E := by
  match c, h with
  | .inl o, h => obtain ⟨fs, h1, h2⟩ := h; exact ⟨fs, h1, rx_S_up hp h2⟩
  | .inr o, h => obtain ⟨cA, h1, h2⟩ := h; exact ⟨cA, h1, rx_A_up hp h2⟩
theorem rx_E_moved {u U : State} (hvm : u.vm.Alike U.vm) {ad sa : List Nat} {c : rx_C} {E : va_E} (h : rx_E u ad sa c E) : rx_E U ad sa c E := by
  match c, h with
  | .inl o, h => exact h
  | .inr o, h => obtain ⟨cA, h1, h2⟩ := h; exact ⟨cA, ⟨arrOfT_moved hvm h1.1, h1.2.moved hvm⟩, h2⟩
theorem rx_W_moved {u U : State} (hvm : u.vm.Alike U.vm) {ad sa : List Nat} {h : rx_H} {ws : va_W} (hW : rx_W u ad sa h ws) : rx_W U ad sa h ws :=
  ⟨hW.1, hW.2.1, fun k c hk => by obtain ⟨a, E, h1, h2⟩ := hW.2.2 k c hk; exact ⟨a, E, h1, rx_E_moved hvm h2⟩⟩
theorem rx_W_get {U : State} {ad sa : List Nat} {h : rx_H} {ws : va_W} (hW : rx_W U ad sa h ws) {k : Nat} {c : rx_C} (hk : h[k]? = some c) {x : Value} (hx : rx_G ad sa (.inr (.inr (.inl (some k)))) x) : ∃ (a : Nat) (E : va_E), x = .ref a ∧ ws[k]? = some (a, E) ∧ rx_E U ad sa c E := by
  obtain ⟨a, E, h1, h2⟩ := hW.2.2 k c hk
  obtain ⟨b, h3, h4⟩ := hx
  have h5 : ad[k]? = some a := by rw [← hW.1, List.getElem?_map, h1]; rfl
  cases h5.symm.trans h3
  exact ⟨a, E, h4, h1, h2⟩
theorem rx_W_set {U : State} {ad sa : List Nat} {h : rx_H} {ws : va_W} (hW : rx_W U ad sa h ws) {k : Nat} {a : Nat} {E E' : va_E} {c : rx_C} (hk : ws[k]? = some (a, E)) (hE : rx_E U ad sa c E') : rx_W U ad sa (h.set k c) (ws.set k (a, E')) := by
  have hl := (List.getElem?_eq_some_iff.mp hk).1
  refine ⟨?_, by rw [List.length_set, List.length_set]; exact hW.2.1, fun j d hj => ?_⟩
  · rw [List.map_set, hW.1]
    apply List.ext_getElem?
    intro i
    by_cases hik : k = i
    · subst hik
      rw [List.getElem?_set_self (by rw [← hW.1, List.length_map]; exact hl), ← hW.1, List.getElem?_map, hk]
      rfl
    · rw [List.getElem?_set_ne hik]
  · by_cases hjk : k = j
    · subst hjk
      rw [List.getElem?_set_self (by rw [← hW.2.1]; exact hl)] at hj
      cases hj
      exact ⟨a, E', List.getElem?_set_self hl, hE⟩
    · rw [List.getElem?_set_ne hjk] at hj
      obtain ⟨b, F, h1, h2⟩ := hW.2.2 j d hj
      exact ⟨b, F, by rw [List.getElem?_set_ne hjk]; exact h1, h2⟩
theorem rx_W_push {U : State} {ad sa : List Nat} {h : rx_H} {ws : va_W} (hW : rx_W U ad sa h ws) {a : Nat} {E : va_E} {c : rx_C} (hE : rx_E U (ad ++ [a]) sa c E) : rx_W U (ad ++ [a]) sa (h ++ [c]) (ws ++ [(a, E)]) := by
  refine ⟨by rw [List.map_append, hW.1]; rfl, by rw [List.length_append, List.length_append, hW.2.1]; rfl, fun j d hj => ?_⟩
  by_cases hl : j < h.length
  · rw [List.getElem?_append_left hl] at hj
    obtain ⟨b, F, h1, h2⟩ := hW.2.2 j d hj
    exact ⟨b, F, by rw [List.getElem?_append_left (by rw [hW.2.1]; exact hl)]; exact h1, rx_E_up ⟨[a], rfl⟩ h2⟩
  · rw [List.getElem?_append_right (by omega)] at hj
    have hz : j - h.length < 1 := (List.getElem?_eq_some_iff.mp hj).1
    have hj0 : j = h.length := by omega
    subst hj0
    rw [Nat.sub_self] at hj
    cases hj
    refine ⟨a, E, ?_, hE⟩
    rw [List.getElem?_append_right (by rw [hW.2.1]; exact Nat.le_refl _), hW.2.1, Nat.sub_self]
    rfl
theorem rx_W_len {U : State} {ad sa : List Nat} {h : rx_H} {ws : va_W} (hW : rx_W U ad sa h ws) : ad.length = h.length := by rw [← hW.1, List.length_map]; exact hW.2.1
end
section
/-! WHAT HOLDS WHILE A METHOD RUNS -/
abbrev rx_MT : Type := MethodName × ByteArray × Nat × Option FieldType × String × rx_Tab × Nat × Nat × Nat
def rx_RO (U : State) (A : Nat → Prop) (sa : List Nat) (ro : List (List rx_V)) : Prop := (∀ (j : Nat) (l : List rx_V), ro[j]? = some l → ∃ (a : Nat) (xs : Nat → Int32), sa[j]? = some a ∧ a < U.heap.size ∧ ¬ A a ∧ va_X a l.length xs U U.heap ∧ ∀ (t : Nat) (v : rx_V), l[t]? = some v → rx_G [] [] v (.int (xs t))) ∧ (∀ (j : Nat) (nm : String), rx_sn[j]? = some nm → ∃ a, sa[j]? = some a ∧ va_Z "ShipPower" nm "[I" (.ref a) A U U.heap)
def rx_NW (U : State) : Prop := (∀ q ∈ rx_nm, va_Nw (.methodLinkNest q.1 q.2.1 q.2.2 "ShipPower") U) ∧ (∀ q ∈ rx_nf, va_Nw (.fieldLinkNest q.1 q.2.1 "ShipPower" q.2.2 "[I" "ShipPower") U) ∧ ∀ C ∈ rx_ao, va_AO C U
def rx_ws (mt : rx_MT) : List Jvm.Cond := .code mt.1 mt.2.1 mt.2.2.1 mt.2.2.2.1 :: rx_bw
def rx_xn : List String := ["java/lang/IllegalArgumentException", "java/lang/IllegalStateException", "java/lang/IndexOutOfBoundsException"]
def rx_sup : List String := ["java/lang/RuntimeException", "java/lang/Exception"]
/-- words of the tables that don't ride along by themselves -/
def rx_tw : List Jvm.Cond := [.declares (Bundle.initS Bundle.tN), .declares (Bundle.initS "java/lang/RuntimeException"), .declares (Bundle.initS "java/lang/Exception"),
  .castable "java/lang/IllegalArgumentException" "java/lang/IllegalArgumentException", .castable "java/lang/IllegalStateException" "java/lang/IllegalStateException", .castable "java/lang/IndexOutOfBoundsException" "java/lang/IndexOutOfBoundsException"]
def rx_st : List (String × Nat × String) := [("ShipPower", 91, "no such bus or class"), ("ShipPower", 96, "kilowatts or factor out of range"), ("ShipPower", 103, "no room for a consumer"), ("ShipPower", 112, "no such consumer"), ("ShipPower", 134, "not 1 to 1000 ticks"), ("ShipPower", 187, "no such bus or what"), ("ShipPower", 208, "no such set or what"), ("ShipPower", 213, "no such consumer or what"), ("ShipPower", 224, "no such event or what")]
/-- a static of a reference type, as the tables lay it, in a cell that nobody here writes -/
def rx_LS (C n d : String) (A : Nat → Prop) (U : State) : Prop := ∃ (c : ClassId) (k : Class) (i : Nat) (f : Field) (a : Nat) (cell : Cell) (v : Value), U.vm.findClass C = some c ∧ U.fieldFound? C n d = some (c, k, i, f) ∧ f.isStatic = true ∧ k.statics = some a ∧ U.heap[a]? = some cell ∧ cell.vm.isStatics = true ∧ cell.cls = c ∧ f.slot < cell.slots.size ∧ k.staticTypes[f.slot]? = some f.type ∧ (v = .null ∨ ∃ t, v = .ref t) ∧ cell.slots[f.slot]? = some v ∧ ¬ A a
theorem rx_LS_lays {C n d : String} {A : Nat → Prop} {U : State} {args : Array Value} (h : rx_LS C n d A U) : (Cond.laysStatic C n d).before args U = true := by
  obtain ⟨c, k, i, f, a, cell, v, h1, h2, h3, h4, h5, h6, h7, h8, h9, -⟩ := h
  exact Cond.laysStatic_of h1 h2 h3 h4 h5 h6 h7 h8 h9
theorem rx_LS_ref {C n d : String} {A : Nat → Prop} {U : State} {args : Array Value} (h : rx_LS C n d A U) : (Cond.isRef (.static C n d)).before args U = true := by
  obtain ⟨c, k, i, f, a, cell, v, h1, h2, h3, h4, h5, h6, h7, h8, h9, hv, h10, -⟩ := h
  have e := Term.static_eval (args := args) (first := U) (o := none) (idx := []) h2 h3 h4 h5 h6 h10
  rcases hv with rfl | ⟨t, rfl⟩ <;> simp [Cond.before, Cond.holds, Cond.value, e]
theorem rx_LS_go {C n d : String} {A B : Nat → Prop} {u U : State} (hvm : u.vm.Alike U.vm) (hh : ∀ a : Nat, a < u.heap.size → ¬ A a → U.heap[a]? = u.heap[a]?) (hAB : ∀ q, B q → A q) (h : rx_LS C n d A u) : rx_LS C n d B U := by
  obtain ⟨c, k, i, f, a, cell, v, h1, h2, h3, h4, h5, h6, h7, h8, h9, hv, h10, h11⟩ := h
  obtain ⟨k', h2', he⟩ := State.fieldFound?_setVm hvm h2
  exact ⟨c, k', i, f, a, cell, v, by rw [hvm.findClass]; exact h1, h2', h3, by rw [he]; exact h4, by rw [hh a (Array.getElem?_eq_some_iff.mp h5).1 h11]; exact h5, h6, h7, h8, by rw [he]; exact h9, hv, h10, fun z => h11 (hAB a z)⟩
def rx_TW (A : Nat → Prop) (U : State) : Prop := (∀ w ∈ rx_tw, va_Nw w U) ∧ (rx_LS Bundle.tN "UNASSIGNED_STACK" Bundle.steD A U ∧ rx_LS Bundle.tN "SUPPRESSED_SENTINEL" Bundle.listD A U) ∧ ∀ q ∈ rx_st, ∃ a, vk_R q.1 q.2.1 q.2.2 a U
theorem rx_TW_go {A B : Nat → Prop} {u U : State} (hW : u.WarmedH U.vm) (hh : ∀ a : Nat, a < u.heap.size → ¬ A a → U.heap[a]? = u.heap[a]?) (hAB : ∀ q, B q → A q) (h : rx_TW A u) : rx_TW B U := by
  refine ⟨fun w hw => ?_, ⟨rx_LS_go hW.alike hh hAB h.2.1.1, rx_LS_go hW.alike hh hAB h.2.1.2⟩, fun q hq => ?_⟩
  · have h1 := h.1 w hw
    simp only [rx_tw, List.mem_cons, List.not_mem_nil, or_false] at hw
    rcases hw with rfl | rfl | rfl | rfl | rfl | rfl
    · exact va_Nw.warmD hW h1
    · exact va_Nw.warmD hW h1
    · exact va_Nw.warmD hW h1
    · exact va_Nw.warmC hW h1
    · exact va_Nw.warmC hW h1
    · exact va_Nw.warmC hW h1
  · obtain ⟨a, ha⟩ := h.2.2 q hq
    exact ⟨a, ha.warm hW⟩
def rx_Cx (p : Program) (s : State) (m : MethodId) (args : Array Value) (meth : Method) (c : Code) (D : va_G) (A B : Nat → Prop) (wr : Bool) (sa : List Nat) (ro : List (List rx_V)) (mt : rx_MT) : Prop :=
  p.tables.exec = Jvm.exec ∧ c.code = mt.2.1 ∧ c.maxLocals = mt.2.2.1 ∧ s.vm.findClass mt.2.2.2.2.1 = some m.cls ∧ (∀ w ∈ rx_bw, w.before args s = true) ∧ meth.sig.returnType = mt.2.2.2.1 ∧ meth.locks = false ∧ meth.name = mt.1.name ∧ va_K D rx_cl [] s ∧ (∀ q, s.heap.size ≤ q → A q) ∧ rx_RO s A sa ro ∧ rx_NW s ∧ (wr = true → B = A) ∧ rx_TW A s
def rx_Go (p : Program) (l : Launch) (e : Env) (R : Room) (s : State) (m : MethodId) (args : Array Value) (below : List Frame) (meth : Method) (c : Code) (Q : State → Prop) (D : va_G) (A B : Nat → Prop) (sa ad0 : List Nat) (mt : rx_MT) (pc : Nat) (h : rx_H) (L : rx_F) (st : List rx_V) (cells slots : Nat) : Prop :=
  ∀ (ad : List Nat) (ws : va_W) (H : Heap) (locs : List Loc) (ls : Array Slot) (vs : List Value), ad0 <+: ad → rx_W s ad sa h ws → va_P D rx_cl ws H → va_D B ws → va_S A s.heap H locs → rx_L ad sa mt.2.2.1 L ls → rx_S ad sa st vs → W p l e R s m args below meth c H locs cells slots Q (F0 m pc ls vs)
/-- lengths of instructions -/
def rx_ln (i : Instr) : Nat := match i with
  | .bipush _ => 2
  | .sipush _ => 3
  | .ldc _ => 2
  | .ldc_w _ => 3
  | .ldc2_w _ => 3
  | .iload _ => 2
  | .lload _ => 2
  | .aload _ => 2
  | .istore _ => 2
  | .lstore _ => 2
  | .astore _ => 2
  | .iinc _ _ => 3
  | .goto _ => 3
  | .ifCond _ _ => 3
  | .if_icmp _ _ => 3
  | .ifnull _ => 3
  | .ifnonnull _ => 3
  | .getfield _ => 3
  | .putfield _ => 3
  | .getstatic _ => 3
  | .new _ => 3
  | .newarray _ => 2
  | .anewarray _ => 3
  | .invokevirtual _ => 3
  | .invokestatic _ => 3
  | .invokespecial _ => 3
  | .tableswitch _ _ _ _ => 0
  | _ => 1
def rx_off (i : Instr) : Option Int := match i with
  | .goto o => some o
  | .ifCond _ o => some o
  | .if_icmp _ o => some o
  | .ifnull o => some o
  | .ifnonnull o => some o
  | _ => none
/-- what a call's row must say of the callee -/
def rx_Ca (mt mj : rx_MT) (np : Nat) : Prop := mj.2.2.2.2.2.2.1 + 1 ≤ mt.2.2.2.2.2.2.1 ∧ 8 + (mj.2.2.1 + 11) + mj.2.2.2.2.2.2.2.1 ≤ mt.2.2.2.2.2.2.2.1 ∧ Jvm.Cond.code mj.1 mj.2.1 mj.2.2.1 mj.2.2.2.1 ∈ rx_bw ∧ Jvm.Cond.initialized mj.1.cls ∈ rx_bw ∧ mj.1.cls ≠ "java/lang/invoke/MethodHandle" ∧ mj.1.cls ≠ "java/lang/invoke/VarHandle" ∧ (parseMethodDescriptor mj.1.desc).map (fun d => d.parameters.length) = some np
def rx_Fl (mt : rx_MT) (i a b : Nat) (q : vw_C) : Prop := rx_cl[a]? = some q ∧ b < q.2.2 ∧ Jvm.Cond.fieldLink mt.2.2.2.2.1 i (q.2.1 b).1 (q.2.1 b).2.1 (q.2.1 b).2.2.1 ∈ rx_bw
/-- the law's own helpers, which catch -/
def rx_hy : List MethodName := [⟨"ShipPowerLaw", "consumer", "(LShipPower;IIII[J)I"⟩, ⟨"ShipPowerLaw", "ask", "(LShipPower;IZ[J)I"⟩, ⟨"ShipPowerLaw", "ticks", "(LShipPower;I[J)I"⟩, ⟨"ShipPowerLaw", "bus", "(LShipPower;II[J)I"⟩, ⟨"ShipPowerLaw", "set", "(LShipPower;II[J)I"⟩, ⟨"ShipPowerLaw", "look", "(LShipPower;II[J)I"⟩, ⟨"ShipPowerLaw", "event", "(LShipPower;II[J)I"⟩]
/-- Math's methods, by the library's rows -/
def rx_Ma (own : String) (i t : Nat) : Prop := Jvm.Cond.initialized "java/lang/Math" ∈ rx_bw ∧ (match t with
  | 20 => Jvm.Cond.methodLink own i Lib.Math.max.name ∈ rx_bw ∧ Jvm.Cond.static Lib.Math.max.name ∈ rx_bw ∧ Jvm.Cond.code Lib.Math.max.name Lib.Math.max.code 2 (some .int) ∈ rx_bw
  | 21 => Jvm.Cond.methodLink own i Lib.Math.min.name ∈ rx_bw ∧ Jvm.Cond.static Lib.Math.min.name ∈ rx_bw ∧ Jvm.Cond.code Lib.Math.min.name Lib.Math.min.code 2 (some .int) ∈ rx_bw
  | 22 => Jvm.Cond.methodLink own i Lib.Math.abs.name ∈ rx_bw ∧ Jvm.Cond.static Lib.Math.abs.name ∈ rx_bw ∧ Jvm.Cond.code Lib.Math.abs.name Lib.Math.abs.code 1 (some .int) ∈ rx_bw
  | 23 => Jvm.Cond.methodLink own i Lib.MathLoose.max_long.x ∈ rx_bw ∧ Jvm.Cond.static Lib.MathLoose.max_long.x ∈ rx_bw ∧ Jvm.Cond.code Lib.MathLoose.max_long.x Lib.MathLoose.max_long.code 4 (some .long) ∈ rx_bw
  | 24 => Jvm.Cond.methodLink own i Lib.MathLoose.min_long.x ∈ rx_bw ∧ Jvm.Cond.static Lib.MathLoose.min_long.x ∈ rx_bw ∧ Jvm.Cond.code Lib.MathLoose.min_long.x Lib.MathLoose.min_long.code 4 (some .long) ∈ rx_bw
  | _ => False)
/-- the meaning that a row gives an entry of the pool is the tables' -/
def rx_Lk (xM : List rx_MT) (mt : rx_MT) (ins : Instr) (K : rx_K) : Prop := match ins with
  | .ldc i => K.1 = 3 → Jvm.Cond.constant mt.2.2.2.2.1 i (Int32.ofInt K.2.2.2) ∈ rx_bw ∧ (Int32.ofInt K.2.2.2).toInt = K.2.2.2
  | .ldc_w i => K.1 = 3 → Jvm.Cond.constant mt.2.2.2.2.1 i (Int32.ofInt K.2.2.2) ∈ rx_bw ∧ (Int32.ofInt K.2.2.2).toInt = K.2.2.2
  | .ldc2_w i => K.1 = 4 → Jvm.Cond.constantLong mt.2.2.2.2.1 i (Int64.ofInt K.2.2.2) ∈ rx_bw ∧ (Int64.ofInt K.2.2.2).toInt = K.2.2.2
  | .getfield i => K.1 = 1 ∨ K.1 = 14 → ∃ q, rx_Fl mt i K.2.1 K.2.2.1 q
  | .putfield i => (K.1 = 1 → ∃ q fs, rx_Fl mt i K.2.1 K.2.2.1 q ∧ (q.2.1 K.2.2.1).2.2.2 = false ∧ rx_fts[K.2.1]? = some fs ∧ rx_fc (fs.getD K.2.2.1 .int) = K.2.2.2.toNat) ∧ (K.1 = 14 → ∃ q fs, rx_Fl mt i K.2.1 K.2.2.1 q ∧ (q.2.1 K.2.2.1).2.2.2 = true ∧ rx_fts[K.2.1]? = some fs ∧ rx_fc (fs.getD K.2.2.1 .int) = K.2.2.2.toNat ∧ mt.1.name = "<init>" ∧ (q.2.1 K.2.2.1).1 = mt.2.2.2.2.1)
  | .getstatic i => K.1 = 2 → ∃ nm, rx_sn[K.2.1]? = some nm ∧ (Jvm.Cond.fieldLink mt.2.2.2.2.1 i "ShipPower" nm "[I" ∈ rx_bw ∨ (mt.2.2.2.2.1, i, nm) ∈ rx_nf)
  | .new i => K.1 = 11 → ∃ q, rx_cl[K.2.1]? = some q ∧ Jvm.Cond.classLink mt.2.2.2.2.1 i q.1 ∈ rx_bw
  | .anewarray i => K.1 = 13 → ∃ q, rx_cl[K.2.1]? = some q ∧ Jvm.Cond.classLink mt.2.2.2.2.1 i q.1 ∈ rx_bw ∧ q.1 ∈ rx_ao
  | .newarray t => Jvm.Cond.arrayClass (Op.newarray.typeOf t) ∈ rx_bw
  | .invokevirtual i => K.1 = 5 → ∃ mj q np, xM[K.2.1]? = some mj ∧ rx_Ca mt mj np ∧ K.2.2.1 = np + 1 ∧ rx_cl[K.2.2.2.toNat]? = some q ∧ q.1 = mj.1.cls ∧ Jvm.Cond.methodLink mt.2.2.2.2.1 i mj.1 ∈ rx_bw ∧ Jvm.Cond.instanceMethod mj.1 ∈ rx_bw ∧ Jvm.Cond.selects mj.1.cls mj.1 mj.1 ∈ rx_bw
  | .invokestatic i => (K.1 = 6 → ∃ mj np, xM[K.2.1]? = some mj ∧ rx_Ca mt mj np ∧ K.2.2.1 = np ∧ Jvm.Cond.methodLink mt.2.2.2.2.1 i mj.1 ∈ rx_bw ∧ Jvm.Cond.static mj.1 ∈ rx_bw) ∧ (K.1 = 8 → ∃ mj np, xM[K.2.1]? = some mj ∧ rx_Ca mt mj np ∧ K.2.2.1 = np ∧ (mt.2.2.2.2.1, i, mj.1) ∈ rx_nm ∧ Jvm.Cond.static mj.1 ∈ rx_bw) ∧ (20 ≤ K.1 → 1 ≤ mt.2.2.2.2.2.2.1 ∧ 23 ≤ mt.2.2.2.2.2.2.2.1 ∧ rx_Ma mt.2.2.2.2.1 i K.1) ∧ (K.1 = 16 → 1000 ≤ K.2.1 ∧ ∃ y np, rx_hy[K.2.1 - 1000]? = some y ∧ K.2.2.1 = np ∧ Jvm.Cond.methodLink mt.2.2.2.2.1 i y ∈ rx_bw ∧ 10 ≤ mt.2.2.2.2.2.2.1 ∧ 364 ≤ mt.2.2.2.2.2.2.2.1 ∧ (parseMethodDescriptor y.desc).map (fun d => d.parameters.length) = some np)
  | .invokespecial i => (K.1 = 10 → Jvm.Cond.methodLink mt.2.2.2.2.1 i Lib.objectInit ∈ rx_bw ∧ 1 ≤ mt.2.2.2.2.2.2.1 ∧ 20 ≤ mt.2.2.2.2.2.2.2.1) ∧ (K.1 = 7 → ∃ mj np, xM[K.2.1]? = some mj ∧ rx_Ca mt mj np ∧ K.2.2.1 = np + 1 ∧ mj.1.name = "<init>" ∧ mj.2.2.2.1 = none ∧ Jvm.Cond.methodLink mt.2.2.2.2.1 i mj.1 ∈ rx_bw ∧ Jvm.Cond.instanceMethod mj.1 ∈ rx_bw) ∧ (K.1 = 9 → ∃ mj np, xM[K.2.1]? = some mj ∧ rx_Ca mt mj np ∧ K.2.2.1 = np + 1 ∧ mj.1.name = "<init>" ∧ mj.2.2.2.1 = none ∧ (mt.2.2.2.2.1, i, mj.1) ∈ rx_nm ∧ Jvm.Cond.instanceMethod mj.1 ∈ rx_bw)
  | .ireturn => (K.2.1 = 0 → mt.2.2.2.1 = some .int) ∧ (¬ K.2.1 = 0 → mt.2.2.2.1 = some .boolean)
  | .lreturn => mt.2.2.2.1 = some .long
  | .areturn => ∃ n, mt.2.2.2.1 = some (.object n)
  | .return_ => mt.2.2.2.1 = none
  | _ => True
def rx_Ok (xM : List rx_MT) (mt : rx_MT) (pc : Nat) (row : rx_Row) : Prop := (∃ len, decode mt.2.1 pc = .ok (row.1, len) ∧ row.2.1 = pc + len ∧ (rx_ln row.1 = len ∨ rx_ln row.1 = 0)) ∧ (∀ o, rx_off row.1 = some o → (pc : Int) + o = (row.2.2.1 : Int)) ∧ rx_Lk xM mt row.1 row.2.2.2
end
section
/-! EACH INSTRUCTION IS TRUE TO THE MACHINE -/
section OPS
variable {p : Program} {l : Launch} {e : Env} {R : Room} {s : State} {m : MethodId} {args : Array Value} {below : List Frame} {meth : Method} {c : Code} {Q : State → Prop} {D : va_G} {A B : Nat → Prop} {wr : Bool} {sa ad0 : List Nat} {ro : List (List rx_V)} {mt : rx_MT} {xM : List rx_MT} {pc np tg : Nat} {K : rx_K} {h : rx_H} {L : rx_F} {st : List rx_V} {cells slots : Nat}
theorem rx_Ok.dec {ins : Instr} (ok : rx_Ok xM mt pc (ins, np, tg, K)) {n : Nat} (hn : rx_ln ins = n + 1) : decode mt.2.1 pc = .ok (ins, n + 1) ∧ np = pc + (n + 1) := by
  obtain ⟨⟨len, h1, h2, h3⟩, -⟩ := ok
  have e : len = n + 1 := by
    rcases h3 with h3 | h3
    · rw [← h3]; exact hn
    · rw [hn] at h3; cases h3
  subst e
  exact ⟨h1, h2⟩
theorem rx_Cx.word (C : rx_Cx p s m args meth c D A B wr sa ro mt) {w : Jvm.Cond} (hw : w ∈ rx_bw) : w.before args s = true := C.2.2.2.2.1 w hw
/-- an int is put on the stack -/
theorem rx_o_iconst {n : Int} (C : rx_Cx p s m args meth c D A B wr sa ro mt) (ok : rx_Ok xM mt pc (.iconst n, np, tg, K)) (h1 : -1 ≤ n) (h2 : n ≤ 5) (k : rx_Go p l e R s m args below meth c Q D A B sa ad0 mt np h L (.inl (n, n) :: st) cells slots) : rx_Go p l e R s m args below meth c Q D A B sa ad0 mt pc h L st cells slots := by
  obtain ⟨hd, rfl⟩ := ok.dec (n := 0) rfl
  intro ad ws H locs ls vs a1 a2 a3 a4 a5 a6 a7
  refine lv_iconst (v := Int32.ofInt n) C.1 C.2.1 hd rfl (k ad ws H locs ls _ a1 a2 a3 a4 a5 a6 ⟨⟨_, rfl, ?_⟩, a7⟩)
  have e : (Int32.ofInt n).toInt = n := by rw [Int32.toInt_ofInt]; exact rx_bm32 (by omega) (by omega)
  rw [e]; exact ⟨Int.le_refl _, Int.le_refl _⟩
theorem rx_o_bipush {n : Int} (C : rx_Cx p s m args meth c D A B wr sa ro mt) (ok : rx_Ok xM mt pc (.bipush n, np, tg, K)) (h1 : -128 ≤ n) (h2 : n ≤ 127) (k : rx_Go p l e R s m args below meth c Q D A B sa ad0 mt np h L (.inl (n, n) :: st) cells slots) : rx_Go p l e R s m args below meth c Q D A B sa ad0 mt pc h L st cells slots := by
  obtain ⟨hd, rfl⟩ := ok.dec (n := 1) rfl
  intro ad ws H locs ls vs a1 a2 a3 a4 a5 a6 a7
  refine lv_bipush (v := (Int8.ofInt n).toInt32) C.1 C.2.1 hd rfl (k ad ws H locs ls _ a1 a2 a3 a4 a5 a6 ⟨⟨_, rfl, ?_⟩, a7⟩)
  have e : (Int8.ofInt n).toInt32.toInt = n := by
    rw [Int8.toInt_toInt32, Int8.toInt_ofInt, show Int8.size = 256 from rfl, Int.bmod_def]; split <;> omega
  rw [e]; exact ⟨Int.le_refl _, Int.le_refl _⟩
theorem rx_o_sipush {n : Int} (C : rx_Cx p s m args meth c D A B wr sa ro mt) (ok : rx_Ok xM mt pc (.sipush n, np, tg, K)) (h1 : -32768 ≤ n) (h2 : n ≤ 32767) (k : rx_Go p l e R s m args below meth c Q D A B sa ad0 mt np h L (.inl (n, n) :: st) cells slots) : rx_Go p l e R s m args below meth c Q D A B sa ad0 mt pc h L st cells slots := by
  obtain ⟨hd, rfl⟩ := ok.dec (n := 2) rfl
  intro ad ws H locs ls vs a1 a2 a3 a4 a5 a6 a7
  refine lv_sipush (v := (Int16.ofInt n).toInt32) C.1 C.2.1 hd rfl (k ad ws H locs ls _ a1 a2 a3 a4 a5 a6 ⟨⟨_, rfl, ?_⟩, a7⟩)
  have e : (Int16.ofInt n).toInt32.toInt = n := by
    rw [Int16.toInt_toInt32, Int16.toInt_ofInt, show Int16.size = 65536 from rfl, Int.bmod_def]; split <;> omega
  rw [e]; exact ⟨Int.le_refl _, Int.le_refl _⟩
theorem rx_o_lconst {n : Fin 2} (C : rx_Cx p s m args meth c D A B wr sa ro mt) (ok : rx_Ok xM mt pc (.lconst n, np, tg, K)) (k : rx_Go p l e R s m args below meth c Q D A B sa ad0 mt np h L (.inr (.inl (((n : Nat) : Int), ((n : Nat) : Int))) :: st) cells slots) : rx_Go p l e R s m args below meth c Q D A B sa ad0 mt pc h L st cells slots := by
  obtain ⟨hd, rfl⟩ := ok.dec (n := 0) rfl
  intro ad ws H locs ls vs a1 a2 a3 a4 a5 a6 a7
  refine lv_lconst (v := Int64.ofNat (n : Nat)) C.1 C.2.1 hd rfl (k ad ws H locs ls _ a1 a2 a3 a4 a5 a6 ⟨⟨_, rfl, ?_⟩, a7⟩)
  have e : (Int64.ofNat (n : Nat)).toInt = ((n : Nat) : Int) := pk_lT (by have := n.isLt; omega)
  rw [e]; exact ⟨Int.le_refl _, Int.le_refl _⟩
theorem rx_o_null (C : rx_Cx p s m args meth c D A B wr sa ro mt) (ok : rx_Ok xM mt pc (.aconst_null, np, tg, K)) (k : rx_Go p l e R s m args below meth c Q D A B sa ad0 mt np h L (.inr (.inr (.inl none)) :: st) cells slots) : rx_Go p l e R s m args below meth c Q D A B sa ad0 mt pc h L st cells slots := by
  obtain ⟨hd, rfl⟩ := ok.dec (n := 0) rfl
  intro ad ws H locs ls vs a1 a2 a3 a4 a5 a6 a7
  exact lv_null C.1 C.2.1 hd (k ad ws H locs ls _ a1 a2 a3 a4 a5 a6 ⟨rfl, a7⟩)
theorem rx_o_ldc {i : Nat} (C : rx_Cx p s m args meth c D A B wr sa ro mt) (ok : rx_Ok xM mt pc (.ldc i, np, tg, K)) (hK : K.1 = 3) (k : rx_Go p l e R s m args below meth c Q D A B sa ad0 mt np h L (.inl (K.2.2.2, K.2.2.2) :: st) cells slots) : rx_Go p l e R s m args below meth c Q D A B sa ad0 mt pc h L st cells slots := by
  obtain ⟨hd, rfl⟩ := ok.dec (n := 1) rfl
  obtain ⟨hw, e⟩ := ok.2.2 hK
  intro ad ws H locs ls vs a1 a2 a3 a4 a5 a6 a7
  refine lv_ldc C.1 C.2.1 C.2.2.2.1 (C.word hw) hd (k ad ws H locs ls _ a1 a2 a3 a4 a5 a6 ⟨⟨_, rfl, ?_⟩, a7⟩)
  rw [e]; exact ⟨Int.le_refl _, Int.le_refl _⟩
theorem rx_o_ldcw {i : Nat} (C : rx_Cx p s m args meth c D A B wr sa ro mt) (ok : rx_Ok xM mt pc (.ldc_w i, np, tg, K)) (hK : K.1 = 3) (k : rx_Go p l e R s m args below meth c Q D A B sa ad0 mt np h L (.inl (K.2.2.2, K.2.2.2) :: st) cells slots) : rx_Go p l e R s m args below meth c Q D A B sa ad0 mt pc h L st cells slots := by
  obtain ⟨hd, rfl⟩ := ok.dec (n := 2) rfl
  obtain ⟨hw, e⟩ := ok.2.2 hK
  intro ad ws H locs ls vs a1 a2 a3 a4 a5 a6 a7
  refine lv_ldcw C.1 C.2.1 C.2.2.2.1 (C.word hw) hd (k ad ws H locs ls _ a1 a2 a3 a4 a5 a6 ⟨⟨_, rfl, ?_⟩, a7⟩)
  rw [e]; exact ⟨Int.le_refl _, Int.le_refl _⟩
theorem rx_o_ldc2 {i : Nat} (C : rx_Cx p s m args meth c D A B wr sa ro mt) (ok : rx_Ok xM mt pc (.ldc2_w i, np, tg, K)) (hK : K.1 = 4) (k : rx_Go p l e R s m args below meth c Q D A B sa ad0 mt np h L (.inr (.inl (K.2.2.2, K.2.2.2)) :: st) cells slots) : rx_Go p l e R s m args below meth c Q D A B sa ad0 mt pc h L st cells slots := by
  obtain ⟨hd, rfl⟩ := ok.dec (n := 2) rfl
  obtain ⟨hw, e⟩ := ok.2.2 hK
  intro ad ws H locs ls vs a1 a2 a3 a4 a5 a6 a7
  refine lv_ldc2 C.1 C.2.1 C.2.2.2.1 (C.word hw) hd (k ad ws H locs ls _ a1 a2 a3 a4 a5 a6 ⟨⟨_, rfl, ?_⟩, a7⟩)
  rw [e]; exact ⟨Int.le_refl _, Int.le_refl _⟩
/-! locals -/
def rx_isI (v : rx_V) : Bool := match v with
  | .inl _ => true
  | .inr (.inr (.inr j)) => Nat.ble 200000 j
  | _ => false
theorem rx_int {ad sa : List Nat} {v : rx_V} {x : Value} (hv : rx_isI v = true) (h : rx_G ad sa v x) : ∃ i, x = .int i := by
  match v, hv, h with
  | .inl q, _, h => obtain ⟨i, h, -⟩ := h; exact ⟨i, h⟩
  | .inr (.inr (.inr j)), hv, h =>
    have hv := Nat.le_of_ble_eq_true hv
    rcases h with ⟨h1, -⟩ | ⟨-, i, h, -⟩
    · omega
    · exact ⟨i, h⟩
theorem rx_o_iload_n {i : Fin 4} {v : rx_V} (C : rx_Cx p s m args meth c D A B wr sa ro mt) (ok : rx_Ok xM mt pc (.iload_n i, np, tg, K)) (hv : rx_isI v = true) (hi : L[(i : Nat)]? = some (some v)) (k : rx_Go p l e R s m args below meth c Q D A B sa ad0 mt np h L (v :: st) cells slots) : rx_Go p l e R s m args below meth c Q D A B sa ad0 mt pc h L st cells slots := by
  obtain ⟨hd, rfl⟩ := ok.dec (n := 0) rfl
  intro ad ws H locs ls vs a1 a2 a3 a4 a5 a6 a7
  obtain ⟨x, hx, hy⟩ := rx_L_get a6 hi
  obtain ⟨y, rfl⟩ := rx_int hv hy
  exact lv_iload_n C.1 C.2.1 hd rfl hx (k ad ws H locs ls _ a1 a2 a3 a4 a5 a6 ⟨hy, a7⟩)
theorem rx_o_iload {i : Nat} {v : rx_V} (C : rx_Cx p s m args meth c D A B wr sa ro mt) (ok : rx_Ok xM mt pc (.iload i, np, tg, K)) (hv : rx_isI v = true) (hi : L[i]? = some (some v)) (k : rx_Go p l e R s m args below meth c Q D A B sa ad0 mt np h L (v :: st) cells slots) : rx_Go p l e R s m args below meth c Q D A B sa ad0 mt pc h L st cells slots := by
  obtain ⟨hd, rfl⟩ := ok.dec (n := 1) rfl
  intro ad ws H locs ls vs a1 a2 a3 a4 a5 a6 a7
  obtain ⟨x, hx, hy⟩ := rx_L_get a6 hi
  obtain ⟨y, rfl⟩ := rx_int hv hy
  exact lv_iload C.1 C.2.1 hd hx (k ad ws H locs ls _ a1 a2 a3 a4 a5 a6 ⟨hy, a7⟩)
theorem rx_o_lload_n {i : Fin 4} {q : Int × Int} (C : rx_Cx p s m args meth c D A B wr sa ro mt) (ok : rx_Ok xM mt pc (.lload_n i, np, tg, K)) (hi : L[(i : Nat)]? = some (some (.inr (.inl q)))) (k : rx_Go p l e R s m args below meth c Q D A B sa ad0 mt np h L (.inr (.inl q) :: st) cells slots) : rx_Go p l e R s m args below meth c Q D A B sa ad0 mt pc h L st cells slots := by
  obtain ⟨hd, rfl⟩ := ok.dec (n := 0) rfl
  intro ad ws H locs ls vs a1 a2 a3 a4 a5 a6 a7
  obtain ⟨x, hx, y, rfl, hy⟩ := rx_L_get a6 hi
  exact lv_lload_n C.1 C.2.1 hd rfl hx (k ad ws H locs ls _ a1 a2 a3 a4 a5 a6 ⟨⟨_, rfl, hy⟩, a7⟩)
theorem rx_o_lload {i : Nat} {q : Int × Int} (C : rx_Cx p s m args meth c D A B wr sa ro mt) (ok : rx_Ok xM mt pc (.lload i, np, tg, K)) (hi : L[i]? = some (some (.inr (.inl q)))) (k : rx_Go p l e R s m args below meth c Q D A B sa ad0 mt np h L (.inr (.inl q) :: st) cells slots) : rx_Go p l e R s m args below meth c Q D A B sa ad0 mt pc h L st cells slots := by
  obtain ⟨hd, rfl⟩ := ok.dec (n := 1) rfl
  intro ad ws H locs ls vs a1 a2 a3 a4 a5 a6 a7
  obtain ⟨x, hx, y, rfl, hy⟩ := rx_L_get a6 hi
  exact lv_lload C.1 C.2.1 hd hx (k ad ws H locs ls _ a1 a2 a3 a4 a5 a6 ⟨⟨_, rfl, hy⟩, a7⟩)
theorem rx_ref {ad sa : List Nat} {q : Option Nat ⊕ Nat} {x : Value} (hq : rx_isr q = true) (h : rx_G ad sa (.inr (.inr q)) x) : x = .null ∨ ∃ a, x = .ref a := by
  match q, hq, h with
  | .inl none, _, h => exact Or.inl h
  | .inl (some k), _, h => obtain ⟨a, -, h⟩ := h; exact Or.inr ⟨a, h⟩
  | .inr j, hq, h =>
    have hq := Nat.le_of_ble_eq_true hq
    rcases h with ⟨-, a, -, h⟩ | ⟨h1, -⟩
    · exact Or.inr ⟨a, h⟩
    · omega
theorem rx_o_aload_n {i : Fin 4} {q : Option Nat ⊕ Nat} (C : rx_Cx p s m args meth c D A B wr sa ro mt) (ok : rx_Ok xM mt pc (.aload_n i, np, tg, K)) (hq : rx_isr q = true) (hi : L[(i : Nat)]? = some (some (.inr (.inr q)))) (k : rx_Go p l e R s m args below meth c Q D A B sa ad0 mt np h L (.inr (.inr q) :: st) cells slots) : rx_Go p l e R s m args below meth c Q D A B sa ad0 mt pc h L st cells slots := by
  obtain ⟨hd, rfl⟩ := ok.dec (n := 0) rfl
  intro ad ws H locs ls vs a1 a2 a3 a4 a5 a6 a7
  obtain ⟨x, hx, hy⟩ := rx_L_get a6 hi
  have kk := k ad ws H locs ls (x :: vs) a1 a2 a3 a4 a5 a6 ⟨hy, a7⟩
  rcases rx_ref hq hy with rfl | ⟨a, rfl⟩
  · exact lv_aload_nN C.1 C.2.1 hd rfl hx kk
  · exact lv_aload_n C.1 C.2.1 hd rfl hx kk
theorem rx_o_aload {i : Nat} {q : Option Nat ⊕ Nat} (C : rx_Cx p s m args meth c D A B wr sa ro mt) (ok : rx_Ok xM mt pc (.aload i, np, tg, K)) (hq : rx_isr q = true) (hi : L[i]? = some (some (.inr (.inr q)))) (k : rx_Go p l e R s m args below meth c Q D A B sa ad0 mt np h L (.inr (.inr q) :: st) cells slots) : rx_Go p l e R s m args below meth c Q D A B sa ad0 mt pc h L st cells slots := by
  obtain ⟨hd, rfl⟩ := ok.dec (n := 1) rfl
  intro ad ws H locs ls vs a1 a2 a3 a4 a5 a6 a7
  obtain ⟨x, hx, hy⟩ := rx_L_get a6 hi
  have kk := k ad ws H locs ls (x :: vs) a1 a2 a3 a4 a5 a6 ⟨hy, a7⟩
  rcases rx_ref hq hy with rfl | ⟨a, rfl⟩
  · exact lv_aloadN C.1 C.2.1 hd hx kk
  · exact lv_aload C.1 C.2.1 hd hx kk
theorem rx_o_istore_n {i : Fin 4} {q : Int × Int} {r : List rx_V} (C : rx_Cx p s m args meth c D A B wr sa ro mt) (ok : rx_Ok xM mt pc (.istore_n i, np, tg, K)) (hp : rx_pv L i = true) (hi : (i : Nat) < L.length) (k : rx_Go p l e R s m args below meth c Q D A B sa ad0 mt np h (L.set i (some (.inl q))) r cells slots) : rx_Go p l e R s m args below meth c Q D A B sa ad0 mt pc h L (.inl q :: r) cells slots := by
  obtain ⟨hd, rfl⟩ := ok.dec (n := 0) rfl
  intro ad ws H locs ls vs a1 a2 a3 a4 a5 a6 a7
  obtain ⟨y, vs, rfl, ⟨x, rfl, hx⟩, a8⟩ := rx_S_cons a7
  obtain ⟨hn, lv, hl, kk⟩ := rx_L_set1 a6 (v := .inl q) (x := .int x) hi hp ⟨x, rfl, hx⟩ rfl
  exact lv_istore_n C.1 C.2.1 hd rfl hl hn rfl fun ls' h' => k ad ws H locs ls' _ a1 a2 a3 a4 a5 (kk ls' h') a8
theorem rx_o_istore {i : Nat} {q : Int × Int} {r : List rx_V} (C : rx_Cx p s m args meth c D A B wr sa ro mt) (ok : rx_Ok xM mt pc (.istore i, np, tg, K)) (hp : rx_pv L i = true) (hi : i < L.length) (k : rx_Go p l e R s m args below meth c Q D A B sa ad0 mt np h (L.set i (some (.inl q))) r cells slots) : rx_Go p l e R s m args below meth c Q D A B sa ad0 mt pc h L (.inl q :: r) cells slots := by
  obtain ⟨hd, rfl⟩ := ok.dec (n := 1) rfl
  intro ad ws H locs ls vs a1 a2 a3 a4 a5 a6 a7
  obtain ⟨y, vs, rfl, ⟨x, rfl, hx⟩, a8⟩ := rx_S_cons a7
  obtain ⟨hn, lv, hl, kk⟩ := rx_L_set1 a6 (v := .inl q) (x := .int x) hi hp ⟨x, rfl, hx⟩ rfl
  exact lv_istore C.1 C.2.1 hd hl hn rfl fun ls' h' => k ad ws H locs ls' _ a1 a2 a3 a4 a5 (kk ls' h') a8
theorem rx_o_astore_n {i : Fin 4} {q : Option Nat ⊕ Nat} {r : List rx_V} (C : rx_Cx p s m args meth c D A B wr sa ro mt) (ok : rx_Ok xM mt pc (.astore_n i, np, tg, K)) (hq : rx_isr q = true) (hp : rx_pv L i = true) (hi : (i : Nat) < L.length) (k : rx_Go p l e R s m args below meth c Q D A B sa ad0 mt np h (L.set i (some (.inr (.inr q)))) r cells slots) : rx_Go p l e R s m args below meth c Q D A B sa ad0 mt pc h L (.inr (.inr q) :: r) cells slots := by
  obtain ⟨hd, rfl⟩ := ok.dec (n := 0) rfl
  intro ad ws H locs ls vs a1 a2 a3 a4 a5 a6 a7
  obtain ⟨x, vs, rfl, hx, a8⟩ := rx_S_cons a7
  obtain ⟨hn, lv, hl, kk⟩ := rx_L_set1 a6 (v := .inr (.inr q)) (x := x) hi hp hx rfl
  rcases rx_ref hq hx with rfl | ⟨a, rfl⟩
  · exact lv_astore_nN C.1 C.2.1 hd rfl hl hn rfl fun ls' h' => k ad ws H locs ls' _ a1 a2 a3 a4 a5 (kk ls' h') a8
  · exact lv_astore_n C.1 C.2.1 hd rfl hl hn rfl fun ls' h' => k ad ws H locs ls' _ a1 a2 a3 a4 a5 (kk ls' h') a8
theorem rx_o_astore {i : Nat} {q : Option Nat ⊕ Nat} {r : List rx_V} (C : rx_Cx p s m args meth c D A B wr sa ro mt) (ok : rx_Ok xM mt pc (.astore i, np, tg, K)) (hq : rx_isr q = true) (hp : rx_pv L i = true) (hi : i < L.length) (k : rx_Go p l e R s m args below meth c Q D A B sa ad0 mt np h (L.set i (some (.inr (.inr q)))) r cells slots) : rx_Go p l e R s m args below meth c Q D A B sa ad0 mt pc h L (.inr (.inr q) :: r) cells slots := by
  obtain ⟨hd, rfl⟩ := ok.dec (n := 1) rfl
  intro ad ws H locs ls vs a1 a2 a3 a4 a5 a6 a7
  obtain ⟨x, vs, rfl, hx, a8⟩ := rx_S_cons a7
  obtain ⟨hn, lv, hl, kk⟩ := rx_L_set1 a6 (v := .inr (.inr q)) (x := x) hi hp hx rfl
  rcases rx_ref hq hx with rfl | ⟨a, rfl⟩
  · exact lv_astoreN C.1 C.2.1 hd hl hn rfl fun ls' h' => k ad ws H locs ls' _ a1 a2 a3 a4 a5 (kk ls' h') a8
  · exact lv_astore C.1 C.2.1 hd hl hn rfl fun ls' h' => k ad ws H locs ls' _ a1 a2 a3 a4 a5 (kk ls' h') a8
theorem rx_o_lstore_n {i : Fin 4} {q : Int × Int} {r : List rx_V} (C : rx_Cx p s m args meth c D A B wr sa ro mt) (ok : rx_Ok xM mt pc (.lstore_n i, np, tg, K)) (hp : rx_pv L i = true) (hi : (i : Nat) + 1 < L.length) (k : rx_Go p l e R s m args below meth c Q D A B sa ad0 mt np h ((L.set i (some (.inr (.inl q)))).set ((i : Nat) + 1) none) r cells slots) : rx_Go p l e R s m args below meth c Q D A B sa ad0 mt pc h L (.inr (.inl q) :: r) cells slots := by
  obtain ⟨hd, rfl⟩ := ok.dec (n := 0) rfl
  intro ad ws H locs ls vs a1 a2 a3 a4 a5 a6 a7
  obtain ⟨y, vs, rfl, ⟨x, rfl, hx⟩, a8⟩ := rx_S_cons a7
  obtain ⟨hn, lv, hl, kk⟩ := rx_L_set2 a6 (v := .inr (.inl q)) (x := .long x) hi hp ⟨x, rfl, hx⟩
  exact lv_lstore_n C.1 C.2.1 hd rfl hl hn rfl fun ls' h' => k ad ws H locs ls' _ a1 a2 a3 a4 a5 (kk ls' h') a8
theorem rx_o_lstore {i : Nat} {q : Int × Int} {r : List rx_V} (C : rx_Cx p s m args meth c D A B wr sa ro mt) (ok : rx_Ok xM mt pc (.lstore i, np, tg, K)) (hp : rx_pv L i = true) (hi : i + 1 < L.length) (k : rx_Go p l e R s m args below meth c Q D A B sa ad0 mt np h ((L.set i (some (.inr (.inl q)))).set (i + 1) none) r cells slots) : rx_Go p l e R s m args below meth c Q D A B sa ad0 mt pc h L (.inr (.inl q) :: r) cells slots := by
  obtain ⟨hd, rfl⟩ := ok.dec (n := 1) rfl
  intro ad ws H locs ls vs a1 a2 a3 a4 a5 a6 a7
  obtain ⟨y, vs, rfl, ⟨x, rfl, hx⟩, a8⟩ := rx_S_cons a7
  obtain ⟨hn, lv, hl, kk⟩ := rx_L_set2 a6 (v := .inr (.inl q)) (x := .long x) hi hp ⟨x, rfl, hx⟩
  exact lv_lstore C.1 C.2.1 hd hl hn rfl fun ls' h' => k ad ws H locs ls' _ a1 a2 a3 a4 a5 (kk ls' h') a8
theorem rx_o_iinc {i : Nat} {n : Int} {q : Int × Int} (C : rx_Cx p s m args meth c D A B wr sa ro mt) (ok : rx_Ok xM mt pc (.iinc i n, np, tg, K)) (h1 : -32768 ≤ n) (h2 : n ≤ 32767) (hp : rx_pv L i = true) (hi : L[i]? = some (some (.inl q))) (k : rx_Go p l e R s m args below meth c Q D A B sa ad0 mt np h (L.set i (some (.inl (rx_i32 (rx_add q (n, n)))))) st cells slots) : rx_Go p l e R s m args below meth c Q D A B sa ad0 mt pc h L st cells slots := by
  obtain ⟨hd, rfl⟩ := ok.dec (n := 2) rfl
  intro ad ws H locs ls vs a1 a2 a3 a4 a5 a6 a7
  obtain ⟨l0, g1, g2, g3⟩ := id a6
  obtain ⟨x, hx, y, rfl, hy⟩ := g3 i _ hi
  obtain ⟨t, ht⟩ := List.getElem?_of_mem hx
  have e : (Int32.ofInt n).toInt = n := by rw [Int32.toInt_ofInt]; exact rx_bm32 (by omega) (by omega)
  have hv : rx_has (rx_i32 (rx_add q (n, n))) (y + Int32.ofInt n).toInt := rx_iadd hy (by rw [e]; exact ⟨Int.le_refl _, Int.le_refl _⟩)
  have hl : i < L.length := (List.getElem?_eq_some_iff.mp hi).1
  refine lv_iinc (v := y + Int32.ofInt n) C.1 C.2.1 hd g1 ht rfl (by omega) rfl fun ls' h' => k ad ws H locs ls' _ a1 a2 a3 a4 a5 ⟨_, h', by rw [List.length_set]; exact g2, fun j w hj => ?_⟩ a7
  by_cases hij : i = j
  · subst hij
    rw [List.getElem?_set_self hl] at hj
    cases hj
    exact ⟨_, List.mem_cons_self, _, rfl, hv⟩
  · rw [List.getElem?_set_ne hij] at hj
    obtain ⟨z, hz, hw⟩ := g3 j w hj
    refine ⟨z, List.mem_cons_of_mem _ (List.mem_filter.mpr ⟨hz, ?_⟩), hw⟩
    have n1 : (j == i) = false := by simpa using fun e => hij e.symm
    by_cases hji : j + 1 = i
    · have := rx_pv_cat hp hji hj hw
      simp [n1, this]
    · simp [n1, hji]
end OPS
end
section
/-! arithmetic, branches, the stack -/
section OPS
variable {p : Program} {l : Launch} {e : Env} {R : Room} {s : State} {m : MethodId} {args : Array Value} {below : List Frame} {meth : Method} {c : Code} {Q : State → Prop} {D : va_G} {A B : Nat → Prop} {wr : Bool} {sa ad0 : List Nat} {ro : List (List rx_V)} {mt : rx_MT} {xM : List rx_MT} {pc np tg : Nat} {K : rx_K} {h : rx_H} {L : rx_F} {st r : List rx_V} {cells slots : Nat} {a b : Int × Int}
theorem rx_o_iadd (C : rx_Cx p s m args meth c D A B wr sa ro mt) (ok : rx_Ok xM mt pc (.iadd, np, tg, K)) (k : rx_Go p l e R s m args below meth c Q D A B sa ad0 mt np h L (.inl (rx_i32 (rx_add a b)) :: r) cells slots) : rx_Go p l e R s m args below meth c Q D A B sa ad0 mt pc h L (.inl b :: .inl a :: r) cells slots := by
  obtain ⟨hd, rfl⟩ := ok.dec (n := 0) rfl
  intro ad ws H locs ls vs a1 a2 a3 a4 a5 a6 a7
  obtain ⟨v1, v2, rfl, ⟨y, rfl, hy⟩, a8⟩ := rx_S_cons a7
  obtain ⟨v3, vs, rfl, ⟨x, rfl, hx⟩, a9⟩ := rx_S_cons a8
  exact lv_iadd C.1 C.2.1 hd (k ad ws H locs ls _ a1 a2 a3 a4 a5 a6 ⟨⟨_, rfl, rx_iadd hx hy⟩, a9⟩)
theorem rx_o_isub (C : rx_Cx p s m args meth c D A B wr sa ro mt) (ok : rx_Ok xM mt pc (.isub, np, tg, K)) (k : rx_Go p l e R s m args below meth c Q D A B sa ad0 mt np h L (.inl (rx_i32 (rx_sub a b)) :: r) cells slots) : rx_Go p l e R s m args below meth c Q D A B sa ad0 mt pc h L (.inl b :: .inl a :: r) cells slots := by
  obtain ⟨hd, rfl⟩ := ok.dec (n := 0) rfl
  intro ad ws H locs ls vs a1 a2 a3 a4 a5 a6 a7
  obtain ⟨v1, v2, rfl, ⟨y, rfl, hy⟩, a8⟩ := rx_S_cons a7
  obtain ⟨v3, vs, rfl, ⟨x, rfl, hx⟩, a9⟩ := rx_S_cons a8
  exact lv_isub C.1 C.2.1 hd (k ad ws H locs ls _ a1 a2 a3 a4 a5 a6 ⟨⟨_, rfl, rx_isub hx hy⟩, a9⟩)
theorem rx_o_imul (C : rx_Cx p s m args meth c D A B wr sa ro mt) (ok : rx_Ok xM mt pc (.imul, np, tg, K)) (k : rx_Go p l e R s m args below meth c Q D A B sa ad0 mt np h L (.inl (rx_i32 (rx_mul rx_top a b)) :: r) cells slots) : rx_Go p l e R s m args below meth c Q D A B sa ad0 mt pc h L (.inl b :: .inl a :: r) cells slots := by
  obtain ⟨hd, rfl⟩ := ok.dec (n := 0) rfl
  intro ad ws H locs ls vs a1 a2 a3 a4 a5 a6 a7
  obtain ⟨v1, v2, rfl, ⟨y, rfl, hy⟩, a8⟩ := rx_S_cons a7
  obtain ⟨v3, vs, rfl, ⟨x, rfl, hx⟩, a9⟩ := rx_S_cons a8
  exact lv_imul C.1 C.2.1 hd (k ad ws H locs ls _ a1 a2 a3 a4 a5 a6 ⟨⟨_, rfl, rx_imul hx hy⟩, a9⟩)
theorem rx_o_iand (C : rx_Cx p s m args meth c D A B wr sa ro mt) (ok : rx_Ok xM mt pc (.iand, np, tg, K)) (k : rx_Go p l e R s m args below meth c Q D A B sa ad0 mt np h L (.inl (rx_bit (fun x y => x &&& y) a b) :: r) cells slots) : rx_Go p l e R s m args below meth c Q D A B sa ad0 mt pc h L (.inl b :: .inl a :: r) cells slots := by
  obtain ⟨hd, rfl⟩ := ok.dec (n := 0) rfl
  intro ad ws H locs ls vs a1 a2 a3 a4 a5 a6 a7
  obtain ⟨v1, v2, rfl, ⟨y, rfl, hy⟩, a8⟩ := rx_S_cons a7
  obtain ⟨v3, vs, rfl, ⟨x, rfl, hx⟩, a9⟩ := rx_S_cons a8
  exact lv_iand C.1 C.2.1 hd (k ad ws H locs ls _ a1 a2 a3 a4 a5 a6 ⟨⟨_, rfl, (rx_has_bit (f := fun x y => x &&& y)) hx hy⟩, a9⟩)
theorem rx_o_ior (C : rx_Cx p s m args meth c D A B wr sa ro mt) (ok : rx_Ok xM mt pc (.ior, np, tg, K)) (k : rx_Go p l e R s m args below meth c Q D A B sa ad0 mt np h L (.inl (rx_bit (fun x y => x ||| y) a b) :: r) cells slots) : rx_Go p l e R s m args below meth c Q D A B sa ad0 mt pc h L (.inl b :: .inl a :: r) cells slots := by
  obtain ⟨hd, rfl⟩ := ok.dec (n := 0) rfl
  intro ad ws H locs ls vs a1 a2 a3 a4 a5 a6 a7
  obtain ⟨v1, v2, rfl, ⟨y, rfl, hy⟩, a8⟩ := rx_S_cons a7
  obtain ⟨v3, vs, rfl, ⟨x, rfl, hx⟩, a9⟩ := rx_S_cons a8
  exact lv_ior C.1 C.2.1 hd (k ad ws H locs ls _ a1 a2 a3 a4 a5 a6 ⟨⟨_, rfl, (rx_has_bit (f := fun x y => x ||| y)) hx hy⟩, a9⟩)
theorem rx_o_ixor (C : rx_Cx p s m args meth c D A B wr sa ro mt) (ok : rx_Ok xM mt pc (.ixor, np, tg, K)) (k : rx_Go p l e R s m args below meth c Q D A B sa ad0 mt np h L (.inl (rx_bit (fun x y => x ^^^ y) a b) :: r) cells slots) : rx_Go p l e R s m args below meth c Q D A B sa ad0 mt pc h L (.inl b :: .inl a :: r) cells slots := by
  obtain ⟨hd, rfl⟩ := ok.dec (n := 0) rfl
  intro ad ws H locs ls vs a1 a2 a3 a4 a5 a6 a7
  obtain ⟨v1, v2, rfl, ⟨y, rfl, hy⟩, a8⟩ := rx_S_cons a7
  obtain ⟨v3, vs, rfl, ⟨x, rfl, hx⟩, a9⟩ := rx_S_cons a8
  exact lv_ixor C.1 C.2.1 hd (k ad ws H locs ls _ a1 a2 a3 a4 a5 a6 ⟨⟨_, rfl, (rx_has_bit (f := fun x y => x ^^^ y)) hx hy⟩, a9⟩)
theorem rx_o_ishl (C : rx_Cx p s m args meth c D A B wr sa ro mt) (ok : rx_Ok xM mt pc (.ishl, np, tg, K)) (k : rx_Go p l e R s m args below meth c Q D A B sa ad0 mt np h L (.inl (rx_bit (fun x y => x <<< (y &&& 31)) a b) :: r) cells slots) : rx_Go p l e R s m args below meth c Q D A B sa ad0 mt pc h L (.inl b :: .inl a :: r) cells slots := by
  obtain ⟨hd, rfl⟩ := ok.dec (n := 0) rfl
  intro ad ws H locs ls vs a1 a2 a3 a4 a5 a6 a7
  obtain ⟨v1, v2, rfl, ⟨y, rfl, hy⟩, a8⟩ := rx_S_cons a7
  obtain ⟨v3, vs, rfl, ⟨x, rfl, hx⟩, a9⟩ := rx_S_cons a8
  exact lv_ishl C.1 C.2.1 hd (k ad ws H locs ls _ a1 a2 a3 a4 a5 a6 ⟨⟨_, rfl, (rx_has_bit (f := fun x y => x <<< (y &&& 31))) hx hy⟩, a9⟩)
theorem rx_o_ishr (C : rx_Cx p s m args meth c D A B wr sa ro mt) (ok : rx_Ok xM mt pc (.ishr, np, tg, K)) (k : rx_Go p l e R s m args below meth c Q D A B sa ad0 mt np h L (.inl (rx_bit (fun x y => x >>> (y &&& 31)) a b) :: r) cells slots) : rx_Go p l e R s m args below meth c Q D A B sa ad0 mt pc h L (.inl b :: .inl a :: r) cells slots := by
  obtain ⟨hd, rfl⟩ := ok.dec (n := 0) rfl
  intro ad ws H locs ls vs a1 a2 a3 a4 a5 a6 a7
  obtain ⟨v1, v2, rfl, ⟨y, rfl, hy⟩, a8⟩ := rx_S_cons a7
  obtain ⟨v3, vs, rfl, ⟨x, rfl, hx⟩, a9⟩ := rx_S_cons a8
  exact lv_ishr C.1 C.2.1 hd (k ad ws H locs ls _ a1 a2 a3 a4 a5 a6 ⟨⟨_, rfl, (rx_has_bit (f := fun x y => x >>> (y &&& 31))) hx hy⟩, a9⟩)
theorem rx_o_ladd (C : rx_Cx p s m args meth c D A B wr sa ro mt) (ok : rx_Ok xM mt pc (.ladd, np, tg, K)) (k : rx_Go p l e R s m args below meth c Q D A B sa ad0 mt np h L (.inr (.inl (rx_i64 (rx_add a b))) :: r) cells slots) : rx_Go p l e R s m args below meth c Q D A B sa ad0 mt pc h L (.inr (.inl b) :: .inr (.inl a) :: r) cells slots := by
  obtain ⟨hd, rfl⟩ := ok.dec (n := 0) rfl
  intro ad ws H locs ls vs a1 a2 a3 a4 a5 a6 a7
  obtain ⟨v1, v2, rfl, ⟨y, rfl, hy⟩, a8⟩ := rx_S_cons a7
  obtain ⟨v3, vs, rfl, ⟨x, rfl, hx⟩, a9⟩ := rx_S_cons a8
  exact lv_ladd C.1 C.2.1 hd (k ad ws H locs ls _ a1 a2 a3 a4 a5 a6 ⟨⟨_, rfl, rx_ladd hx hy⟩, a9⟩)
theorem rx_o_lsub (C : rx_Cx p s m args meth c D A B wr sa ro mt) (ok : rx_Ok xM mt pc (.lsub, np, tg, K)) (k : rx_Go p l e R s m args below meth c Q D A B sa ad0 mt np h L (.inr (.inl (rx_i64 (rx_sub a b))) :: r) cells slots) : rx_Go p l e R s m args below meth c Q D A B sa ad0 mt pc h L (.inr (.inl b) :: .inr (.inl a) :: r) cells slots := by
  obtain ⟨hd, rfl⟩ := ok.dec (n := 0) rfl
  intro ad ws H locs ls vs a1 a2 a3 a4 a5 a6 a7
  obtain ⟨v1, v2, rfl, ⟨y, rfl, hy⟩, a8⟩ := rx_S_cons a7
  obtain ⟨v3, vs, rfl, ⟨x, rfl, hx⟩, a9⟩ := rx_S_cons a8
  exact lv_lsub C.1 C.2.1 hd (k ad ws H locs ls _ a1 a2 a3 a4 a5 a6 ⟨⟨_, rfl, rx_lsub hx hy⟩, a9⟩)
theorem rx_o_lmul (C : rx_Cx p s m args meth c D A B wr sa ro mt) (ok : rx_Ok xM mt pc (.lmul, np, tg, K)) (k : rx_Go p l e R s m args below meth c Q D A B sa ad0 mt np h L (.inr (.inl (rx_i64 (rx_mul rx_topL a b))) :: r) cells slots) : rx_Go p l e R s m args below meth c Q D A B sa ad0 mt pc h L (.inr (.inl b) :: .inr (.inl a) :: r) cells slots := by
  obtain ⟨hd, rfl⟩ := ok.dec (n := 0) rfl
  intro ad ws H locs ls vs a1 a2 a3 a4 a5 a6 a7
  obtain ⟨v1, v2, rfl, ⟨y, rfl, hy⟩, a8⟩ := rx_S_cons a7
  obtain ⟨v3, vs, rfl, ⟨x, rfl, hx⟩, a9⟩ := rx_S_cons a8
  exact lv_lmul C.1 C.2.1 hd (k ad ws H locs ls _ a1 a2 a3 a4 a5 a6 ⟨⟨_, rfl, rx_lmul hx hy⟩, a9⟩)
theorem rx_o_and3 {j : Nat} (C : rx_Cx p s m args meth c D A B wr sa ro mt) (ok : rx_Ok xM mt pc (.iand, np, tg, K)) (hb : rx_one b = true) (h1 : 3 ≤ b.1) (h2 : b.1 ≤ 3) (h3 : 300000 ≤ j) (h4 : j ≤ 399999) (k : rx_Go p l e R s m args below meth c Q D A B sa ad0 mt np h L (.inl (((j - 300000 : Nat) : Int), ((j - 300000 : Nat) : Int)) :: r) cells slots) : rx_Go p l e R s m args below meth c Q D A B sa ad0 mt pc h L (.inl b :: .inr (.inr (.inr j)) :: r) cells slots := by
  obtain ⟨hd, rfl⟩ := ok.dec (n := 0) rfl
  intro ad ws H locs ls vs a1 a2 a3 a4 a5 a6 a7
  obtain ⟨v1, v2, rfl, ⟨y, rfl, hy⟩, a8⟩ := rx_S_cons a7
  obtain ⟨v3, vs, rfl, hx, a9⟩ := rx_S_cons a8
  rcases hx with ⟨q, -⟩ | ⟨-, x, rfl, hx⟩
  · omega
  · have e := rx_one_eq hb hy
    rw [show b.1 = 3 by omega] at e
    have e : y = 3 := e.symm
    subst e
    refine lv_iand C.1 C.2.1 hd (k ad ws H locs ls _ a1 a2 a3 a4 a5 a6 ⟨⟨_, rfl, ?_⟩, a9⟩)
    rcases hx with ⟨-, q, -⟩ | ⟨-, -, q⟩ | ⟨q, -⟩
    · omega
    · rw [q]; exact ⟨Int.le_refl _, Int.le_refl _⟩
    · omega
theorem rx_o_and31 {j : Nat} (C : rx_Cx p s m args meth c D A B wr sa ro mt) (ok : rx_Ok xM mt pc (.iand, np, tg, K)) (hb : rx_one b = true) (h1 : 31 ≤ b.1) (h2 : b.1 ≤ 31) (h3 : 400000 ≤ j) (h4 : j ≤ 499999) (k : rx_Go p l e R s m args below meth c Q D A B sa ad0 mt np h L (.inl (((j - 400000 : Nat) : Int), ((j - 400000 : Nat) : Int)) :: r) cells slots) : rx_Go p l e R s m args below meth c Q D A B sa ad0 mt pc h L (.inl b :: .inr (.inr (.inr j)) :: r) cells slots := by
  obtain ⟨hd, rfl⟩ := ok.dec (n := 0) rfl
  intro ad ws H locs ls vs a1 a2 a3 a4 a5 a6 a7
  obtain ⟨v1, v2, rfl, ⟨y, rfl, hy⟩, a8⟩ := rx_S_cons a7
  obtain ⟨v3, vs, rfl, hx, a9⟩ := rx_S_cons a8
  rcases hx with ⟨q, -⟩ | ⟨-, x, rfl, hx⟩
  · omega
  · have e := rx_one_eq hb hy
    rw [show b.1 = 31 by omega] at e
    have e : y = 31 := e.symm
    subst e
    refine lv_iand C.1 C.2.1 hd (k ad ws H locs ls _ a1 a2 a3 a4 a5 a6 ⟨⟨_, rfl, ?_⟩, a9⟩)
    rcases hx with ⟨-, q, -⟩ | ⟨-, q, -⟩ | ⟨-, -, q⟩
    · omega
    · omega
    · rw [q]; exact ⟨Int.le_refl _, Int.le_refl _⟩
theorem rx_o_shr2 {j : Nat} (C : rx_Cx p s m args meth c D A B wr sa ro mt) (ok : rx_Ok xM mt pc (.ishr, np, tg, K)) (hb : rx_one b = true) (h1 : 0 ≤ b.1) (h2 : b.1 ≤ 6) (h0 : b.1.toNat % 2 = 0) (h3 : 200000 ≤ j) (h4 : j ≤ 299999) (k : rx_Go p l e R s m args below meth c Q D A B sa ad0 mt np h L (.inr (.inr (.inr (300000 + rx_dg j (b.1.toNat / 2)))) :: r) cells slots) : rx_Go p l e R s m args below meth c Q D A B sa ad0 mt pc h L (.inl b :: .inr (.inr (.inr j)) :: r) cells slots := by
  obtain ⟨hd, rfl⟩ := ok.dec (n := 0) rfl
  intro ad ws H locs ls vs a1 a2 a3 a4 a5 a6 a7
  obtain ⟨v1, v2, rfl, ⟨y, rfl, hy⟩, a8⟩ := rx_S_cons a7
  obtain ⟨v3, vs, rfl, hx, a9⟩ := rx_S_cons a8
  rcases hx with ⟨q, -⟩ | ⟨-, x, rfl, hx⟩
  · omega
  · have e := rx_one_eq hb hy
    have hlt : rx_dg j (b.1.toNat / 2) < 4 := Nat.mod_lt _ (by decide)
    refine lv_ishr C.1 C.2.1 hd (k ad ws H locs ls _ a1 a2 a3 a4 a5 a6 ⟨Or.inr ⟨by omega, _, rfl, Or.inr (Or.inl ⟨by omega, by omega, ?_⟩)⟩, a9⟩)
    rcases hx with ⟨-, -, q⟩ | ⟨q, -⟩ | ⟨q, -⟩
    · have q := q (b.1.toNat / 2) (by omega)
      rw [show ((2 * (b.1.toNat / 2) : Nat) : Int) = b.1 by omega, e] at q
      rw [q]
      omega
    · omega
    · omega
theorem rx_o_idiv (C : rx_Cx p s m args meth c D A B wr sa ro mt) (ok : rx_Ok xM mt pc (.idiv, np, tg, K)) (h0 : 1 ≤ b.1) (k : rx_Go p l e R s m args below meth c Q D A B sa ad0 mt np h L (.inl (rx_div a b) :: r) cells slots) : rx_Go p l e R s m args below meth c Q D A B sa ad0 mt pc h L (.inl b :: .inl a :: r) cells slots := by
  obtain ⟨hd, rfl⟩ := ok.dec (n := 0) rfl
  intro ad ws H locs ls vs a1 a2 a3 a4 a5 a6 a7
  obtain ⟨v1, v2, rfl, ⟨y, rfl, hy⟩, a8⟩ := rx_S_cons a7
  obtain ⟨v3, vs, rfl, ⟨x, rfl, hx⟩, a9⟩ := rx_S_cons a8
  exact lv_idiv C.1 C.2.1 hd (rx_ne0 (by omega) hy) (k ad ws H locs ls _ a1 a2 a3 a4 a5 a6 ⟨⟨_, rfl, rx_idiv (by omega) hx hy⟩, a9⟩)
theorem rx_o_irem (C : rx_Cx p s m args meth c D A B wr sa ro mt) (ok : rx_Ok xM mt pc (.irem, np, tg, K)) (h0 : 1 ≤ b.1) (k : rx_Go p l e R s m args below meth c Q D A B sa ad0 mt np h L (.inl (rx_rem a b) :: r) cells slots) : rx_Go p l e R s m args below meth c Q D A B sa ad0 mt pc h L (.inl b :: .inl a :: r) cells slots := by
  obtain ⟨hd, rfl⟩ := ok.dec (n := 0) rfl
  intro ad ws H locs ls vs a1 a2 a3 a4 a5 a6 a7
  obtain ⟨v1, v2, rfl, ⟨y, rfl, hy⟩, a8⟩ := rx_S_cons a7
  obtain ⟨v3, vs, rfl, ⟨x, rfl, hx⟩, a9⟩ := rx_S_cons a8
  exact lv_irem C.1 C.2.1 hd (rx_ne0 (by omega) hy) (k ad ws H locs ls _ a1 a2 a3 a4 a5 a6 ⟨⟨_, rfl, rx_irem (by omega) hx hy⟩, a9⟩)
theorem rx_o_ldiv (C : rx_Cx p s m args meth c D A B wr sa ro mt) (ok : rx_Ok xM mt pc (.ldiv, np, tg, K)) (h0 : 1 ≤ b.1) (k : rx_Go p l e R s m args below meth c Q D A B sa ad0 mt np h L (.inr (.inl (rx_div a b)) :: r) cells slots) : rx_Go p l e R s m args below meth c Q D A B sa ad0 mt pc h L (.inr (.inl b) :: .inr (.inl a) :: r) cells slots := by
  obtain ⟨hd, rfl⟩ := ok.dec (n := 0) rfl
  intro ad ws H locs ls vs a1 a2 a3 a4 a5 a6 a7
  obtain ⟨v1, v2, rfl, ⟨y, rfl, hy⟩, a8⟩ := rx_S_cons a7
  obtain ⟨v3, vs, rfl, ⟨x, rfl, hx⟩, a9⟩ := rx_S_cons a8
  exact lv_ldiv C.1 C.2.1 hd (rx_ne0L (by omega) hy) (k ad ws H locs ls _ a1 a2 a3 a4 a5 a6 ⟨⟨_, rfl, rx_ldiv (by omega) hx hy⟩, a9⟩)
theorem rx_o_lcmp (C : rx_Cx p s m args meth c D A B wr sa ro mt) (ok : rx_Ok xM mt pc (.lcmp, np, tg, K)) (k : rx_Go p l e R s m args below meth c Q D A B sa ad0 mt np h L (.inl (rx_lcmp a b) :: r) cells slots) : rx_Go p l e R s m args below meth c Q D A B sa ad0 mt pc h L (.inr (.inl b) :: .inr (.inl a) :: r) cells slots := by
  obtain ⟨hd, rfl⟩ := ok.dec (n := 0) rfl
  intro ad ws H locs ls vs a1 a2 a3 a4 a5 a6 a7
  obtain ⟨v1, v2, rfl, ⟨y, rfl, hy⟩, a8⟩ := rx_S_cons a7
  obtain ⟨v3, vs, rfl, ⟨x, rfl, hx⟩, a9⟩ := rx_S_cons a8
  exact W.lcmp C.1 C.2.1 hd (k ad ws H locs ls _ a1 a2 a3 a4 a5 a6 ⟨⟨_, rfl, rx_has_lcmp hx hy⟩, a9⟩)
theorem rx_o_ineg (C : rx_Cx p s m args meth c D A B wr sa ro mt) (ok : rx_Ok xM mt pc (.ineg, np, tg, K)) (k : rx_Go p l e R s m args below meth c Q D A B sa ad0 mt np h L (.inl (rx_i32 (rx_neg a)) :: r) cells slots) : rx_Go p l e R s m args below meth c Q D A B sa ad0 mt pc h L (.inl a :: r) cells slots := by
  obtain ⟨hd, rfl⟩ := ok.dec (n := 0) rfl
  intro ad ws H locs ls vs a1 a2 a3 a4 a5 a6 a7
  obtain ⟨v3, vs, rfl, ⟨x, rfl, hx⟩, a9⟩ := rx_S_cons a7
  exact lv_ineg C.1 C.2.1 hd (k ad ws H locs ls _ a1 a2 a3 a4 a5 a6 ⟨⟨_, rfl, rx_ineg hx⟩, a9⟩)
theorem rx_o_i2l (C : rx_Cx p s m args meth c D A B wr sa ro mt) (ok : rx_Ok xM mt pc (.i2l, np, tg, K)) (k : rx_Go p l e R s m args below meth c Q D A B sa ad0 mt np h L (.inr (.inl a) :: r) cells slots) : rx_Go p l e R s m args below meth c Q D A B sa ad0 mt pc h L (.inl a :: r) cells slots := by
  obtain ⟨hd, rfl⟩ := ok.dec (n := 0) rfl
  intro ad ws H locs ls vs a1 a2 a3 a4 a5 a6 a7
  obtain ⟨v3, vs, rfl, ⟨x, rfl, hx⟩, a9⟩ := rx_S_cons a7
  exact lv_i2l C.1 C.2.1 hd rfl (k ad ws H locs ls _ a1 a2 a3 a4 a5 a6 ⟨⟨_, rfl, rx_i2l hx⟩, a9⟩)
theorem rx_o_l2i (C : rx_Cx p s m args meth c D A B wr sa ro mt) (ok : rx_Ok xM mt pc (.l2i, np, tg, K)) (k : rx_Go p l e R s m args below meth c Q D A B sa ad0 mt np h L (.inl (rx_i32 a) :: r) cells slots) : rx_Go p l e R s m args below meth c Q D A B sa ad0 mt pc h L (.inr (.inl a) :: r) cells slots := by
  obtain ⟨hd, rfl⟩ := ok.dec (n := 0) rfl
  intro ad ws H locs ls vs a1 a2 a3 a4 a5 a6 a7
  obtain ⟨v3, vs, rfl, ⟨x, rfl, hx⟩, a9⟩ := rx_S_cons a7
  exact lv_l2i C.1 C.2.1 hd rfl (k ad ws H locs ls _ a1 a2 a3 a4 a5 a6 ⟨⟨_, rfl, rx_l2i hx⟩, a9⟩)
theorem rx_o_goto {o : Int} (C : rx_Cx p s m args meth c D A B wr sa ro mt) (ok : rx_Ok xM mt pc (.goto o, np, tg, K)) (k : rx_Go p l e R s m args below meth c Q D A B sa ad0 mt tg h L st cells slots) : rx_Go p l e R s m args below meth c Q D A B sa ad0 mt pc h L st cells slots := by
  obtain ⟨hd, -⟩ := ok.dec (n := 2) rfl
  intro ad ws H locs ls vs a1 a2 a3 a4 a5 a6 a7
  exact lv_goto C.1 C.2.1 hd (ok.2.1 o rfl) (k ad ws H locs ls _ a1 a2 a3 a4 a5 a6 a7)
theorem rx_rel_z {c : ClassFile.Cond} {x : Int32} (hz : (0 : Int32).toInt = 0) : rx_rel c x.toInt 0 ↔ (match c with
    | .eq => x = 0
    | .ne => ¬ x = 0
    | .lt => x < 0
    | .ge => 0 ≤ x
    | .gt => 0 < x
    | .le => x ≤ 0) := by
  cases c <;> simp only [rx_rel]
  · rw [← hz, Int32.toInt_inj]
  · rw [← hz, ne_eq, Int32.toInt_inj]
  · rw [Int32.lt_iff_toInt_lt, hz]
  · rw [Int32.le_iff_toInt_le, hz]
  · rw [Int32.lt_iff_toInt_lt, hz]
  · rw [Int32.le_iff_toInt_le, hz]
theorem rx_rel_i {c : ClassFile.Cond} {x y : Int32} : rx_rel c x.toInt y.toInt ↔ (match c with
    | .eq => x = y
    | .ne => ¬ x = y
    | .lt => x < y
    | .ge => y ≤ x
    | .gt => y < x
    | .le => x ≤ y) := by
  cases c <;> simp only [rx_rel]
  · rw [Int32.toInt_inj]
  · rw [ne_eq, Int32.toInt_inj]
  · rw [Int32.lt_iff_toInt_lt]
  · rw [Int32.le_iff_toInt_le]
  · rw [Int32.lt_iff_toInt_lt]
  · rw [Int32.le_iff_toInt_le]
theorem rx_o_if {cd : ClassFile.Cond} {o : Int} {t : Bool} (C : rx_Cx p s m args meth c D A B wr sa ro mt) (ok : rx_Ok xM mt pc (.ifCond cd o, np, tg, K)) (ht : rx_cmp cd a (0, 0) = some t) (k1 : t = true → rx_Go p l e R s m args below meth c Q D A B sa ad0 mt tg h L r cells slots) (k2 : t = false → rx_Go p l e R s m args below meth c Q D A B sa ad0 mt np h L r cells slots) : rx_Go p l e R s m args below meth c Q D A B sa ad0 mt pc h L (.inl a :: r) cells slots := by
  obtain ⟨hd, rfl⟩ := ok.dec (n := 2) rfl
  intro ad ws H locs ls vs a1 a2 a3 a4 a5 a6 a7
  obtain ⟨v3, vs, rfl, ⟨x, rfl, hx⟩, a9⟩ := rx_S_cons a7
  have hq := (rx_cmp_ok ht hx (show rx_has (0, 0) 0 from ⟨Int.le_refl _, Int.le_refl _⟩)).trans (rx_rel_z (by decide))
  have K1 := fun q => k1 q ad ws H locs ls _ a1 a2 a3 a4 a5 a6 a9
  have K2 := fun q => k2 q ad ws H locs ls _ a1 a2 a3 a4 a5 a6 a9
  have e2 : ∀ {P : Prop}, (t = true ↔ P) → ¬ P → t = false := fun h9 n => by cases t with
    | false => rfl
    | true => exact absurd (h9.mp rfl) n
  cases cd
  · exact lv_if_eq C.1 C.2.1 hd (ok.2.1 o rfl) (fun q => K1 (hq.mpr q)) (fun q => K2 (e2 hq q))
  · exact lv_if_ne C.1 C.2.1 hd (ok.2.1 o rfl) (fun q => K1 (hq.mpr q)) (fun q => K2 (e2 hq (fun n => n q)))
  · exact lv_if_lt C.1 C.2.1 hd (ok.2.1 o rfl) (fun q => K1 (hq.mpr q)) (fun q => K2 (e2 hq q))
  · exact lv_if_ge C.1 C.2.1 hd (ok.2.1 o rfl) (fun q => K1 (hq.mpr q)) (fun q => K2 (e2 hq q))
  · exact lv_if_gt C.1 C.2.1 hd (ok.2.1 o rfl) (fun q => K1 (hq.mpr q)) (fun q => K2 (e2 hq q))
  · exact lv_if_le C.1 C.2.1 hd (ok.2.1 o rfl) (fun q => K1 (hq.mpr q)) (fun q => K2 (e2 hq q))
theorem rx_o_icmp {cd : ClassFile.Cond} {o : Int} {t : Bool} (C : rx_Cx p s m args meth c D A B wr sa ro mt) (ok : rx_Ok xM mt pc (.if_icmp cd o, np, tg, K)) (ht : rx_cmp cd a b = some t) (k1 : t = true → rx_Go p l e R s m args below meth c Q D A B sa ad0 mt tg h L r cells slots) (k2 : t = false → rx_Go p l e R s m args below meth c Q D A B sa ad0 mt np h L r cells slots) : rx_Go p l e R s m args below meth c Q D A B sa ad0 mt pc h L (.inl b :: .inl a :: r) cells slots := by
  obtain ⟨hd, rfl⟩ := ok.dec (n := 2) rfl
  intro ad ws H locs ls vs a1 a2 a3 a4 a5 a6 a7
  obtain ⟨v1, v2, rfl, ⟨y, rfl, hy⟩, a8⟩ := rx_S_cons a7
  obtain ⟨v3, vs, rfl, ⟨x, rfl, hx⟩, a9⟩ := rx_S_cons a8
  have hq := (rx_cmp_ok ht hx hy).trans rx_rel_i
  have K1 := fun q => k1 q ad ws H locs ls _ a1 a2 a3 a4 a5 a6 a9
  have K2 := fun q => k2 q ad ws H locs ls _ a1 a2 a3 a4 a5 a6 a9
  have e2 : ∀ {P : Prop}, (t = true ↔ P) → ¬ P → t = false := fun h9 n => by cases t with
    | false => rfl
    | true => exact absurd (h9.mp rfl) n
  cases cd
  · exact lv_icmp_eq C.1 C.2.1 hd (ok.2.1 o rfl) (fun q => K1 (hq.mpr q)) (fun q => K2 (e2 hq q))
  · exact lv_icmp_ne C.1 C.2.1 hd (ok.2.1 o rfl) (fun q => K1 (hq.mpr q)) (fun q => K2 (e2 hq (fun n => n q)))
  · exact lv_icmp_lt C.1 C.2.1 hd (ok.2.1 o rfl) (fun q => K1 (hq.mpr q)) (fun q => K2 (e2 hq q))
  · exact lv_icmp_ge C.1 C.2.1 hd (ok.2.1 o rfl) (fun q => K1 (hq.mpr q)) (fun q => K2 (e2 hq q))
  · exact lv_icmp_gt C.1 C.2.1 hd (ok.2.1 o rfl) (fun q => K1 (hq.mpr q)) (fun q => K2 (e2 hq q))
  · exact lv_icmp_le C.1 C.2.1 hd (ok.2.1 o rfl) (fun q => K1 (hq.mpr q)) (fun q => K2 (e2 hq q))
theorem rx_o_ifnull0 {o : Int} (C : rx_Cx p s m args meth c D A B wr sa ro mt) (ok : rx_Ok xM mt pc (.ifnull o, np, tg, K)) (k : rx_Go p l e R s m args below meth c Q D A B sa ad0 mt tg h L r cells slots) : rx_Go p l e R s m args below meth c Q D A B sa ad0 mt pc h L (.inr (.inr (.inl none)) :: r) cells slots := by
  obtain ⟨hd, rfl⟩ := ok.dec (n := 2) rfl
  intro ad ws H locs ls vs a1 a2 a3 a4 a5 a6 a7
  obtain ⟨v3, vs, rfl, rfl, a9⟩ := rx_S_cons a7
  exact lv_ifnullN C.1 C.2.1 hd (ok.2.1 o rfl) (k ad ws H locs ls _ a1 a2 a3 a4 a5 a6 a9)
theorem rx_o_ifnull1 {o : Int} {j : Nat} (C : rx_Cx p s m args meth c D A B wr sa ro mt) (ok : rx_Ok xM mt pc (.ifnull o, np, tg, K)) (k : rx_Go p l e R s m args below meth c Q D A B sa ad0 mt np h L r cells slots) : rx_Go p l e R s m args below meth c Q D A B sa ad0 mt pc h L (.inr (.inr (.inl (some j))) :: r) cells slots := by
  obtain ⟨hd, rfl⟩ := ok.dec (n := 2) rfl
  intro ad ws H locs ls vs a1 a2 a3 a4 a5 a6 a7
  obtain ⟨v3, vs, rfl, ⟨x, -, rfl⟩, a9⟩ := rx_S_cons a7
  exact lv_ifnull C.1 C.2.1 hd (k ad ws H locs ls _ a1 a2 a3 a4 a5 a6 a9)
theorem rx_o_ifnonnull0 {o : Int} (C : rx_Cx p s m args meth c D A B wr sa ro mt) (ok : rx_Ok xM mt pc (.ifnonnull o, np, tg, K)) (k : rx_Go p l e R s m args below meth c Q D A B sa ad0 mt np h L r cells slots) : rx_Go p l e R s m args below meth c Q D A B sa ad0 mt pc h L (.inr (.inr (.inl none)) :: r) cells slots := by
  obtain ⟨hd, rfl⟩ := ok.dec (n := 2) rfl
  intro ad ws H locs ls vs a1 a2 a3 a4 a5 a6 a7
  obtain ⟨v3, vs, rfl, rfl, a9⟩ := rx_S_cons a7
  exact lv_ifnonnullN C.1 C.2.1 hd (k ad ws H locs ls _ a1 a2 a3 a4 a5 a6 a9)
theorem rx_o_ifnonnull1 {o : Int} {j : Nat} (C : rx_Cx p s m args meth c D A B wr sa ro mt) (ok : rx_Ok xM mt pc (.ifnonnull o, np, tg, K)) (k : rx_Go p l e R s m args below meth c Q D A B sa ad0 mt tg h L r cells slots) : rx_Go p l e R s m args below meth c Q D A B sa ad0 mt pc h L (.inr (.inr (.inl (some j))) :: r) cells slots := by
  obtain ⟨hd, rfl⟩ := ok.dec (n := 2) rfl
  intro ad ws H locs ls vs a1 a2 a3 a4 a5 a6 a7
  obtain ⟨v3, vs, rfl, ⟨x, -, rfl⟩, a9⟩ := rx_S_cons a7
  exact lv_ifnonnull C.1 C.2.1 hd (ok.2.1 o rfl) (k ad ws H locs ls _ a1 a2 a3 a4 a5 a6 a9)
theorem rx_o_switch {d lo hi o : Int} {offs : Array Int} (C : rx_Cx p s m args meth c D A B wr sa ro mt) (ok : rx_Ok xM mt pc (.tableswitch d lo hi offs, np, tg, K)) (ho : rx_sw d lo hi offs a = some o) (h0 : 0 ≤ (pc : Int) + o) (k : rx_Go p l e R s m args below meth c Q D A B sa ad0 mt ((pc : Int) + o).toNat h L r cells slots) : rx_Go p l e R s m args below meth c Q D A B sa ad0 mt pc h L (.inl a :: r) cells slots := by
  obtain ⟨⟨len, hd, -, -⟩, -⟩ := ok
  intro ad ws H locs ls vs a1 a2 a3 a4 a5 a6 a7
  obtain ⟨v3, vs, rfl, ⟨x, rfl, hx⟩, a9⟩ := rx_S_cons a7
  have kk := k ad ws H locs ls _ a1 a2 a3 a4 a5 a6 a9
  have e0 : (pc : Int) + o = (((pc : Int) + o).toNat : Int) := (Int.toNat_of_nonneg h0).symm
  obtain ⟨x1, x2⟩ := hx
  unfold rx_sw at ho
  cases h1 : rx_le lo a.1 && rx_le a.2 hi with
  | true =>
    rw [h1] at ho
    rw [Bool.and_eq_true] at h1
    have q1 := rx_le_t h1.1
    have q2 := rx_le_t h1.2
    cases h2 : rx_one a with
    | false => rw [h2] at ho; cases ho
    | true =>
      rw [h2] at ho
      have q3 := rx_le_t h2
      have e : a.1 = x.toInt := by omega
      rw [e] at ho
      exact lv_tableIn C.1 C.2.1 hd (by omega) (by omega) ho e0 kk
  | false =>
    rw [h1] at ho
    cases h2 : rx_le lo a.2 && rx_le a.1 hi with
    | true => rw [h2] at ho; cases ho
    | false =>
      rw [h2] at ho
      cases ho
      refine lv_tableOut C.1 C.2.1 hd ?_ e0 kk
      rw [Bool.and_eq_false_iff] at h2
      rcases h2 with q | q
      · have q := rx_le_f q; exact Or.inl (by omega)
      · have q := rx_le_f q; exact Or.inr (by omega)
theorem rx_o_dup {v : rx_V} (C : rx_Cx p s m args meth c D A B wr sa ro mt) (ok : rx_Ok xM mt pc (.dup, np, tg, K)) (hc : rx_cat v = 1) (k : rx_Go p l e R s m args below meth c Q D A B sa ad0 mt np h L (v :: v :: r) cells slots) : rx_Go p l e R s m args below meth c Q D A B sa ad0 mt pc h L (v :: r) cells slots := by
  obtain ⟨hd, rfl⟩ := ok.dec (n := 0) rfl
  intro ad ws H locs ls vs a1 a2 a3 a4 a5 a6 a7
  obtain ⟨x, vs, rfl, hx, a9⟩ := rx_S_cons a7
  exact lv_dup C.1 C.2.1 hd (by rw [rx_G_cat hx]; exact hc) (k ad ws H locs ls _ a1 a2 a3 a4 a5 a6 ⟨hx, hx, a9⟩)
theorem rx_o_dup2 {v w : rx_V} (C : rx_Cx p s m args meth c D A B wr sa ro mt) (ok : rx_Ok xM mt pc (.dup2, np, tg, K)) (hc : rx_cat v = 1) (hw : rx_cat w = 1) (k : rx_Go p l e R s m args below meth c Q D A B sa ad0 mt np h L (v :: w :: v :: w :: r) cells slots) : rx_Go p l e R s m args below meth c Q D A B sa ad0 mt pc h L (v :: w :: r) cells slots := by
  obtain ⟨hd, rfl⟩ := ok.dec (n := 0) rfl
  intro ad ws H locs ls vs a1 a2 a3 a4 a5 a6 a7
  obtain ⟨x, v2, rfl, hx, a8⟩ := rx_S_cons a7
  obtain ⟨y, vs, rfl, hy, a9⟩ := rx_S_cons a8
  exact lv_dup2_11 C.1 C.2.1 hd (by rw [rx_G_cat hx]; exact hc) (by rw [rx_G_cat hy]; exact hw) (k ad ws H locs ls _ a1 a2 a3 a4 a5 a6 ⟨hx, hy, hx, hy, a9⟩)
theorem rx_o_pop {v : rx_V} (C : rx_Cx p s m args meth c D A B wr sa ro mt) (ok : rx_Ok xM mt pc (.pop, np, tg, K)) (hc : rx_cat v = 1) (k : rx_Go p l e R s m args below meth c Q D A B sa ad0 mt np h L r cells slots) : rx_Go p l e R s m args below meth c Q D A B sa ad0 mt pc h L (v :: r) cells slots := by
  obtain ⟨hd, rfl⟩ := ok.dec (n := 0) rfl
  intro ad ws H locs ls vs a1 a2 a3 a4 a5 a6 a7
  obtain ⟨x, vs, rfl, hx, a9⟩ := rx_S_cons a7
  exact lv_pop C.1 C.2.1 hd (by rw [rx_G_cat hx]; exact hc) (k ad ws H locs ls _ a1 a2 a3 a4 a5 a6 a9)
end OPS
end
section
/-! fields, arrays, new cells -/
theorem rx_b01 {q : Int × Int} {x : Int32} (hb : rx_bool q = true) (hx : rx_has q x.toInt) : x = 0 ∨ x = 1 := by
  unfold rx_bool at hb
  rw [Bool.and_eq_true] at hb
  have h1 := rx_le_t hb.1
  have h2 := rx_le_t hb.2
  obtain ⟨x1, x2⟩ := hx
  rcases rx_lg x.toInt 1 with h | h
  · exact Or.inl (Int32.toInt_inj.mp (by rw [show (0 : Int32).toInt = 0 by decide]; omega))
  · exact Or.inr (Int32.toInt_inj.mp (by rw [show (1 : Int32).toInt = 1 by decide]; omega))
theorem rx_fits {ad sa : List Nat} {ty : FieldType} {v : rx_V} {x : Value} (hf : rx_fit (rx_fc ty) v = true) (hx : rx_G ad sa v x) : narrow ty x = x ∧ fits ty x = true := by
  match v, hf, hx with
  | .inl q, hf, hx =>
    obtain ⟨i, rfl, hi⟩ := hx
    cases ty <;> simp only [rx_fc, rx_fit, Nat.reduceBEq, Bool.false_or, Bool.or_false, Bool.false_and, Bool.true_and, Bool.true_or] at hf
    all_goals first
      | exact ⟨rfl, rfl⟩
      | (cases hf; done)
      | (rcases rx_b01 hf hi with rfl | rfl <;> exact ⟨by decide, by decide⟩)
  | .inr (.inl q), hf, hx =>
    obtain ⟨i, rfl, hi⟩ := hx
    cases ty <;> simp only [rx_fc, rx_fit, Nat.reduceBEq] at hf
    all_goals first
      | exact ⟨rfl, rfl⟩
      | (cases hf; done)
  | .inr (.inr q), hf, hx =>
    have hf : ((rx_fc ty == 3) && rx_isr q) = true := hf
    rw [Bool.and_eq_true] at hf
    have hq := hf.2
    have hf := hf.1
    rcases rx_ref hq hx with rfl | ⟨a, rfl⟩
    · cases ty <;> simp only [rx_fc, rx_fit, Nat.reduceBEq] at hf
      all_goals first
        | exact ⟨rfl, rfl⟩
        | (cases hf; done)
    · cases ty <;> simp only [rx_fc, rx_fit, Nat.reduceBEq] at hf
      all_goals first
        | exact ⟨rfl, rfl⟩
        | (cases hf; done)
section OPS
variable {p : Program} {l : Launch} {e : Env} {R : Room} {s : State} {m : MethodId} {args : Array Value} {below : List Frame} {meth : Method} {c : Code} {Q : State → Prop} {D : va_G} {A B : Nat → Prop} {wr : Bool} {sa ad0 : List Nat} {ro : List (List rx_V)} {mt : rx_MT} {xM : List rx_MT} {pc np tg : Nat} {K : rx_K} {h : rx_H} {L : rx_F} {st r : List rx_V} {cells slots : Nat} {k0 : Nat} {o : Nat × List rx_V} {v : rx_V}
theorem rx_o_getfield {i : Nat} (C : rx_Cx p s m args meth c D A B wr sa ro mt) (ok : rx_Ok xM mt pc (.getfield i, np, tg, K)) (hK : K.1 = 1 ∨ K.1 = 14) (hc : h[k0]? = some (.inl o)) (ho : o.1 = K.2.1) (hv : o.2[K.2.2.1]? = some v) (k : rx_Go p l e R s m args below meth c Q D A B sa ad0 mt np h L (v :: r) cells slots) : rx_Go p l e R s m args below meth c Q D A B sa ad0 mt pc h L (.inr (.inr (.inl (some k0))) :: r) cells slots := by
  obtain ⟨hd, rfl⟩ := ok.dec (n := 2) rfl
  obtain ⟨q, f1, f2, f3⟩ := ok.2.2 hK
  intro ad ws H locs ls vs a1 a2 a3 a4 a5 a6 a7
  obtain ⟨x, vs, rfl, hx, a9⟩ := rx_S_cons a7
  obtain ⟨a, E, rfl, hw, fs, rfl, hfs⟩ := rx_W_get a2 hc hx
  obtain ⟨y, hy, hg⟩ := rx_S_get hfs hv
  have cok := rx_cl_ok K.2.1 q f1
  rw [ho] at hw
  exact va_get (D := D) (ci := K.2.1) (v := y) (C := q.1) (T := q.2.1) (N := q.2.2) C.1 C.2.1 C.2.2.2.2.1 (fun w hw => cok.1 w hw) C.2.2.2.1 C.2.2.2.2.2.2.2.2.1 a3 k0 hw f1 K.2.2.1 f2 (C.word f3) (fun _ h => h) hy hd (k ad ws H locs ls _ a1 a2 a3 a4 a5 a6 ⟨hg, a9⟩)
theorem rx_o_putfield {i : Nat} (C : rx_Cx p s m args meth c D A B wr sa ro mt) (hwr : wr = true) (ok : rx_Ok xM mt pc (.putfield i, np, tg, K)) (hK : K.1 = 1 ∨ K.1 = 14) (hf : rx_fit K.2.2.2.toNat v = true) (hc : h[k0]? = some (.inl o)) (ho : o.1 = K.2.1) (hv : K.2.2.1 < o.2.length) (k : rx_Go p l e R s m args below meth c Q D A B sa ad0 mt np (h.set k0 (.inl (o.1, o.2.set K.2.2.1 v))) L r cells slots) : rx_Go p l e R s m args below meth c Q D A B sa ad0 mt pc h L (v :: .inr (.inr (.inl (some k0))) :: r) cells slots := by
  obtain ⟨hd, rfl⟩ := ok.dec (n := 2) rfl
  have hBA := (C.2.2.2.2.2.2.2.2.2.2.2.2.1 hwr).symm
  subst hBA
  intro ad ws H locs ls vs a1 a2 a3 a4 a5 a6 a7
  obtain ⟨y, v2, rfl, hy, a8⟩ := rx_S_cons a7
  obtain ⟨x, vs, rfl, hx, a9⟩ := rx_S_cons a8
  obtain ⟨a, E, rfl, hw, fs, rfl, hfs⟩ := rx_W_get a2 hc hx
  have hl : K.2.2.1 < fs.length := by rw [← rx_S_len hfs]; exact hv
  have hw' := hw
  rw [ho] at hw'
  have kk : ∀ (H1 : Heap) (locs1 : List Loc), va_P D rx_cl (ws.set k0 (a, .inr (K.2.1, fs.set K.2.2.1 y))) H1 → va_D A (ws.set k0 (a, .inr (K.2.1, fs.set K.2.2.1 y))) → va_S A s.heap H1 locs1 → W p l e R s m args below meth c H1 locs1 cells slots Q (F0 m (pc + 3) ls vs) :=
    fun H1 locs1 b1 b2 b3 => k ad _ H1 locs1 ls vs a1 (rx_W_set a2 hw (E' := .inr (K.2.1, fs.set K.2.2.1 y)) ⟨_, by rw [ho], rx_S_set hfs hy⟩) b1 b2 b3 a6 a9
  rcases hK with hK | hK
  · obtain ⟨q, ft, ⟨f1, f2, f3⟩, f4, f5, f6⟩ := ok.2.2.1 hK
    have cok := rx_cl_ok K.2.1 q f1
    obtain ⟨c1, c2, c3, c4, ft', ks, c5, c6, c7, c8, c9⟩ := cok
    cases f5.symm.trans c5
    rw [← f6] at hf
    obtain ⟨n1, n2⟩ := rx_fits hf hy
    exact va_put (D := D) (ci := K.2.1) (v := y) (C := q.1) (T := q.2.1) (N := q.2.2) C.1 C.2.1 C.2.2.2.2.1 (fun w hw => c1 w hw) (fun k => ft.getD k .int) c9 c2 C.2.2.2.1 C.2.2.2.2.2.2.2.2.1 a3 a4 a5 k0 hw' f1 K.2.2.1 f2 (C.word f3) (fun _ h => h) f4 (c9 _ f2) n1 n2 hl hd kk
  · obtain ⟨q, ft, ⟨f1, f2, f3⟩, f4, f5, f6, f7, f8⟩ := ok.2.2.2 hK
    have cok := rx_cl_ok K.2.1 q f1
    obtain ⟨c1, c2, c3, c4, ft', ks, c5, c6, c7, c8, c9⟩ := cok
    cases f5.symm.trans c5
    rw [← f6] at hf
    obtain ⟨n1, n2⟩ := rx_fits hf hy
    exact va_putF (D := D) (ci := K.2.1) (v := y) (C := q.1) (T := q.2.1) (N := q.2.2) C.1 C.2.1 C.2.2.2.2.1 (fun w hw => c1 w hw) (fun k => ft.getD k .int) c9 c2 C.2.2.2.1 C.2.2.2.2.2.2.2.2.1 a3 a4 a5 k0 hw' f1 K.2.2.1 f2 (C.word f3) (fun _ h => h) f4 (C.2.2.2.2.2.2.2.1.trans f7) f8 (c9 _ f2) n1 n2 hl hd kk
theorem rx_o_getstatic {i : Nat} (C : rx_Cx p s m args meth c D A B wr sa ro mt) (ok : rx_Ok xM mt pc (.getstatic i, np, tg, K)) (hK : K.1 = 2) (k : rx_Go p l e R s m args below meth c Q D A B sa ad0 mt np h L (.inr (.inr (.inr K.2.1)) :: st) cells slots) : rx_Go p l e R s m args below meth c Q D A B sa ad0 mt pc h L st cells slots := by
  obtain ⟨hd, rfl⟩ := ok.dec (n := 2) rfl
  obtain ⟨nm, f1, f2⟩ := ok.2.2 hK
  intro ad ws H locs ls vs a1 a2 a3 a4 a5 a6 a7
  obtain ⟨a, hs, hZ⟩ := C.2.2.2.2.2.2.2.2.2.2.1.2 _ nm f1
  have kk := k ad ws H locs ls (.ref a :: vs) a1 a2 a3 a4 a5 a6 ⟨Or.inl ⟨by
    have h5 : K.2.1 < rx_sn.length := (List.getElem?_eq_some_iff.mp f1).1
    have h4 : rx_sn.length ≤ 199999 := by decide
    omega, a, hs, rfl⟩, a7⟩
  rcases f2 with f2 | f2
  · exact va_gets C.1 C.2.1 hZ a5 C.2.2.2.1 (C.word f2) (fun _ h => h) hd kk
  · exact va_getsN C.1 C.2.1 hZ a5 C.2.2.2.1 (va_Nw.use rfl (C.2.2.2.2.2.2.2.2.2.2.2.1.2.1 _ f2)) (fun _ h => h) hd kk
theorem rx_idx {q : Int × Int} {x : Int32} {n : Nat} (h1 : rx_one q = true) (h2 : rx_le 0 q.1 = true) (hx : rx_has q x.toInt) (hn : q.1.toNat < n) : vp_in x n ∧ x.toNatClampNeg = q.1.toNat := by
  have q1 := rx_le_t h1
  have q2 := rx_le_t h2
  obtain ⟨x1, x2⟩ := hx
  have e : q.1 = x.toInt := by omega
  have e2 : x.toNatClampNeg = x.toInt.toNat := rfl
  refine ⟨vp_in_iff.mpr ⟨by omega, by omega⟩, by rw [e2, e]⟩
theorem rx_Kt (C : rx_Cx p s m args meth c D A B wr sa ro mt) {cA : ClassId} {ty : FieldType} (h : ArrOfT s cA ty ∧ va_RA s cA ty) : va_K D rx_cl [(cA, ty)] s := by
  refine ⟨C.2.2.2.2.2.2.2.2.1.1, fun k q hk => ?_⟩
  cases k with
  | zero => cases hk; exact h
  | succ k => simp at hk
theorem rx_o_iaload {q : Int × Int} (C : rx_Cx p s m args meth c D A B wr sa ro mt) (ok : rx_Ok xM mt pc (.iaload, np, tg, K)) (hc : h[k0]? = some (.inr o)) (ho : o.1 = 0) (h1 : rx_one q = true) (h2 : rx_le 0 q.1 = true) (hv : o.2[q.1.toNat]? = some v) (k : rx_Go p l e R s m args below meth c Q D A B sa ad0 mt np h L (v :: r) cells slots) : rx_Go p l e R s m args below meth c Q D A B sa ad0 mt pc h L (.inl q :: .inr (.inr (.inl (some k0))) :: r) cells slots := by
  obtain ⟨hd, rfl⟩ := ok.dec (n := 0) rfl
  intro ad ws H locs ls vs a1 a2 a3 a4 a5 a6 a7
  obtain ⟨y, v2, rfl, ⟨i, rfl, hi⟩, a8⟩ := rx_S_cons a7
  obtain ⟨x, vs, rfl, hx, a9⟩ := rx_S_cons a8
  obtain ⟨t, lo⟩ := o
  cases ho
  obtain ⟨a, E, rfl, hw, cA, hA, f, rfl, hf⟩ := rx_W_get a2 hc hx
  obtain ⟨g1, g2⟩ := rx_idx h1 h2 hi (List.getElem?_eq_some_iff.mp hv).1
  refine va_iald C.1 C.2.1 (rx_Kt C hA) a3 k0 0 hw rfl g1 hd (k ad ws H locs ls _ a1 a2 a3 a4 a5 a6 ⟨?_, a9⟩)
  rw [g2]
  exact hf _ _ hv
theorem rx_o_baload {q : Int × Int} (C : rx_Cx p s m args meth c D A B wr sa ro mt) (ok : rx_Ok xM mt pc (.baload, np, tg, K)) (hc : h[k0]? = some (.inr o)) (ho : o.1 = 1) (h1 : rx_one q = true) (h2 : rx_le 0 q.1 = true) (hv : o.2[q.1.toNat]? = some v) (k : rx_Go p l e R s m args below meth c Q D A B sa ad0 mt np h L (v :: r) cells slots) : rx_Go p l e R s m args below meth c Q D A B sa ad0 mt pc h L (.inl q :: .inr (.inr (.inl (some k0))) :: r) cells slots := by
  obtain ⟨hd, rfl⟩ := ok.dec (n := 0) rfl
  intro ad ws H locs ls vs a1 a2 a3 a4 a5 a6 a7
  obtain ⟨y, v2, rfl, ⟨i, rfl, hi⟩, a8⟩ := rx_S_cons a7
  obtain ⟨x, vs, rfl, hx, a9⟩ := rx_S_cons a8
  obtain ⟨t, lo⟩ := o
  cases ho
  obtain ⟨a, E, rfl, hw, cA, hA, f, rfl, hf⟩ := rx_W_get a2 hc hx
  obtain ⟨g1, g2⟩ := rx_idx h1 h2 hi (List.getElem?_eq_some_iff.mp hv).1
  refine va_zald C.1 C.2.1 (rx_Kt C hA) a3 k0 0 hw rfl g1 hd (k ad ws H locs ls _ a1 a2 a3 a4 a5 a6 ⟨?_, a9⟩)
  rw [g2]
  exact hf _ _ hv
theorem rx_o_laload {q : Int × Int} (C : rx_Cx p s m args meth c D A B wr sa ro mt) (ok : rx_Ok xM mt pc (.laload, np, tg, K)) (hc : h[k0]? = some (.inr o)) (ho : o.1 = 2) (h1 : rx_one q = true) (h2 : rx_le 0 q.1 = true) (hv : o.2[q.1.toNat]? = some v) (k : rx_Go p l e R s m args below meth c Q D A B sa ad0 mt np h L (v :: r) cells slots) : rx_Go p l e R s m args below meth c Q D A B sa ad0 mt pc h L (.inl q :: .inr (.inr (.inl (some k0))) :: r) cells slots := by
  obtain ⟨hd, rfl⟩ := ok.dec (n := 0) rfl
  intro ad ws H locs ls vs a1 a2 a3 a4 a5 a6 a7
  obtain ⟨y, v2, rfl, ⟨i, rfl, hi⟩, a8⟩ := rx_S_cons a7
  obtain ⟨x, vs, rfl, hx, a9⟩ := rx_S_cons a8
  obtain ⟨t, lo⟩ := o
  cases ho
  obtain ⟨a, E, rfl, hw, cA, hA, f, rfl, hf⟩ := rx_W_get a2 hc hx
  obtain ⟨g1, g2⟩ := rx_idx h1 h2 hi (List.getElem?_eq_some_iff.mp hv).1
  refine va_lald C.1 C.2.1 (rx_Kt C hA) a3 k0 0 hw rfl g1 hd (k ad ws H locs ls _ a1 a2 a3 a4 a5 a6 ⟨?_, a9⟩)
  rw [g2]
  exact hf _ _ hv
theorem rx_o_aaload {q : Int × Int} (C : rx_Cx p s m args meth c D A B wr sa ro mt) (ok : rx_Ok xM mt pc (.aaload, np, tg, K)) (hc : h[k0]? = some (.inr o)) (ho : 3 ≤ o.1) (h1 : rx_one q = true) (h2 : rx_le 0 q.1 = true) (hv : o.2[q.1.toNat]? = some v) (k : rx_Go p l e R s m args below meth c Q D A B sa ad0 mt np h L (v :: r) cells slots) : rx_Go p l e R s m args below meth c Q D A B sa ad0 mt pc h L (.inl q :: .inr (.inr (.inl (some k0))) :: r) cells slots := by
  obtain ⟨hd, rfl⟩ := ok.dec (n := 0) rfl
  intro ad ws H locs ls vs a1 a2 a3 a4 a5 a6 a7
  obtain ⟨y, v2, rfl, ⟨i, rfl, hi⟩, a8⟩ := rx_S_cons a7
  obtain ⟨x, vs, rfl, hx, a9⟩ := rx_S_cons a8
  obtain ⟨t, lo⟩ := o
  obtain ⟨n, rfl⟩ : ∃ n, t = n + 3 := ⟨t - 3, by have : 3 ≤ t := ho; omega⟩
  obtain ⟨a, E, rfl, hw, cA, hA, f, rfl, hf⟩ := rx_W_get a2 hc hx
  obtain ⟨g1, g2⟩ := rx_idx h1 h2 hi (List.getElem?_eq_some_iff.mp hv).1
  refine va_aldq C.1 C.2.1 (rx_Kt C hA) a3 k0 0 hw rfl g1 hd (k ad ws H locs ls _ a1 a2 a3 a4 a5 a6 ⟨?_, a9⟩)
  rw [g2]
  exact hf _ _ hv
theorem rx_G_low {ad sa : List Nat} {v : rx_V} {i : Int32} (h : rx_G [] [] v (.int i)) : rx_G ad sa v (.int i) := by
  match v, h with
  | .inl q, h => exact h
  | .inr (.inl q), h => exact h
  | .inr (.inr (.inl none)), h => exact h
  | .inr (.inr (.inl (some k))), h => obtain ⟨a, h1, -⟩ := h; simp at h1
  | .inr (.inr (.inr j)), h =>
    rcases h with ⟨-, a, h1, -⟩ | h
    · simp at h1
    · exact Or.inr h
theorem rx_o_rload {q : Int × Int} {j : Nat} {l0 : List rx_V} (C : rx_Cx p s m args meth c D A B wr sa ro mt) (ok : rx_Ok xM mt pc (.iaload, np, tg, K)) (hj : j ≤ 199999) (hc : ro[j]? = some l0) (h1 : rx_one q = true) (h2 : rx_le 0 q.1 = true) (hv : l0[q.1.toNat]? = some v) (k : rx_Go p l e R s m args below meth c Q D A B sa ad0 mt np h L (v :: r) cells slots) : rx_Go p l e R s m args below meth c Q D A B sa ad0 mt pc h L (.inl q :: .inr (.inr (.inr j)) :: r) cells slots := by
  obtain ⟨hd, rfl⟩ := ok.dec (n := 0) rfl
  intro ad ws H locs ls vs a1 a2 a3 a4 a5 a6 a7
  obtain ⟨y, v2, rfl, ⟨i, rfl, hi⟩, a8⟩ := rx_S_cons a7
  obtain ⟨x, vs, rfl, ⟨-, b, hb, rfl⟩ | ⟨hz, -⟩, a9⟩ := rx_S_cons a8
  case inr => omega
  obtain ⟨a, xs, b1, b2, b3, b4, b5⟩ := C.2.2.2.2.2.2.2.2.2.2.1.1 j l0 hc
  cases b1.symm.trans hb
  obtain ⟨g1, g2⟩ := rx_idx h1 h2 hi (List.getElem?_eq_some_iff.mp hv).1
  refine va_sld C.1 C.2.1 b4 b2 b3 a5 g1 hd (k ad ws H locs ls _ a1 a2 a3 a4 a5 a6 ⟨?_, a9⟩)
  rw [g2]
  exact rx_G_low (b5 _ _ hv)
end OPS
end
section
/-! stores into arrays, new cells, Object's constructor -/
theorem rx_lset {α : Type} {l : List α} {i j : Nat} {x w : α} (h : (l.set i x)[j]? = some w) : (j = i ∧ w = x) ∨ (j ≠ i ∧ l[j]? = some w) := by
  by_cases hij : i = j
  · subst hij
    have hl := (List.getElem?_eq_some_iff.mp h).1
    rw [List.length_set] at hl
    rw [List.getElem?_set_self hl] at h
    cases h
    exact Or.inl ⟨rfl, rfl⟩
  · rw [List.getElem?_set_ne hij] at h
    exact Or.inr ⟨fun e => hij e.symm, h⟩
section OPS
variable {p : Program} {l : Launch} {e : Env} {R : Room} {s : State} {m : MethodId} {args : Array Value} {below : List Frame} {meth : Method} {c : Code} {Q : State → Prop} {D : va_G} {A B : Nat → Prop} {wr : Bool} {sa ad0 : List Nat} {ro : List (List rx_V)} {mt : rx_MT} {xM : List rx_MT} {pc np tg : Nat} {K : rx_K} {h : rx_H} {L : rx_F} {st r : List rx_V} {cells slots : Nat} {k0 : Nat} {o : Nat × List rx_V} {q u : Int × Int}
theorem rx_o_iastore (C : rx_Cx p s m args meth c D A B wr sa ro mt) (hwr : wr = true) (ok : rx_Ok xM mt pc (.iastore, np, tg, K)) (hc : h[k0]? = some (.inr o)) (ho : o.1 = 0) (h1 : rx_one q = true) (h2 : rx_le 0 q.1 = true) (hv : q.1.toNat < o.2.length) (k : rx_Go p l e R s m args below meth c Q D A B sa ad0 mt np (h.set k0 (.inr (o.1, o.2.set q.1.toNat (.inl u)))) L r cells slots) : rx_Go p l e R s m args below meth c Q D A B sa ad0 mt pc h L (.inl u :: .inl q :: .inr (.inr (.inl (some k0))) :: r) cells slots := by
  obtain ⟨hd, rfl⟩ := ok.dec (n := 0) rfl
  have hBA := (C.2.2.2.2.2.2.2.2.2.2.2.2.1 hwr).symm
  subst hBA
  intro ad ws H locs ls vs a1 a2 a3 a4 a5 a6 a7
  obtain ⟨z, v1, rfl, ⟨w, rfl, hw0⟩, b7⟩ := rx_S_cons a7
  obtain ⟨y, v2, rfl, ⟨i, rfl, hi⟩, a8⟩ := rx_S_cons b7
  obtain ⟨x, vs, rfl, hx, a9⟩ := rx_S_cons a8
  obtain ⟨t, lo⟩ := o
  cases ho
  obtain ⟨a, E, rfl, hw, cA, hA, f, rfl, hf⟩ := rx_W_get a2 hc hx
  obtain ⟨g1, g2⟩ := rx_idx h1 h2 hi hv
  refine va_iast C.1 C.2.1 (rx_Kt C hA) a3 a4 a5 k0 0 hw rfl g1 hd fun H1 locs1 b1 b2 b3 => k ad _ H1 locs1 ls vs a1 (rx_W_set a2 hw ⟨cA, hA, _, by rw [List.length_set], fun j v hj => ?_⟩) b1 b2 b3 a6 a9
  rw [g2]
  rcases rx_lset hj with ⟨rfl, rfl⟩ | ⟨n, hj⟩
  · rw [pk_us]; exact ⟨w, rfl, hw0⟩
  · rw [pk_un n]; exact hf j v hj
theorem rx_nar1 {x : Int32} (hb : rx_bool u = true) (hx : rx_has u x.toInt) : vp_nar .boolean x = x := by
  rcases rx_b01 hb hx with rfl | rfl <;> decide
theorem rx_o_bastore (C : rx_Cx p s m args meth c D A B wr sa ro mt) (hwr : wr = true) (ok : rx_Ok xM mt pc (.bastore, np, tg, K)) (hb : rx_bool u = true) (hc : h[k0]? = some (.inr o)) (ho : o.1 = 1) (h1 : rx_one q = true) (h2 : rx_le 0 q.1 = true) (hv : q.1.toNat < o.2.length) (k : rx_Go p l e R s m args below meth c Q D A B sa ad0 mt np (h.set k0 (.inr (o.1, o.2.set q.1.toNat (.inl u)))) L r cells slots) : rx_Go p l e R s m args below meth c Q D A B sa ad0 mt pc h L (.inl u :: .inl q :: .inr (.inr (.inl (some k0))) :: r) cells slots := by
  obtain ⟨hd, rfl⟩ := ok.dec (n := 0) rfl
  have hBA := (C.2.2.2.2.2.2.2.2.2.2.2.2.1 hwr).symm
  subst hBA
  intro ad ws H locs ls vs a1 a2 a3 a4 a5 a6 a7
  obtain ⟨z, v1, rfl, ⟨w, rfl, hw0⟩, b7⟩ := rx_S_cons a7
  obtain ⟨y, v2, rfl, ⟨i, rfl, hi⟩, a8⟩ := rx_S_cons b7
  obtain ⟨x, vs, rfl, hx, a9⟩ := rx_S_cons a8
  obtain ⟨t, lo⟩ := o
  cases ho
  obtain ⟨a, E, rfl, hw, cA, hA, f, rfl, hf⟩ := rx_W_get a2 hc hx
  obtain ⟨g1, g2⟩ := rx_idx h1 h2 hi hv
  refine va_zast C.1 C.2.1 (rx_Kt C hA) a3 a4 a5 k0 0 hw rfl g1 hd fun H1 locs1 b1 b2 b3 => k ad _ H1 locs1 ls vs a1 (rx_W_set a2 hw ⟨cA, hA, _, by rw [List.length_set], fun j v hj => ?_⟩) b1 b2 b3 a6 a9
  rw [g2, rx_nar1 hb hw0]
  rcases rx_lset hj with ⟨rfl, rfl⟩ | ⟨n, hj⟩
  · rw [pk_us]; exact ⟨w, rfl, hw0⟩
  · rw [pk_un n]; exact hf j v hj
theorem rx_o_lastore (C : rx_Cx p s m args meth c D A B wr sa ro mt) (hwr : wr = true) (ok : rx_Ok xM mt pc (.lastore, np, tg, K)) (hc : h[k0]? = some (.inr o)) (ho : o.1 = 2) (h1 : rx_one q = true) (h2 : rx_le 0 q.1 = true) (hv : q.1.toNat < o.2.length) (k : rx_Go p l e R s m args below meth c Q D A B sa ad0 mt np (h.set k0 (.inr (o.1, o.2.set q.1.toNat (.inr (.inl u))))) L r cells slots) : rx_Go p l e R s m args below meth c Q D A B sa ad0 mt pc h L (.inr (.inl u) :: .inl q :: .inr (.inr (.inl (some k0))) :: r) cells slots := by
  obtain ⟨hd, rfl⟩ := ok.dec (n := 0) rfl
  have hBA := (C.2.2.2.2.2.2.2.2.2.2.2.2.1 hwr).symm
  subst hBA
  intro ad ws H locs ls vs a1 a2 a3 a4 a5 a6 a7
  obtain ⟨z, v1, rfl, ⟨w, rfl, hw0⟩, b7⟩ := rx_S_cons a7
  obtain ⟨y, v2, rfl, ⟨i, rfl, hi⟩, a8⟩ := rx_S_cons b7
  obtain ⟨x, vs, rfl, hx, a9⟩ := rx_S_cons a8
  obtain ⟨t, lo⟩ := o
  cases ho
  obtain ⟨a, E, rfl, hw, cA, hA, f, rfl, hf⟩ := rx_W_get a2 hc hx
  obtain ⟨g1, g2⟩ := rx_idx h1 h2 hi hv
  refine va_last C.1 C.2.1 (rx_Kt C hA) a3 a4 a5 k0 0 hw rfl g1 hd fun H1 locs1 b1 b2 b3 => k ad _ H1 locs1 ls vs a1 (rx_W_set a2 hw ⟨cA, hA, _, by rw [List.length_set], fun j v hj => ?_⟩) b1 b2 b3 a6 a9
  rw [g2]
  rcases rx_lset hj with ⟨rfl, rfl⟩ | ⟨n, hj⟩
  · rw [pk_uLs]; exact ⟨w, rfl, hw0⟩
  · rw [pk_uLn n]; exact hf j v hj
theorem rx_o_aastore {k1 : Nat} {o1 : Nat × List rx_V} (C : rx_Cx p s m args meth c D A B wr sa ro mt) (hwr : wr = true) (ok : rx_Ok xM mt pc (.aastore, np, tg, K)) (hd1 : h[k1]? = some (.inl o1)) (hc : h[k0]? = some (.inr o)) (ho : o.1 = o1.1 + 3) (h1 : rx_one q = true) (h2 : rx_le 0 q.1 = true) (hv : q.1.toNat < o.2.length) (k : rx_Go p l e R s m args below meth c Q D A B sa ad0 mt np (h.set k0 (.inr (o.1, o.2.set q.1.toNat (.inr (.inr (.inl (some k1))))))) L r cells slots) : rx_Go p l e R s m args below meth c Q D A B sa ad0 mt pc h L (.inr (.inr (.inl (some k1))) :: .inl q :: .inr (.inr (.inl (some k0))) :: r) cells slots := by
  obtain ⟨hd, rfl⟩ := ok.dec (n := 0) rfl
  have hBA := (C.2.2.2.2.2.2.2.2.2.2.2.2.1 hwr).symm
  subst hBA
  intro ad ws H locs ls vs a1 a2 a3 a4 a5 a6 a7
  obtain ⟨z, v1, rfl, hz, b7⟩ := rx_S_cons a7
  obtain ⟨y, v2, rfl, ⟨i, rfl, hi⟩, a8⟩ := rx_S_cons b7
  obtain ⟨x, vs, rfl, hx, a9⟩ := rx_S_cons a8
  obtain ⟨t, lo⟩ := o
  cases ho
  obtain ⟨a, E, rfl, hw, cA, hA, f, rfl, hf⟩ := rx_W_get a2 hc hx
  obtain ⟨b, E1, rfl, hw1, fs, rfl, -⟩ := rx_W_get a2 hd1 hz
  obtain ⟨g1, g2⟩ := rx_idx h1 h2 hi hv
  obtain ⟨rr, hrr, -⟩ := a3 k1 _ hw1
  have hA' : ArrOfT s cA (.object rr.1) ∧ va_RA s cA (.object rr.1) := by
    have e : rx_aty (o1.1 + 3) = .object rr.1 := by show FieldType.object (rx_cn o1.1) = _; unfold rx_cn; rw [hrr]
    rw [← e]; exact hA
  refine va_astq C.1 C.2.1 (rx_Kt C hA') a3 a4 a5 k0 0 k1 o1.1 hw rfl hw1 hrr g1 hd fun H1 locs1 b1 b2 b3 => k ad _ H1 locs1 ls vs a1 (rx_W_set a2 hw ⟨cA, hA, _, by rw [List.length_set], fun j v hj => ?_⟩) b1 b2 b3 a6 a9
  rw [g2]
  rcases rx_lset hj with ⟨rfl, rfl⟩ | ⟨n, hj⟩
  · simp only [va_up, if_pos, va_rf]; exact hz
  · have := hf j v hj
    simpa [va_up, n] using this
theorem rx_o_objinit {i : Nat} (C : rx_Cx p s m args meth c D A B wr sa ro mt) (ok : rx_Ok xM mt pc (.invokespecial i, np, tg, K)) (hK : K.1 = 10) (hr : rx_cats r ≤ 8) (hRf : 1 ≤ R.frames) (hRl : 20 ≤ R.locals) (h5 : Jvm.Cond.instanceMethod Lib.objectInit ∈ rx_bw ∧ Jvm.Cond.code Lib.objectInit ⟨#[0xb1]⟩ 1 none ∈ rx_bw) (k : rx_Go p l e R s m args below meth c Q D A B sa ad0 mt np h L r cells slots) : rx_Go p l e R s m args below meth c Q D A B sa ad0 mt pc h L (.inr (.inr (.inl (some k0))) :: r) cells slots := by
  obtain ⟨hd, rfl⟩ := ok.dec (n := 2) rfl
  obtain ⟨f1, -, -⟩ := ok.2.2.1 hK
  intro ad ws H locs ls vs a1 a2 a3 a4 a5 a6 a7
  obtain ⟨x, vs, rfl, ⟨a, -, rfl⟩, a9⟩ := rx_S_cons a7
  have e := rx_S_cats a9
  refine W.objInit (g := F0 m pc ls (.ref a :: vs)) C.1 C.2.1 C.2.2.2.1 (C.word f1) (C.word h5.1) (C.word h5.2) rfl ?_ rfl hd hRf ?_ (k ad ws H locs ls vs a1 a2 a3 a4 a5 a6 a9)
  · obtain ⟨l0, g1, -⟩ := a6
    rw [C.2.2.1]; exact g1.1
  · rw [e]
    show 2 * 0 + rx_cats r + 12 ≤ R.locals
    omega
theorem rx_dfl_ok {ad sa : List Nat} {ty : FieldType} (h : rx_fc ty ≤ 3) : rx_G ad sa (rx_dfl (rx_fc ty)) (defaultValue ty) := by
  cases ty <;> first
    | exact ⟨(0 : Int32), rfl, by decide, by decide⟩
    | exact ⟨(0 : Int64), rfl, by decide, by decide⟩
    | exact rfl
    | (simp [rx_fc] at h; done)
theorem rx_dfl_S {ad sa : List Nat} : ∀ (ft : List FieldType), (∀ t ∈ ft, rx_fc t ≤ 3) → rx_S ad sa ((ft.map rx_fc).map rx_dfl) (ft.map defaultValue)
  | [], _ => trivial
  | t :: ft, h => ⟨rx_dfl_ok (h t List.mem_cons_self), rx_dfl_S ft fun t ht => h t (List.mem_cons_of_mem _ ht)⟩
theorem rx_o_new {i : Nat} {ks : List Nat} (C : rx_Cx p s m args meth c D A B wr sa ro mt) (hwr : wr = true) (ok : rx_Ok xM mt pc (.new i, np, tg, K)) (hK : K.1 = 11) (hks : rx_dk[K.2.1]? = some ks) (h3 : ∀ x ∈ ks, x ≤ 3) (hR : cells + 1 ≤ R.cells ∧ slots + ks.length ≤ R.slots) (k : rx_Go p l e R s m args below meth c Q D A B sa ad0 mt np (h ++ [.inl (K.2.1, ks.map rx_dfl)]) L (.inr (.inr (.inl (some h.length))) :: st) (cells + 1) (slots + ks.length)) : rx_Go p l e R s m args below meth c Q D A B sa ad0 mt pc h L st cells slots := by
  obtain ⟨hd, rfl⟩ := ok.dec (n := 2) rfl
  have hBA := (C.2.2.2.2.2.2.2.2.2.2.2.2.1 hwr).symm
  subst hBA
  obtain ⟨qc, f1, f2⟩ := ok.2.2 hK
  obtain ⟨c1, c2, c3, c4, ft, ks', c5, c6, c7, c8, c9⟩ := rx_cl_ok K.2.1 qc f1
  cases hks.symm.trans c6
  have hlen : ks.length = qc.2.2 := by rw [c8, List.length_map]; exact c7
  intro ad ws H locs ls vs a1 a2 a3 a4 a5 a6 a7
  have hdef : ∀ j, j < qc.2.2 → defaultValue (ft.getD j .int) = vp_V (ft.map defaultValue) j := by
    intro j hj
    have hj' : j < ft.length := by rw [c7]; exact hj
    simp [vp_V, List.getD, hj']
  rw [hlen] at hR k
  refine va_new (D := D) (ci := K.2.1) (C := qc.1) (T := qc.2.1) (N := qc.2.2) (fs := ft.map defaultValue) C.1 C.2.1 C.2.2.2.2.1 (fun w hw => c1 w hw) (fun k => ft.getD k .int) c9 C.2.2.2.1 (C.word f2) (C.word c3) (C.word c4) C.2.2.2.2.2.2.2.2.1 a3 a4 a5 C.2.2.2.2.2.2.2.2.2.1 f1 hdef hR.1 hR.2 hd fun q0 H1 b1 b2 b3 => ?_
  have hpre : ad <+: ad ++ [q0] := ⟨[q0], rfl⟩
  have hS : rx_S (ad ++ [q0]) sa (ks.map rx_dfl) (ft.map defaultValue) := by
    have h3' : ∀ t ∈ ft, rx_fc t ≤ 3 := fun t ht => h3 _ (by rw [c8]; exact List.mem_map_of_mem ht)
    rw [c8]
    exact rx_dfl_S ft h3'
  refine k (ad ++ [q0]) _ H1 locs ls (.ref q0 :: vs) (List.IsPrefix.trans a1 hpre) (rx_W_push a2 ⟨_, rfl, hS⟩) b1 b2 b3 (rx_L_up hpre a6) ⟨⟨q0, ?_, rfl⟩, rx_S_up hpre a7⟩
  rw [← rx_W_len a2, List.getElem?_append_right (Nat.le_refl _), Nat.sub_self]
  rfl
end OPS
end
section
/-! new arrays -/
theorem rx_one_n {q : Int × Int} {x : Int32} (h1 : rx_one q = true) (h2 : rx_le 0 q.1 = true) (hx : rx_has q x.toInt) : ¬ x < 0 ∧ x.toNatClampNeg = q.1.toNat := by
  have q1 := rx_le_t h1
  have q2 := rx_le_t h2
  obtain ⟨x1, x2⟩ := hx
  have e : q.1 = x.toInt := by omega
  refine ⟨fun z => ?_, by rw [e]; rfl⟩
  have z := Int32.lt_iff_toInt_lt.mp z
  have h0 : (0 : Int32).toInt = 0 := by decide
  omega
theorem rx_rep {α : Type} {n j : Nat} {x v : α} (h : (List.replicate n x)[j]? = some v) : v = x := by
  have hm := List.mem_of_getElem? h
  exact (List.mem_replicate.mp hm).2
section OPS
variable {p : Program} {l : Launch} {e : Env} {R : Room} {s : State} {m : MethodId} {args : Array Value} {below : List Frame} {meth : Method} {c : Code} {Q : State → Prop} {D : va_G} {A B : Nat → Prop} {wr : Bool} {sa ad0 : List Nat} {ro : List (List rx_V)} {mt : rx_MT} {xM : List rx_MT} {pc np tg : Nat} {K : rx_K} {h : rx_H} {L : rx_F} {st r : List rx_V} {cells slots : Nat} {q : Int × Int}
theorem rx_o_newarray {t : ArrayType} {tc : Nat} (C : rx_Cx p s m args meth c D A B wr sa ro mt) (hwr : wr = true) (ok : rx_Ok xM mt pc (.newarray t, np, tg, K)) (ht : (t = .int ∧ tc = 0) ∨ (t = .boolean ∧ tc = 1) ∨ (t = .long ∧ tc = 2)) (h1 : rx_one q = true) (h2 : rx_le 0 q.1 = true) (h4 : rx_le q.1 1000 = true) (hR : cells + 1 ≤ R.cells ∧ slots + q.1.toNat ≤ R.slots)
    (k : rx_Go p l e R s m args below meth c Q D A B sa ad0 mt np (h ++ [.inr (tc, List.replicate q.1.toNat (rx_dfl tc))]) L (.inr (.inr (.inl (some h.length))) :: r) (cells + 1) (slots + q.1.toNat)) : rx_Go p l e R s m args below meth c Q D A B sa ad0 mt pc h L (.inl q :: r) cells slots := by
  obtain ⟨hd, rfl⟩ := ok.dec (n := 1) rfl
  have hBA := (C.2.2.2.2.2.2.2.2.2.2.2.2.1 hwr).symm
  subst hBA
  have hw := ok.2.2
  intro ad ws H locs ls vs a1 a2 a3 a4 a5 a6 a7
  obtain ⟨x, vs, rfl, ⟨n, rfl, hn⟩, a9⟩ := rx_S_cons a7
  obtain ⟨n1, n2⟩ := rx_one_n h1 h2 hn
  have hb : q.1.toNat ≤ 1000 := by have := rx_le_t h4; omega
  have hK := C.2.2.2.2.2.2.2.2.1
  have key : ∀ (q0 : Nat) (cA : ClassId) (H1 : Heap) (a0 : vp_A), va_K D rx_cl ([] ++ [(cA, Op.newarray.typeOf t)]) s → (∀ ad', rx_A ad' sa cA tc (List.replicate q.1.toNat (rx_dfl tc)) (.inl (cA, a0))) → rx_aty tc = Op.newarray.typeOf t → va_P D rx_cl (ws ++ [(q0, .inl (cA, a0))]) H1 → va_D A (ws ++ [(q0, .inl (cA, a0))]) → va_S A s.heap H1 locs →
      W p l e R s m args below meth c H1 locs (cells + 1) (slots + q.1.toNat) Q (F0 m (pc + 2) ls (.ref q0 :: vs)) := by
    intro q0 cA H1 a0 b0 b9 b8 b1 b2 b3
    have hpre : ad <+: ad ++ [q0] := ⟨[q0], rfl⟩
    have hA := b0.2 0 _ rfl
    rw [← b8] at hA
    refine k (ad ++ [q0]) _ H1 locs ls (.ref q0 :: vs) (List.IsPrefix.trans a1 hpre) (rx_W_push a2 ⟨cA, hA, b9 _⟩) b1 b2 b3 (rx_L_up hpre a6) ⟨⟨q0, ?_, rfl⟩, rx_S_up hpre a9⟩
    rw [← rx_W_len a2, List.getElem?_append_right (Nat.le_refl _), Nat.sub_self]
    rfl
  rcases ht with ⟨rfl, rfl⟩ | ⟨rfl, rfl⟩ | ⟨rfl, rfl⟩
  · refine va_newa (N' := q.1.toNat) (a0 := (q.1.toNat, .inl (fun _ => 0))) C.1 C.2.1 (C.word hw) rfl hK a3 a4 a5 C.2.2.2.2.2.2.2.2.2.1 (fun cA => rfl) n1 n2 (Nat.le_trans (Nat.mul_le_mul hb (show componentBytes _ ≤ 8 by decide)) (by decide)) hR.1 hR.2 hd fun q0 cA H1 b0 b1 b2 b3 => key q0 cA H1 _ b0 (fun ad' => ⟨_, by rw [List.length_replicate], fun j v hj => ?_⟩) rfl b1 b2 b3
    rw [rx_rep hj]; exact ⟨0, rfl, by decide, by decide⟩
  · refine va_newa (N' := q.1.toNat) (a0 := (q.1.toNat, .inl (fun _ => 0))) C.1 C.2.1 (C.word hw) rfl hK a3 a4 a5 C.2.2.2.2.2.2.2.2.2.1 (fun cA => rfl) n1 n2 (Nat.le_trans (Nat.mul_le_mul hb (show componentBytes _ ≤ 8 by decide)) (by decide)) hR.1 hR.2 hd fun q0 cA H1 b0 b1 b2 b3 => key q0 cA H1 _ b0 (fun ad' => ⟨_, by rw [List.length_replicate], fun j v hj => ?_⟩) rfl b1 b2 b3
    rw [rx_rep hj]; exact ⟨0, rfl, by decide, by decide⟩
  · refine va_newa (N' := q.1.toNat) (a0 := (q.1.toNat, .inr (.inl (fun _ => 0)))) C.1 C.2.1 (C.word hw) rfl hK a3 a4 a5 C.2.2.2.2.2.2.2.2.2.1 (fun cA => rfl) n1 n2 (Nat.le_trans (Nat.mul_le_mul hb (show componentBytes _ ≤ 8 by decide)) (by decide)) hR.1 hR.2 hd fun q0 cA H1 b0 b1 b2 b3 => key q0 cA H1 _ b0 (fun ad' => ⟨_, by rw [List.length_replicate], fun j v hj => ?_⟩) rfl b1 b2 b3
    rw [rx_rep hj]; exact ⟨0, rfl, by decide, by decide⟩
theorem rx_o_anewarray {i : Nat} (C : rx_Cx p s m args meth c D A B wr sa ro mt) (hwr : wr = true) (ok : rx_Ok xM mt pc (.anewarray i, np, tg, K)) (hK : K.1 = 13) (h1 : rx_one q = true) (h2 : rx_le 0 q.1 = true) (h4 : rx_le q.1 1000 = true) (hR : cells + 1 ≤ R.cells ∧ slots + q.1.toNat ≤ R.slots)
    (k : rx_Go p l e R s m args below meth c Q D A B sa ad0 mt np (h ++ [.inr (K.2.1 + 3, List.replicate q.1.toNat (.inr (.inr (.inl none))))]) L (.inr (.inr (.inl (some h.length))) :: r) (cells + 1) (slots + q.1.toNat)) : rx_Go p l e R s m args below meth c Q D A B sa ad0 mt pc h L (.inl q :: r) cells slots := by
  obtain ⟨hd, rfl⟩ := ok.dec (n := 2) rfl
  have hBA := (C.2.2.2.2.2.2.2.2.2.2.2.2.1 hwr).symm
  subst hBA
  obtain ⟨qc, f1, f2, f3⟩ := ok.2.2 hK
  intro ad ws H locs ls vs a1 a2 a3 a4 a5 a6 a7
  obtain ⟨x, vs, rfl, ⟨n, rfl, hn⟩, a9⟩ := rx_S_cons a7
  obtain ⟨n1, n2⟩ := rx_one_n h1 h2 hn
  have hb : q.1.toNat ≤ 1000 := by have := rx_le_t h4; omega
  refine va_newq (N' := q.1.toNat) C.1 C.2.1 C.2.2.2.1 (C.word f2) (C.2.2.2.2.2.2.2.2.2.2.2.1.2.2 _ f3) C.2.2.2.2.2.2.2.2.1 a3 a4 a5 C.2.2.2.2.2.2.2.2.2.1 n1 n2 (by omega) hR.1 hR.2 hd fun q0 cA H1 b0 b1 b2 b3 => ?_
  have hpre : ad <+: ad ++ [q0] := ⟨[q0], rfl⟩
  have hA := b0.2 0 _ rfl
  have e : rx_aty (K.2.1 + 3) = .object qc.1 := by show FieldType.object (rx_cn K.2.1) = _; unfold rx_cn; rw [f1]
  rw [← e] at hA
  refine k (ad ++ [q0]) _ H1 locs ls (.ref q0 :: vs) (List.IsPrefix.trans a1 hpre) (rx_W_push a2 ⟨cA, hA, _, by rw [List.length_replicate], fun j v hj => ?_⟩) b1 b2 b3 (rx_L_up hpre a6) ⟨⟨q0, ?_, rfl⟩, rx_S_up hpre a9⟩
  · rw [rx_rep hj]; rfl
  · rw [← rx_W_len a2, List.getElem?_append_right (Nat.le_refl _), Nat.sub_self]
    rfl
end OPS
end
section
/-! Math -/
theorem rx_max_e (a b : Int) : rx_max a b = a ∨ rx_max a b = b := by
  unfold rx_max
  cases h : rx_le a b
  · exact Or.inl rfl
  · exact Or.inr rfl
theorem rx_has_mx {a b : Int × Int} {x y z : Int} (ha : rx_has a x) (hb : rx_has b y) (h1 : x ≤ z) (h2 : y ≤ z) (h3 : z = x ∨ z = y) : rx_has (rx_mx a b) z := by
  obtain ⟨a1, a2⟩ := ha
  obtain ⟨b1, b2⟩ := hb
  have m1 := rx_max_l a.2 b.2
  refine ⟨?_, ?_⟩
  · show rx_max a.1 b.1 ≤ z
    rcases rx_max_e a.1 b.1 with e | e <;> rw [e] <;> omega
  · show z ≤ rx_max a.2 b.2
    rcases h3 with h3 | h3 <;> omega
theorem rx_has_mn {a b : Int × Int} {x y z : Int} (ha : rx_has a x) (hb : rx_has b y) (h1 : z ≤ x) (h2 : z ≤ y) (h3 : z = x ∨ z = y) : rx_has (rx_mn a b) z := by
  obtain ⟨a1, a2⟩ := ha
  obtain ⟨b1, b2⟩ := hb
  have m1 := rx_min_l a.1 b.1
  refine ⟨?_, ?_⟩
  · show rx_min a.1 b.1 ≤ z
    rcases h3 with h3 | h3 <;> omega
  · show z ≤ rx_min a.2 b.2
    rcases rx_min_e a.2 b.2 with e | e <;> rw [e] <;> omega
theorem rx_has_ab {a : Int × Int} {x : Int32} (ha : rx_has a x.toInt) : rx_has (rx_ab a) (if 0 ≤ x then x else 0 - x).toInt := by
  have h0 : (0 : Int32).toInt = 0 := by decide
  have hle : (0 ≤ x) ↔ 0 ≤ x.toInt := by rw [Int32.le_iff_toInt_le, h0]
  obtain ⟨a1, a2⟩ := id ha
  unfold rx_ab
  cases h : rx_le 0 a.1 with
  | true =>
    have h1 := rx_le_t h
    rw [if_pos (hle.mpr (by omega))]
    exact ha
  | false =>
    have key : ∀ q : Int × Int, rx_has q (if 0 ≤ x.toInt then x.toInt else -x.toInt) → rx_has (rx_i32 q) (if 0 ≤ x then x else 0 - x).toInt := by
      intro q hq
      refine rx_has32 hq fun h1 h2 => ?_
      by_cases hx : 0 ≤ x.toInt
      · rw [if_pos (hle.mpr hx), if_pos hx]
      · rw [if_neg (fun z => hx (hle.mp z)), if_neg hx, Int32.toInt_sub, h0]
        rw [if_neg hx] at h1 h2
        rw [show (0 : Int) - x.toInt = -x.toInt by omega]
        exact rx_bm32 h1 h2
    show rx_has (rx_i32 (bif rx_le a.2 0 then (-a.2, -a.1) else (0, rx_max (-a.1) a.2))) _
    apply key
    cases h2 : rx_le a.2 0 with
    | true =>
      have h3 := rx_le_t h2
      refine ⟨?_, ?_⟩
      · show -a.2 ≤ _
        split <;> omega
      · show _ ≤ -a.1
        split <;> omega
    | false =>
      have m1 := rx_max_l (-a.1) a.2
      refine ⟨?_, ?_⟩
      · show (0 : Int) ≤ _
        split <;> omega
      · show _ ≤ rx_max (-a.1) a.2
        split <;> omega
section OPS
variable {p : Program} {l : Launch} {e : Env} {R : Room} {s : State} {m : MethodId} {args : Array Value} {below : List Frame} {meth : Method} {c : Code} {Q : State → Prop} {D : va_G} {A B : Nat → Prop} {wr : Bool} {sa ad0 : List Nat} {ro : List (List rx_V)} {mt : rx_MT} {xM : List rx_MT} {pc np tg i : Nat} {K : rx_K} {h : rx_H} {L : rx_F} {st r : List rx_V} {cells slots : Nat} {a b : Int × Int}
theorem rx_o_alen {j : Nat} {l0 : List rx_V} (C : rx_Cx p s m args meth c D A B wr sa ro mt) (ok : rx_Ok xM mt pc (.arraylength, np, tg, K)) (hj : j ≤ 199999) (hc : ro[j]? = some l0) (hl : l0.length ≤ 5000) (k : rx_Go p l e R s m args below meth c Q D A B sa ad0 mt np h L (.inl ((l0.length : Int), (l0.length : Int)) :: r) cells slots) : rx_Go p l e R s m args below meth c Q D A B sa ad0 mt pc h L (.inr (.inr (.inr j)) :: r) cells slots := by
  obtain ⟨hd, rfl⟩ := ok.dec (n := 0) rfl
  intro ad ws H locs ls vs a1 a2 a3 a4 a5 a6 a7
  obtain ⟨x, vs, rfl, ⟨-, b, hb, rfl⟩ | ⟨hz, -⟩, a9⟩ := rx_S_cons a7
  case inr => omega
  obtain ⟨a, xs, b1, b2, b3, b4, b5⟩ := C.2.2.2.2.2.2.2.2.2.2.1.1 j l0 hc
  cases b1.symm.trans hb
  refine va_slen C.1 C.2.1 b4 b2 b3 a5 hd (k ad ws H locs ls _ a1 a2 a3 a4 a5 a6 ⟨⟨_, rfl, ?_⟩, a9⟩)
  have e : (Int32.ofNat l0.length).toInt = (l0.length : Int) := nI_toInt (by omega)
  rw [e]; exact ⟨Int.le_refl _, Int.le_refl _⟩
theorem rx_o_math {st' : List rx_V} {β : Type} {k : List rx_V → Option β} {r0 : β} (C : rx_Cx p s m args meth c D A B wr sa ro mt) (ok : rx_Ok xM mt pc (.invokestatic i, np, tg, K)) (hRm : R.frames = mt.2.2.2.2.2.2.1 ∧ R.locals = mt.2.2.2.2.2.2.2.1) (hs : rx_math K.1 st k = some r0) (kk : ∀ st', k st' = some r0 → (cells ≤ R.cells ∧ slots ≤ R.slots) ∧ rx_Go p l e R s m args below meth c Q D A B sa ad0 mt np h L st' cells slots) : rx_Go p l e R s m args below meth c Q D A B sa ad0 mt pc h L st cells slots := by
  obtain ⟨hd, rfl⟩ := ok.dec (n := 2) rfl
  have hma := ok.2.2.2.2.1
  have hsz : ∀ {ad : List Nat} {ls : Array Slot}, rx_L ad sa mt.2.2.1 L ls → c.maxLocals = ls.size := fun a6 => by
    obtain ⟨l0, g1, -⟩ := a6
    rw [C.2.2.1]; exact g1.1.symm
  have i2 : ∀ (st1 : List rx_V) (a b : Int × Int) (r : List rx_V), st1 = .inl b :: .inl a :: r → Nat.ble (rx_cats r) 8 = true → (K.1 = 20 ∧ k (.inl (rx_mx a b) :: r) = some r0) ∨ (K.1 = 21 ∧ k (.inl (rx_mn a b) :: r) = some r0) → rx_Go p l e R s m args below meth c Q D A B sa ad0 mt pc h L st1 cells slots := by
    intro st1 a b r e hc hk
    subst e
    have hc := Nat.le_of_ble_eq_true hc
    intro ad ws H locs ls vs a1 a2 a3 a4 a5 a6 a7
    obtain ⟨v1, v2, rfl, ⟨y, rfl, hy⟩, a8⟩ := rx_S_cons a7
    obtain ⟨v3, vs, rfl, ⟨x, rfl, hx⟩, a9⟩ := rx_S_cons a8
    have e := rx_S_cats a9
    rcases hk with ⟨hK, hk⟩ | ⟨hK, hk⟩
    · obtain ⟨f1, f2, f3, f4⟩ := hma (by rw [hK]; decide)
      have hK' : K.1 = 20 := hK
      rw [hK'] at f4
      obtain ⟨w1, w2, w3⟩ := f4
      obtain ⟨hcs, kk⟩ := kk _ hk
      refine va_mmax C.1 C.2.1 (hsz a6) C.2.2.2.1 (C.word w1) (C.word w2) (C.word f3) (C.word w3) (by rw [hRm.1]; exact f1) (by rw [e, hRm.2]; omega) hcs.1 hcs.2 hd (kk ad ws H locs ls _ a1 a2 a3 a4 a5 a6 ⟨⟨_, rfl, ?_⟩, a9⟩)
      by_cases hlt : x < y
      · have := Int32.lt_iff_toInt_lt.mp hlt
        rw [if_pos hlt]; exact rx_has_mx hx hy (by omega) (Int.le_refl _) (Or.inr rfl)
      · have : y.toInt ≤ x.toInt := Int.not_lt.mp (fun z => hlt (Int32.lt_iff_toInt_lt.mpr z))
        rw [if_neg hlt]; exact rx_has_mx hx hy (Int.le_refl _) this (Or.inl rfl)
    · obtain ⟨f1, f2, f3, f4⟩ := hma (by rw [hK]; decide)
      have hK' : K.1 = 21 := hK
      rw [hK'] at f4
      obtain ⟨w1, w2, w3⟩ := f4
      obtain ⟨hcs, kk⟩ := kk _ hk
      refine va_mmin C.1 C.2.1 (hsz a6) C.2.2.2.1 (C.word w1) (C.word w2) (C.word f3) (C.word w3) (by rw [hRm.1]; exact f1) (by rw [e, hRm.2]; omega) hcs.1 hcs.2 hd (kk ad ws H locs ls _ a1 a2 a3 a4 a5 a6 ⟨⟨_, rfl, ?_⟩, a9⟩)
      by_cases hlt : y < x
      · have := Int32.lt_iff_toInt_lt.mp hlt
        rw [if_pos hlt]; exact rx_has_mn hx hy (by omega) (Int.le_refl _) (Or.inr rfl)
      · have : x.toInt ≤ y.toInt := Int.not_lt.mp (fun z => hlt (Int32.lt_iff_toInt_lt.mpr z))
        rw [if_neg hlt]; exact rx_has_mn hx hy (Int.le_refl _) this (Or.inl rfl)
  have i1 : ∀ (st1 : List rx_V) (b : Int × Int) (r : List rx_V), st1 = .inl b :: r → rx_cats r ≤ 9 → K.1 = 22 → k (.inl (rx_ab b) :: r) = some r0 → rx_Go p l e R s m args below meth c Q D A B sa ad0 mt pc h L st1 cells slots := by
    intro st1 b r e hc hK hk
    subst e
    intro ad ws H locs ls vs a1 a2 a3 a4 a5 a6 a7
    obtain ⟨v1, vs, rfl, ⟨y, rfl, hy⟩, a9⟩ := rx_S_cons a7
    have e := rx_S_cats a9
    obtain ⟨f1, f2, f3, f4⟩ := hma (by rw [hK]; decide)
    have hK' : K.1 = 22 := hK
    rw [hK'] at f4
    obtain ⟨w1, w2, w3⟩ := f4
    obtain ⟨hcs, kk⟩ := kk _ hk
    exact va_mabs C.1 C.2.1 (hsz a6) C.2.2.2.1 (C.word w1) (C.word w2) (C.word f3) (C.word w3) (by rw [hRm.1]; exact f1) (by rw [e, hRm.2]; omega) hcs.1 hcs.2 hd (kk ad ws H locs ls _ a1 a2 a3 a4 a5 a6 ⟨⟨_, rfl, rx_has_ab hy⟩, a9⟩)
  have iL : ∀ (st1 : List rx_V) (a b : Int × Int) (r : List rx_V), st1 = .inr (.inl b) :: .inr (.inl a) :: r → Nat.ble (rx_cats r) 8 = true → (K.1 = 23 ∧ k (.inr (.inl (rx_mx a b)) :: r) = some r0) ∨ (K.1 = 24 ∧ k (.inr (.inl (rx_mn a b)) :: r) = some r0) → rx_Go p l e R s m args below meth c Q D A B sa ad0 mt pc h L st1 cells slots := by
    intro st1 a b r e hc hk
    subst e
    have hc := Nat.le_of_ble_eq_true hc
    intro ad ws H locs ls vs a1 a2 a3 a4 a5 a6 a7
    obtain ⟨v1, v2, rfl, ⟨y, rfl, hy⟩, a8⟩ := rx_S_cons a7
    obtain ⟨v3, vs, rfl, ⟨x, rfl, hx⟩, a9⟩ := rx_S_cons a8
    have e := rx_S_cats a9
    rcases hk with ⟨hK, hk⟩ | ⟨hK, hk⟩
    · obtain ⟨f1, f2, f3, f4⟩ := hma (by rw [hK]; decide)
      have hK' : K.1 = 23 := hK
      rw [hK'] at f4
      obtain ⟨w1, w2, w3⟩ := f4
      obtain ⟨hcs, kk⟩ := kk _ hk
      refine va_mmax_long C.1 C.2.1 (hsz a6) C.2.2.2.1 (C.word w1) (C.word w2) (C.word f3) (C.word w3) (by rw [hRm.1]; exact f1) (by rw [e, hRm.2]; omega) hcs.1 hcs.2 hd (kk ad ws H locs ls _ a1 a2 a3 a4 a5 a6 ⟨⟨_, rfl, ?_⟩, a9⟩)
      by_cases hlt : y < x
      · have := Int64.lt_iff_toInt_lt.mp hlt
        rw [if_pos hlt]; exact rx_has_mx hx hy (Int.le_refl _) (by omega) (Or.inl rfl)
      · have : x.toInt ≤ y.toInt := Int.not_lt.mp (fun z => hlt (Int64.lt_iff_toInt_lt.mpr z))
        rw [if_neg hlt]; exact rx_has_mx hx hy this (Int.le_refl _) (Or.inr rfl)
    · obtain ⟨f1, f2, f3, f4⟩ := hma (by rw [hK]; decide)
      have hK' : K.1 = 24 := hK
      rw [hK'] at f4
      obtain ⟨w1, w2, w3⟩ := f4
      obtain ⟨hcs, kk⟩ := kk _ hk
      refine va_mmin_long C.1 C.2.1 (hsz a6) C.2.2.2.1 (C.word w1) (C.word w2) (C.word f3) (C.word w3) (by rw [hRm.1]; exact f1) (by rw [e, hRm.2]; omega) hcs.1 hcs.2 hd (kk ad ws H locs ls _ a1 a2 a3 a4 a5 a6 ⟨⟨_, rfl, ?_⟩, a9⟩)
      by_cases hlt : y < x
      · have := Int64.lt_iff_toInt_lt.mp hlt
        rw [if_pos hlt]; exact rx_has_mn hx hy (by omega) (Int.le_refl _) (Or.inr rfl)
      · have : x.toInt ≤ y.toInt := Int.not_lt.mp (fun z => hlt (Int64.lt_iff_toInt_lt.mpr z))
        rw [if_neg hlt]; exact rx_has_mn hx hy (Int.le_refl _) this (Or.inl rfl)
  unfold rx_math at hs
  split at hs
  · rename_i b a r
    cases hc : Nat.ble (rx_cats r) 8 with
    | false => rw [hc] at hs; cases hs
    | true =>
      rw [hc] at hs
      simp only [cond_true, rx_pI_eq] at hs
      cases h1 : (K.1 == 20) with
      | true => rw [h1] at hs; exact i2 _ a b r rfl hc (Or.inl ⟨by simpa using h1, hs⟩)
      | false =>
        rw [h1] at hs
        simp only [cond_false] at hs
        cases h2 : (K.1 == 21) with
        | true => rw [h2] at hs; exact i2 _ a b r rfl hc (Or.inr ⟨by simpa using h2, hs⟩)
        | false =>
          rw [h2] at hs
          simp only [cond_false] at hs
          cases h3 : (K.1 == 22) with
          | true =>
            rw [h3] at hs
            exact i1 _ b (.inl a :: r) rfl (by have := Nat.le_of_ble_eq_true hc; simp only [rx_cats, List.map_cons, List.sum_cons, rx_cat] at this ⊢; omega) (by simpa using h3) hs
          | false => rw [h3] at hs; cases hs
  · rename_i b a r
    cases hc : Nat.ble (rx_cats r) 8 with
    | false => rw [hc] at hs; cases hs
    | true =>
      rw [hc] at hs
      simp only [cond_true, rx_pL_eq] at hs
      cases h1 : (K.1 == 23) with
      | true => rw [h1] at hs; exact iL _ a b r rfl hc (Or.inl ⟨by simpa using h1, hs⟩)
      | false =>
        rw [h1] at hs
        simp only [cond_false] at hs
        cases h2 : (K.1 == 24) with
        | true => rw [h2] at hs; exact iL _ a b r rfl hc (Or.inr ⟨by simpa using h2, hs⟩)
        | false => rw [h2] at hs; cases hs
  · rename_i b r _
    cases hc : (Nat.ble (rx_cats r) 8 && (K.1 == 22)) with
    | false => rw [hc] at hs; cases hs
    | true =>
      rw [hc] at hs
      simp only [cond_true, rx_pI_eq] at hs
      rw [Bool.and_eq_true] at hc
      exact i1 _ b r rfl (by have := Nat.le_of_ble_eq_true hc.1; omega) (by simpa using hc.2) hs
  · cases hs
end OPS
end
section
/-! ALL INSTRUCTIONS IN ONE ROW -/
theorem rx_bif {α : Type} {b : Bool} {x : Option α} {r : α} (h : (bif b then x else none) = some r) : b = true ∧ x = some r := by
  cases b with
  | true => exact ⟨rfl, h⟩
  | false => cases h
theorem rx_bif2 {α : Type} {b : Bool} {x y : Option α} {r : α} (h : (bif b then x else y) = some r) : (b = true ∧ x = some r) ∨ (b = false ∧ y = some r) := by
  cases b with
  | true => exact Or.inl ⟨rfl, h⟩
  | false => exact Or.inr ⟨rfl, h⟩
theorem rx_and2 {a b : Bool} (h : (a && b) = true) : a = true ∧ b = true := by rwa [Bool.and_eq_true] at h
theorem rx_bin_some {β : Type} {st : List rx_V} {f : Int × Int → Int × Int → Int × Int} {k : List rx_V → Option β} {r0 : β} (h : rx_bin st f k = some r0) : ∃ a b r, st = .inl b :: .inl a :: r ∧ k (.inl (f a b) :: r) = some r0 := by
  unfold rx_bin at h
  split at h
  · rename_i b a r
    rw [rx_pI_eq] at h
    exact ⟨a, b, r, rfl, h⟩
  · cases h
theorem rx_binL_some {β : Type} {st : List rx_V} {f : Int × Int → Int × Int → Int × Int} {k : List rx_V → Option β} {r0 : β} (h : rx_binL st f k = some r0) : ∃ a b r, st = .inr (.inl b) :: .inr (.inl a) :: r ∧ k (.inr (.inl (f a b)) :: r) = some r0 := by
  unfold rx_binL at h
  split at h
  · rename_i b a r
    rw [rx_pL_eq] at h
    exact ⟨a, b, r, rfl, h⟩
  · cases h
theorem rx_binD_some {β : Type} {st : List rx_V} {f : Int × Int → Int × Int → Int × Int} {k : List rx_V → Option β} {r0 : β} (h : rx_binD st f k = some r0) : ∃ a b r, st = .inl b :: .inl a :: r ∧ 1 ≤ b.1 ∧ k (.inl (f a b) :: r) = some r0 := by
  unfold rx_binD at h
  split at h
  · rename_i b a r
    obtain ⟨h1, h⟩ := rx_bif h
    rw [rx_pI_eq] at h
    exact ⟨a, b, r, rfl, rx_le_t h1, h⟩
  · cases h
theorem rx_ldI_some {β : Type} {L : rx_F} {i : Nat} {k : rx_V → Option β} {r0 : β} (h : rx_ldI L i k = some r0) : ∃ v, L[i]? = some (some v) ∧ rx_isI v = true ∧ k v = some r0 := by
  obtain ⟨o, h1, h2⟩ := rx_get_some h
  split at h2
  · exact ⟨_, h1, rfl, h2⟩
  · obtain ⟨h3, h2⟩ := rx_bif h2
    exact ⟨_, h1, h3, h2⟩
  · cases h2
theorem rx_ldL_some {β : Type} {L : rx_F} {i : Nat} {k : rx_V → Option β} {r0 : β} (h : rx_ldL L i k = some r0) : ∃ q, L[i]? = some (some (.inr (.inl q))) ∧ k (.inr (.inl q)) = some r0 := by
  obtain ⟨o, h1, h2⟩ := rx_get_some h
  split at h2
  · exact ⟨_, h1, h2⟩
  · cases h2
theorem rx_ldA_some {β : Type} {L : rx_F} {i : Nat} {k : rx_V → Option β} {r0 : β} (h : rx_ldA L i k = some r0) : ∃ q, L[i]? = some (some (.inr (.inr q))) ∧ rx_isr q = true ∧ k (.inr (.inr q)) = some r0 := by
  obtain ⟨o, h1, h2⟩ := rx_get_some h
  split at h2
  · obtain ⟨h3, h2⟩ := rx_bif h2
    exact ⟨_, h1, h3, h2⟩
  · cases h2
theorem rx_stI_some {β : Type} {L : rx_F} {i : Nat} {st : List rx_V} {k : rx_F → List rx_V → Option β} {r0 : β} (h : rx_stI L i st k = some r0) : ∃ q r, st = .inl q :: r ∧ rx_pv L i = true ∧ i < L.length ∧ k (L.set i (some (.inl q))) r = some r0 := by
  unfold rx_stI at h
  split at h
  · obtain ⟨h1, h⟩ := rx_bif h
    obtain ⟨h2, h⟩ := rx_set_some h
    exact ⟨_, _, rfl, h1, h2, h⟩
  · cases h
theorem rx_stA_some {β : Type} {L : rx_F} {i : Nat} {st : List rx_V} {k : rx_F → List rx_V → Option β} {r0 : β} (h : rx_stA L i st k = some r0) : ∃ q r, st = .inr (.inr q) :: r ∧ rx_isr q = true ∧ rx_pv L i = true ∧ i < L.length ∧ k (L.set i (some (.inr (.inr q)))) r = some r0 := by
  unfold rx_stA at h
  split at h
  · obtain ⟨h1, h⟩ := rx_bif h
    obtain ⟨h0, h1⟩ := rx_and2 h1
    obtain ⟨h2, h⟩ := rx_set_some h
    exact ⟨_, _, rfl, h0, h1, h2, h⟩
  · cases h
theorem rx_stL_some {β : Type} {L : rx_F} {i : Nat} {st : List rx_V} {k : rx_F → List rx_V → Option β} {r0 : β} (h : rx_stL L i st k = some r0) : ∃ q r, st = .inr (.inl q) :: r ∧ rx_pv L i = true ∧ i + 1 < L.length ∧ k ((L.set i (some (.inr (.inl q)))).set (i + 1) none) r = some r0 := by
  unfold rx_stL at h
  split at h
  · obtain ⟨h1, h⟩ := rx_bif h
    obtain ⟨h2, h⟩ := rx_set_some h
    obtain ⟨h3, h⟩ := rx_set_some h
    rw [List.length_set] at h3
    exact ⟨_, _, rfl, h1, h3, h⟩
  · cases h
theorem rx_at_some {α β : Type} {l : List α} {q : Int × Int} {k : α → Option β} {r0 : β} (h : rx_at l q k = some r0) : rx_one q = true ∧ rx_le 0 q.1 = true ∧ ∃ v, l[q.1.toNat]? = some v ∧ k v = some r0 := by
  obtain ⟨h1, h⟩ := rx_bif h
  obtain ⟨h2, h3⟩ := rx_and2 h1
  exact ⟨h2, h3, rx_get_some h⟩
theorem rx_put_some {α β : Type} {l : List α} {q : Int × Int} {x : α} {k : List α → Option β} {r0 : β} (h : rx_put l q x k = some r0) : rx_one q = true ∧ rx_le 0 q.1 = true ∧ q.1.toNat < l.length ∧ k (l.set q.1.toNat x) = some r0 := by
  obtain ⟨h1, h⟩ := rx_bif h
  obtain ⟨h2, h3⟩ := rx_and2 h1
  exact ⟨h2, h3, rx_set_some h⟩
theorem rx_beq {a b : Nat} (h : (a == b) = true) : a = b := by simpa using h
theorem rx_dk3 : ∀ (i : Nat) (ks : List Nat), rx_dk[i]? = some ks → ∀ x ∈ ks, x ≤ 3 := by
  intro i ks h
  have hm := List.mem_of_getElem? h
  have : ∀ ks ∈ rx_dk, ∀ x ∈ ks, x ≤ 3 := by decide +kernel
  exact this ks hm
def rx_dfs (i : Nat) : List Nat := match rx_dk[i]? with
  | some ks => ks
  | none => []
set_option maxHeartbeats 4000000 in
theorem rx_step_ok {p : Program} {l : Launch} {e : Env} {R : Room} {s : State} {m : MethodId} {args : Array Value} {below : List Frame} {meth : Method} {c : Code} {Q : State → Prop} {D : va_G} {A B : Nat → Prop} {wr : Bool} {sa ad0 : List Nat} {ro : List (List rx_V)} {mt : rx_MT} {xM : List rx_MT} {pc : Nat} {row : rx_Row} {h : rx_H} {L : rx_F} {st : List rx_V} {cells slots : Nat} {β : Type} {r0 : β} {k : Nat → rx_H → rx_F → List rx_V → Nat → Nat → Option β} {call : Nat → List rx_V → List rx_V → Option β} {ret : Option rx_V → Option β} {thr : Nat → Option β}
    (C : rx_Cx p s m args meth c D A B wr sa ro mt) (ok : rx_Ok xM mt pc row) (hob : Jvm.Cond.instanceMethod Lib.objectInit ∈ rx_bw ∧ Jvm.Cond.code Lib.objectInit ⟨#[0xb1]⟩ 1 none ∈ rx_bw) (hRm : R.frames = mt.2.2.2.2.2.2.1 ∧ R.locals = mt.2.2.2.2.2.2.2.1)
    (hk : ∀ pc' h' L' st' dc ds, k pc' h' L' st' dc ds = some r0 → (cells + dc ≤ R.cells ∧ slots + ds ≤ R.slots) ∧ rx_Go p l e R s m args below meth c Q D A B sa ad0 mt pc' h' L' st' (cells + dc) (slots + ds))
    (hV : ∀ i a as r ci fs, row.1 = .invokevirtual i → row.2.2.2.1 = 5 → call row.2.2.2.2.1 (.inr (.inr (.inl (some a))) :: as) r = some r0 → st = (.inr (.inr (.inl (some a))) :: as).reverse ++ r → as.length + 1 = row.2.2.2.2.2.1 → rx_cats r ≤ 8 → h[a]? = some (.inl (ci, fs)) → ci = row.2.2.2.2.2.2.toNat → rx_Go p l e R s m args below meth c Q D A B sa ad0 mt pc h L st cells slots)
    (hS : ∀ i as r, row.1 = .invokestatic i → (row.2.2.2.1 = 6 ∨ row.2.2.2.1 = 8 ∨ row.2.2.2.1 = 16) → call row.2.2.2.2.1 as r = some r0 → st = as.reverse ++ r → as.length = row.2.2.2.2.2.1 → rx_cats r ≤ 8 → rx_Go p l e R s m args below meth c Q D A B sa ad0 mt pc h L st cells slots)
    (hI : ∀ i a as r, row.1 = .invokespecial i → (row.2.2.2.1 = 7 ∨ row.2.2.2.1 = 9) → call row.2.2.2.2.1 (.inr (.inr (.inl (some a))) :: as) r = some r0 → st = (.inr (.inr (.inl (some a))) :: as).reverse ++ r → as.length + 1 = row.2.2.2.2.2.1 → rx_cats r ≤ 8 → rx_Go p l e R s m args below meth c Q D A B sa ad0 mt pc h L st cells slots)
    (hri : ∀ q, row.1 = .ireturn → ret (some (.inl q)) = some r0 → st = [.inl q] → (row.2.2.2.2.1 = 0 ∨ rx_bool q = true) → rx_Go p l e R s m args below meth c Q D A B sa ad0 mt pc h L st cells slots)
    (hrl : ∀ q, row.1 = .lreturn → ret (some (.inr (.inl q))) = some r0 → st = [.inr (.inl q)] → rx_Go p l e R s m args below meth c Q D A B sa ad0 mt pc h L st cells slots)
    (hra : ∀ q, row.1 = .areturn → ret (some (.inr (.inr (.inl q)))) = some r0 → st = [.inr (.inr (.inl q))] → rx_Go p l e R s m args below meth c Q D A B sa ad0 mt pc h L st cells slots)
    (hrv : row.1 = .return_ → ret none = some r0 → st = [] → rx_Go p l e R s m args below meth c Q D A B sa ad0 mt pc h L st cells slots)
    (htr : ∀ i, row.1 = .new i → row.2.2.2.1 = 15 → rx_cats st ≤ 8 → thr row.2.2.2.2.1 = some r0 → rx_Go p l e R s m args below meth c Q D A B sa ad0 mt pc h L st cells slots)
    (hs : rx_step wr ro rx_dfs row pc h L st k call ret thr = some r0) : rx_Go p l e R s m args below meth c Q D A B sa ad0 mt pc h L st cells slots := by
  obtain ⟨ins, np, tg, K⟩ := row
  have g0 : ∀ {pc' h' L' st'}, k pc' h' L' st' 0 0 = some r0 → rx_Go p l e R s m args below meth c Q D A B sa ad0 mt pc' h' L' st' cells slots := fun q => (hk _ _ _ _ _ _ q).2
  cases ins with
  | iconst n => obtain ⟨h1, hs⟩ := rx_bif hs; obtain ⟨h1, h2⟩ := rx_and2 h1; rw [rx_pI_eq] at hs; exact rx_o_iconst C ok (rx_le_t h1) (rx_le_t h2) (g0 hs)
  | bipush n => obtain ⟨h1, hs⟩ := rx_bif hs; obtain ⟨h1, h2⟩ := rx_and2 h1; rw [rx_pI_eq] at hs; exact rx_o_bipush C ok (rx_le_t h1) (rx_le_t h2) (g0 hs)
  | sipush n => obtain ⟨h1, hs⟩ := rx_bif hs; obtain ⟨h1, h2⟩ := rx_and2 h1; rw [rx_pI_eq] at hs; exact rx_o_sipush C ok (rx_le_t h1) (rx_le_t h2) (g0 hs)
  | lconst n => simp only [rx_step, rx_pL_eq] at hs; exact rx_o_lconst C ok (g0 hs)
  | aconst_null => exact rx_o_null C ok (g0 hs)
  | ldc i => obtain ⟨h1, hs⟩ := rx_bif hs; rw [rx_pI_eq] at hs; exact rx_o_ldc C ok (rx_beq h1) (g0 hs)
  | ldc_w i => obtain ⟨h1, hs⟩ := rx_bif hs; rw [rx_pI_eq] at hs; exact rx_o_ldcw C ok (rx_beq h1) (g0 hs)
  | ldc2_w i => obtain ⟨h1, hs⟩ := rx_bif hs; rw [rx_pL_eq] at hs; exact rx_o_ldc2 C ok (rx_beq h1) (g0 hs)
  | iload_n i => simp only [rx_step] at hs; obtain ⟨q, h1, h2, hs⟩ := rx_ldI_some hs; exact rx_o_iload_n C ok h2 h1 (g0 hs)
  | iload i => simp only [rx_step] at hs; obtain ⟨q, h1, h2, hs⟩ := rx_ldI_some hs; exact rx_o_iload C ok h2 h1 (g0 hs)
  | lload_n i => simp only [rx_step] at hs; obtain ⟨q, h1, hs⟩ := rx_ldL_some hs; exact rx_o_lload_n C ok h1 (g0 hs)
  | lload i => simp only [rx_step] at hs; obtain ⟨q, h1, hs⟩ := rx_ldL_some hs; exact rx_o_lload C ok h1 (g0 hs)
  | aload_n i => simp only [rx_step] at hs; obtain ⟨q, h1, h2, hs⟩ := rx_ldA_some hs; exact rx_o_aload_n C ok h2 h1 (g0 hs)
  | aload i => simp only [rx_step] at hs; obtain ⟨q, h1, h2, hs⟩ := rx_ldA_some hs; exact rx_o_aload C ok h2 h1 (g0 hs)
  | istore_n i => obtain ⟨q, r, rfl, h1, h2, hs⟩ := rx_stI_some hs; exact rx_o_istore_n C ok h1 h2 (g0 hs)
  | istore i => obtain ⟨q, r, rfl, h1, h2, hs⟩ := rx_stI_some hs; exact rx_o_istore C ok h1 h2 (g0 hs)
  | lstore_n i => obtain ⟨q, r, rfl, h1, h2, hs⟩ := rx_stL_some hs; exact rx_o_lstore_n C ok h1 h2 (g0 hs)
  | lstore i => obtain ⟨q, r, rfl, h1, h2, hs⟩ := rx_stL_some hs; exact rx_o_lstore C ok h1 h2 (g0 hs)
  | astore_n i => obtain ⟨q, r, rfl, h0, h1, h2, hs⟩ := rx_stA_some hs; exact rx_o_astore_n C ok h0 h1 h2 (g0 hs)
  | astore i => obtain ⟨q, r, rfl, h0, h1, h2, hs⟩ := rx_stA_some hs; exact rx_o_astore C ok h0 h1 h2 (g0 hs)
  | iinc i n =>
    obtain ⟨h1, hs⟩ := rx_bif hs
    obtain ⟨h1, h3⟩ := rx_and2 h1
    obtain ⟨h1, h2⟩ := rx_and2 h1
    obtain ⟨o, h4, hs⟩ := rx_get_some hs
    split at hs
    · rw [rx_pI_eq] at hs
      obtain ⟨h5, hs⟩ := rx_set_some hs
      exact rx_o_iinc C ok (rx_le_t h1) (rx_le_t h2) h3 h4 (g0 hs)
    · cases hs
  | iadd => simp only [rx_step] at hs; obtain ⟨a, b, r, rfl, ht⟩ := rx_bin_some hs; exact rx_o_iadd C ok (g0 ht)
  | isub => simp only [rx_step] at hs; obtain ⟨a, b, r, rfl, ht⟩ := rx_bin_some hs; exact rx_o_isub C ok (g0 ht)
  | imul => simp only [rx_step] at hs; obtain ⟨a, b, r, rfl, ht⟩ := rx_bin_some hs; exact rx_o_imul C ok (g0 ht)
  | iand =>
    simp only [rx_step] at hs
    split at hs
    · rcases rx_bif2 hs with ⟨h1, hs⟩ | ⟨-, hs⟩
      · obtain ⟨h1, h2⟩ := rx_and2 h1
        obtain ⟨h1, h3⟩ := rx_and2 h1
        obtain ⟨h3, h4⟩ := rx_and2 h3
        obtain ⟨h2, h5⟩ := rx_and2 h2
        rw [rx_fN_eq] at hs
        exact rx_o_and3 C ok h1 (rx_le_t h3) (rx_le_t h4) (Nat.le_of_ble_eq_true h2) (Nat.le_of_ble_eq_true h5) (g0 hs)
      · obtain ⟨h1, hs⟩ := rx_bif hs
        obtain ⟨h1, h2⟩ := rx_and2 h1
        obtain ⟨h1, h3⟩ := rx_and2 h1
        obtain ⟨h3, h4⟩ := rx_and2 h3
        obtain ⟨h2, h5⟩ := rx_and2 h2
        rw [rx_fN_eq] at hs
        exact rx_o_and31 C ok h1 (rx_le_t h3) (rx_le_t h4) (Nat.le_of_ble_eq_true h2) (Nat.le_of_ble_eq_true h5) (g0 hs)
    · obtain ⟨a, b, r, rfl, ht⟩ := rx_bin_some hs; exact rx_o_iand C ok (g0 ht)
  | ior => simp only [rx_step] at hs; obtain ⟨a, b, r, rfl, ht⟩ := rx_bin_some hs; exact rx_o_ior C ok (g0 ht)
  | ixor => simp only [rx_step] at hs; obtain ⟨a, b, r, rfl, ht⟩ := rx_bin_some hs; exact rx_o_ixor C ok (g0 ht)
  | ishl => simp only [rx_step] at hs; obtain ⟨a, b, r, rfl, ht⟩ := rx_bin_some hs; exact rx_o_ishl C ok (g0 ht)
  | ishr =>
    simp only [rx_step] at hs
    split at hs
    · obtain ⟨h1, hs⟩ := rx_bif hs
      obtain ⟨h1, h2⟩ := rx_and2 h1
      obtain ⟨h1, h3⟩ := rx_and2 h1
      obtain ⟨h3, h4⟩ := rx_and2 h3
      obtain ⟨h2, h5⟩ := rx_and2 h2
      obtain ⟨h5, h6⟩ := rx_and2 h5
      rw [rx_fN_eq] at hs
      exact rx_o_shr2 C ok h1 (rx_le_t h3) (rx_le_t h4) (Nat.eq_of_beq_eq_true h2) (Nat.le_of_ble_eq_true h5) (Nat.le_of_ble_eq_true h6) (g0 hs)
    · obtain ⟨a, b, r, rfl, ht⟩ := rx_bin_some hs; exact rx_o_ishr C ok (g0 ht)
  | idiv => simp only [rx_step] at hs; obtain ⟨a, b, r, rfl, h1, ht⟩ := rx_binD_some hs; exact rx_o_idiv C ok h1 (g0 ht)
  | irem => simp only [rx_step] at hs; obtain ⟨a, b, r, rfl, h1, ht⟩ := rx_binD_some hs; exact rx_o_irem C ok h1 (g0 ht)
  | ladd => simp only [rx_step] at hs; obtain ⟨a, b, r, rfl, ht⟩ := rx_binL_some hs; exact rx_o_ladd C ok (g0 ht)
  | lsub => simp only [rx_step] at hs; obtain ⟨a, b, r, rfl, ht⟩ := rx_binL_some hs; exact rx_o_lsub C ok (g0 ht)
  | lmul => simp only [rx_step] at hs; obtain ⟨a, b, r, rfl, ht⟩ := rx_binL_some hs; exact rx_o_lmul C ok (g0 ht)
  | ineg =>
    simp only [rx_step] at hs
    split at hs
    · rw [rx_pI_eq] at hs; exact rx_o_ineg C ok (g0 hs)
    · cases hs
  | ldiv =>
    simp only [rx_step] at hs
    split at hs
    · obtain ⟨h1, hs⟩ := rx_bif hs
      rw [rx_pL_eq] at hs; exact rx_o_ldiv C ok (rx_le_t h1) (g0 hs)
    · cases hs
  | lcmp =>
    simp only [rx_step] at hs
    split at hs
    · rw [rx_pI_eq] at hs; exact rx_o_lcmp C ok (g0 hs)
    · cases hs
  | i2l =>
    simp only [rx_step] at hs
    split at hs
    · exact rx_o_i2l C ok (g0 hs)
    · cases hs
  | l2i =>
    simp only [rx_step] at hs
    split at hs
    · rw [rx_pI_eq] at hs; exact rx_o_l2i C ok (g0 hs)
    · cases hs
  | goto o => exact rx_o_goto C ok (g0 hs)
  | ifCond cd o =>
    simp only [rx_step] at hs
    split at hs
    · rename_i a r
      cases hc : rx_cmp cd a (0, 0) with
      | none => rw [hc] at hs; cases hs
      | some t =>
        rw [hc] at hs
        exact rx_o_if C ok hc (fun e => by subst e; exact g0 hs) (fun e => by subst e; exact g0 hs)
    · cases hs
  | if_icmp cd o =>
    simp only [rx_step] at hs
    split at hs
    · rename_i b a r
      cases hc : rx_cmp cd a b with
      | none => rw [hc] at hs; cases hs
      | some t =>
        rw [hc] at hs
        exact rx_o_icmp C ok hc (fun e => by subst e; exact g0 hs) (fun e => by subst e; exact g0 hs)
    · cases hs
  | ifnull o =>
    simp only [rx_step] at hs
    split at hs
    · exact rx_o_ifnull0 C ok (g0 hs)
    · exact rx_o_ifnull1 C ok (g0 hs)
    · cases hs
  | ifnonnull o =>
    simp only [rx_step] at hs
    split at hs
    · exact rx_o_ifnonnull0 C ok (g0 hs)
    · exact rx_o_ifnonnull1 C ok (g0 hs)
    · cases hs
  | tableswitch d lo hi offs =>
    simp only [rx_step] at hs
    split at hs
    · split at hs
      · rename_i o ho
        obtain ⟨h1, hs⟩ := rx_bif hs
        exact rx_o_switch C ok ho (rx_le_t h1) (g0 hs)
      · cases hs
    · cases hs
  | dup =>
    simp only [rx_step] at hs
    split at hs
    · obtain ⟨h1, hs⟩ := rx_bif hs
      exact rx_o_dup C ok (rx_beq h1) (g0 hs)
    · cases hs
  | dup2 =>
    simp only [rx_step] at hs
    split at hs
    · obtain ⟨h1, hs⟩ := rx_bif hs
      obtain ⟨h1, h2⟩ := rx_and2 h1
      exact rx_o_dup2 C ok (rx_beq h1) (rx_beq h2) (g0 hs)
    · cases hs
  | pop =>
    simp only [rx_step] at hs
    split at hs
    · obtain ⟨h1, hs⟩ := rx_bif hs
      exact rx_o_pop C ok (rx_beq h1) (g0 hs)
    · cases hs
  | getfield i =>
    simp only [rx_step] at hs
    split at hs
    · obtain ⟨h1, hs⟩ := rx_bif hs
      obtain ⟨cc, h2, hs⟩ := rx_get_some hs
      split at hs
      · obtain ⟨h3, hs⟩ := rx_bif hs
        obtain ⟨v, h4, hs⟩ := rx_get_some hs
        exact rx_o_getfield C ok (by simpa using h1) h2 (rx_beq h3) h4 (g0 hs)
      · cases hs
    · cases hs
  | putfield i =>
    simp only [rx_step] at hs
    split at hs
    · obtain ⟨h1, hs⟩ := rx_bif hs
      obtain ⟨hwr, h1⟩ := rx_and2 h1
      obtain ⟨h1, h5⟩ := rx_and2 h1
      obtain ⟨cc, h2, hs⟩ := rx_get_some hs
      split at hs
      · obtain ⟨h3, hs⟩ := rx_bif hs
        obtain ⟨h4, hs⟩ := rx_set_some hs
        obtain ⟨h6, hs⟩ := rx_set_some hs
        exact rx_o_putfield C hwr ok (by simpa using h1) h5 h2 (rx_beq h3) h4 (g0 hs)
      · cases hs
    · cases hs
  | getstatic i => obtain ⟨h1, hs⟩ := rx_bif hs; exact rx_o_getstatic C ok (rx_beq h1) (g0 hs)
  | iaload =>
    simp only [rx_step] at hs
    split at hs
    · obtain ⟨cc, h2, hs⟩ := rx_get_some hs
      split at hs
      · obtain ⟨h3, hs⟩ := rx_bif hs
        obtain ⟨h4, h5, v, h6, hs⟩ := rx_at_some hs
        exact rx_o_iaload C ok h2 (rx_beq h3) h4 h5 h6 (g0 hs)
      · cases hs
    · obtain ⟨h0, hs⟩ := rx_bif hs
      obtain ⟨l0, h2, hs⟩ := rx_get_some hs
      obtain ⟨h4, h5, v, h6, hs⟩ := rx_at_some hs
      exact rx_o_rload C ok (Nat.le_of_ble_eq_true h0) h2 h4 h5 h6 (g0 hs)
    · cases hs
  | baload =>
    simp only [rx_step] at hs
    split at hs
    · obtain ⟨cc, h2, hs⟩ := rx_get_some hs
      split at hs
      · obtain ⟨h3, hs⟩ := rx_bif hs
        obtain ⟨h4, h5, v, h6, hs⟩ := rx_at_some hs
        exact rx_o_baload C ok h2 (rx_beq h3) h4 h5 h6 (g0 hs)
      · cases hs
    · cases hs
  | laload =>
    simp only [rx_step] at hs
    split at hs
    · obtain ⟨cc, h2, hs⟩ := rx_get_some hs
      split at hs
      · obtain ⟨h3, hs⟩ := rx_bif hs
        obtain ⟨h4, h5, v, h6, hs⟩ := rx_at_some hs
        exact rx_o_laload C ok h2 (rx_beq h3) h4 h5 h6 (g0 hs)
      · cases hs
    · cases hs
  | aaload =>
    simp only [rx_step] at hs
    split at hs
    · obtain ⟨cc, h2, hs⟩ := rx_get_some hs
      split at hs
      · obtain ⟨h3, hs⟩ := rx_bif hs
        obtain ⟨h4, h5, v, h6, hs⟩ := rx_at_some hs
        exact rx_o_aaload C ok h2 (Nat.le_of_ble_eq_true h3) h4 h5 h6 (g0 hs)
      · cases hs
    · cases hs
  | iastore =>
    simp only [rx_step] at hs
    split at hs
    · obtain ⟨cc, h2, hs⟩ := rx_get_some hs
      split at hs
      · obtain ⟨h3, hs⟩ := rx_bif hs
        obtain ⟨hwr, h3⟩ := rx_and2 h3
        obtain ⟨h4, h5, h6, hs⟩ := rx_put_some hs
        obtain ⟨h7, hs⟩ := rx_set_some hs
        exact rx_o_iastore C hwr ok h2 (rx_beq h3) h4 h5 h6 (g0 hs)
      · cases hs
    · cases hs
  | bastore =>
    simp only [rx_step] at hs
    split at hs
    · obtain ⟨h8, hs⟩ := rx_bif hs
      obtain ⟨cc, h2, hs⟩ := rx_get_some hs
      split at hs
      · obtain ⟨h3, hs⟩ := rx_bif hs
        obtain ⟨hwr, h3⟩ := rx_and2 h3
        obtain ⟨h4, h5, h6, hs⟩ := rx_put_some hs
        obtain ⟨h7, hs⟩ := rx_set_some hs
        exact rx_o_bastore C hwr ok h8 h2 (rx_beq h3) h4 h5 h6 (g0 hs)
      · cases hs
    · cases hs
  | lastore =>
    simp only [rx_step] at hs
    split at hs
    · obtain ⟨cc, h2, hs⟩ := rx_get_some hs
      split at hs
      · obtain ⟨h3, hs⟩ := rx_bif hs
        obtain ⟨hwr, h3⟩ := rx_and2 h3
        obtain ⟨h4, h5, h6, hs⟩ := rx_put_some hs
        obtain ⟨h7, hs⟩ := rx_set_some hs
        exact rx_o_lastore C hwr ok h2 (rx_beq h3) h4 h5 h6 (g0 hs)
      · cases hs
    · cases hs
  | aastore =>
    simp only [rx_step] at hs
    split at hs
    · obtain ⟨dd, h1, hs⟩ := rx_get_some hs
      obtain ⟨cc, h2, hs⟩ := rx_get_some hs
      split at hs
      · obtain ⟨h3, hs⟩ := rx_bif hs
        obtain ⟨hwr, h3⟩ := rx_and2 h3
        obtain ⟨h4, h5, h6, hs⟩ := rx_put_some hs
        obtain ⟨h7, hs⟩ := rx_set_some hs
        exact rx_o_aastore C hwr ok h1 h2 (rx_beq h3) h4 h5 h6 (g0 hs)
      · cases hs
    · cases hs
  | arraylength =>
    simp only [rx_step] at hs
    split at hs
    · obtain ⟨h0, hs⟩ := rx_bif hs
      obtain ⟨l0, h2, hs⟩ := rx_get_some hs
      obtain ⟨h3, hs⟩ := rx_bif hs
      rw [rx_pI_eq] at hs
      exact rx_o_alen C ok (Nat.le_of_ble_eq_true h0) h2 (Nat.le_of_ble_eq_true h3) (g0 hs)
    · cases hs
  | new i =>
    simp only [rx_step] at hs
    cases h9 : (wr && (K.1 == 11)) with
    | false =>
      rw [h9] at hs
      simp only [cond_false] at hs
      obtain ⟨h1, hs⟩ := rx_bif hs
      obtain ⟨h1, h2⟩ := rx_and2 h1
      exact htr i rfl (rx_beq h1) (Nat.le_of_ble_eq_true h2) hs
    | true =>
    rw [h9] at hs
    simp only [cond_true] at hs
    obtain ⟨hwr, h9⟩ := rx_and2 h9
    have h1 := rx_beq h9
    rw [rx_app_eq] at hs
    obtain ⟨q, f1, f2⟩ := ok.2.2 h1
    obtain ⟨-, -, -, -, ft, ks, -, c6, -⟩ := rx_cl_ok _ q f1
    have e : rx_dfs K.2.1 = ks := by unfold rx_dfs; rw [c6]
    obtain ⟨h2, h3⟩ := hk _ _ _ _ _ _ hs
    simp only [e] at h2 h3
    exact rx_o_new C hwr ok h1 c6 (rx_dk3 _ _ c6) h2 h3
  | newarray t =>
    simp only [rx_step] at hs
    split at hs
    · obtain ⟨h1, hs⟩ := rx_bif hs
      obtain ⟨hwr, h1⟩ := rx_and2 h1
      obtain ⟨h1, h4⟩ := rx_and2 h1
      obtain ⟨h1, h3⟩ := rx_and2 h1
      obtain ⟨h1, h2⟩ := rx_and2 h1
      rw [rx_app_eq] at hs
      obtain ⟨h5, h6⟩ := hk _ _ _ _ _ _ hs
      refine rx_o_newarray C hwr ok ?_ h1 h2 h3 h5 h6
      cases t <;> first
        | exact Or.inl ⟨rfl, rx_beq h4⟩
        | exact Or.inr (Or.inl ⟨rfl, rx_beq h4⟩)
        | exact Or.inr (Or.inr ⟨rfl, rx_beq h4⟩)
        | (cases h4; done)
    · cases hs
  | anewarray i =>
    simp only [rx_step] at hs
    split at hs
    · obtain ⟨h1, hs⟩ := rx_bif hs
      obtain ⟨hwr, h1⟩ := rx_and2 h1
      obtain ⟨h1, h4⟩ := rx_and2 h1
      obtain ⟨h1, h3⟩ := rx_and2 h1
      obtain ⟨h1, h2⟩ := rx_and2 h1
      rw [rx_app_eq] at hs
      obtain ⟨h5, h6⟩ := hk _ _ _ _ _ _ hs
      exact rx_o_anewarray C hwr ok (rx_beq h4) h1 h2 h3 h5 h6
    · cases hs
  | invokevirtual i =>
    obtain ⟨h1, hs⟩ := rx_bif hs
    obtain ⟨x, r, h2, h3, hs⟩ := rx_pop_some hs
    obtain ⟨h4, hs⟩ := rx_bif hs
    rw [List.append_nil] at hs
    split at hs
    · rename_i a as he
      obtain ⟨cc, h5, hs⟩ := rx_get_some hs
      split at hs
      · obtain ⟨h6, hs⟩ := rx_bif hs
        have e2 : x = (.inr (.inr (.inl (some a))) :: as).reverse := by rw [← he, List.reverse_reverse]
        rw [he] at hs
        exact hV i a as r _ _ rfl (rx_beq h1) hs (by rw [← e2]; exact h2) (by rw [← h3, e2, List.length_reverse]; rfl) (Nat.le_of_ble_eq_true h4) h5 (rx_beq h6)
      · cases hs
    · cases hs
  | invokestatic i =>
    simp only [rx_step] at hs
    cases h9 : (K.1 == 6 || (K.1 == 8 || K.1 == 16)) with
    | true =>
      rw [h9] at hs
      simp only [cond_true] at hs
      obtain ⟨x, r, h2, h3, hs⟩ := rx_pop_some hs
      obtain ⟨h4, hs⟩ := rx_bif hs
      rw [List.append_nil] at hs
      exact hS i x.reverse r rfl (by simpa using h9) hs (by rw [List.reverse_reverse]; exact h2) (by rw [List.length_reverse]; exact h3) (Nat.le_of_ble_eq_true h4)
    | false =>
      rw [h9] at hs
      simp only [cond_false] at hs
      exact rx_o_math (st' := []) C ok hRm hs (fun st' q => hk _ _ _ _ _ _ q)
  | invokespecial i =>
    simp only [rx_step] at hs
    cases h9 : (K.1 == 10) with
    | true =>
      rw [h9] at hs
      simp only [cond_true] at hs
      split at hs
      · obtain ⟨h4, hs⟩ := rx_bif hs
        have h9 := rx_beq h9
        obtain ⟨-, f2, f3⟩ := ok.2.2.1 h9
        exact rx_o_objinit C ok h9 (Nat.le_of_ble_eq_true h4) (by rw [hRm.1]; exact f2) (by rw [hRm.2]; exact f3) hob (g0 hs)
      · cases hs
    | false =>
      rw [h9] at hs
      simp only [cond_false] at hs
      obtain ⟨h1, hs⟩ := rx_bif hs
      obtain ⟨x, r, h2, h3, hs⟩ := rx_pop_some hs
      obtain ⟨h4, hs⟩ := rx_bif hs
      rw [List.append_nil] at hs
      split at hs
      · rename_i a as he
        have e2 : x = (.inr (.inr (.inl (some a))) :: as).reverse := by rw [← he, List.reverse_reverse]
        rw [he] at hs
        exact hI i a as r rfl (by simpa using h1) hs (by rw [← e2]; exact h2) (by rw [← h3, e2, List.length_reverse]; rfl) (Nat.le_of_ble_eq_true h4)
      · cases hs
  | ireturn =>
    simp only [rx_step] at hs
    split at hs
    · obtain ⟨h1, hs⟩ := rx_bif hs
      exact hri _ rfl hs rfl (by simpa using h1)
    · cases hs
  | lreturn =>
    simp only [rx_step] at hs
    split at hs
    · exact hrl _ rfl hs rfl
    · cases hs
  | areturn =>
    simp only [rx_step] at hs
    split at hs
    · exact hra _ rfl hs rfl
    · cases hs
  | return_ =>
    simp only [rx_step] at hs
    split at hs
    · exact hrv rfl hs rfl
    · cases hs
  | _ => cases hs
end
section
/-! whatever holds behind every way out of an instruction holds of it -/
theorem rx_math_some {β : Type} {t : Nat} {st : List rx_V} {k : List rx_V → Option β} {r0 : β} (hs : rx_math t st k = some r0) : ∃ st', k st' = some r0 := by
  unfold rx_math at hs
  split at hs
  · obtain ⟨-, hs⟩ := rx_bif hs
    simp only [rx_pI_eq] at hs
    cases h1 : (t == 20) with
    | true => rw [h1] at hs; exact ⟨_, hs⟩
    | false =>
      rw [h1] at hs
      simp only [cond_false] at hs
      cases h2 : (t == 21) with
      | true => rw [h2] at hs; exact ⟨_, hs⟩
      | false =>
        rw [h2] at hs
        simp only [cond_false] at hs
        cases h3 : (t == 22) with
        | true => rw [h3] at hs; exact ⟨_, hs⟩
        | false => rw [h3] at hs; cases hs
  · obtain ⟨-, hs⟩ := rx_bif hs
    simp only [rx_pL_eq] at hs
    cases h1 : (t == 23) with
    | true => rw [h1] at hs; exact ⟨_, hs⟩
    | false =>
      rw [h1] at hs
      simp only [cond_false] at hs
      cases h2 : (t == 24) with
      | true => rw [h2] at hs; exact ⟨_, hs⟩
      | false => rw [h2] at hs; cases hs
  · obtain ⟨-, hs⟩ := rx_bif hs
    rw [rx_pI_eq] at hs
    exact ⟨_, hs⟩
  · cases hs
set_option maxHeartbeats 4000000 in
theorem rx_step_any {wr : Bool} {ro : List (List rx_V)} {pc : Nat} {row : rx_Row} {h : rx_H} {L : rx_F} {st : List rx_V} {β : Type} {r0 : β} {k : Nat → rx_H → rx_F → List rx_V → Nat → Nat → Option β} {call : Nat → List rx_V → List rx_V → Option β} {ret : Option rx_V → Option β} {thr : Nat → Option β} {P : Prop}
    (hk : ∀ pc' h' L' st' dc ds, k pc' h' L' st' dc ds = some r0 → P) (hc : ∀ j as r, call j as r = some r0 → P) (hr : ∀ v, ret v = some r0 → P) (htr : ∀ c, thr c = some r0 → P) (hs : rx_step wr ro rx_dfs row pc h L st k call ret thr = some r0) : P := by
  obtain ⟨ins, np, tg, K⟩ := row
  cases ins with
  | iconst n => obtain ⟨h1, hs⟩ := rx_bif hs; obtain ⟨h1, h2⟩ := rx_and2 h1; rw [rx_pI_eq] at hs; exact hk _ _ _ _ _ _ hs
  | bipush n => obtain ⟨h1, hs⟩ := rx_bif hs; obtain ⟨h1, h2⟩ := rx_and2 h1; rw [rx_pI_eq] at hs; exact hk _ _ _ _ _ _ hs
  | sipush n => obtain ⟨h1, hs⟩ := rx_bif hs; obtain ⟨h1, h2⟩ := rx_and2 h1; rw [rx_pI_eq] at hs; exact hk _ _ _ _ _ _ hs
  | lconst n => simp only [rx_step, rx_pL_eq] at hs; exact hk _ _ _ _ _ _ hs
  | aconst_null => exact hk _ _ _ _ _ _ hs
  | ldc i => obtain ⟨h1, hs⟩ := rx_bif hs; rw [rx_pI_eq] at hs; exact hk _ _ _ _ _ _ hs
  | ldc_w i => obtain ⟨h1, hs⟩ := rx_bif hs; rw [rx_pI_eq] at hs; exact hk _ _ _ _ _ _ hs
  | ldc2_w i => obtain ⟨h1, hs⟩ := rx_bif hs; rw [rx_pL_eq] at hs; exact hk _ _ _ _ _ _ hs
  | iload_n i => simp only [rx_step] at hs; obtain ⟨q, h1, h2, hs⟩ := rx_ldI_some hs; exact hk _ _ _ _ _ _ hs
  | iload i => simp only [rx_step] at hs; obtain ⟨q, h1, h2, hs⟩ := rx_ldI_some hs; exact hk _ _ _ _ _ _ hs
  | lload_n i => simp only [rx_step] at hs; obtain ⟨q, h1, hs⟩ := rx_ldL_some hs; exact hk _ _ _ _ _ _ hs
  | lload i => simp only [rx_step] at hs; obtain ⟨q, h1, hs⟩ := rx_ldL_some hs; exact hk _ _ _ _ _ _ hs
  | aload_n i => simp only [rx_step] at hs; obtain ⟨q, h1, h2, hs⟩ := rx_ldA_some hs; exact hk _ _ _ _ _ _ hs
  | aload i => simp only [rx_step] at hs; obtain ⟨q, h1, h2, hs⟩ := rx_ldA_some hs; exact hk _ _ _ _ _ _ hs
  | istore_n i => obtain ⟨q, r, rfl, h1, h2, hs⟩ := rx_stI_some hs; exact hk _ _ _ _ _ _ hs
  | istore i => obtain ⟨q, r, rfl, h1, h2, hs⟩ := rx_stI_some hs; exact hk _ _ _ _ _ _ hs
  | lstore_n i => obtain ⟨q, r, rfl, h1, h2, hs⟩ := rx_stL_some hs; exact hk _ _ _ _ _ _ hs
  | lstore i => obtain ⟨q, r, rfl, h1, h2, hs⟩ := rx_stL_some hs; exact hk _ _ _ _ _ _ hs
  | astore_n i => obtain ⟨q, r, rfl, h0, h1, h2, hs⟩ := rx_stA_some hs; exact hk _ _ _ _ _ _ hs
  | astore i => obtain ⟨q, r, rfl, h0, h1, h2, hs⟩ := rx_stA_some hs; exact hk _ _ _ _ _ _ hs
  | iinc i n =>
    obtain ⟨h1, hs⟩ := rx_bif hs
    obtain ⟨h1, h3⟩ := rx_and2 h1
    obtain ⟨h1, h2⟩ := rx_and2 h1
    obtain ⟨o, h4, hs⟩ := rx_get_some hs
    split at hs
    · rw [rx_pI_eq] at hs
      obtain ⟨h5, hs⟩ := rx_set_some hs
      exact hk _ _ _ _ _ _ hs
    · cases hs
  | iadd => simp only [rx_step] at hs; obtain ⟨a, b, r, rfl, ht⟩ := rx_bin_some hs; exact hk _ _ _ _ _ _ ht
  | isub => simp only [rx_step] at hs; obtain ⟨a, b, r, rfl, ht⟩ := rx_bin_some hs; exact hk _ _ _ _ _ _ ht
  | imul => simp only [rx_step] at hs; obtain ⟨a, b, r, rfl, ht⟩ := rx_bin_some hs; exact hk _ _ _ _ _ _ ht
  | iand =>
    simp only [rx_step] at hs
    split at hs
    · rcases rx_bif2 hs with ⟨h1, hs⟩ | ⟨-, hs⟩
      · rw [rx_fN_eq] at hs
        exact hk _ _ _ _ _ _ hs
      · obtain ⟨h1, hs⟩ := rx_bif hs
        rw [rx_fN_eq] at hs
        exact hk _ _ _ _ _ _ hs
    · obtain ⟨a, b, r, rfl, ht⟩ := rx_bin_some hs; exact hk _ _ _ _ _ _ ht
  | ior => simp only [rx_step] at hs; obtain ⟨a, b, r, rfl, ht⟩ := rx_bin_some hs; exact hk _ _ _ _ _ _ ht
  | ixor => simp only [rx_step] at hs; obtain ⟨a, b, r, rfl, ht⟩ := rx_bin_some hs; exact hk _ _ _ _ _ _ ht
  | ishl => simp only [rx_step] at hs; obtain ⟨a, b, r, rfl, ht⟩ := rx_bin_some hs; exact hk _ _ _ _ _ _ ht
  | ishr =>
    simp only [rx_step] at hs
    split at hs
    · obtain ⟨h1, hs⟩ := rx_bif hs
      rw [rx_fN_eq] at hs
      exact hk _ _ _ _ _ _ hs
    · obtain ⟨a, b, r, rfl, ht⟩ := rx_bin_some hs; exact hk _ _ _ _ _ _ ht
  | idiv => simp only [rx_step] at hs; obtain ⟨a, b, r, rfl, h1, ht⟩ := rx_binD_some hs; exact hk _ _ _ _ _ _ ht
  | irem => simp only [rx_step] at hs; obtain ⟨a, b, r, rfl, h1, ht⟩ := rx_binD_some hs; exact hk _ _ _ _ _ _ ht
  | ladd => simp only [rx_step] at hs; obtain ⟨a, b, r, rfl, ht⟩ := rx_binL_some hs; exact hk _ _ _ _ _ _ ht
  | lsub => simp only [rx_step] at hs; obtain ⟨a, b, r, rfl, ht⟩ := rx_binL_some hs; exact hk _ _ _ _ _ _ ht
  | lmul => simp only [rx_step] at hs; obtain ⟨a, b, r, rfl, ht⟩ := rx_binL_some hs; exact hk _ _ _ _ _ _ ht
  | ineg =>
    simp only [rx_step] at hs
    split at hs
    · rw [rx_pI_eq] at hs; exact hk _ _ _ _ _ _ hs
    · cases hs
  | ldiv =>
    simp only [rx_step] at hs
    split at hs
    · obtain ⟨h1, hs⟩ := rx_bif hs
      rw [rx_pL_eq] at hs; exact hk _ _ _ _ _ _ hs
    · cases hs
  | lcmp =>
    simp only [rx_step] at hs
    split at hs
    · rw [rx_pI_eq] at hs; exact hk _ _ _ _ _ _ hs
    · cases hs
  | i2l =>
    simp only [rx_step] at hs
    split at hs
    · exact hk _ _ _ _ _ _ hs
    · cases hs
  | l2i =>
    simp only [rx_step] at hs
    split at hs
    · rw [rx_pI_eq] at hs; exact hk _ _ _ _ _ _ hs
    · cases hs
  | goto o => exact hk _ _ _ _ _ _ hs
  | ifCond cd o =>
    simp only [rx_step] at hs
    split at hs
    · rename_i a r
      cases hc : rx_cmp cd a (0, 0) with
      | none => rw [hc] at hs; cases hs
      | some t =>
        rw [hc] at hs
        cases t <;> exact hk _ _ _ _ _ _ hs
    · cases hs
  | if_icmp cd o =>
    simp only [rx_step] at hs
    split at hs
    · rename_i b a r
      cases hc : rx_cmp cd a b with
      | none => rw [hc] at hs; cases hs
      | some t =>
        rw [hc] at hs
        cases t <;> exact hk _ _ _ _ _ _ hs
    · cases hs
  | ifnull o =>
    simp only [rx_step] at hs
    split at hs
    · exact hk _ _ _ _ _ _ hs
    · exact hk _ _ _ _ _ _ hs
    · cases hs
  | ifnonnull o =>
    simp only [rx_step] at hs
    split at hs
    · exact hk _ _ _ _ _ _ hs
    · exact hk _ _ _ _ _ _ hs
    · cases hs
  | tableswitch d lo hi offs =>
    simp only [rx_step] at hs
    split at hs
    · split at hs
      · rename_i o ho
        obtain ⟨h1, hs⟩ := rx_bif hs
        exact hk _ _ _ _ _ _ hs
      · cases hs
    · cases hs
  | dup =>
    simp only [rx_step] at hs
    split at hs
    · obtain ⟨h1, hs⟩ := rx_bif hs
      exact hk _ _ _ _ _ _ hs
    · cases hs
  | dup2 =>
    simp only [rx_step] at hs
    split at hs
    · obtain ⟨h1, hs⟩ := rx_bif hs
      obtain ⟨h1, h2⟩ := rx_and2 h1
      exact hk _ _ _ _ _ _ hs
    · cases hs
  | pop =>
    simp only [rx_step] at hs
    split at hs
    · obtain ⟨h1, hs⟩ := rx_bif hs
      exact hk _ _ _ _ _ _ hs
    · cases hs
  | getfield i =>
    simp only [rx_step] at hs
    split at hs
    · obtain ⟨h1, hs⟩ := rx_bif hs
      obtain ⟨cc, h2, hs⟩ := rx_get_some hs
      split at hs
      · obtain ⟨h3, hs⟩ := rx_bif hs
        obtain ⟨v, h4, hs⟩ := rx_get_some hs
        exact hk _ _ _ _ _ _ hs
      · cases hs
    · cases hs
  | putfield i =>
    simp only [rx_step] at hs
    split at hs
    · obtain ⟨h1, hs⟩ := rx_bif hs
      obtain ⟨hwr, h1⟩ := rx_and2 h1
      obtain ⟨h1, h5⟩ := rx_and2 h1
      obtain ⟨cc, h2, hs⟩ := rx_get_some hs
      split at hs
      · obtain ⟨h3, hs⟩ := rx_bif hs
        obtain ⟨h4, hs⟩ := rx_set_some hs
        obtain ⟨h6, hs⟩ := rx_set_some hs
        exact hk _ _ _ _ _ _ hs
      · cases hs
    · cases hs
  | getstatic i => obtain ⟨h1, hs⟩ := rx_bif hs; exact hk _ _ _ _ _ _ hs
  | iaload =>
    simp only [rx_step] at hs
    split at hs
    · obtain ⟨cc, h2, hs⟩ := rx_get_some hs
      split at hs
      · obtain ⟨h3, hs⟩ := rx_bif hs
        obtain ⟨h4, h5, v, h6, hs⟩ := rx_at_some hs
        exact hk _ _ _ _ _ _ hs
      · cases hs
    · obtain ⟨h0, hs⟩ := rx_bif hs
      obtain ⟨l0, h2, hs⟩ := rx_get_some hs
      obtain ⟨h4, h5, v, h6, hs⟩ := rx_at_some hs
      exact hk _ _ _ _ _ _ hs
    · cases hs
  | baload =>
    simp only [rx_step] at hs
    split at hs
    · obtain ⟨cc, h2, hs⟩ := rx_get_some hs
      split at hs
      · obtain ⟨h3, hs⟩ := rx_bif hs
        obtain ⟨h4, h5, v, h6, hs⟩ := rx_at_some hs
        exact hk _ _ _ _ _ _ hs
      · cases hs
    · cases hs
  | laload =>
    simp only [rx_step] at hs
    split at hs
    · obtain ⟨cc, h2, hs⟩ := rx_get_some hs
      split at hs
      · obtain ⟨h3, hs⟩ := rx_bif hs
        obtain ⟨h4, h5, v, h6, hs⟩ := rx_at_some hs
        exact hk _ _ _ _ _ _ hs
      · cases hs
    · cases hs
  | aaload =>
    simp only [rx_step] at hs
    split at hs
    · obtain ⟨cc, h2, hs⟩ := rx_get_some hs
      split at hs
      · obtain ⟨h3, hs⟩ := rx_bif hs
        obtain ⟨h4, h5, v, h6, hs⟩ := rx_at_some hs
        exact hk _ _ _ _ _ _ hs
      · cases hs
    · cases hs
  | iastore =>
    simp only [rx_step] at hs
    split at hs
    · obtain ⟨cc, h2, hs⟩ := rx_get_some hs
      split at hs
      · obtain ⟨h3, hs⟩ := rx_bif hs
        obtain ⟨hwr, h3⟩ := rx_and2 h3
        obtain ⟨h4, h5, h6, hs⟩ := rx_put_some hs
        obtain ⟨h7, hs⟩ := rx_set_some hs
        exact hk _ _ _ _ _ _ hs
      · cases hs
    · cases hs
  | bastore =>
    simp only [rx_step] at hs
    split at hs
    · obtain ⟨h8, hs⟩ := rx_bif hs
      obtain ⟨cc, h2, hs⟩ := rx_get_some hs
      split at hs
      · obtain ⟨h3, hs⟩ := rx_bif hs
        obtain ⟨hwr, h3⟩ := rx_and2 h3
        obtain ⟨h4, h5, h6, hs⟩ := rx_put_some hs
        obtain ⟨h7, hs⟩ := rx_set_some hs
        exact hk _ _ _ _ _ _ hs
      · cases hs
    · cases hs
  | lastore =>
    simp only [rx_step] at hs
    split at hs
    · obtain ⟨cc, h2, hs⟩ := rx_get_some hs
      split at hs
      · obtain ⟨h3, hs⟩ := rx_bif hs
        obtain ⟨hwr, h3⟩ := rx_and2 h3
        obtain ⟨h4, h5, h6, hs⟩ := rx_put_some hs
        obtain ⟨h7, hs⟩ := rx_set_some hs
        exact hk _ _ _ _ _ _ hs
      · cases hs
    · cases hs
  | aastore =>
    simp only [rx_step] at hs
    split at hs
    · obtain ⟨dd, h1, hs⟩ := rx_get_some hs
      obtain ⟨cc, h2, hs⟩ := rx_get_some hs
      split at hs
      · obtain ⟨h3, hs⟩ := rx_bif hs
        obtain ⟨hwr, h3⟩ := rx_and2 h3
        obtain ⟨h4, h5, h6, hs⟩ := rx_put_some hs
        obtain ⟨h7, hs⟩ := rx_set_some hs
        exact hk _ _ _ _ _ _ hs
      · cases hs
    · cases hs
  | arraylength =>
    simp only [rx_step] at hs
    split at hs
    · obtain ⟨h0, hs⟩ := rx_bif hs
      obtain ⟨l0, h2, hs⟩ := rx_get_some hs
      obtain ⟨h3, hs⟩ := rx_bif hs
      rw [rx_pI_eq] at hs
      exact hk _ _ _ _ _ _ hs
    · cases hs
  | new i =>
    simp only [rx_step] at hs
    cases h9 : (wr && (K.1 == 11)) with
    | false =>
      rw [h9] at hs
      simp only [cond_false] at hs
      obtain ⟨h1, hs⟩ := rx_bif hs
      exact htr _ hs
    | true =>
    rw [h9] at hs
    simp only [cond_true] at hs
    rw [rx_app_eq] at hs
    exact hk _ _ _ _ _ _ hs
  | newarray t =>
    simp only [rx_step] at hs
    split at hs
    · obtain ⟨h1, hs⟩ := rx_bif hs
      obtain ⟨hwr, h1⟩ := rx_and2 h1
      obtain ⟨h1, h4⟩ := rx_and2 h1
      obtain ⟨h1, h3⟩ := rx_and2 h1
      obtain ⟨h1, h2⟩ := rx_and2 h1
      rw [rx_app_eq] at hs
      exact hk _ _ _ _ _ _ hs
    · cases hs
  | anewarray i =>
    simp only [rx_step] at hs
    split at hs
    · obtain ⟨h1, hs⟩ := rx_bif hs
      obtain ⟨hwr, h1⟩ := rx_and2 h1
      obtain ⟨h1, h4⟩ := rx_and2 h1
      obtain ⟨h1, h3⟩ := rx_and2 h1
      obtain ⟨h1, h2⟩ := rx_and2 h1
      rw [rx_app_eq] at hs
      exact hk _ _ _ _ _ _ hs
    · cases hs
  | invokevirtual i =>
    obtain ⟨h1, hs⟩ := rx_bif hs
    obtain ⟨x, r, h2, h3, hs⟩ := rx_pop_some hs
    obtain ⟨h4, hs⟩ := rx_bif hs
    rw [List.append_nil] at hs
    split at hs
    · rename_i a as he
      obtain ⟨cc, h5, hs⟩ := rx_get_some hs
      split at hs
      · obtain ⟨h6, hs⟩ := rx_bif hs
        have e2 : x = (.inr (.inr (.inl (some a))) :: as).reverse := by rw [← he, List.reverse_reverse]
        rw [he] at hs
        exact hc _ _ _ hs
      · cases hs
    · cases hs
  | invokestatic i =>
    simp only [rx_step] at hs
    cases h9 : (K.1 == 6 || (K.1 == 8 || K.1 == 16)) with
    | true =>
      rw [h9] at hs
      simp only [cond_true] at hs
      obtain ⟨x, r, h2, h3, hs⟩ := rx_pop_some hs
      obtain ⟨h4, hs⟩ := rx_bif hs
      rw [List.append_nil] at hs
      exact hc _ _ _ hs
    | false =>
      rw [h9] at hs
      simp only [cond_false] at hs
      obtain ⟨st', q⟩ := rx_math_some hs
      exact hk _ _ _ _ _ _ q
  | invokespecial i =>
    simp only [rx_step] at hs
    cases h9 : (K.1 == 10) with
    | true =>
      rw [h9] at hs
      simp only [cond_true] at hs
      split at hs
      · obtain ⟨h4, hs⟩ := rx_bif hs
        exact hk _ _ _ _ _ _ hs
      · cases hs
    | false =>
      rw [h9] at hs
      simp only [cond_false] at hs
      obtain ⟨h1, hs⟩ := rx_bif hs
      obtain ⟨x, r, h2, h3, hs⟩ := rx_pop_some hs
      obtain ⟨h4, hs⟩ := rx_bif hs
      rw [List.append_nil] at hs
      split at hs
      · rename_i a as he
        have e2 : x = (.inr (.inr (.inl (some a))) :: as).reverse := by rw [← he, List.reverse_reverse]
        rw [he] at hs
        exact hc _ _ _ hs
      · cases hs
  | ireturn =>
    simp only [rx_step] at hs
    split at hs
    · obtain ⟨h1, hs⟩ := rx_bif hs
      exact hr _ hs
    · cases hs
  | lreturn =>
    simp only [rx_step] at hs
    split at hs
    · exact hr _ hs
    · cases hs
  | areturn =>
    simp only [rx_step] at hs
    split at hs
    · exact hr _ hs
    · cases hs
  | return_ =>
    simp only [rx_step] at hs
    split at hs
    · exact hr _ hs
    · cases hs
  | _ => cases hs
end
section
/-! THE LITTLE MACHINE RUNS A METHOD -/
abbrev rx_R : Type := Option rx_V × rx_H × Nat × Nat
def rx_arg : List rx_V → rx_F
  | [] => []
  | .inr (.inl q) :: vs => some (.inr (.inl q)) :: none :: rx_arg vs
  | v :: vs => some v :: rx_arg vs
def rx_ini (as : List rx_V) (n : Nat) : rx_F := rx_arg as ++ List.replicate (n - (rx_arg as).length) none
noncomputable def rx_fl {α β : Type} (l : List α) : (List α → β) → β :=
  List.rec (motive := fun _ => (List α → β) → β) (fun k => k []) (fun a _ ih k => ih (fun t => k (a :: t))) l
theorem rx_fl_eq {α β : Type} {l : List α} : ∀ {k : List α → β}, rx_fl l k = k l := by
  induction l with
  | nil => intro k; rfl
  | cons a t ih => intro k; exact ih (k := fun t => k (a :: t))
def rx_ol (v : Option rx_V) (r : List rx_V) : List rx_V := match v with
  | none => r
  | some x => x :: r
/-- counters, only where something is new -/
def rx_cnt {β : Type} (c s dc ds : Nat) (k : Nat → Nat → β) : β := bif Nat.beq dc 0 && Nat.beq ds 0 then k c s else rx_fN (c + dc) fun a => rx_fN (s + ds) fun b => k a b
theorem rx_cnt_eq {β : Type} (c s dc ds : Nat) (k : Nat → Nat → β) : rx_cnt c s dc ds k = k (c + dc) (s + ds) := by
  unfold rx_cnt
  cases h : Nat.beq dc 0 && Nat.beq ds 0 with
  | true =>
    rw [Bool.and_eq_true] at h
    have h1 := Nat.eq_of_beq_eq_true h.1
    have h2 := Nat.eq_of_beq_eq_true h.2
    subst h1; subst h2; rfl
  | false => simp only [cond_false, rx_fN_eq]
abbrev rx_Orc : Type := Nat → rx_H → List rx_V → Option rx_R
/-- a run: what 'orc' knows of a call is taken as it says; all else is run -/
noncomputable def rx_ex (wr : Bool) (xM : List rx_MT) (orc : rx_Orc) (ro : List (List rx_V)) (n : Nat) : Bool → rx_Tab → Nat → rx_H → rx_F → List rx_V → Nat → Nat → Option rx_R :=
  Nat.rec (motive := fun _ => Bool → rx_Tab → Nat → rx_H → rx_F → List rx_V → Nat → Nat → Option rx_R) (fun _ _ _ _ _ _ _ _ => none)
    (fun _ ih tw tab pc h L st c s => Option.rec (motive := fun _ => Option rx_R) none (fun row => rx_step wr ro rx_dfs row pc h L st
      (fun pc' h' L' st' dc ds => rx_cnt c s dc ds fun c' s' => ih tw tab pc' h' L' st' c' s')
      (fun j as r => Option.rec (motive := fun _ => Option rx_R)
        (rx_get xM j fun mt => bif Nat.ble (rx_arg as).length mt.2.2.1 then rx_fl (rx_ini as mt.2.2.1) fun L0 => Option.rec (motive := fun _ => Option rx_R) none (fun res => match res with
          | (v, h', dc, ds) => rx_cnt c s dc ds fun c' s' => ih tw tab row.2.1 h' L (rx_ol v r) c' s') (ih false mt.2.2.2.2.2.1 0 h L0 [] 0 0) else none)
        (fun res => match res with
          | (v, h', dc, ds) => rx_cnt c s dc ds fun c' s' => ih tw tab row.2.1 h' L (rx_ol v r) c' s') (orc j h as))
      (fun v => some (v, h, c, s)) (fun x => bif tw then some (some (.inr (.inr (.inr (100000 + x)))), h, c, s) else none)) (tab pc)) n
theorem rx_ex_eq {wr : Bool} {xM : List rx_MT} {orc : rx_Orc} {ro : List (List rx_V)} {n : Nat} {tw : Bool} {tab : rx_Tab} {pc : Nat} {h : rx_H} {L : rx_F} {st : List rx_V} {c s : Nat} : rx_ex wr xM orc ro (n + 1) tw tab pc h L st c s = Option.rec (motive := fun _ => Option rx_R) none (fun row => rx_step wr ro rx_dfs row pc h L st
      (fun pc' h' L' st' dc ds => rx_cnt c s dc ds fun c' s' => rx_ex wr xM orc ro n tw tab pc' h' L' st' c' s')
      (fun j as r => Option.rec (motive := fun _ => Option rx_R)
        (rx_get xM j fun mt => bif Nat.ble (rx_arg as).length mt.2.2.1 then rx_fl (rx_ini as mt.2.2.1) fun L0 => Option.rec (motive := fun _ => Option rx_R) none (fun res => match res with
          | (v, h', dc, ds) => rx_cnt c s dc ds fun c' s' => rx_ex wr xM orc ro n tw tab row.2.1 h' L (rx_ol v r) c' s') (rx_ex wr xM orc ro n false mt.2.2.2.2.2.1 0 h L0 [] 0 0) else none)
        (fun res => match res with
          | (v, h', dc, ds) => rx_cnt c s dc ds fun c' s' => rx_ex wr xM orc ro n tw tab row.2.1 h' L (rx_ol v r) c' s') (orc j h as))
      (fun v => some (v, h, c, s)) (fun x => bif tw then some (some (.inr (.inr (.inr (100000 + x)))), h, c, s) else none)) (tab pc) := rfl
/-- a call, told without the forms that only make it quick -/
noncomputable def rx_cal (wr : Bool) (xM : List rx_MT) (orc : rx_Orc) (ro : List (List rx_V)) (n : Nat) (tw : Bool) (tab : rx_Tab) (np : Nat) (h : rx_H) (L : rx_F) (c s j : Nat) (as r : List rx_V) : Option rx_R :=
  Option.rec (motive := fun _ => Option rx_R)
    (rx_get xM j fun mt => bif Nat.ble (rx_arg as).length mt.2.2.1 then Option.rec (motive := fun _ => Option rx_R) none (fun res => rx_ex wr xM orc ro n tw tab np res.2.1 L (rx_ol res.1 r) (c + res.2.2.1) (s + res.2.2.2)) (rx_ex wr xM orc ro n false mt.2.2.2.2.2.1 0 h (rx_ini as mt.2.2.1) [] 0 0) else none)
    (fun res => rx_ex wr xM orc ro n tw tab np res.2.1 L (rx_ol res.1 r) (c + res.2.2.1) (s + res.2.2.2)) (orc j h as)
theorem rx_ex_succ {wr : Bool} {xM : List rx_MT} {orc : rx_Orc} {ro : List (List rx_V)} {n : Nat} {tw : Bool} {tab : rx_Tab} {pc : Nat} {h : rx_H} {L : rx_F} {st : List rx_V} {c s : Nat} {r0 : rx_R} (hs : rx_ex wr xM orc ro (n + 1) tw tab pc h L st c s = some r0) :
    ∃ row, tab pc = some row ∧ rx_step wr ro rx_dfs row pc h L st
      (fun pc' h' L' st' dc ds => rx_ex wr xM orc ro n tw tab pc' h' L' st' (c + dc) (s + ds))
      (fun j as r => rx_cal wr xM orc ro n tw tab row.2.1 h L c s j as r)
      (fun v => some (v, h, c, s)) (fun x => bif tw then some (some (.inr (.inr (.inr (100000 + x)))), h, c, s) else none) = some r0 := by
  rw [rx_ex_eq] at hs
  cases hr : tab pc with
  | none => rw [hr] at hs; cases hs
  | some row =>
    refine ⟨row, rfl, ?_⟩
    rw [hr] at hs
    simp only [rx_cnt_eq, rx_fl_eq] at hs
    exact hs
/-- a call's two ways: by what is known, or run -/
theorem rx_call_some {wr : Bool} {xM : List rx_MT} {orc : rx_Orc} {ro : List (List rx_V)} {n : Nat} {tw : Bool} {tab : rx_Tab} {np : Nat} {h : rx_H} {L : rx_F} {c s j : Nat} {as r : List rx_V} {r0 : rx_R} (hs : rx_cal wr xM orc ro n tw tab np h L c s j as r = some r0) :
    ∃ (v1 : Option rx_V) (h1 : rx_H) (dc ds : Nat), rx_ex wr xM orc ro n tw tab np h1 L (rx_ol v1 r) (c + dc) (s + ds) = some r0 ∧
      (orc j h as = some (v1, h1, dc, ds) ∨ ∃ mj, xM[j]? = some mj ∧ (rx_arg as).length ≤ mj.2.2.1 ∧ rx_ex wr xM orc ro n false mj.2.2.2.2.2.1 0 h (rx_ini as mj.2.2.1) [] 0 0 = some (v1, h1, dc, ds)) := by
  unfold rx_cal at hs
  cases ho : orc j h as with
  | some res =>
    rw [ho] at hs
    obtain ⟨v1, h1, dc, ds⟩ := res
    exact ⟨v1, h1, dc, ds, hs, Or.inl rfl⟩
  | none =>
    rw [ho] at hs
    obtain ⟨mj, g1, hs⟩ := rx_get_some hs
    obtain ⟨g2, hs⟩ := rx_bif hs
    cases hr : rx_ex wr xM orc ro n false mj.2.2.2.2.2.1 0 h (rx_ini as mj.2.2.1) [] 0 0 with
    | none => rw [hr] at hs; cases hs
    | some res =>
      rw [hr] at hs
      obtain ⟨v1, h1, dc, ds⟩ := res
      exact ⟨v1, h1, dc, ds, hs, Or.inr ⟨mj, g1, Nat.le_of_ble_eq_true g2, hr⟩⟩
theorem rx_ex_mono {wr : Bool} {xM : List rx_MT} {orc : rx_Orc} {ro : List (List rx_V)} : ∀ (n : Nat) {tw : Bool} {tab : rx_Tab} {pc : Nat} {h : rx_H} {L : rx_F} {st : List rx_V} {c s : Nat} {v : Option rx_V} {h' : rx_H} {mc ms : Nat}, rx_ex wr xM orc ro n tw tab pc h L st c s = some (v, h', mc, ms) → c ≤ mc ∧ s ≤ ms := by
  intro n
  induction n with
  | zero => intro tw tab pc h L st c s v h' mc ms hs; cases hs
  | succ n ih =>
    intro tw tab pc h L st c s v h' mc ms hs
    obtain ⟨row, -, hs⟩ := rx_ex_succ hs
    refine rx_step_any (fun pc' h' L' st' dc ds q => ?_) (fun j as r q => ?_) (fun v q => ?_) (fun c q => ?_) hs
    · have := ih q; omega
    · obtain ⟨v1, h1, dc, ds, q, -⟩ := rx_call_some q
      have := ih q
      omega
    · cases q; exact ⟨Nat.le_refl _, Nat.le_refl _⟩
    · obtain ⟨-, q⟩ := rx_bif q
      cases q; exact ⟨Nat.le_refl _, Nat.le_refl _⟩
/-! ITS CONTRACT -/
def rx_AA (ad : List Nat) (sz : Nat) : Nat → Prop := fun q => q ∈ ad ∨ sz ≤ q
/-- with wr = false nothing that was there before may change -/
def rx_AW (wr : Bool) (ad : List Nat) (sz : Nat) : Nat → Prop := rx_AA (bif wr then ad else []) sz
def rx_BW (wr : Bool) (ad : List Nat) (sz : Nat) : Nat → Prop := fun q => wr = false ∨ rx_AA ad sz q
theorem rx_BAW {wr : Bool} {ad : List Nat} {sz : Nat} (h : wr = true) : rx_BW wr ad sz = rx_AW wr ad sz := by
  subst h
  funext q
  exact propext ⟨fun z => z.elim (fun y => (by cases y)) id, Or.inr⟩
theorem rx_AB {wr : Bool} {ad : List Nat} {sz q : Nat} (h : rx_AA ad sz q) : rx_BW wr ad sz q := Or.inr h
theorem rx_AWA {wr : Bool} {ad : List Nat} {sz q : Nat} (h : rx_AW wr ad sz q) : rx_AA ad sz q := by
  cases wr with
  | true => exact h
  | false => exact h.elim (fun z => (by cases z)) Or.inr
def rx_Pre (wr : Bool) (D : va_G) (sa ad : List Nat) (ro : List (List rx_V)) (h : rx_H) (sz : Nat) (U : State) : Prop := U.heap.size = sz ∧ va_K D rx_cl [] U ∧ rx_NW U ∧ rx_RO U (rx_AW wr ad sz) sa ro ∧ rx_TW (rx_AW wr ad sz) U ∧ ∃ ws, rx_W U ad sa h ws ∧ va_P D rx_cl ws U.heap ∧ va_D (fun _ => True) ws
def rx_Pc (wr : Bool) (D : va_G) (sa ad : List Nat) (ro : List (List rx_V)) (h : rx_H) (as : List rx_V) (sz : Nat) : Array Value → State → Prop := fun v U => ∃ vs, v = List.toArray vs ∧ rx_S ad sa as vs ∧ rx_Pre wr D sa ad ro h sz U
def rx_O (ad sa : List Nat) (v : Option rx_V) (r : Option Value) : Prop := match v, r with
  | none, none => True
  | some v, some x => rx_G ad sa v x
  | _, _ => False
def rx_Qc (wr : Bool) (D : va_G) (sa ad : List Nat) (h' : rx_H) (v : Option rx_V) (sz : Nat) : Array Value → State → Outcome → State → Prop := fun _ st o t => ∃ (r : Option Value) (ad' : List Nat) (ws' : va_W), o = .returned r ∧ rx_O ad' sa v r ∧ ad <+: ad' ∧ rx_W t ad' sa h' ws' ∧ va_P D rx_cl ws' t.heap ∧ va_D (rx_BW wr ad sz) ws' ∧ va_F (rx_AW wr ad sz) st t
def rx_rm (mt : rx_MT) (mc ms : Nat) : Room := { frames := mt.2.2.2.2.2.2.1, cells := mc, slots := ms, locals := mt.2.2.2.2.2.2.2.1 }
theorem rx_NW_moved {u U : State} (h : u.vm = U.vm) (hN : rx_NW u) : rx_NW U :=
  ⟨fun q hq => va_Nw.same rfl h (hN.1 q hq), fun q hq => va_Nw.same rfl h (hN.2.1 q hq), fun C hC => va_AO.moved (by rw [h]; exact Vm.Alike.refl _) (hN.2.2 C hC)⟩
theorem rx_NW_warm {s U : State} (hW : s.WarmedH U.vm) (hN : rx_NW s) : rx_NW U :=
  ⟨fun q hq => va_Nw.warmM hW (hN.1 q hq), fun q hq => va_Nw.warmF hW (hN.2.1 q hq), fun C hC => va_AO.moved hW.alike (hN.2.2 C hC)⟩
theorem rx_RO_moved {u U : State} {A : Nat → Prop} {sa : List Nat} {ro : List (List rx_V)} (hvm : u.vm.Alike U.vm) (hh : U.heap = u.heap) (h : rx_RO u A sa ro) : rx_RO U A sa ro := by
  refine ⟨fun j l hj => ?_, fun j nm hj => ?_⟩
  · obtain ⟨a, xs, h1, h2, h3, h4, h5⟩ := h.1 j l hj
    exact ⟨a, xs, h1, by rw [hh]; exact h2, h3, by rw [hh]; exact h4.moved hvm, h5⟩
  · obtain ⟨a, h1, h2⟩ := h.2 j nm hj
    exact ⟨a, h1, by rw [hh]; exact h2.moved hvm⟩
theorem rx_blind {wr : Bool} {D : va_G} {sa ad : List Nat} {ro : List (List rx_V)} {h : rx_H} {as : List rx_V} {sz : Nat} : FrameBlind (rx_Pc wr D sa ad ro h as sz) := by
  intro a U g mk hP
  obtain ⟨vs, h1, h2, h3, h4, h5, h6, h0, ws, h7, h8, h9⟩ := hP
  exact ⟨vs, h1, h2, h3, va_K.moved (u := U) (U := U.calling g mk a) (Vm.Alike.refl U.vm) h4, rx_NW_moved (u := U) (U := U.calling g mk a) rfl h5, rx_RO_moved (u := U) (U := U.calling g mk a) (Vm.Alike.refl U.vm) rfl h6, rx_TW_go (u := U) (U := U.calling g mk a) (State.WarmedH.refl U) (fun _ _ _ => rfl) (fun _ h => h) h0, ws, rx_W_moved (u := U) (U := U.calling g mk a) (Vm.Alike.refl U.vm) h7, h8, h9⟩
end
section
/-! THE LITTLE MACHINE'S RUN IS A CONTRACT -/
def rx_MOk (xM : List rx_MT) (mt : rx_MT) : Prop := (∀ pc row, mt.2.2.2.2.2.1 pc = some row → rx_Ok xM mt pc row) ∧ mt.2.2.2.2.1 = mt.1.cls ∧ plainName mt.1.cls = true
theorem rx_goodw {w : Jvm.Cond} (h : w ∈ rx_bw) : w ∈ rx_bw ∧ ((w.onTables && w.keeps) = true ∨ ∃ ty, w = .arrayClass ty) := ⟨h, good_of_word (List.mem_filter.mp h).2⟩
theorem rx_goodm {mj : rx_MT} (hc : Jvm.Cond.code mj.1 mj.2.1 mj.2.2.1 mj.2.2.2.1 ∈ rx_bw) : GoodIn rx_bw (rx_ws mj) := by
  intro w hw
  rcases List.mem_cons.mp hw with rfl | hw
  · exact rx_goodw hc
  · exact rx_goodw hw
theorem rx_goodc {a ws : List Jvm.Cond} (ha : ∀ w ∈ a, w ∈ rx_bw) (hw : GoodIn rx_bw ws) : GoodIn rx_bw (a ++ ws) := by
  intro w h
  rcases List.mem_append.mp h with h | h
  · exact rx_goodw (ha w h)
  · exact hw w h
theorem rx_sl_len {ad sa : List Nat} : ∀ {as : List rx_V} {vs : List Value}, rx_S ad sa as vs → (lg_sl vs).length = (rx_arg as).length
  | [], [], _ => rfl
  | .inr (.inl q) :: as, x :: vs, h => by
    obtain ⟨⟨i, rfl, -⟩, h2⟩ := h
    have := rx_sl_len h2
    simp [lg_sl, rx_arg, Value.category] at this ⊢
    omega
  | .inl q :: as, x :: vs, h => by
    obtain ⟨⟨i, rfl, -⟩, h2⟩ := h
    have := rx_sl_len h2
    simp [lg_sl, rx_arg, Value.category] at this ⊢
    omega
  | .inr (.inr q) :: as, x :: vs, h => by
    have hc := rx_G_cat h.1
    have := rx_sl_len h.2
    have hc : x.category = 1 := hc
    simp [lg_sl, rx_arg, hc] at this ⊢
    omega
  | [], _ :: _, h => h.elim
  | _ :: _, [], h => h.elim
theorem rx_arg_get {ad sa : List Nat} : ∀ {as : List rx_V} {vs : List Value} {i n : Nat} {v : rx_V}, rx_S ad sa as vs → (rx_arg as)[i]? = some (some v) → ∃ x, (n + i, x) ∈ lv_args n vs ∧ rx_G ad sa v x
  | [], [], i, n, v, _, h => by simp [rx_arg] at h
  | .inr (.inl q) :: as, x :: vs, i, n, v, hS, h => by
    have hc : x.category = 2 := rx_G_cat hS.1
    match i, h with
    | 0, h => cases h; exact ⟨x, List.mem_cons_self, hS.1⟩
    | 1, h => cases h
    | i + 2, h =>
      have h : (rx_arg as)[i]? = some (some v) := h
      obtain ⟨y, h1, h2⟩ := rx_arg_get (n := n + 2) hS.2 h
      refine ⟨y, List.mem_cons_of_mem _ ?_, h2⟩
      rw [if_pos hc, show n + (i + 2) = n + 2 + i by omega]
      exact h1
  | .inl q :: as, x :: vs, i, n, v, hS, h => by
    have hc : x.category = 1 := rx_G_cat hS.1
    match i, h with
    | 0, h => cases h; exact ⟨x, List.mem_cons_self, hS.1⟩
    | i + 1, h =>
      have h : (rx_arg as)[i]? = some (some v) := h
      obtain ⟨y, h1, h2⟩ := rx_arg_get (n := n + 1) hS.2 h
      refine ⟨y, List.mem_cons_of_mem _ ?_, h2⟩
      rw [if_neg (by omega), show n + (i + 1) = n + 1 + i by omega]
      exact h1
  | .inr (.inr q) :: as, x :: vs, i, n, v, hS, h => by
    have hc : x.category = 1 := rx_G_cat hS.1
    match i, h with
    | 0, h => cases h; exact ⟨x, List.mem_cons_self, hS.1⟩
    | i + 1, h =>
      have h : (rx_arg as)[i]? = some (some v) := h
      obtain ⟨y, h1, h2⟩ := rx_arg_get (n := n + 1) hS.2 h
      refine ⟨y, List.mem_cons_of_mem _ ?_, h2⟩
      rw [if_neg (by omega), show n + (i + 1) = n + 1 + i by omega]
      exact h1
  | [], _ :: _, _, _, _, h, _ => h.elim
  | _ :: _, [], _, _, _, h, _ => h.elim
theorem rx_ini_L {ad sa : List Nat} {as : List rx_V} {vs : List Value} {n : Nat} {ls : Array Slot} (hS : rx_S ad sa as vs) (hn : (rx_arg as).length ≤ n) (hl : lv_has ls n (lv_args 0 vs)) : rx_L ad sa n (rx_ini as n) ls := by
  refine ⟨_, hl, ?_, fun i v hi => ?_⟩
  · unfold rx_ini; rw [List.length_append, List.length_replicate]; omega
  · unfold rx_ini at hi
    by_cases h : i < (rx_arg as).length
    · rw [List.getElem?_append_left h] at hi
      obtain ⟨x, h1, h2⟩ := rx_arg_get (n := 0) hS hi
      rw [Nat.zero_add] at h1
      exact ⟨x, h1, h2⟩
    · rw [List.getElem?_append_right (by omega)] at hi
      have := rx_rep hi
      cases this
theorem rx_goon {p : Program} {l : Launch} {e : Env} {R : Room} {s : State} {m : MethodId} {args : Array Value} {below : List Frame} {meth : Method} {c : Code} {Q : State → Prop} {D : va_G} {A B : Nat → Prop} {wr : Bool} {sa ad : List Nat} {pc : Nat} {ls : Array Slot} {st0 rest : List Value} {H : Heap} {locs : List Loc} {cells slots mc ms : Nat} {h1 : rx_H} {v1 : Option rx_V} {a : Array Value}
    (hr : va_Run p l e R s m args below meth c H locs cells slots mc ms (F0 m pc ls st0) rest (rx_Qc wr D sa ad h1 v1 H.size a) (rx_AW wr ad H.size)) (hS : va_S A s.heap H locs) (hA : ∀ q, rx_AW wr ad H.size q → A q) (hB : ∀ q, rx_BW wr ad H.size q → B q)
    (kk : ∀ (r : Option Value) (ad' : List Nat) (ws' : va_W) (H1 : Heap) (locs1 : List Loc), rx_O ad' sa v1 r → ad <+: ad' → rx_W s ad' sa h1 ws' → va_P D rx_cl ws' H1 → va_D B ws' → va_S A s.heap H1 locs1 → W p l e R s m args below meth c H1 locs1 (cells + mc) (slots + ms) Q (F0 m (pc + 3) ls (r.toList ++ rest))) : W p l e R s m args below meth c H locs cells slots Q (F0 m pc ls st0) := by
  intro T hT X
  obtain ⟨v, st₀, t, T', L, h0, X', hL, e1, e2, ⟨r, ad', ws', hv, ho, hp, hw, hP, hD, hz, hk⟩, st⟩ := hr T hT X
  cases hv
  rw [h0] at hz hk
  have hal : s.vm.Alike t.vm := by rw [← e2]; exact X'.warmed.alike
  obtain ⟨t2, a1, b1⟩ := kk v ad' ws' T'.heap (locs ++ L) ho hp (rx_W_moved hal.symm hw) (by rw [e1]; exact hP) (hD.weaken (fun k q _ h => hB q.1 h))
    ⟨Nat.le_trans hS.1 (by rw [e1]; exact hz), fun q h1 h2 => by rw [e1, hk q (Nat.lt_of_lt_of_le h1 hS.1) (fun z => h2 (hA q z))]; exact hS.2.1 q h1 h2, fun q hq => by
      rcases List.mem_append.mp hq with h | h
      · exact hS.2.2 q h
      · exact hA _ (hL q h)⟩ T' rfl X'
  exact ⟨t2, st t2 a1, b1⟩
theorem rx_inA {p : Program} {s : State} {m : MethodId} {args : Array Value} {meth : Method} {c : Code} {D : va_G} {A B : Nat → Prop} {wr : Bool} {sa : List Nat} {ro : List (List rx_V)} {mt : rx_MT} {ad : List Nat} {ws : va_W} {H : Heap} {locs : List Loc} {h : rx_H} (C : rx_Cx p s m args meth c D A B wr sa ro mt) (a1 : wr = true ∨ (∀ q, B q)) (a2 : rx_W s ad sa h ws) (a4 : va_D B ws) (a5 : va_S A s.heap H locs) : ∀ q, rx_AW wr ad H.size q → A q := by
  intro q hq
  rcases hq with hq | hq
  · cases hw : wr with
    | false => rw [hw] at hq; cases hq
    | true =>
      have hBA := C.2.2.2.2.2.2.2.2.2.2.2.2.1 hw
      rw [hw] at hq
      have hq : q ∈ ad := hq
      rw [← a2.1] at hq
      obtain ⟨x, h1, rfl⟩ := List.mem_map.mp hq
      obtain ⟨k, hk⟩ := List.getElem?_of_mem h1
      have := a4.2 k x hk
      rw [hBA] at this
      exact this
  · exact C.2.2.2.2.2.2.2.2.2.1 q (Nat.le_trans a5.1 hq)
theorem rx_inB {p : Program} {s : State} {m : MethodId} {args : Array Value} {meth : Method} {c : Code} {D : va_G} {A B : Nat → Prop} {wr : Bool} {sa : List Nat} {ro : List (List rx_V)} {mt : rx_MT} {ad : List Nat} {ws : va_W} {H : Heap} {locs : List Loc} {h : rx_H} (C : rx_Cx p s m args meth c D A B wr sa ro mt) (a1 : wr = true ∨ (∀ q, B q)) (a2 : rx_W s ad sa h ws) (a4 : va_D B ws) (a5 : va_S A s.heap H locs) : ∀ q, rx_BW wr ad H.size q → B q := by
  intro q hq
  rcases a1 with hw | hb
  · have hBA := C.2.2.2.2.2.2.2.2.2.2.2.2.1 hw
    rw [hBA]
    rw [rx_BAW hw] at hq
    exact rx_inA C (Or.inl hw) a2 a4 a5 q hq
  · exact hb q
/-- what a call finds: the callee's start -/
theorem rx_start {p : Program} {s : State} {m : MethodId} {args : Array Value} {meth : Method} {c : Code} {D : va_G} {A B : Nat → Prop} {wr : Bool} {sa : List Nat} {ro : List (List rx_V)} {mt : rx_MT} {ad : List Nat} {ws : va_W} {H : Heap} {locs : List Loc} {h : rx_H} {as : List rx_V} {vs : List Value} (C : rx_Cx p s m args meth c D A B wr sa ro mt) (a1 : wr = true ∨ (∀ q, B q)) (a2 : rx_W s ad sa h ws) (a3 : va_P D rx_cl ws H) (a4 : va_D B ws) (a5 : va_S A s.heap H locs) (hS : rx_S ad sa as vs) (U : State) (hU : U.heap = H) (hW : s.WarmedH U.vm) : rx_Pc wr D sa ad ro h as H.size vs.toArray U := by
  have hAA := rx_inA C a1 a2 a4 a5
  refine ⟨vs, rfl, hS, by rw [hU], va_K.moved hW.alike C.2.2.2.2.2.2.2.2.1, rx_NW_warm hW C.2.2.2.2.2.2.2.2.2.2.2.1, ?_, rx_TW_go hW (fun q q1 q2 => by rw [hU]; exact a5.2.1 q q1 q2) hAA C.2.2.2.2.2.2.2.2.2.2.2.2.2, ws, rx_W_moved hW.alike a2, by rw [hU]; exact a3, a4.weaken (fun _ _ _ _ => trivial)⟩
  refine ⟨fun j l0 hj => ?_, fun j nm hj => ?_⟩
  · obtain ⟨a, xs, h1, h2, h3, h4, h5⟩ := C.2.2.2.2.2.2.2.2.2.2.1.1 j l0 hj
    exact ⟨a, xs, h1, by rw [hU]; exact Nat.lt_of_lt_of_le h2 a5.1, fun z => h3 (hAA a z), by rw [hU]; exact (h4.kept (a5.2.1 a h2 h3)).moved hW.alike, h5⟩
  · obtain ⟨a, h1, h2⟩ := C.2.2.2.2.2.2.2.2.2.2.1.2 j nm hj
    refine ⟨a, h1, ?_⟩
    rw [hU]
    exact ((h2.kept (fun q q1 q2 => a5.2.1 q q1 q2)).narrow hAA).moved hW.alike
theorem rx_O_st {ad sa : List Nat} {v : Option rx_V} {r : Option Value} {a : List rx_V} {b : List Value} (h : rx_O ad sa v r) (hs : rx_S ad sa a b) : rx_S ad sa (rx_ol v a) (r.toList ++ b) := by
  match v, r, h with
  | none, none, _ => exact hs
  | some v, some x, h => exact ⟨h, hs⟩
end
section
/-! BY INDUCTION ON THE FUEL -/
/-- what is known of calls beforehand: contracts; of the law's helpers: rules -/
def rx_HO (wr : Bool) (xM : List rx_MT) (l : Launch) (orc : rx_Orc) (ro : List (List rx_V)) : Prop := ∀ (j : Nat) (mj : rx_MT) (h : rx_H) (as : List rx_V) (v : Option rx_V) (h' : rx_H) (mc ms : Nat), xM[j]? = some mj → orc j h as = some (v, h', mc, ms) → ∀ (D : va_G) (sa ad : List Nat) (sz : Nat), Met l mj.1 (rx_ws mj) (rx_rm mj mc ms) (rx_Pc wr D sa ad ro h as sz) (rx_Qc wr D sa ad h' v sz) mc ms (rx_AW wr ad sz)
def rx_HH (wr : Bool) (xM : List rx_MT) (l : Launch) (orc : rx_Orc) (ro : List (List rx_V)) : Prop := ∀ (p : Program) (e : Env) (R : Room) (s : State) (m : MethodId) (args : Array Value) (below : List Frame) (meth : Method) (c : Code) (Q : State → Prop) (D : va_G) (sa ad0 : List Nat) (mt : rx_MT) (pc np tg i : Nat) (K : rx_K) (h : rx_H) (L : rx_F) (as r : List rx_V) (v : Option rx_V) (h' : rx_H) (dc ds cells slots : Nat),
  rx_Cx p s m args meth c D (rx_AW wr ad0 s.heap.size) (rx_BW wr ad0 s.heap.size) wr sa ro mt → rx_Ok xM mt pc (.invokestatic i, np, tg, K) → K.1 = 16 → orc K.2.1 h as = some (v, h', dc, ds) → as.length = K.2.2.1 → rx_cats r ≤ 8 → R.frames = mt.2.2.2.2.2.2.1 ∧ R.locals = mt.2.2.2.2.2.2.2.1 → cells + dc ≤ R.cells ∧ slots + ds ≤ R.slots →
  rx_Go p l e R s m args below meth c Q D (rx_AW wr ad0 s.heap.size) (rx_BW wr ad0 s.heap.size) sa ad0 mt np h' L (rx_ol v r) (cells + dc) (slots + ds) → rx_Go p l e R s m args below meth c Q D (rx_AW wr ad0 s.heap.size) (rx_BW wr ad0 s.heap.size) sa ad0 mt pc h L (as.reverse ++ r) cells slots
/-- a row that returns, and what -/
def rx_rv (tw : Bool) (row : rx_Row) (st : List rx_V) (v : Option rx_V) : Prop := (∃ q, row.1 = .ireturn ∧ st = [.inl q] ∧ v = some (.inl q) ∧ (row.2.2.2.2.1 = 0 ∨ rx_bool q = true)) ∨ (∃ q, row.1 = .lreturn ∧ st = [.inr (.inl q)] ∧ v = some (.inr (.inl q))) ∨ (∃ q, row.1 = .areturn ∧ st = [.inr (.inr (.inl q))] ∧ v = some (.inr (.inr (.inl q)))) ∨ (row.1 = .return_ ∧ st = [] ∧ v = none) ∨ (tw = true ∧ ∃ i, row.1 = .new i ∧ row.2.2.2.1 = 15 ∧ rx_cats st ≤ 8 ∧ v = some (.inr (.inr (.inr (100000 + row.2.2.2.2.1)))))
def rx_FF (wr : Bool) (xM : List rx_MT) (orc : rx_Orc) (ro : List (List rx_V)) (l : Launch) (n : Nat) : Prop := ∀ (p : Program) (e : Env) (R : Room) (s : State) (m : MethodId) (args : Array Value) (below : List Frame) (meth : Method) (c : Code) (Q : State → Prop) (D : va_G) (sa ad0 : List Nat) (mt : rx_MT) (tw : Bool) (v : Option rx_V) (h' : rx_H) (mc ms : Nat),
  rx_Cx p s m args meth c D (rx_AW wr ad0 s.heap.size) (rx_BW wr ad0 s.heap.size) wr sa ro mt → rx_MOk xM mt → (R.frames = mt.2.2.2.2.2.2.1 ∧ R.locals = mt.2.2.2.2.2.2.2.1) → (mc ≤ R.cells ∧ ms ≤ R.slots) → (∀ pc row L st, mt.2.2.2.2.2.1 pc = some row → rx_rv tw row st v → rx_Go p l e R s m args below meth c Q D (rx_AW wr ad0 s.heap.size) (rx_BW wr ad0 s.heap.size) sa ad0 mt pc h' L st mc ms) →
  ∀ (pc : Nat) (h : rx_H) (L : rx_F) (st : List rx_V) (cc ss : Nat), rx_ex wr xM orc ro n tw mt.2.2.2.2.2.1 pc h L st cc ss = some (v, h', mc, ms) → rx_Go p l e R s m args below meth c Q D (rx_AW wr ad0 s.heap.size) (rx_BW wr ad0 s.heap.size) sa ad0 mt pc h L st cc ss
def rx_MM (wr : Bool) (xM : List rx_MT) (orc : rx_Orc) (ro : List (List rx_V)) (l : Launch) (n : Nat) : Prop := ∀ (mt : rx_MT), rx_MOk xM mt → ∀ (D : va_G) (sa ad : List Nat) (h : rx_H) (as : List rx_V) (v : Option rx_V) (h' : rx_H) (mc ms sz : Nat), (rx_arg as).length ≤ mt.2.2.1 → rx_ex wr xM orc ro n false mt.2.2.2.2.2.1 0 h (rx_ini as mt.2.2.1) [] 0 0 = some (v, h', mc, ms) →
  Met l mt.1 (rx_ws mt) (rx_rm mt mc ms) (rx_Pc wr D sa ad ro h as sz) (rx_Qc wr D sa ad h' v sz) mc ms (rx_AW wr ad sz)
theorem rx_retb {q : Int × Int} {x : Int32} (hb : rx_bool q = true) (hx : rx_has q x.toInt) : narrow .boolean (.int x) = .int x := by
  rcases rx_b01 hb hx with rfl | rfl <;> decide
/-- a method's own end -/
theorem rx_RT {wr : Bool} {xM : List rx_MT} {l : Launch} {p : Program} {e : Env} {R : Room} {s : State} {m : MethodId} {args : Array Value} {below : List Frame} {meth : Method} {c : Code} {D : va_G} {sa ad0 : List Nat} {ro : List (List rx_V)} {mt : rx_MT} {v : Option rx_V} {h' : rx_H} {mc ms : Nat} (C : rx_Cx p s m args meth c D (rx_AW wr ad0 s.heap.size) (rx_BW wr ad0 s.heap.size) wr sa ro mt) (ok : rx_MOk xM mt) :
    ∀ pc row L st, mt.2.2.2.2.2.1 pc = some row → rx_rv false row st v → rx_Go p l e R s m args below meth c (MQ below (rx_Qc wr D sa ad0 h' v s.heap.size) args s mc ms (rx_AW wr ad0 s.heap.size)) D (rx_AW wr ad0 s.heap.size) (rx_BW wr ad0 s.heap.size) sa ad0 mt pc h' L st mc ms := by
  intro pc row L st hrow hrv
  have rok := ok.1 pc row hrow
  have hrt : ∀ {ad : List Nat} {ws : va_W} {H : Heap} {locs : List Loc} {r : Option Value}, ad0 <+: ad → rx_W s ad sa h' ws → va_P D rx_cl ws H → va_D (rx_BW wr ad0 s.heap.size) ws → va_S (rx_AW wr ad0 s.heap.size) s.heap H locs → rx_O ad sa v r → ∀ t : State, t.heap = H → s.WarmedH t.vm → rx_Qc wr D sa ad0 h' v s.heap.size args s (.returned r) t := by
    intro ad ws H locs r a1 a2 a3 a4 a5 ho t ht hW
    exact ⟨r, ad, ws, rfl, ho, a1, rx_W_moved hW.alike a2, by rw [ht]; exact a3, a4, a5.F ht⟩
  obtain ⟨ins, np, tg, K⟩ := row
  intro ad ws H locs ls vs a1 a2 a3 a4 a5 a6 a7
  rcases hrv with ⟨q, hi, hst, hv, hb⟩ | ⟨q, hi, hst, hv⟩ | ⟨q, hi, hst, hv⟩ | ⟨hi, hst, hv⟩ | ⟨hz, -⟩
  · cases hi
    subst hv
    obtain ⟨hd, -⟩ := rok.dec (n := 0) rfl
    rw [hst] at a7
    obtain ⟨x, xs, rfl, ⟨i, rfl, hx⟩, a8⟩ := rx_S_cons a7
    cases rx_S_nil a8
    have hq := hrt (r := some (.int i)) a1 a2 a3 a4 a5 ⟨i, rfl, hx⟩
    by_cases h0 : K.2.1 = 0
    · exact W.iret C.1 C.2.1 (C.2.2.2.2.2.1.trans (rok.2.2.1 h0)) hq a5.2.2 hd (hlocks := C.2.2.2.2.2.2.1)
    · rcases hb with hb | hb
      · exact absurd hb h0
      · exact W.zret (ty := .boolean) C.1 C.2.1 (C.2.2.2.2.2.1.trans (rok.2.2.2 h0)) (rx_retb hb hx) hq a5.2.2 hd (hlocks := C.2.2.2.2.2.2.1)
  · cases hi
    subst hv
    obtain ⟨hd, -⟩ := rok.dec (n := 0) rfl
    rw [hst] at a7
    obtain ⟨x, xs, rfl, ⟨i, rfl, hx⟩, a8⟩ := rx_S_cons a7
    cases rx_S_nil a8
    have hq := hrt (r := some (.long i)) a1 a2 a3 a4 a5 ⟨i, rfl, hx⟩
    exact W.lret C.1 C.2.1 (C.2.2.2.2.2.1.trans rok.2.2) hq a5.2.2 hd (hlocks := C.2.2.2.2.2.2.1)
  · cases hi
    subst hv
    obtain ⟨hd, -⟩ := rok.dec (n := 0) rfl
    rw [hst] at a7
    obtain ⟨x, xs, rfl, hx, a8⟩ := rx_S_cons a7
    cases rx_S_nil a8
    have hq := hrt (r := some x) a1 a2 a3 a4 a5 hx
    obtain ⟨nm, e1⟩ := rok.2.2
    exact W.aret C.1 C.2.1 (C.2.2.2.2.2.1.trans e1) (Or.inl ⟨nm, rfl⟩) (rx_ref rfl hx) hq a5.2.2 hd (hlocks := C.2.2.2.2.2.2.1)
  · cases hi
    subst hv
    obtain ⟨hd, -⟩ := rok.dec (n := 0) rfl
    rw [hst] at a7
    cases rx_S_nil a7
    have hq := hrt (r := none) a1 a2 a3 a4 a5 trivial
    exact W.vret C.1 C.2.1 (C.2.2.2.2.2.1.trans rok.2.2) hq a5.2.2 hd (hlocks := C.2.2.2.2.2.2.1)
  · cases hz
theorem rx_M_of_F {wr : Bool} {xM : List rx_MT} {orc : rx_Orc} {ro : List (List rx_V)} {l : Launch} {n : Nat} (hF : rx_FF wr xM orc ro l n) : rx_MM wr xM orc ro l n := by
  intro mt ok D sa ad h as v h' mc ms sz hlen hr
  refine Met.ofW (cc := mt.2.1) (maxL := mt.2.2.1) (ret := mt.2.2.2.1) ok.2.2 rfl ?_
  intro p e s m args below meth c s₁ B hml hv
  obtain ⟨vs, rfl, hS, rfl, hK, hN, hRO, hTW, ws, hW, hP, hD⟩ := hv
  have C : rx_Cx p s m vs.toArray meth c D (rx_AW wr ad s.heap.size) (rx_BW wr ad s.heap.size) wr sa ro mt := ⟨B.exec, B.bytes, hml, by rw [ok.2.1]; exact findClass_of_methodNamed B.named, fun w hw => atoms_spec (ws := rx_ws mt) B.pre w (List.mem_cons_of_mem _ hw), B.returns, B.notSynchronized, (name_of_methodNamed B.named B.method).1, hK, fun q h => Or.inr h, hRO, hN, rx_BAW, hTW⟩
  have hl := lv_entry vs (n := mt.2.2.1) (by rw [rx_sl_len hS]; exact hlen)
  rw [lg_entry_eq]
  generalize (lg_sl vs ++ List.replicate (mt.2.2.1 - (lg_sl vs).length) Slot.unset).toArray = ls at hl ⊢
  refine hF p e _ s m vs.toArray below meth c _ D sa ad mt false v h' mc ms C ok ⟨rfl, rfl⟩ ⟨Nat.le_refl _, Nat.le_refl _⟩ (rx_RT C ok) 0 h _ [] 0 0 hr ad ws s.heap [] ls [] (List.prefix_refl _) hW hP ?_ va_S.rf (rx_ini_L hS hlen hl) trivial
  refine hD.weaken (fun k q hk _ => rx_AB (Or.inl ?_))
  rw [← hW.1]
  exact List.mem_map.mpr ⟨q, List.mem_of_getElem? hk, rfl⟩
set_option maxHeartbeats 4000000 in
theorem rx_F_step {wr : Bool} {xM : List rx_MT} {orc : rx_Orc} {ro : List (List rx_V)} {l : Launch} (hXl : xM.length ≤ 1000) (hO : rx_HO wr xM l orc ro) (hH : rx_HH wr xM l orc ro) (hX : ∀ (j : Nat) (mj : rx_MT), xM[j]? = some mj → rx_MOk xM mj) (hob : Jvm.Cond.instanceMethod Lib.objectInit ∈ rx_bw ∧ Jvm.Cond.code Lib.objectInit ⟨#[0xb1]⟩ 1 none ∈ rx_bw) {n : Nat} (hF : rx_FF wr xM orc ro l n) : rx_FF wr xM orc ro l (n + 1) := by
  have hM := rx_M_of_F hF
  intro p e R s m args below meth c Q D sa ad0 mt tw v h' mc ms C ok hRm hR hret pc h L st cc ss hs
  obtain ⟨row, hrow, hs⟩ := rx_ex_succ hs
  have rok := ok.1 pc row hrow
  have hmono : ∀ {pc' : Nat} {h1 : rx_H} {L' : rx_F} {st' : List rx_V} {a b : Nat}, rx_ex wr xM orc ro n tw mt.2.2.2.2.2.1 pc' h1 L' st' a b = some (v, h', mc, ms) → a ≤ R.cells ∧ b ≤ R.slots := fun q => by have := rx_ex_mono n q; omega
  have hgo : ∀ {pc' : Nat} {h1 : rx_H} {L' : rx_F} {st' : List rx_V} {a b : Nat}, rx_ex wr xM orc ro n tw mt.2.2.2.2.2.1 pc' h1 L' st' a b = some (v, h', mc, ms) → rx_Go p l e R s m args below meth c Q D (rx_AW wr ad0 s.heap.size) (rx_BW wr ad0 s.heap.size) sa ad0 mt pc' h1 L' st' a b := fun q => hF p e R s m args below meth c Q D sa ad0 mt tw v h' mc ms C ok hRm hR hret _ _ _ _ _ _ q
  have hcal : ∀ {j : Nat} {mj : rx_MT} {as : List rx_V} {v1 : Option rx_V} {h1 : rx_H} {dc ds : Nat}, xM[j]? = some mj → (orc j h as = some (v1, h1, dc, ds) ∨ ∃ mj, xM[j]? = some mj ∧ (rx_arg as).length ≤ mj.2.2.1 ∧ rx_ex wr xM orc ro n false mj.2.2.2.2.2.1 0 h (rx_ini as mj.2.2.1) [] 0 0 = some (v1, h1, dc, ds)) → ∀ (ad : List Nat) (sz : Nat), Met l mj.1 (rx_ws mj) (rx_rm mj dc ds) (rx_Pc wr D sa ad ro h as sz) (rx_Qc wr D sa ad h1 v1 sz) dc ds (rx_AW wr ad sz) := by
    intro j mj as v1 h1 dc ds hj hq ad sz
    rcases hq with hq | ⟨mj', g1, g2, g3⟩
    · exact hO j mj h as v1 h1 dc ds hj hq D sa ad sz
    · cases g1.symm.trans hj
      exact hM mj (hX _ _ hj) D sa ad h as v1 h1 dc ds sz g2 g3
  have S : CallFix p m c mt.2.1 mt.2.2.1 s args rx_bw mt.2.2.2.2.1 := ⟨C.1, C.2.1, C.2.2.1, C.2.2.2.1, C.2.2.2.2.1⟩
  obtain ⟨ins, np, tg, K⟩ := row
  refine rx_step_ok C rok hob hRm (fun pc' h1 L' st' dc ds q => ⟨hmono q, hgo q⟩) ?_ ?_ ?_ (fun q hi hr hst hb => ?_) (fun q hi hr hst => ?_) (fun q hi hr hst => ?_) (fun hi hr hst => ?_) (fun i hi hK h8 ht => ?_) hs
  · intro i a as r ci fs hi hK hc hst hn hcat hcell hci
    cases hi
    obtain ⟨v1, h1, dc, ds, g4, g3⟩ := rx_call_some hc
    obtain ⟨mj, q, np', g1, ⟨e2, e3, e4, e5, e6, e7, e8⟩, e9, e10, e11, e12, e13, e14⟩ := rok.2.2 hK
    obtain ⟨hd, rfl⟩ := rok.dec (n := 2) rfl
    intro ad ws H locs ls vs a1 a2 a3 a4 a5 a6 a7
    rw [hst] at a7
    obtain ⟨l1, l2, rfl, s1, s2⟩ := rx_S_app a7
    have s3 := rx_S_rev s1
    rw [List.reverse_reverse] at s3
    obtain ⟨x, xs, ex, ⟨b, hb, rfl⟩, s4⟩ := rx_S_cons s3
    have el : l1 = xs.reverse ++ [Value.ref b] := by rw [← List.reverse_reverse l1, ex, List.reverse_cons]
    have hxs : xs.length = np' := by rw [← rx_S_len s4]; have hn : as.length + 1 = K.2.2.1 := hn; omega
    obtain ⟨a', E, hx1, hw, fs', rfl, -⟩ := rx_W_get a2 hcell (show rx_G ad sa (.inr (.inr (.inl (some a)))) (.ref b) from ⟨b, hb, rfl⟩)
    cases hx1
    have hw0 : wr = true ∨ ∀ q, rx_BW wr ad0 s.heap.size q := by
      cases wr
      · exact Or.inr (fun q => Or.inl rfl)
      · exact Or.inl rfl
    have hA := rx_inA C hw0 a2 a4 a5
    have hB := rx_inB C hw0 a2 a4 a5
    have hm := hmono g4
    have hrecv := va_recv C.2.2.2.2.2.2.2.2.1 a3 (ci := ci) (q0 := a) (q := q) (by rw [hci]; exact e10) hw
    rw [e11] at hrecv
    refine rx_goon (va_runV (As := xs) (rest := l2) (g := F0 m pc ls (l1 ++ l2)) S (hcal g1 g3 ad H.size) (cwV np' C.2.2.2.2.1 (rx_goodc (fun w hw => by
        simp only [List.mem_cons, List.not_mem_nil, or_false] at hw
        rcases hw with rfl | rfl | rfl | rfl
        · exact e12
        · exact e13
        · exact e14
        · exact e5) (rx_goodm e4)) rfl rfl rfl ⟨rfl, e6, e7, e8⟩ ⟨by rw [hRm.1]; exact e2, by rw [hRm.2]; exact e3⟩)
      ⟨rx_blind, hrecv, fun U hU hW => rx_start C hw0 a2 a3 a4 a5 (as := .inr (.inr (.inl (some a))) :: as) (vs := .ref b :: xs) ⟨⟨b, hb, rfl⟩, s4⟩ U hU hW⟩ rfl hxs (by obtain ⟨l0, z1, -⟩ := a6; exact z1.1) (by show l1 ++ l2 = _; rw [el, List.append_assoc]; rfl) (lv_room (by rw [rx_S_cats s2]; exact hcat)) hd hm) a5 hA hB
      (fun r' ad' ws' H1 locs1 o1 o2 o3 o4 o5 o6 => ?_)
    exact hgo g4 ad' ws' H1 locs1 ls _ (List.IsPrefix.trans a1 o2) o3 o4 o5 o6 (rx_L_up o2 a6) (rx_O_st o1 (rx_S_up o2 s2))
  · intro i as r hi hK hc hst hn hcat
    cases hi
    obtain ⟨v1, h1, dc, ds, g4, g3⟩ := rx_call_some hc
    obtain ⟨hd, rfl⟩ := rok.dec (n := 2) rfl
    intro ad ws H locs ls vs a1 a2 a3 a4 a5 a6 a7
    rw [hst] at a7
    obtain ⟨l1, l2, rfl, s1, s2⟩ := rx_S_app a7
    have s3 := rx_S_rev s1
    rw [List.reverse_reverse] at s3
    have hw0 : wr = true ∨ ∀ q, rx_BW wr ad0 s.heap.size q := by
      cases wr
      · exact Or.inr (fun q => Or.inl rfl)
      · exact Or.inl rfl
    have hA := rx_inA C hw0 a2 a4 a5
    have hB := rx_inB C hw0 a2 a4 a5
    have hm := hmono g4
    have hn : as.length = K.2.2.1 := hn
    have fin : ∀ (r' : Option Value) (ad' : List Nat) (ws' : va_W) (H1 : Heap) (locs1 : List Loc), rx_O ad' sa v1 r' → ad <+: ad' → rx_W s ad' sa h1 ws' → va_P D rx_cl ws' H1 → va_D (rx_BW wr ad0 s.heap.size) ws' → va_S (rx_AW wr ad0 s.heap.size) s.heap H1 locs1 → W p l e R s m args below meth c H1 locs1 (cc + dc) (ss + ds) Q (F0 m (pc + 3) ls (r'.toList ++ l2)) :=
      fun r' ad' ws' H1 locs1 o1 o2 o3 o4 o5 o6 => hgo g4 ad' ws' H1 locs1 ls _ (List.IsPrefix.trans a1 o2) o3 o4 o5 o6 (rx_L_up o2 a6) (rx_O_st o1 (rx_S_up o2 s2))
    rcases hK with hK | hK | hK
    · obtain ⟨mj, np', g1, ⟨e2, e3, e4, e5, e6, e7, e8⟩, e9, e12, e13⟩ := rok.2.2.1 hK
      exact rx_goon (va_runS (As := l1.reverse) (rest := l2) (g := F0 m pc ls (l1 ++ l2)) S (hcal g1 g3 ad H.size) (va_cwS np' C.2.2.2.2.1 (rx_goodc (fun w hw => by
        simp only [List.mem_cons, List.not_mem_nil, or_false] at hw
        rcases hw with rfl | rfl | rfl
        · exact e12
        · exact e13
        · exact e5) (rx_goodm e4)) rfl rfl rfl ⟨e6, e7, e8⟩ ⟨by rw [hRm.1]; exact e2, by rw [hRm.2]; exact e3⟩)
        ⟨rx_blind, fun U hU hW => rx_start C hw0 a2 a3 a4 a5 s3 U hU hW⟩ rfl (by rw [← rx_S_len s3, hn, e9]) (by obtain ⟨l0, z1, -⟩ := a6; exact z1.1) (by show l1 ++ l2 = _; rw [List.reverse_reverse]) (lv_room (by rw [rx_S_cats s2]; exact hcat)) hd hm) a5 hA hB fin
    · obtain ⟨mj, np', g1, ⟨e2, e3, e4, e5, e6, e7, e8⟩, e9, e12, e13⟩ := rok.2.2.2.1 hK
      exact rx_goon (va_runSN (As := l1.reverse) (rest := l2) (g := F0 m pc ls (l1 ++ l2)) S (hcal g1 g3 ad H.size) ⟨va_cnB np' C.2.2.2.2.1 (rx_goodm e4) rfl rfl rfl (C.2.2.2.2.2.2.2.2.2.2.2.1.1 _ e12) (C.word e5) ⟨e6, e7, e8⟩ ⟨by rw [hRm.1]; exact e2, by rw [hRm.2]; exact e3⟩, C.word e13, trivial⟩
        ⟨rx_blind, fun U hU hW => rx_start C hw0 a2 a3 a4 a5 s3 U hU hW⟩ rfl (by rw [← rx_S_len s3, hn, e9]) (by obtain ⟨l0, z1, -⟩ := a6; exact z1.1) (by show l1 ++ l2 = _; rw [List.reverse_reverse]) (lv_room (by rw [rx_S_cats s2]; exact hcat)) hd hm) a5 hA hB fin
    · have hK1 := (rok.2.2.2.2.2 hK).1
      rcases g3 with g3 | ⟨mj, g1, -⟩
      · exact hH p e R s m args below meth c Q D sa ad0 mt pc (pc + 3) tg i K h L as r v1 h1 dc ds cc ss C rok hK g3 hn hcat hRm hm (hgo g4) ad ws H locs ls (l1 ++ l2) a1 a2 a3 a4 a5 a6 a7
      · have := (List.getElem?_eq_some_iff.mp g1).1
        have hz : K.2.1 < xM.length := this
        omega
  · intro i a as r hi hK hc hst hn hcat
    cases hi
    obtain ⟨v1, h1, dc, ds, g4, g3⟩ := rx_call_some hc
    obtain ⟨hd, rfl⟩ := rok.dec (n := 2) rfl
    intro ad ws H locs ls vs a1 a2 a3 a4 a5 a6 a7
    rw [hst] at a7
    obtain ⟨l1, l2, rfl, s1, s2⟩ := rx_S_app a7
    have s3 := rx_S_rev s1
    rw [List.reverse_reverse] at s3
    obtain ⟨x, xs, ex, ⟨b, hb, rfl⟩, s4⟩ := rx_S_cons s3
    have el : l1 = xs.reverse ++ [Value.ref b] := by rw [← List.reverse_reverse l1, ex, List.reverse_cons]
    have hw0 : wr = true ∨ ∀ q, rx_BW wr ad0 s.heap.size q := by
      cases wr
      · exact Or.inr (fun q => Or.inl rfl)
      · exact Or.inl rfl
    have hA := rx_inA C hw0 a2 a4 a5
    have hB := rx_inB C hw0 a2 a4 a5
    have hm := hmono g4
    have hn : as.length + 1 = K.2.2.1 := hn
    have fin : ∀ (r' : Option Value) (ad' : List Nat) (ws' : va_W) (H1 : Heap) (locs1 : List Loc), rx_O ad' sa v1 r' → ad <+: ad' → rx_W s ad' sa h1 ws' → va_P D rx_cl ws' H1 → va_D (rx_BW wr ad0 s.heap.size) ws' → va_S (rx_AW wr ad0 s.heap.size) s.heap H1 locs1 → W p l e R s m args below meth c H1 locs1 (cc + dc) (ss + ds) Q (F0 m (pc + 3) ls (r'.toList ++ l2)) :=
      fun r' ad' ws' H1 locs1 o1 o2 o3 o4 o5 o6 => hgo g4 ad' ws' H1 locs1 ls _ (List.IsPrefix.trans a1 o2) o3 o4 o5 o6 (rx_L_up o2 a6) (rx_O_st o1 (rx_S_up o2 s2))
    rcases hK with hK | hK
    · obtain ⟨mj, np', g1, ⟨e2, e3, e4, e5, e6, e7, e8⟩, e9, e10, e11, e12, e13⟩ := rok.2.2.2.1 hK
      have hw : rx_ws mj = Jvm.Cond.code mj.1 mj.2.1 mj.2.2.1 none :: rx_bw := by unfold rx_ws; rw [e11]
      exact rx_goon (va_runI (b := b) (As := xs) (rest := l2) (g := F0 m pc ls (l1 ++ l2)) S (hcal g1 g3 ad H.size) (cwI np' C.2.2.2.2.1 (rx_goodm e4) hw rfl rfl (C.word e5) (C.word e12) (C.word e13) e10 ⟨e6, e7, e8⟩ ⟨by rw [hRm.1]; exact e2, by rw [hRm.2]; exact e3⟩)
        ⟨rx_blind, fun U hU hW => rx_start C hw0 a2 a3 a4 a5 (as := .inr (.inr (.inl (some a))) :: as) (vs := .ref b :: xs) ⟨⟨b, hb, rfl⟩, s4⟩ U hU hW⟩ rfl (by rw [← rx_S_len s4]; omega) (by obtain ⟨l0, z1, -⟩ := a6; exact z1.1) (by show l1 ++ l2 = _; rw [el, List.append_assoc]; rfl) (lv_room (by rw [rx_S_cats s2]; exact hcat)) hd hm) a5 hA hB fin
    · obtain ⟨mj, np', g1, ⟨e2, e3, e4, e5, e6, e7, e8⟩, e9, e10, e11, e12, e13⟩ := rok.2.2.2.2 hK
      have hw : rx_ws mj = Jvm.Cond.code mj.1 mj.2.1 mj.2.2.1 none :: rx_bw := by unfold rx_ws; rw [e11]
      exact rx_goon (va_runIN (b := b) (As := xs) (rest := l2) (g := F0 m pc ls (l1 ++ l2)) S (hcal g1 g3 ad H.size) ⟨va_cnB np' C.2.2.2.2.1 (rx_goodm e4) hw rfl rfl (C.2.2.2.2.2.2.2.2.2.2.2.1.1 _ e12) (C.word e5) ⟨e6, e7, e8⟩ ⟨by rw [hRm.1]; exact e2, by rw [hRm.2]; exact e3⟩, e10, C.word e13⟩
        ⟨rx_blind, fun U hU hW => rx_start C hw0 a2 a3 a4 a5 (as := .inr (.inr (.inl (some a))) :: as) (vs := .ref b :: xs) ⟨⟨b, hb, rfl⟩, s4⟩ U hU hW⟩ rfl (by rw [← rx_S_len s4]; omega) (by obtain ⟨l0, z1, -⟩ := a6; exact z1.1) (by show l1 ++ l2 = _; rw [el, List.append_assoc]; rfl) (lv_room (by rw [rx_S_cats s2]; exact hcat)) hd hm) a5 hA hB fin
  · cases hr; exact hret pc _ L st hrow (Or.inl ⟨q, hi, hst, rfl, hb⟩)
  · cases hr; exact hret pc _ L st hrow (Or.inr (Or.inl ⟨q, hi, hst, rfl⟩))
  · cases hr; exact hret pc _ L st hrow (Or.inr (Or.inr (Or.inl ⟨q, hi, hst, rfl⟩)))
  · cases hr; exact hret pc _ L st hrow (Or.inr (Or.inr (Or.inr (Or.inl ⟨hi, hst, rfl⟩))))
  · obtain ⟨h1, ht⟩ := rx_bif ht
    cases ht
    exact hret pc _ L st hrow (Or.inr (Or.inr (Or.inr (Or.inr ⟨h1, i, hi, hK, h8, rfl⟩))))
theorem rx_F_all {wr : Bool} {xM : List rx_MT} {orc : rx_Orc} {ro : List (List rx_V)} (l : Launch) (hXl : xM.length ≤ 1000) (hO : rx_HO wr xM l orc ro) (hH : rx_HH wr xM l orc ro) (hX : ∀ (j : Nat) (mj : rx_MT), xM[j]? = some mj → rx_MOk xM mj) (hob : Jvm.Cond.instanceMethod Lib.objectInit ∈ rx_bw ∧ Jvm.Cond.code Lib.objectInit ⟨#[0xb1]⟩ 1 none ∈ rx_bw) : ∀ n, rx_FF wr xM orc ro l n := by
  intro n
  induction n with
  | zero =>
    intro p e R s m args below meth c Q D sa ad0 mt tw v h' mc ms C ok hRm hR hret pc h L st cc ss hs
    cases hs
  | succ n ih => exact rx_F_step hXl hO hH hX hob ih
/-- A RUN OF THE LITTLE MACHINE IS THE METHOD'S CONTRACT -/
theorem rx_met {wr : Bool} {xM : List rx_MT} {orc : rx_Orc} {ro : List (List rx_V)} (l : Launch) (hXl : xM.length ≤ 1000) (hO : rx_HO wr xM l orc ro) (hH : rx_HH wr xM l orc ro) (hX : ∀ (j : Nat) (mj : rx_MT), xM[j]? = some mj → rx_MOk xM mj) (hob : Jvm.Cond.instanceMethod Lib.objectInit ∈ rx_bw ∧ Jvm.Cond.code Lib.objectInit ⟨#[0xb1]⟩ 1 none ∈ rx_bw) (n : Nat) : rx_MM wr xM orc ro l n := rx_M_of_F (rx_F_all l hXl hO hH hX hob n)
def rx_no : rx_Orc := fun _ _ _ => none
theorem rx_HO_no {wr : Bool} {xM : List rx_MT} {l : Launch} {ro : List (List rx_V)} : rx_HO wr xM l rx_no ro := by
  intro j mj h as v h' mc ms _ ho
  cases ho
theorem rx_HH_no {wr : Bool} {xM : List rx_MT} {l : Launch} {ro : List (List rx_V)} : rx_HH wr xM l rx_no ro := by
  intro p e R s m args below meth c Q D sa ad0 mt pc np tg i K h L as r v h' dc ds cells slots _ _ _ ho
  cases ho
/-- a guess that speaks only of methods of the table, by their contracts -/
theorem rx_HH_low {wr : Bool} {xM : List rx_MT} {l : Launch} {orc : rx_Orc} {ro : List (List rx_V)} (h : ∀ (j : Nat) (h : rx_H) (as : List rx_V), 1000 ≤ j → orc j h as = none) : rx_HH wr xM l orc ro := by
  intro p e R s m args below meth c Q D sa ad0 mt pc np tg i K h0 L as r v h' dc ds cells slots _ ok hK ho
  have h1 := (ok.2.2.2.2.2 hK).1
  rw [h _ _ _ h1] at ho
  cases ho
end
section
/-! A METHOD THAT THROWS A NEW EXCEPTION OF ITS OWN, nothing changed before -/
/-- a place where a method throws: new, dup, ldc, the constructor, athrow -/
def rx_Site (mt : rx_MT) (pc x : Nat) : Prop := ∃ (i k ic : Nat) (X tx : String), rx_xn[x]? = some X ∧ decode mt.2.1 pc = .ok (.new i, 3) ∧ decode mt.2.1 (pc + 3) = .ok (.dup, 1) ∧ decode mt.2.1 (pc + 4) = .ok (.ldc k, 2) ∧ decode mt.2.1 (pc + 6) = .ok (.invokespecial ic, 3) ∧ decode mt.2.1 (pc + 9) = .ok (.athrow, 1) ∧
  Jvm.Cond.classLink mt.2.2.2.2.1 i X ∈ rx_bw ∧ Jvm.Cond.instantiable X 6 ∈ rx_bw ∧ Jvm.Cond.initialized X ∈ rx_bw ∧ (mt.2.2.2.2.1, k, tx) ∈ rx_st ∧ Bundle.fit X = true ∧
  ∀ a ∈ Bundle.ownAtoms mt.2.2.2.2.1 ic X rx_sup, a ∈ rx_bw ∨ a ∈ rx_tw ∨ a = .isRef (.static Bundle.tN "UNASSIGNED_STACK" Bundle.steD) ∨ a = .isRef (.static Bundle.tN "SUPPRESSED_SENTINEL" Bundle.listD) ∨ a = .laysStatic Bundle.tN "UNASSIGNED_STACK" Bundle.steD ∨ a = .laysStatic Bundle.tN "SUPPRESSED_SENTINEL" Bundle.listD
def rx_Qt (X : String) : Array Value → State → Outcome → State → Prop := fun _ st o t => ∃ (a : Nat) (ce : Cell) (L : List Loc), o = .threw a ∧ t.heap[a]? = some ce ∧ st.vm.findClass X = some ce.cls ∧ ce.vm = .none ∧ st.heap.size ≤ a ∧ st.WarmedH t.vm ∧ (∀ q ∈ L, st.heap.size ≤ q.base) ∧ st.sameButNew ({ t with vm := st.vm } : State) L 1 6
theorem rx_tw_tab : ∀ w ∈ rx_tw, w.onTables = true := by decide +kernel
theorem rx_throwW {p : Program} {l : Launch} {e : Env} {R : Room} {s : State} {m : MethodId} {args : Array Value} {below : List Frame} {meth : Method} {c : Code} {D : va_G} {sa ad0 : List Nat} {ro : List (List rx_V)} {mt : rx_MT} (C : rx_Cx p s m args meth c D (rx_AW false ad0 s.heap.size) (rx_BW false ad0 s.heap.size) false sa ro mt)
    (hT : rx_TW (rx_AW false ad0 s.heap.size) s) (htr : e.platform.stackTraces = false) (hex : c.exceptionTable.toList = []) {pc x : Nat} {X : String} (hsite : rx_Site mt pc x) (hX : rx_xn[x]? = some X) (hR : 6 ≤ R.frames ∧ 100 ≤ R.locals ∧ 1 ≤ R.cells ∧ 6 ≤ R.slots) {h : rx_H} {L : rx_F} {st : List rx_V} (hcat : rx_cats st ≤ 8) :
    rx_Go p l e R s m args below meth c (fun t => ∃ o, t.status = .running ∧ Ended t below o ∧ rx_Qt X args s o t) D (rx_AW false ad0 s.heap.size) (rx_BW false ad0 s.heap.size) sa ad0 mt pc h L st 0 0 := by
  obtain ⟨i, k, ic, X', tx, g0, d0, d3, d4, d6, d9, w1, w2, w3, w4, w5, w6⟩ := hsite
  cases g0.symm.trans hX
  obtain ⟨q0, hq0⟩ := hT.2.2 _ w4
  intro ad ws H locs ls vs a1 a2 a3 a4 a5 a6 a7
  have ecat := rx_S_cats a7
  refine W.newc (g := F0 m pc ls vs) C.1 C.2.1 C.2.2.2.1 (C.word w1) (C.word w2) (C.word w3) rfl d0 (by omega) (by omega) (fun cC kC f1 f2 f3 f4 => ?_)
  refine lv_dup (pc := pc + 3) C.1 C.2.1 d3 rfl ?_
  refine va_ldcS (pc := pc + 4) C.1 C.2.1 C.2.2.2.1 hq0 d4 ?_
  intro T hT0 Y
  have hat : ∀ a ∈ Bundle.ownAtoms mt.2.2.2.2.1 ic X rx_sup, a.before args s = true := by
    intro a ha
    rcases w6 a ha with z | z | z | z | z | z
    · exact C.word z
    · exact va_Nw.use (rx_tw_tab a z) (hT.1 a z)
    · rw [z]; exact rx_LS_ref hT.2.1.1
    · rw [z]; exact rx_LS_ref hT.2.1.2
    · rw [z]; exact rx_LS_lays hT.2.1.1
    · rw [z]; exact rx_LS_lays hT.2.1.2
  have hnewl : ∀ z ∈ locs, s.heap.size ≤ z.base := fun z hz => by
    rcases a5.2.2 z hz with y | y
    · cases y
    · exact y
  have hcell : T.heap[H.size]? = some (freshCell cC kC) := by rw [hT0, Array.getElem?_push_size]
  have hsz : ls.size = c.maxLocals := by
    obtain ⟨l0, z1, -⟩ := a6
    rw [C.2.2.1]; exact z1.1
  obtain ⟨U, st1, st2, st3, st4, st5, ce, st6, st7⟩ := Y.ctorThrowS C.1 htr C.2.2.2.1 w5 (names := rx_sup) (by decide) hat (fun z hz cell hc => by
      have h1 := hnewl z hz
      have h2 := (Array.getElem?_eq_some_iff.mp hc).1
      omega) (a := H.size) f1 f2 hcell a5.1 (msg := .ref q0) rfl (g := F0 m (pc + 6) ls (.ref q0 :: .ref H.size :: .ref H.size :: vs)) rfl hsz rfl rfl (rest := vs) rfl (by rw [C.2.1]; exact d6) (by rw [C.2.1]; exact d9) (by rw [hex]; intro z hz; cases hz) (by show 2 + 3 < R.frames; omega) (by
      show 2 * 0 + (1 + (vs.map fun v => v.category).sum) + (13 * (2 + 1) + 42) ≤ R.locals
      rw [ecat]; omega) (hlocks := C.2.2.2.2.2.2.1)
  exact ⟨U, st1, .threw H.size, st2, st3, H.size, ce, locs, rfl, st6, st7.cls, st7.vm, a5.1, st4, hnewl, st5⟩
/-- the whole method: a run that ends at such a place -/
def rx_rt (mt : rx_MT) : Room := { frames := mt.2.2.2.2.2.2.1, cells := 1, slots := 6, locals := mt.2.2.2.2.2.2.2.1 }
theorem rx_thrown {xM : List rx_MT} {orc : rx_Orc} {ro : List (List rx_V)} (l : Launch) (hfl : l.flags = pinnedFlags ++ [noTraceFlag]) {n : Nat} (hF : rx_FF false xM orc ro l n) {mt : rx_MT} (ok : rx_MOk xM mt) (hret : mt.2.2.2.1 = some .int) (hR : 6 ≤ mt.2.2.2.2.2.2.1 ∧ 100 ≤ mt.2.2.2.2.2.2.2.1)
    (hsite : ∀ pc row, mt.2.2.2.2.2.1 pc = some row → row.2.2.2.1 = 15 → rx_Site mt pc row.2.2.2.2.1) {x : Nat} {X : String} (hX : rx_xn[x]? = some X) {h : rx_H} {as : List rx_V} {h' : rx_H} (hlen : (rx_arg as).length ≤ mt.2.2.1) (hr : rx_ex false xM orc ro n true mt.2.2.2.2.2.1 0 h (rx_ini as mt.2.2.1) [] 0 0 = some (some (.inr (.inr (.inr (100000 + x)))), h', 0, 0)) (D : va_G) (sa ad : List Nat) (sz : Nat) :
    MetFree l mt.1 (headSpec (rx_ws mt) (rx_rt mt)) (rx_Pc false D sa ad ro h as sz) (fun _ _ _ _ _ => True) (rx_Qt X) := by
  have hcw : ∀ (args : Array Value) (s : State), (headSpec (rx_ws mt) (rx_rt mt)).pre.before args s = true → (Cond.code mt.1 mt.2.1 mt.2.2.1 mt.2.2.2.1).before args s = true := fun args s h => atoms_spec (ws := rx_ws mt) h _ List.mem_cons_self
  refine MetFree.of_bodyS (code := mt.2.1) (maxLocals := mt.2.2.1) (ret := mt.2.2.2.1) ok.2.2 ?_ ?_
  · intro args s m h hn
    obtain ⟨meth, c, h1, h2, h3, h4, h5, h6, -, -⟩ := Cond.code_spec hn (hcw args s h)
    exact ⟨meth, c, h1, h2, h3, h4, h5, h6⟩
  · intro p e s m args below meth c s₁ B hml hv _
    obtain ⟨vs, rfl, hS, rfl, hK, hN, hRO, hTW, ws, hW, hP, hD⟩ := hv
    have htr := Launch.traces_off hfl B.admits
    have hh0 : s₁.heap = s.heap := by rw [B.state]; rfl
    obtain ⟨meth', c', z1, z2, -, -, -, -, z3, -⟩ := Cond.code_spec B.named (hcw _ _ B.pre)
    have hcc : c' = c := by
      cases B.method.symm.trans z1
      exact Option.some.inj (z2.symm.trans (Stand.of_body B).code)
    subst hcc
    have hex : c'.exceptionTable.toList = [] := by
      have h0 : c'.exceptionTable.size = 0 := by simpa [Array.isEmpty] using z3
      exact List.eq_nil_of_length_eq_zero (by simpa using h0)
    have C : rx_Cx p s m vs.toArray meth c' D (rx_AW false ad s.heap.size) (rx_BW false ad s.heap.size) false sa ro mt := ⟨B.exec, B.bytes, hml, by rw [ok.2.1]; exact findClass_of_methodNamed B.named, fun w hw => atoms_spec (ws := rx_ws mt) B.pre w (List.mem_cons_of_mem _ hw), B.returns, B.notSynchronized, (name_of_methodNamed B.named B.method).1, hK, fun q h => Or.inr h, hRO, hN, rx_BAW, hTW⟩
    have hl := lv_entry vs (n := mt.2.2.1) (by rw [rx_sl_len hS]; exact hlen)
    have key : W p l e (rx_rt mt) s m vs.toArray below meth c' s.heap [] 0 0 (fun t => ∃ o, t.status = .running ∧ Ended t below o ∧ rx_Qt X vs.toArray s o t) (entryFrame m vs.toArray mt.2.2.1) := by
      rw [lg_entry_eq]
      generalize (lg_sl vs ++ List.replicate (mt.2.2.1 - (lg_sl vs).length) Slot.unset).toArray = ls at hl ⊢
      refine hF p e _ s m vs.toArray below meth c' _ D sa ad mt true _ h' 0 0 C ok ⟨rfl, rfl⟩ ⟨Nat.zero_le _, Nat.zero_le _⟩ ?_ 0 h _ [] 0 0 hr ad ws s.heap [] ls [] (List.prefix_refl _) hW hP (hD.weaken (fun _ _ _ _ => Or.inl rfl)) va_S.rf (rx_ini_L hS hlen hl) trivial
      intro pc row L st hrow hrv
      have rok := ok.1 pc row hrow
      obtain ⟨ins, np, tg, K⟩ := row
      rcases hrv with ⟨q, hi, hst, hv, hb⟩ | ⟨q, hi, hst, hv⟩ | ⟨q, hi, hst, hv⟩ | ⟨hi, hst, hv⟩ | ⟨-, i, hi, hK15, h8, hv⟩
      · cases hv
      · cases hv
      · cases hi
        obtain ⟨nm, e1⟩ := rok.2.2
        rw [hret] at e1
        cases e1
      · cases hv
      · have ex : x = K.2.1 := by
          have := Option.some.inj hv
          have := Sum.inr.inj (Sum.inr.inj (Sum.inr.inj this))
          have h9 : 100000 + x = 100000 + K.2.1 := this
          omega
        exact rx_throwW C hTW htr hex (hsite pc _ hrow hK15) (by rw [← ex]; exact hX) ⟨hR.1, hR.2, Nat.le_refl _, Nat.le_refl _⟩ h8
    obtain ⟨t, a1, o, b1, b2, b3⟩ := key s₁ hh0 (Stand.of_body B)
    exact ⟨t, o, a1, b1, b2, b3⟩
end
section
/-! A CALL THAT THROWS, CAUGHT BY THE CALLER's FIRST HANDLER (its class may still be cold) -/
section CATCH
theorem rx_goClass {E : CtlPost} {e : Env} {d : Bool} {acts : List Action} {s : State} {f : JFrame} {a : Addr} {Q : Handler → Pre} {x : ExceptionTableEntry} {t : List ExceptionTableEntry} {c : ClassId} {cell : Cell} {vm' : Vm} (hx : covers x f.pc = true) (h0 : x.catchType ≠ 0)
    (hg : (Jvm.resolveClass f.method.cls x.catchType).Gives e.toSetting s.vm (.ok c) vm') (hcell : s.heap[a]? = some cell) (hobj : ∀ k, cell.vm ≠ .statics k)
    (hk : ∃ k, vm'.classes[cell.cls]? = some k) (hc : ∃ k, vm'.classes[c]? = some k) (hfit : vm'.assignable cell.cls c = true) (hsz : vm'.classes.size ≤ s.vm.classes.size) :
    wp (findHandler.go f a (x :: t)) Q E e d acts s ↔ Q (.found x.handlerPc) d acts (s.setVm vm') := by
  simp only [covers] at hx
  have h12 : (VmOp.resolveClass f.method.cls x.catchType).answer e s.vm = .ok c ∧ (VmOp.resolveClass f.method.cls x.catchType).tables e s.vm = vm' := hg.op rfl
  obtain ⟨h1, h2⟩ := h12
  have h3 := VmOp.lands_eq h2 hsz
  simp [findHandler.go, hx, h0, h1, h3, hcell, hobj, hk, hc, hfit, VmOp.dirties, VmOp.acts]
/-- what the search gives in the state 's', and the state that it leaves -/
def rx_Finds (e : Env) (s s' : State) (f : JFrame) (a : Addr) (h : Handler) : Prop :=
  ∀ (Q : Handler → Pre) (E : CtlPost) (d : Bool) (acts : List Action), wp (findHandler f a) Q E e d acts s ↔ Q h d acts s'
theorem rx_stepCatch {e : Env} {s s' : State} {a : Addr} {f : JFrame} {r : List Frame} {pc : Nat} (hfind : rx_Finds e s s' f a (.found pc)) :
    (stepThrowing e s a (.java f :: r)).Is (s'.setFrames (.java { f with pc := pc, stack := [.ref a] } :: r)) [] := by
  simp only [stepThrowing, searchFrame, vmDo]
  generalize hr : Sem.go _ e false [] s = res
  obtain ⟨as, rfl, ha⟩ := Sem.eq_ok_of hr (a := Handler.found pc) (s' := s') (acts' := []) (by simp [hfind _ _ _ _])
  exact ⟨rfl, ha⟩
theorem rx_caught {tb : Tables} {e : Env} {s target : State} {g : JFrame} {c : Code} {below : List Frame} {a : Addr} {vm' : Vm} (h : At s g.method c below) {pc : Nat} (hfind : rx_Finds e ((s.setTop g).pushFrame (.throwing a)) (((s.setVm vm').setTop g).pushFrame (.throwing a)) g a (.found pc))
    (hrest : Steps tb e below ((s.setVm vm').setTop { g with pc := pc, stack := [.ref a] }) target) :
    Steps tb e below ((s.setTop g).pushFrame (.throwing a)) target := by
  obtain ⟨hgo, hw⟩ := h.throwing a
  refine Steps.head hgo hw ?_
  rw [stepThread_throwing (frames_entered h.top _), (rx_stepCatch hfind).1]
  obtain ⟨g₀, hg⟩ := Option.isSome_iff_exists.mp h.top
  obtain ⟨r, hr⟩ := State.topJava?_eq_some.mp hg
  have hr' : (s.setVm vm').frames = .java g₀ :: r := hr
  rw [State.pushFrame, State.setFrames_setFrames, State.setTop_of_frames _ hr', State.setFrames_setFrames]
  rw [State.setTop_of_frames _ hr'] at hrest
  rw [hr]
  exact hrest
variable {p : Program} {l : Launch} {e : Env} {R : Room} {s : State} {m : MethodId} {args : Array Value} {below : List Frame} {meth : Method} {c : Code} {H : Heap} {locs : List Loc} {cells slots : Nat} {Q : State → Prop}
variable {y : MethodName} {bytes cc : ByteArray} {maxL nL n index : Nat} {ret : Option FieldType} {ws : List Cond} {rm : Room} {Pc : Array Value → State → Prop} {Ts : List Cond} {own C : String} {b : Addr} {As rest : List Value} {g : JFrame}
/-- invokevirtual of a method that throws a new X; the caller's first handler takes an X -/
theorem rx_catchV (S : CallFix p m c cc nL s args Ts own) {X : String} (hM : MetFree l y (headSpec ws rm) Pc (fun _ _ _ _ _ => True) (rx_Qt X)) (cw : CallW R s args own C index y bytes maxL ret ws rm 1 6 n) (hp : PreV s H C b Pc As)
    (hg : g.method = m) (hn : As.length = n) (hsize : g.locals.size = nL) (hstack : g.stack = As.reverse ++ .ref b :: rest) (hW : 2 * g.monitorRoom + (rest.map fun v => v.category).sum ≤ 8) (hdg : decode cc g.pc = .ok (.invokevirtual index, 3)) (hf : cells + 1 ≤ R.cells ∧ slots + 6 ≤ R.slots)
    {x0 : ExceptionTableEntry} {xt : List ExceptionTableEntry} (hex : c.exceptionTable.toList = x0 :: xt) (hcov : covers x0 g.pc = true) (hct : x0.catchType ≠ 0) (hcl : (Cond.classLink own x0.catchType X).before args s = true) (hca : (Cond.castable X X).before args s = true)
    (k : ∀ (a : Nat) (H' : Heap) (L : List Loc), (∀ q ∈ L, H.size ≤ q.base) → H.size ≤ H'.size → (∀ q : Nat, q < H.size → H'[q]? = H[q]?) → W p l e R s m args below meth c H' (locs ++ L) (cells + 1) (slots + 6) Q { g with pc := x0.handlerPc, stack := [.ref a] }) :
    W p l e R s m args below meth c H locs cells slots Q g := by
  obtain ⟨⟨hrc, hrs, hfr0, hlo0, hws, hcm, hcode, hini, hy, hlen, hl⟩, hinst, hsel⟩ := cw
  obtain ⟨hexec, hb, hml, hown, -⟩ := S
  obtain ⟨hbl, ⟨cellB, hcell, hobj, hcls⟩, hPc⟩ := hp
  intro T hT X0
  obtain ⟨mk, methM, hnamed, hmethM, hstM, habM⟩ := Cond.instanceMethod_spec hinst
  obtain ⟨methM', cM, hmethM', hcM, -, hlM, -, -, -, hsigM⟩ := Cond.code_spec hnamed hcode
  cases hmethM.symm.trans hmethM'
  obtain ⟨c2, r2, m2, q1, q2, q3, q4, kP, hkP, hkPi⟩ := Cond.selects_spec hsel
  cases hcls.symm.trans q1
  cases (State.methodFound?_of_named hnamed hy).symm.trans q2
  cases hnamed.symm.trans q3
  have hselP : selectMethod e.platform s.vm cellB.cls mk = .method mk := by rw [Launch.admits_selectMethod X0.admits]; exact q4
  obtain ⟨vm₁, X₁, hstep₁⟩ := X0.invokevirtual hexec hown hl hnamed hmethM hstM hkP hkPi hy (a := b) (cell := cellB) (by rw [hT]; exact hcell)
    (fun z h => by rw [h] at hobj; cases hobj) hselP hmethM habM hkP hkPi (g := g) hg (argsL := As) (rest := rest) (hn.trans (hlen _ hsigM)) hstack (by rw [hb]; exact hdg)
  generalize hU : T.setVm vm₁ = U at X₁
  have hUh : U.heap = H := by rw [← hU]; exact hT
  generalize hg1 : ({ g with stack := rest } : JFrame) = g1
  have hgm : g1.method = m := by rw [← hg1]; exact hg
  have hdg1 : decode c.code g1.pc = .ok (.invokevirtual index, 3) := by rw [← hg1, hb]; exact hdg
  have hsz1 : g1.locals.size = c.maxLocals := by rw [← hg1]; exact hsize.trans hml.symm
  have hnU : U.methodNamed? y = some mk := X₁.named hnamed
  obtain ⟨kY, hkY, -⟩ := className_of_methodNamed hnU
  have hkYi : kY.init = .initialized := by
    have z := X₁.warmed
    obtain ⟨k1, e1, e2⟩ := z.alike.2.2 _ _ hkP
    cases e1.symm.trans hkY
    have e9 : kP.init = .initialized := Cond.initialized_spec (findClass_of_methodNamed hnamed) hkP hini
    rw [e2]; exact e9
  have hA : At U g1.method c below := by rw [hgm]; exact X₁.here
  have hmU : U.vm.method? mk = some methM := by rw [X₁.warmed.alike.method?]; exact hmethM
  have happ : (headSpec ws rm).appliesLoose y e.platform (U.calling g1 mk (Value.ref b :: As).toArray) = true :=
    Spec.appliesLoose_calling (g := g1) hA hdg1 hnU hkY hkYi
      (X₁.room_calling (g := g1) (R' := rm) hsz1 hmU hcM hfr0 (by rw [hlM, ← hg1]; show 2 * g.monitorRoom + (rest.map fun v => v.category).sum + (maxL + 11) + rm.locals ≤ R.locals; omega) (by rw [hrc]; exact hf.1) (by rw [hrs]; exact hf.2)) (atoms_intro fun w hw => hws w hw _ _ X₁.warmed)
  obtain ⟨mid, hmid⟩ := hA.above
  have hfr : (U.setTop g1).frames = (.java g1 :: mid) ++ below := by rw [State.frames_setTop' g1 hA.top, hmid]; rfl
  obtain ⟨o, s₂, hsteps, -, hend, hq⟩ := Steps.callFree hM p X₁.admits X₁.cas X₁.clock (acts := []) hfr happ (hbl _ _ g1 mk (hPc U hUh X₁.warmed)) trivial
  have hq' : rx_Qt X (Value.ref b :: As).toArray (U.calling g1 mk (Value.ref b :: As).toArray) o s₂ := hq
  obtain ⟨a, ce, L, rfl, hce, hcx, hcv, hca0, hW₂, hL, e2, z2, z3, z4, z5, z6⟩ := hq'
  rw [State.frames_setTop' g1 hA.top] at hend
  have hf₂ : s₂.frames = .throwing a :: .java g1 :: U.frames.tail := hend
  have e3 : s₂ = ({ (U.calling g1 mk (Value.ref b :: As).toArray).setFrames s₂.frames with heap := s₂.heap, slotsUsed := s₂.slotsUsed } : State).setVm s₂.vm := by
    have : s₂ = ({ s₂ with vm := (U.calling g1 mk (Value.ref b :: As).toArray).vm } : State).setVm s₂.vm := rfl
    rw [e2] at this
    exact this
  have hW' : U.WarmedH s₂.vm := hW₂
  obtain ⟨g₀, hg0⟩ := Option.isSome_iff_exists.mp hA.top
  obtain ⟨r, hr⟩ := State.topJava?_eq_some.mp hg0
  have hs₂ : s₂ = ((({ U with heap := s₂.heap, slotsUsed := s₂.slotsUsed } : State).setVm s₂.vm).setTop g1).pushFrame (.throwing a) := by
    have hr' : (({ U with heap := s₂.heap, slotsUsed := s₂.slotsUsed } : State).setVm s₂.vm).frames = .java g₀ :: r := hr
    refine e3.trans ?_
    rw [hf₂, State.calling_eq hA.top, State.setFrames_setFrames, State.pushFrame, State.frames_setTop _ hr', State.setTop_of_frames _ hr', State.setFrames_setFrames, hr]
    rfl
  have hsame : U.sameButNew ({ U with heap := s₂.heap, slotsUsed := s₂.slotsUsed } : State) L 1 6 := by
    refine ⟨?_, z2, z3, z4, z5, z6⟩
    obtain ⟨t, ht, -⟩ := State.frames_cons hr
    show ({ U with heap := s₂.heap, slotsUsed := s₂.slotsUsed } : State) = { U.setFrames U.frames with heap := s₂.heap, slotsUsed := s₂.slotsUsed }
    rw [State.setFrames_self ht]
  have X₂ : Stand p l e R s m args below meth c (({ U with heap := s₂.heap, slotsUsed := s₂.slotsUsed } : State).setVm s₂.vm) (locs ++ L) (cells + 1) (slots + 6) :=
    ⟨X₁.admits, X₁.cas, X₁.clock, X₁.frames, X₁.room, X₁.hears, X₁.method, X₁.code, (X₁.here.setHeapUsed s₂.heap s₂.slotsUsed).setVm hW'.alike, X₁.tail, State.WarmedH.trans X₁.warmed hW', X₁.limits, X₁.bytes, X₁.same.trans (hsame.setVm s.vm)⟩
  have hpl : e.platform.magicAccessors = ({} : Platform).magicAccessors := by rw [X₁.admits.platform]
  obtain ⟨cX, hfcX, hclk⟩ := Cond.classLink_spec hown hcl e.platform hpl
  obtain ⟨hg₁, hwarm₁, hready₁⟩ := State.classEntry (e := e) X₂.warmed hclk
  have hsz₁ : (s₂.vm.noted m.cls x0.catchType (.cls cX)).classes.size ≤ s₂.vm.classes.size := by rw [Vm.size_noted]; exact Nat.le_refl _
  have hg₁ : (Jvm.resolveClass m.cls x0.catchType).Gives e.toSetting s₂.vm (.ok cX) (s₂.vm.noted m.cls x0.catchType (.cls cX)) := hg₁
  have hwarm₁ : s.WarmedH (s₂.vm.noted m.cls x0.catchType (.cls cX)) := hwarm₁
  generalize s₂.vm.noted m.cls x0.catchType (.cls cX) = vm₃ at hg₁ hwarm₁ hsz₁
  have X₃ := X₂.noted hwarm₁
  obtain ⟨cA, cB, f1, f2, f3⟩ := Cond.castable_spec hca
  cases f1.symm.trans f2
  cases f1.symm.trans hfcX
  have hcc : ce.cls = cX := by
    have z : U.vm.findClass X = some ce.cls := hcx
    rw [X₁.warmed.alike.findClass, f1] at z
    exact (Option.some.inj z).symm
  obtain ⟨kX, hkX⟩ := Vm.classAt_of_findClass f1
  obtain ⟨kX₃, hkX₃, -⟩ := hwarm₁.alike.2.2 _ _ hkX
  have hfit : vm₃.assignable ce.cls cX = true := by rw [hcc]; rw [hwarm₁.alike.assignable]; exact f3
  have hal₂ : s.vm.Alike s₂.vm := X₂.warmed.alike
  have hm₂ : s₂.vm.method? m = some meth := by rw [hal₂.method?]; exact X₁.method
  obtain ⟨t, a1, b1⟩ := k a s₂.heap L (fun q hq => by have := hL q hq; rw [← hUh]; exact this) (by rw [← hUh]; exact z2) (fun q hq => by
      rw [← hUh] at hq ⊢
      obtain ⟨c', w1, w2, w3, w4⟩ := z6 q _ (Array.getElem?_eq_getElem hq)
      have w1 : s₂.heap[q]? = some c' := w1
      rw [w1, Array.getElem?_eq_getElem hq]
      congr 1
      rw [w2]
      have : c'.slots = (U.heap[q]).slots := by
        apply Array.ext_getElem?
        intro i
        refine w4 i (fun hz => ?_)
        have := hL _ hz
        exact absurd (Nat.lt_of_lt_of_le hq this) (Nat.lt_irrefl _)
      have e9 : (U.calling g1 mk (Value.ref b :: As).toArray).heap[q] = U.heap[q] := rfl
      rw [this])
    ((({ U with heap := s₂.heap, slotsUsed := s₂.slotsUsed } : State).setVm s₂.vm).setVm vm₃) rfl X₃
  refine ⟨t, hstep₁ t (fun acts => ?_), b1⟩
  rw [doInvoke_state, hU, hg1]
  refine hsteps.trans ?_
  rw [hs₂]
  refine rx_caught (vm' := vm₃) (pc := x0.handlerPc) (by rw [hgm]; exact X₂.here) (fun Q E d acts => ?_) ?_
  · rw [W.findHandler_eq (meth := meth) (code := c) (by rw [hgm]; exact hm₂) X₁.code, hex]
    exact rx_goClass (by rw [← hg1]; exact hcov) hct (by rw [hgm]; exact hg₁) hce (by rw [hcv]; intro k h; cases h) ⟨kX₃, by rw [hcc]; exact hkX₃⟩ ⟨kX₃, hkX₃⟩ hfit hsz₁
  · rw [← hg1]; exact a1
end CATCH
end
