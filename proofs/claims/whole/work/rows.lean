section
-- ===== PART A: goes FIRST, ahead of the names: the tables' words, and 'selects' of the private methods out of them =====
/-- a private method of a class that the tables say can be made, by its rows of tables_1 -/
def lw_okq (q : MethodName × Nat) : Prop := (q.1.cls ≠ "java/lang/invoke/MethodHandle" ∧ q.1.cls ≠ "java/lang/invoke/VarHandle") ∧ Cond.instantiable q.1.cls q.2 ∈ tables_1 ∧ Cond.privateMethod q.1 ∈ tables_1 ∧ Cond.instanceMethod q.1 ∈ tables_1
theorem lw_p0 : lw_okq (⟨"TrolleyGang$Wires", "wornInAll", "()I"⟩, 2) := ⟨⟨by decide +kernel, by decide +kernel⟩, List.mem_of_getElem? (i := 57) (by decide +kernel), List.mem_of_getElem? (i := 187) (by decide +kernel), List.mem_of_getElem? (i := 188) (by decide +kernel)⟩
theorem lw_p1 : lw_okq (⟨"java/lang/Throwable", "fillInStackTrace", "(I)Ljava/lang/Throwable;"⟩, 6) := ⟨⟨by decide +kernel, by decide +kernel⟩, List.mem_of_getElem? (i := 243) (by decide +kernel), List.mem_of_getElem? (i := 241) (by decide +kernel), List.mem_of_getElem? (i := 242) (by decide +kernel)⟩
theorem lw_p2 : lw_okq (⟨"TrolleyGang$Ring", "tally", "(I)I"⟩, 6) := ⟨⟨by decide +kernel, by decide +kernel⟩, List.mem_of_getElem? (i := 51) (by decide +kernel), List.mem_of_getElem? (i := 273) (by decide +kernel), List.mem_of_getElem? (i := 274) (by decide +kernel)⟩
theorem lw_p3 : lw_okq (⟨"TrolleyGang$Ring", "busesRunning", "()I"⟩, 6) := ⟨⟨by decide +kernel, by decide +kernel⟩, List.mem_of_getElem? (i := 51) (by decide +kernel), List.mem_of_getElem? (i := 283) (by decide +kernel), List.mem_of_getElem? (i := 284) (by decide +kernel)⟩
theorem lw_p4 : lw_okq (⟨"TrolleyGang$Wires", "spansDown", "()I"⟩, 2) := ⟨⟨by decide +kernel, by decide +kernel⟩, List.mem_of_getElem? (i := 57) (by decide +kernel), List.mem_of_getElem? (i := 287) (by decide +kernel), List.mem_of_getElem? (i := 288) (by decide +kernel)⟩
theorem lw_p5 : lw_okq (⟨"TrolleyGang$Wires", "isDown", "(I)Z"⟩, 2) := ⟨⟨by decide +kernel, by decide +kernel⟩, List.mem_of_getElem? (i := 57) (by decide +kernel), List.mem_of_getElem? (i := 291) (by decide +kernel), List.mem_of_getElem? (i := 292) (by decide +kernel)⟩
theorem lw_p6 : lw_okq (⟨"TrolleyGang$Wires", "frostInAll", "()I"⟩, 2) := ⟨⟨by decide +kernel, by decide +kernel⟩, List.mem_of_getElem? (i := 57) (by decide +kernel), List.mem_of_getElem? (i := 297) (by decide +kernel), List.mem_of_getElem? (i := 298) (by decide +kernel)⟩
theorem lw_p7 : lw_okq (⟨"TrolleyGang$Ring", "hoursStuckInAll", "()I"⟩, 6) := ⟨⟨by decide +kernel, by decide +kernel⟩, List.mem_of_getElem? (i := 51) (by decide +kernel), List.mem_of_getElem? (i := 301) (by decide +kernel), List.mem_of_getElem? (i := 302) (by decide +kernel)⟩
theorem lw_p8 : lw_okq (⟨"TrolleyGang", "digestOfTables", "(J)J"⟩, 3) := ⟨⟨by decide +kernel, by decide +kernel⟩, List.mem_of_getElem? (i := 17) (by decide +kernel), List.mem_of_getElem? (i := 305) (by decide +kernel), List.mem_of_getElem? (i := 306) (by decide +kernel)⟩
theorem lw_p9 : lw_okq (⟨"TrolleyGang$Gang", "hoursToFirst", "()I"⟩, 6) := ⟨⟨by decide +kernel, by decide +kernel⟩, List.mem_of_getElem? (i := 74) (by decide +kernel), List.mem_of_getElem? (i := 313) (by decide +kernel), List.mem_of_getElem? (i := 314) (by decide +kernel)⟩
theorem lw_p10 : lw_okq (⟨"TrolleyGang$Gang", "spansUpwardsToFirst", "()I"⟩, 6) := ⟨⟨by decide +kernel, by decide +kernel⟩, List.mem_of_getElem? (i := 74) (by decide +kernel), List.mem_of_getElem? (i := 317) (by decide +kernel), List.mem_of_getElem? (i := 318) (by decide +kernel)⟩
theorem lw_p11 : lw_okq (⟨"TrolleyGang$Ring", "busesAt", "(I)I"⟩, 6) := ⟨⟨by decide +kernel, by decide +kernel⟩, List.mem_of_getElem? (i := 51) (by decide +kernel), List.mem_of_getElem? (i := 334) (by decide +kernel), List.mem_of_getElem? (i := 335) (by decide +kernel)⟩
theorem lw_p12 : lw_okq (⟨"TrolleyGang$Gang", "placeOf", "(I)I"⟩, 6) := ⟨⟨by decide +kernel, by decide +kernel⟩, List.mem_of_getElem? (i := 74) (by decide +kernel), List.mem_of_getElem? (i := 338) (by decide +kernel), List.mem_of_getElem? (i := 339) (by decide +kernel)⟩
theorem lw_p13 : lw_okq (⟨"TrolleyGang", "checkBus", "(I)V"⟩, 3) := ⟨⟨by decide +kernel, by decide +kernel⟩, List.mem_of_getElem? (i := 17) (by decide +kernel), List.mem_of_getElem? (i := 346) (by decide +kernel), List.mem_of_getElem? (i := 347) (by decide +kernel)⟩
theorem lw_p14 : lw_okq (⟨"TrolleyGang$Wires", "spansUpBehind", "(I)I"⟩, 2) := ⟨⟨by decide +kernel, by decide +kernel⟩, List.mem_of_getElem? (i := 57) (by decide +kernel), List.mem_of_getElem? (i := 351) (by decide +kernel), List.mem_of_getElem? (i := 352) (by decide +kernel)⟩
theorem lw_p15 : lw_okq (⟨"TrolleyGang$Tables", "fare", "(Z)I"⟩, 4) := ⟨⟨by decide +kernel, by decide +kernel⟩, List.mem_of_getElem? (i := 25) (by decide +kernel), List.mem_of_getElem? (i := 398) (by decide +kernel), List.mem_of_getElem? (i := 399) (by decide +kernel)⟩
def lw_privs_1 : List (MethodName × Nat) := [(⟨"TrolleyGang$Wires", "wornInAll", "()I"⟩, 2), (⟨"java/lang/Throwable", "fillInStackTrace", "(I)Ljava/lang/Throwable;"⟩, 6), (⟨"TrolleyGang$Ring", "tally", "(I)I"⟩, 6), (⟨"TrolleyGang$Ring", "busesRunning", "()I"⟩, 6), (⟨"TrolleyGang$Wires", "spansDown", "()I"⟩, 2), (⟨"TrolleyGang$Wires", "isDown", "(I)Z"⟩, 2), (⟨"TrolleyGang$Wires", "frostInAll", "()I"⟩, 2), (⟨"TrolleyGang$Ring", "hoursStuckInAll", "()I"⟩, 6), (⟨"TrolleyGang", "digestOfTables", "(J)J"⟩, 3), (⟨"TrolleyGang$Gang", "hoursToFirst", "()I"⟩, 6), (⟨"TrolleyGang$Gang", "spansUpwardsToFirst", "()I"⟩, 6), (⟨"TrolleyGang$Ring", "busesAt", "(I)I"⟩, 6), (⟨"TrolleyGang$Gang", "placeOf", "(I)I"⟩, 6), (⟨"TrolleyGang", "checkBus", "(I)V"⟩, 3), (⟨"TrolleyGang$Wires", "spansUpBehind", "(I)I"⟩, 2), (⟨"TrolleyGang$Tables", "fare", "(Z)I"⟩, 4)]
theorem lw_r1 : ∀ q ∈ lw_privs_1, lw_okq q := List.forall_mem_cons.mpr ⟨lw_p0, List.forall_mem_cons.mpr ⟨lw_p1, List.forall_mem_cons.mpr ⟨lw_p2, List.forall_mem_cons.mpr ⟨lw_p3, List.forall_mem_cons.mpr ⟨lw_p4, List.forall_mem_cons.mpr ⟨lw_p5, List.forall_mem_cons.mpr ⟨lw_p6, List.forall_mem_cons.mpr ⟨lw_p7, List.forall_mem_cons.mpr ⟨lw_p8, List.forall_mem_cons.mpr ⟨lw_p9, List.forall_mem_cons.mpr ⟨lw_p10, List.forall_mem_cons.mpr ⟨lw_p11, List.forall_mem_cons.mpr ⟨lw_p12, List.forall_mem_cons.mpr ⟨lw_p13, List.forall_mem_cons.mpr ⟨lw_p14, List.forall_mem_cons.mpr ⟨lw_p15, fun _ h => absurd h List.not_mem_nil⟩⟩⟩⟩⟩⟩⟩⟩⟩⟩⟩⟩⟩⟩⟩⟩
theorem lw_p16 : lw_okq (⟨"TrolleyGang$Bus", "come", "(IZ)V"⟩, 6) := ⟨⟨by decide +kernel, by decide +kernel⟩, List.mem_of_getElem? (i := 112) (by decide +kernel), List.mem_of_getElem? (i := 426) (by decide +kernel), List.mem_of_getElem? (i := 427) (by decide +kernel)⟩
theorem lw_p17 : lw_okq (⟨"TrolleyGang$Gang", "takeOut", "(I)V"⟩, 6) := ⟨⟨by decide +kernel, by decide +kernel⟩, List.mem_of_getElem? (i := 74) (by decide +kernel), List.mem_of_getElem? (i := 470) (by decide +kernel), List.mem_of_getElem? (i := 471) (by decide +kernel)⟩
theorem lw_p18 : lw_okq (⟨"TrolleyGang$Ring", "letGoBy", "(ILTrolleyGang$Tables;)V"⟩, 6) := ⟨⟨by decide +kernel, by decide +kernel⟩, List.mem_of_getElem? (i := 51) (by decide +kernel), List.mem_of_getElem? (i := 493) (by decide +kernel), List.mem_of_getElem? (i := 494) (by decide +kernel)⟩
theorem lw_p19 : lw_okq (⟨"TrolleyGang$Ring", "letHourGoBy", "(LTrolleyGang$Tables;)V"⟩, 6) := ⟨⟨by decide +kernel, by decide +kernel⟩, List.mem_of_getElem? (i := 51) (by decide +kernel), List.mem_of_getElem? (i := 497) (by decide +kernel), List.mem_of_getElem? (i := 498) (by decide +kernel)⟩
theorem lw_p20 : lw_okq (⟨"TrolleyGang$Wires", "freeze", "(I)V"⟩, 2) := ⟨⟨by decide +kernel, by decide +kernel⟩, List.mem_of_getElem? (i := 57) (by decide +kernel), List.mem_of_getElem? (i := 501) (by decide +kernel), List.mem_of_getElem? (i := 502) (by decide +kernel)⟩
theorem lw_p21 : lw_okq (⟨"TrolleyGang$Wires", "thaw", "()V"⟩, 2) := ⟨⟨by decide +kernel, by decide +kernel⟩, List.mem_of_getElem? (i := 57) (by decide +kernel), List.mem_of_getElem? (i := 506) (by decide +kernel), List.mem_of_getElem? (i := 507) (by decide +kernel)⟩
theorem lw_p22 : lw_okq (⟨"TrolleyGang$Ring", "letSwanFly", "(I)V"⟩, 6) := ⟨⟨by decide +kernel, by decide +kernel⟩, List.mem_of_getElem? (i := 51) (by decide +kernel), List.mem_of_getElem? (i := 513) (by decide +kernel), List.mem_of_getElem? (i := 514) (by decide +kernel)⟩
theorem lw_p23 : lw_okq (⟨"TrolleyGang$Wires", "wear", "(II)V"⟩, 2) := ⟨⟨by decide +kernel, by decide +kernel⟩, List.mem_of_getElem? (i := 57) (by decide +kernel), List.mem_of_getElem? (i := 518) (by decide +kernel), List.mem_of_getElem? (i := 519) (by decide +kernel)⟩
theorem lw_p24 : lw_okq (⟨"TrolleyGang$Ring", "drive", "(LTrolleyGang$Bus;I)V"⟩, 6) := ⟨⟨by decide +kernel, by decide +kernel⟩, List.mem_of_getElem? (i := 51) (by decide +kernel), List.mem_of_getElem? (i := 523) (by decide +kernel), List.mem_of_getElem? (i := 524) (by decide +kernel)⟩
theorem lw_p25 : lw_okq (⟨"TrolleyGang$Ring", "letGangWork", "()V"⟩, 6) := ⟨⟨by decide +kernel, by decide +kernel⟩, List.mem_of_getElem? (i := 51) (by decide +kernel), List.mem_of_getElem? (i := 527) (by decide +kernel), List.mem_of_getElem? (i := 528) (by decide +kernel)⟩
theorem lw_p26 : lw_okq (⟨"TrolleyGang$Gang", "goToFirst", "()V"⟩, 6) := ⟨⟨by decide +kernel, by decide +kernel⟩, List.mem_of_getElem? (i := 74) (by decide +kernel), List.mem_of_getElem? (i := 531) (by decide +kernel), List.mem_of_getElem? (i := 532) (by decide +kernel)⟩
theorem lw_p27 : lw_okq (⟨"TrolleyGang$Ring", "isOrderDoneByWorkAt", "(I)Z"⟩, 6) := ⟨⟨by decide +kernel, by decide +kernel⟩, List.mem_of_getElem? (i := 51) (by decide +kernel), List.mem_of_getElem? (i := 535) (by decide +kernel), List.mem_of_getElem? (i := 536) (by decide +kernel)⟩
theorem lw_p28 : lw_okq (⟨"TrolleyGang$Wires", "mend", "(II)V"⟩, 2) := ⟨⟨by decide +kernel, by decide +kernel⟩, List.mem_of_getElem? (i := 57) (by decide +kernel), List.mem_of_getElem? (i := 539) (by decide +kernel), List.mem_of_getElem? (i := 540) (by decide +kernel)⟩
theorem lw_p29 : lw_okq (⟨"TrolleyGang$Wires", "putUp", "(I)V"⟩, 2) := ⟨⟨by decide +kernel, by decide +kernel⟩, List.mem_of_getElem? (i := 57) (by decide +kernel), List.mem_of_getElem? (i := 543) (by decide +kernel), List.mem_of_getElem? (i := 544) (by decide +kernel)⟩
theorem lw_p30 : lw_okq (⟨"TrolleyGang$Ring", "copyFrom", "(LTrolleyGang$Ring;)V"⟩, 6) := ⟨⟨by decide +kernel, by decide +kernel⟩, List.mem_of_getElem? (i := 51) (by decide +kernel), List.mem_of_getElem? (i := 555) (by decide +kernel), List.mem_of_getElem? (i := 556) (by decide +kernel)⟩
theorem lw_p31 : lw_okq (⟨"TrolleyGang$Wires", "copyFrom", "(LTrolleyGang$Wires;)V"⟩, 2) := ⟨⟨by decide +kernel, by decide +kernel⟩, List.mem_of_getElem? (i := 57) (by decide +kernel), List.mem_of_getElem? (i := 559) (by decide +kernel), List.mem_of_getElem? (i := 560) (by decide +kernel)⟩
def lw_privs_2 : List (MethodName × Nat) := [(⟨"TrolleyGang$Bus", "come", "(IZ)V"⟩, 6), (⟨"TrolleyGang$Gang", "takeOut", "(I)V"⟩, 6), (⟨"TrolleyGang$Ring", "letGoBy", "(ILTrolleyGang$Tables;)V"⟩, 6), (⟨"TrolleyGang$Ring", "letHourGoBy", "(LTrolleyGang$Tables;)V"⟩, 6), (⟨"TrolleyGang$Wires", "freeze", "(I)V"⟩, 2), (⟨"TrolleyGang$Wires", "thaw", "()V"⟩, 2), (⟨"TrolleyGang$Ring", "letSwanFly", "(I)V"⟩, 6), (⟨"TrolleyGang$Wires", "wear", "(II)V"⟩, 2), (⟨"TrolleyGang$Ring", "drive", "(LTrolleyGang$Bus;I)V"⟩, 6), (⟨"TrolleyGang$Ring", "letGangWork", "()V"⟩, 6), (⟨"TrolleyGang$Gang", "goToFirst", "()V"⟩, 6), (⟨"TrolleyGang$Ring", "isOrderDoneByWorkAt", "(I)Z"⟩, 6), (⟨"TrolleyGang$Wires", "mend", "(II)V"⟩, 2), (⟨"TrolleyGang$Wires", "putUp", "(I)V"⟩, 2), (⟨"TrolleyGang$Ring", "copyFrom", "(LTrolleyGang$Ring;)V"⟩, 6), (⟨"TrolleyGang$Wires", "copyFrom", "(LTrolleyGang$Wires;)V"⟩, 2)]
theorem lw_r2 : ∀ q ∈ lw_privs_2, lw_okq q := List.forall_mem_cons.mpr ⟨lw_p16, List.forall_mem_cons.mpr ⟨lw_p17, List.forall_mem_cons.mpr ⟨lw_p18, List.forall_mem_cons.mpr ⟨lw_p19, List.forall_mem_cons.mpr ⟨lw_p20, List.forall_mem_cons.mpr ⟨lw_p21, List.forall_mem_cons.mpr ⟨lw_p22, List.forall_mem_cons.mpr ⟨lw_p23, List.forall_mem_cons.mpr ⟨lw_p24, List.forall_mem_cons.mpr ⟨lw_p25, List.forall_mem_cons.mpr ⟨lw_p26, List.forall_mem_cons.mpr ⟨lw_p27, List.forall_mem_cons.mpr ⟨lw_p28, List.forall_mem_cons.mpr ⟨lw_p29, List.forall_mem_cons.mpr ⟨lw_p30, List.forall_mem_cons.mpr ⟨lw_p31, fun _ h => absurd h List.not_mem_nil⟩⟩⟩⟩⟩⟩⟩⟩⟩⟩⟩⟩⟩⟩⟩⟩
theorem lw_p32 : lw_okq (⟨"TrolleyGang$Gang", "copyFrom", "(LTrolleyGang$Gang;)V"⟩, 6) := ⟨⟨by decide +kernel, by decide +kernel⟩, List.mem_of_getElem? (i := 74) (by decide +kernel), List.mem_of_getElem? (i := 566) (by decide +kernel), List.mem_of_getElem? (i := 567) (by decide +kernel)⟩
theorem lw_p33 : lw_okq (⟨"TrolleyGang$Bus", "copyFrom", "(LTrolleyGang$Bus;)V"⟩, 6) := ⟨⟨by decide +kernel, by decide +kernel⟩, List.mem_of_getElem? (i := 112) (by decide +kernel), List.mem_of_getElem? (i := 571) (by decide +kernel), List.mem_of_getElem? (i := 572) (by decide +kernel)⟩
theorem lw_p34 : lw_okq (⟨"TrolleyGang", "coinsWithOnlyOrder", "(II)I"⟩, 3) := ⟨⟨by decide +kernel, by decide +kernel⟩, List.mem_of_getElem? (i := 17) (by decide +kernel), List.mem_of_getElem? (i := 590) (by decide +kernel), List.mem_of_getElem? (i := 591) (by decide +kernel)⟩
theorem lw_p35 : lw_okq (⟨"TrolleyGang$Gang", "haveOnly", "(I)V"⟩, 6) := ⟨⟨by decide +kernel, by decide +kernel⟩, List.mem_of_getElem? (i := 74) (by decide +kernel), List.mem_of_getElem? (i := 594) (by decide +kernel), List.mem_of_getElem? (i := 595) (by decide +kernel)⟩
theorem lw_p36 : lw_okq (⟨"TrolleyGangModel", "no", "(I)I"⟩, 8) := ⟨⟨by decide +kernel, by decide +kernel⟩, List.mem_of_getElem? (i := 602) (by decide +kernel), List.mem_of_getElem? (i := 640) (by decide +kernel), List.mem_of_getElem? (i := 641) (by decide +kernel)⟩
theorem lw_p37 : lw_okq (⟨"TrolleyGangModel", "isBus", "(I)Z"⟩, 8) := ⟨⟨by decide +kernel, by decide +kernel⟩, List.mem_of_getElem? (i := 602) (by decide +kernel), List.mem_of_getElem? (i := 666) (by decide +kernel), List.mem_of_getElem? (i := 667) (by decide +kernel)⟩
theorem lw_p38 : lw_okq (⟨"TrolleyGangModel", "busTold", "(II)I"⟩, 8) := ⟨⟨by decide +kernel, by decide +kernel⟩, List.mem_of_getElem? (i := 602) (by decide +kernel), List.mem_of_getElem? (i := 678) (by decide +kernel), List.mem_of_getElem? (i := 679) (by decide +kernel)⟩
theorem lw_p39 : lw_okq (⟨"TrolleyGangModel", "free", "(I)I"⟩, 8) := ⟨⟨by decide +kernel, by decide +kernel⟩, List.mem_of_getElem? (i := 602) (by decide +kernel), List.mem_of_getElem? (i := 682) (by decide +kernel), List.mem_of_getElem? (i := 683) (by decide +kernel)⟩
theorem lw_p40 : lw_okq (⟨"TrolleyGangModel", "spanTold", "(II)I"⟩, 8) := ⟨⟨by decide +kernel, by decide +kernel⟩, List.mem_of_getElem? (i := 602) (by decide +kernel), List.mem_of_getElem? (i := 690) (by decide +kernel), List.mem_of_getElem? (i := 691) (by decide +kernel)⟩
theorem lw_p41 : lw_okq (⟨"TrolleyGangModel", "busesAt", "(I)I"⟩, 8) := ⟨⟨by decide +kernel, by decide +kernel⟩, List.mem_of_getElem? (i := 602) (by decide +kernel), List.mem_of_getElem? (i := 694) (by decide +kernel), List.mem_of_getElem? (i := 695) (by decide +kernel)⟩
theorem lw_p42 : lw_okq (⟨"TrolleyGangModel", "placeOf", "(I)I"⟩, 8) := ⟨⟨by decide +kernel, by decide +kernel⟩, List.mem_of_getElem? (i := 602) (by decide +kernel), List.mem_of_getElem? (i := 698) (by decide +kernel), List.mem_of_getElem? (i := 699) (by decide +kernel)⟩
theorem lw_p43 : lw_okq (⟨"TrolleyGangModel", "gangTold", "(I)I"⟩, 8) := ⟨⟨by decide +kernel, by decide +kernel⟩, List.mem_of_getElem? (i := 602) (by decide +kernel), List.mem_of_getElem? (i := 717) (by decide +kernel), List.mem_of_getElem? (i := 718) (by decide +kernel)⟩
theorem lw_p44 : lw_okq (⟨"TrolleyGangModel", "hoursTill", "(I)I"⟩, 8) := ⟨⟨by decide +kernel, by decide +kernel⟩, List.mem_of_getElem? (i := 602) (by decide +kernel), List.mem_of_getElem? (i := 721) (by decide +kernel), List.mem_of_getElem? (i := 722) (by decide +kernel)⟩
theorem lw_p45 : lw_okq (⟨"TrolleyGangModel", "counted", "(I)I"⟩, 8) := ⟨⟨by decide +kernel, by decide +kernel⟩, List.mem_of_getElem? (i := 602) (by decide +kernel), List.mem_of_getElem? (i := 733) (by decide +kernel), List.mem_of_getElem? (i := 734) (by decide +kernel)⟩
theorem lw_p46 : lw_okq (⟨"TrolleyGangModel", "ofBuses", "([II)I"⟩, 8) := ⟨⟨by decide +kernel, by decide +kernel⟩, List.mem_of_getElem? (i := 602) (by decide +kernel), List.mem_of_getElem? (i := 740) (by decide +kernel), List.mem_of_getElem? (i := 741) (by decide +kernel)⟩
theorem lw_p47 : lw_okq (⟨"TrolleyGangModel", "summed", "([II)I"⟩, 8) := ⟨⟨by decide +kernel, by decide +kernel⟩, List.mem_of_getElem? (i := 602) (by decide +kernel), List.mem_of_getElem? (i := 744) (by decide +kernel), List.mem_of_getElem? (i := 745) (by decide +kernel)⟩
def lw_privs_3 : List (MethodName × Nat) := [(⟨"TrolleyGang$Gang", "copyFrom", "(LTrolleyGang$Gang;)V"⟩, 6), (⟨"TrolleyGang$Bus", "copyFrom", "(LTrolleyGang$Bus;)V"⟩, 6), (⟨"TrolleyGang", "coinsWithOnlyOrder", "(II)I"⟩, 3), (⟨"TrolleyGang$Gang", "haveOnly", "(I)V"⟩, 6), (⟨"TrolleyGangModel", "no", "(I)I"⟩, 8), (⟨"TrolleyGangModel", "isBus", "(I)Z"⟩, 8), (⟨"TrolleyGangModel", "busTold", "(II)I"⟩, 8), (⟨"TrolleyGangModel", "free", "(I)I"⟩, 8), (⟨"TrolleyGangModel", "spanTold", "(II)I"⟩, 8), (⟨"TrolleyGangModel", "busesAt", "(I)I"⟩, 8), (⟨"TrolleyGangModel", "placeOf", "(I)I"⟩, 8), (⟨"TrolleyGangModel", "gangTold", "(I)I"⟩, 8), (⟨"TrolleyGangModel", "hoursTill", "(I)I"⟩, 8), (⟨"TrolleyGangModel", "counted", "(I)I"⟩, 8), (⟨"TrolleyGangModel", "ofBuses", "([II)I"⟩, 8), (⟨"TrolleyGangModel", "summed", "([II)I"⟩, 8)]
theorem lw_r3 : ∀ q ∈ lw_privs_3, lw_okq q := List.forall_mem_cons.mpr ⟨lw_p32, List.forall_mem_cons.mpr ⟨lw_p33, List.forall_mem_cons.mpr ⟨lw_p34, List.forall_mem_cons.mpr ⟨lw_p35, List.forall_mem_cons.mpr ⟨lw_p36, List.forall_mem_cons.mpr ⟨lw_p37, List.forall_mem_cons.mpr ⟨lw_p38, List.forall_mem_cons.mpr ⟨lw_p39, List.forall_mem_cons.mpr ⟨lw_p40, List.forall_mem_cons.mpr ⟨lw_p41, List.forall_mem_cons.mpr ⟨lw_p42, List.forall_mem_cons.mpr ⟨lw_p43, List.forall_mem_cons.mpr ⟨lw_p44, List.forall_mem_cons.mpr ⟨lw_p45, List.forall_mem_cons.mpr ⟨lw_p46, List.forall_mem_cons.mpr ⟨lw_p47, fun _ h => absurd h List.not_mem_nil⟩⟩⟩⟩⟩⟩⟩⟩⟩⟩⟩⟩⟩⟩⟩⟩
theorem lw_p48 : lw_okq (⟨"TrolleyGangModel", "passAll", "([II)V"⟩, 8) := ⟨⟨by decide +kernel, by decide +kernel⟩, List.mem_of_getElem? (i := 602) (by decide +kernel), List.mem_of_getElem? (i := 755) (by decide +kernel), List.mem_of_getElem? (i := 756) (by decide +kernel)⟩
theorem lw_p49 : lw_okq (⟨"TrolleyGangModel", "pass", "([I)V"⟩, 8) := ⟨⟨by decide +kernel, by decide +kernel⟩, List.mem_of_getElem? (i := 602) (by decide +kernel), List.mem_of_getElem? (i := 759) (by decide +kernel), List.mem_of_getElem? (i := 760) (by decide +kernel)⟩
theorem lw_p50 : lw_okq (⟨"TrolleyGangModel", "freeze", "([I)V"⟩, 8) := ⟨⟨by decide +kernel, by decide +kernel⟩, List.mem_of_getElem? (i := 602) (by decide +kernel), List.mem_of_getElem? (i := 763) (by decide +kernel), List.mem_of_getElem? (i := 764) (by decide +kernel)⟩
theorem lw_p51 : lw_okq (⟨"TrolleyGangModel", "run", "([II)V"⟩, 8) := ⟨⟨by decide +kernel, by decide +kernel⟩, List.mem_of_getElem? (i := 602) (by decide +kernel), List.mem_of_getElem? (i := 771) (by decide +kernel), List.mem_of_getElem? (i := 772) (by decide +kernel)⟩
theorem lw_p52 : lw_okq (⟨"TrolleyGangModel", "lookAhead", "()V"⟩, 8) := ⟨⟨by decide +kernel, by decide +kernel⟩, List.mem_of_getElem? (i := 602) (by decide +kernel), List.mem_of_getElem? (i := 782) (by decide +kernel), List.mem_of_getElem? (i := 783) (by decide +kernel)⟩
theorem lw_p53 : lw_okq (⟨"TrolleyGangModel", "coinsWith", "(II)I"⟩, 8) := ⟨⟨by decide +kernel, by decide +kernel⟩, List.mem_of_getElem? (i := 602) (by decide +kernel), List.mem_of_getElem? (i := 795) (by decide +kernel), List.mem_of_getElem? (i := 796) (by decide +kernel)⟩
def lw_privs_4 : List (MethodName × Nat) := [(⟨"TrolleyGangModel", "passAll", "([II)V"⟩, 8), (⟨"TrolleyGangModel", "pass", "([I)V"⟩, 8), (⟨"TrolleyGangModel", "freeze", "([I)V"⟩, 8), (⟨"TrolleyGangModel", "run", "([II)V"⟩, 8), (⟨"TrolleyGangModel", "lookAhead", "()V"⟩, 8), (⟨"TrolleyGangModel", "coinsWith", "(II)I"⟩, 8)]
theorem lw_r4 : ∀ q ∈ lw_privs_4, lw_okq q := List.forall_mem_cons.mpr ⟨lw_p48, List.forall_mem_cons.mpr ⟨lw_p49, List.forall_mem_cons.mpr ⟨lw_p50, List.forall_mem_cons.mpr ⟨lw_p51, List.forall_mem_cons.mpr ⟨lw_p52, List.forall_mem_cons.mpr ⟨lw_p53, fun _ h => absurd h List.not_mem_nil⟩⟩⟩⟩⟩⟩
def lw_privs : List (MethodName × Nat) := lw_privs_1 ++ (lw_privs_2 ++ (lw_privs_3 ++ (lw_privs_4)))
def lw_tbl : List Cond := k2_sels lw_privs ++ tables_1
theorem lw_privs_ok : ∀ q ∈ lw_privs, lw_okq q := by
  show ∀ q ∈ lw_privs_1 ++ (lw_privs_2 ++ (lw_privs_3 ++ (lw_privs_4))), lw_okq q
  exact List.forall_mem_append.mpr ⟨lw_r1, List.forall_mem_append.mpr ⟨lw_r2, List.forall_mem_append.mpr ⟨lw_r3, lw_r4⟩⟩⟩
/-- the streams that the claim lets the run draw from -/
abbrev lw_cs : List Choice := [Jvm.Choice.named "NaN.bits"]
theorem lw_bits : nanBits ∈ lw_cs := by first | decide | exact List.mem_cons_self | simp [lw_cs, nanBits]
end
section
/-! ===== BEGIN words of one list among another's, by their places ===== -/
theorem goodIn_r {big : List Cond} (ws : List Cond) (ps : List Nat) (hp : ws = ps.filterMap (fun i => big[i]?)) (h : ws.all goodWord = true) : GoodIn big ws := by
  intro w hw
  have h1 := List.all_eq_true.mp h w hw
  rw [hp] at hw
  obtain ⟨i, -, hi⟩ := List.mem_filterMap.mp hw
  have hm : w ∈ big := by first | exact List.mem_of_getElem? hi | exact List.getElem?_mem hi
  exact ⟨hm, good_of_word h1⟩
theorem goodIn_app {big a b : List Cond} (ha : GoodIn big a) (hb : GoodIn big b) : GoodIn big (a ++ b) := fun w h => (List.mem_append.mp h).elim (ha w) (hb w)
theorem goodIn_ca {big a b : List Cond} {c : Cond} (ha : GoodIn big (c :: a)) (hb : GoodIn big b) : GoodIn big (c :: (a ++ b)) := fun w h => (List.mem_cons.mp h).elim (fun e => ha w (List.mem_cons.mpr (Or.inl e))) (fun h => (List.mem_append.mp h).elim (fun h => ha w (List.mem_cons.mpr (Or.inr h))) (hb w))
theorem goodIn_sub {big ws : List Cond} (hm : ∀ w ∈ ws, w ∈ big) (h : ws.all goodWord = true) : GoodIn big ws := fun w hw => ⟨hm w hw, good_of_word (List.all_eq_true.mp h w hw)⟩
/-! ===== END ===== -/

/-! ===== BEGIN exceptions that leave a method, and their catching by the caller (launches without stack traces) ===== -/
section VXA
/-! The laws vx_back, vx_callV, vx_callS, vx_callSW, vx_throw0, vx_throwS follow proofs of the library, with one case more: JvmDerived/Free/Laws.lean (Back.of_free), Shelf42/LK1.lean (callV, callS), Shelf/KitTraced.lean (throwNew0V, throwNewS). -/
/-- where a method has thrown q: the class by its name, the cell, what was written, the world -/
def vx_T (XC : String → State → State → Prop) (st : State) (q : Addr) (t : State) (mc ms : Nat) (free : Addr → Prop) : Prop :=
  ∃ (E : String) (ce : Cell) (L : List Loc), XC E st t ∧ t.heap[q]? = some ce ∧ ce.vm = .none ∧ st.vm.findClass E = some ce.cls ∧ st.WarmedH t.vm ∧ st.sameButNew ({ t with vm := st.vm } : State) L mc ms ∧ ∀ z ∈ L, free z.base
def vx_Q (Qc : Array Value → State → Outcome → State → Prop) (XC : String → State → State → Prop) (mc ms : Nat) (free : Addr → Prop) : Array Value → State → Outcome → State → Prop := fun a st o t =>
  (Qc a st o t ∧ ∃ L, FrameEnd st o t L mc ms ∧ ∀ q ∈ L, free q.base) ∨ ∃ q, o = .threw q ∧ vx_T XC st q t mc ms free
/-- a callee that returns or throws -/
def vx_Met (l : Launch) (y : MethodName) (ws : List Cond) (rm : Room) (Pc : Array Value → State → Prop) (Qc : Array Value → State → Outcome → State → Prop) (XC : String → State → State → Prop) (mc ms : Nat) (free : Addr → Prop) : Prop :=
  MetFree l y (headSpec ws rm) Pc (fun _ _ _ _ _ => True) (vx_Q Qc XC mc ms free)
def vx_Post (XC : String → State → State → Prop) (mc ms : Nat) (free : Addr → Prop) : Pt → Array Value → Addr → Pt → Prop := fun A a q B =>
  ∃ (g : JFrame) (mk : MethodId) (t : State) (L : List Loc) (E : String) (ce : Cell), B.U.heap = t.heap ∧ B.U.vm = t.vm ∧ XC E (A.U.calling g mk a) t ∧ t.heap[q]? = some ce ∧ ce.vm = .none ∧ A.U.vm.findClass E = some ce.cls ∧ B.locs = A.locs ++ L ∧ (∀ z ∈ L, free z.base) ∧ B.cells = A.cells + mc ∧ B.slots = A.slots + ms
def vx_Back (l : Launch) (R : Room) (p : Program) (e : Env) (below : List Frame) (s : State) (sargs : Array Value) (y : MethodName) (len W9 : Nat)
    (Pre : Pt → Array Value → Prop) (Post : Pt → Array Value → Option Value → Pt → Prop) (PostX : Pt → Array Value → Addr → Pt → Prop) : Prop :=
  ∀ (m : MethodId) (meth : Method) (c : Code) (A : Pt) (g : JFrame) (ig : Instr) (mk : MethodId) (a : Array Value),
    Stand p l e R s m sargs below meth c A.U A.locs A.cells A.slots → g.method = m → g.locals.size = c.maxLocals → decode c.code g.pc = .ok (ig, len) →
    2 * g.monitorRoom + (g.stack.map fun v => v.category).sum ≤ W9 → A.U.methodNamed? y = some mk → Pre A a →
    (∃ (v : Option Value) (B : Pt), Stand p l e R s m sargs below meth c B.U B.locs B.cells B.slots ∧ Post A a v B ∧
      Steps p.tables e below (doInvoke e (A.U.setTop g) [] mk a).1 (B.U.setTop { g with pc := g.pc + len, stack := v.toList ++ g.stack })) ∨
    (∃ (q : Addr) (B : Pt), Stand p l e R s m sargs below meth c B.U B.locs B.cells B.slots ∧ PostX A a q B ∧
      Steps p.tables e below (doInvoke e (A.U.setTop g) [] mk a).1 ((B.U.setTop g).pushFrame (.throwing q)))
section Payer
variable {l : Launch} {R : Room} {p : Program} {e : Env} {below : List Frame} {s : State} {sargs : Array Value} {y : MethodName} {len W9 : Nat}
theorem vx_back {ws : List Cond} {rm : Room} {Pc : Array Value → State → Prop} {Qc : Array Value → State → Outcome → State → Prop} {XC : String → State → State → Prop} {mc ms : Nat} {free : Addr → Prop} {bytes : ByteArray} {maxL : Nat} {ret : Option FieldType}
    (hM : vx_Met l y ws rm Pc Qc XC mc ms free) (hblind : FrameBlind Pc) (hrc : rm.cells = mc) (hrs : rm.slots = ms)
    (hframes : rm.frames + 1 ≤ R.frames) (hlocals : W9 + (maxL + 11) + rm.locals ≤ R.locals)
    (hws : ∀ w ∈ ws, ∀ a' U, s.WarmedH U.vm → w.before a' U = true) (hcode : Cond.code y bytes maxL ret ∈ ws) (hinit : ∀ a' U, s.WarmedH U.vm → (Cond.initialized y.cls).before a' U = true) :
    vx_Back l R p e below s sargs y len W9 (PreOf R mc ms Pc) (PostOf Qc mc ms free) (vx_Post XC mc ms free) := by
  intro m meth c A g ig mk a X hg hsize hdg hW hn hp
  have h1 : (headSpec ws rm).pre.before a A.U = true := atoms_intro fun w hw => hws w hw _ _ X.warmed
  have h2 : (Cond.code y bytes maxL ret).before a A.U = true := hws _ hcode _ _ X.warmed
  have h3 : (Cond.initialized y.cls).before a A.U = true := hinit _ _ X.warmed
  have h4 : A.cells + (headSpec ws rm).room.cells ≤ R.cells := by rw [show (headSpec ws rm).room.cells = mc from hrc]; exact hp.1
  have h5 : A.slots + (headSpec ws rm).room.slots ≤ R.slots := by rw [show (headSpec ws rm).room.slots = ms from hrs]; exact hp.2.1
  have hPc : Pc a (A.U.calling g mk a) := hblind _ _ _ _ hp.2.2
  obtain ⟨U, Ls, c0, s0⟩ := A
  dsimp only [Pt.U, Pt.locs, Pt.cells, Pt.slots] at h1 h2 h3 h4 h5 X hn hPc ⊢
  obtain ⟨methY, cY, hmY, hcY, -, hlY, -, -, -, -⟩ := Cond.code_spec hn h2
  obtain ⟨kY, hkY, -⟩ := className_of_methodNamed hn
  have hinitY : kY.init = .initialized := Cond.initialized_spec (findClass_of_methodNamed hn) hkY h3
  have h : At U g.method c below := by rw [hg]; exact X.here
  have hlocals9 : W9 + (maxL + 11) + (headSpec ws rm).room.locals ≤ R.locals := hlocals
  have happ : (headSpec ws rm).appliesLoose y e.platform (U.calling g mk a) = true :=
    Spec.appliesLoose_calling (g := g) h hdg hn hkY hinitY
      (X.room_calling (g := g) (R' := (headSpec ws rm).room) hsize hmY hcY hframes (by rw [hlY]; omega) h4 h5) h1
  obtain ⟨mid, hmid⟩ := h.above
  have hfr : (U.setTop g).frames = (.java g :: mid) ++ below := by rw [State.frames_setTop' g h.top, hmid]; rfl
  obtain ⟨o, s₂, hsteps, -, hend, hq⟩ := Steps.callFree hM p X.admits X.cas X.clock (acts := []) hfr happ hPc trivial
  have hq' : vx_Q Qc XC mc ms free a (U.calling g mk a) o s₂ := hq
  rw [State.frames_setTop' g h.top] at hend
  obtain ⟨g₀, hg0⟩ := Option.isSome_iff_exists.mp h.top
  obtain ⟨r, hr⟩ := State.topJava?_eq_some.mp hg0
  have hr' : (({ U with heap := s₂.heap, slotsUsed := s₂.slotsUsed } : State).setVm s₂.vm).frames = .java g₀ :: r := hr
  rcases hq' with ⟨hqc, L, hfe, hL⟩ | ⟨q, rfl, E, ce, L, hx, hce, hcv, hcl, hW₂, hsm, hL⟩
  · obtain ⟨⟨v, rfl⟩, hW₂, e2, q2, q3, q4, q5, q6⟩ := id hfe
    have e3 : s₂ = ({ (U.calling g mk a).setFrames s₂.frames with heap := s₂.heap, slotsUsed := s₂.slotsUsed } : State).setVm s₂.vm := by
      have : s₂ = ({ s₂ with vm := (U.calling g mk a).vm } : State).setVm s₂.vm := rfl
      rw [e2] at this
      exact this
    obtain ⟨c₂, i₂, len₂, hc₂, hd₂, hf₂⟩ := hend
    have hW' : U.WarmedH s₂.vm := hW₂
    have hcc : c₂ = c := by
      have h1 : s₂.code? g.method = U.code? g.method := by
        rw [State.code?_eq, State.code?_eq, hW'.alike.method?]
      exact Option.some.inj (hc₂.symm.trans (h1.trans h.code))
    subst hcc
    have hlen : len₂ = len := by rw [hdg] at hd₂; cases hd₂; rfl
    subst hlen
    have hs₂ : s₂ = (({ U with heap := s₂.heap, slotsUsed := s₂.slotsUsed } : State).setVm s₂.vm).setTop { g with pc := g.pc + len₂, stack := v.toList ++ g.stack } := by
      refine e3.trans ?_
      rw [hf₂, State.calling_eq h.top, State.setFrames_setFrames, State.setTop_of_frames _ hr', hr]
      rfl
    have hsame : U.sameButNew ({ U with heap := s₂.heap, slotsUsed := s₂.slotsUsed } : State) L mc ms := by
      refine ⟨?_, q2, q3, q4, q5, q6⟩
      obtain ⟨t, ht, -⟩ := State.frames_cons hr
      show ({ U with heap := s₂.heap, slotsUsed := s₂.slotsUsed } : State) = { U.setFrames U.frames with heap := s₂.heap, slotsUsed := s₂.slotsUsed }
      rw [State.setFrames_self ht]
    subst hg
    refine Or.inl ⟨v, ⟨(({ U with heap := s₂.heap, slotsUsed := s₂.slotsUsed } : State).setVm s₂.vm), Ls ++ L, c0 + mc, s0 + ms⟩,
      ⟨X.admits, X.cas, X.clock, X.frames, X.room, X.hears, X.method, X.code, (X.here.setHeapUsed s₂.heap s₂.slotsUsed).setVm hW'.alike, X.tail, State.WarmedH.trans X.warmed hW', X.limits, X.bytes, X.same.trans (hsame.setVm s.vm)⟩,
      ⟨g, mk, s₂, L, rfl, rfl, hqc, rfl, hL, rfl, rfl⟩, ?_⟩
    show Steps p.tables e below _ ((({ U with heap := s₂.heap, slotsUsed := s₂.slotsUsed } : State).setVm s₂.vm).setTop { g with pc := g.pc + len₂, stack := v.toList ++ g.stack })
    rw [← hs₂]
    exact hsteps
  · obtain ⟨e2, q2, q3, q4, q5, q6⟩ := id hsm
    have e3 : s₂ = ({ (U.calling g mk a).setFrames s₂.frames with heap := s₂.heap, slotsUsed := s₂.slotsUsed } : State).setVm s₂.vm := by
      have : s₂ = ({ s₂ with vm := (U.calling g mk a).vm } : State).setVm s₂.vm := rfl
      rw [e2] at this
      exact this
    have hf₂ : s₂.frames = .throwing q :: .java g :: U.frames.tail := hend
    have hW' : U.WarmedH s₂.vm := hW₂
    have hs₂ : s₂ = ((({ U with heap := s₂.heap, slotsUsed := s₂.slotsUsed } : State).setVm s₂.vm).setTop g).pushFrame (.throwing q) := by
      refine e3.trans ?_
      rw [hf₂, State.calling_eq h.top, State.setFrames_setFrames, State.pushFrame, State.frames_setTop _ hr', State.setTop_of_frames _ hr', State.setFrames_setFrames, hr]
      rfl
    have hsame : U.sameButNew ({ U with heap := s₂.heap, slotsUsed := s₂.slotsUsed } : State) L mc ms := by
      refine ⟨?_, q2, q3, q4, q5, q6⟩
      obtain ⟨t, ht, -⟩ := State.frames_cons hr
      show ({ U with heap := s₂.heap, slotsUsed := s₂.slotsUsed } : State) = { U.setFrames U.frames with heap := s₂.heap, slotsUsed := s₂.slotsUsed }
      rw [State.setFrames_self ht]
    subst hg
    refine Or.inr ⟨q, ⟨(({ U with heap := s₂.heap, slotsUsed := s₂.slotsUsed } : State).setVm s₂.vm), Ls ++ L, c0 + mc, s0 + ms⟩,
      ⟨X.admits, X.cas, X.clock, X.frames, X.room, X.hears, X.method, X.code, (X.here.setHeapUsed s₂.heap s₂.slotsUsed).setVm hW'.alike, X.tail, State.WarmedH.trans X.warmed hW', X.limits, X.bytes, X.same.trans (hsame.setVm s.vm)⟩,
      ⟨g, mk, s₂, L, E, ce, rfl, rfl, hx, hce, hcv, hcl, rfl, hL, rfl, rfl⟩, ?_⟩
    show Steps p.tables e below _ (((({ U with heap := s₂.heap, slotsUsed := s₂.slotsUsed } : State).setVm s₂.vm).setTop g).pushFrame (.throwing q))
    rw [← hs₂]
    exact hsteps
end Payer
section Calls
variable {p : Program} {l : Launch} {e : Env} {R : Room} {s : State} {m : MethodId} {args : Array Value} {below : List Frame} {meth : Method} {c : Code} {T : State} {locs : List Loc} {cells slots : Nat}
theorem vx_callV (X : Stand p l e R s m args below meth c T locs cells slots) (hexec : p.tables.exec = Jvm.exec) {own C : String} {index : Nat} {y : MethodName} {bytes : ByteArray} {maxL : Nat} {ret : Option FieldType}
    (hown : s.vm.findClass own = some m.cls) (hlink : (Cond.methodLink own index y).before args s = true) (hinst : (Cond.instanceMethod y).before args s = true) (hsel : (Cond.selects C y y).before args s = true)
    (hcode : (Cond.code y bytes maxL ret).before args s = true) (hy : y.cls ≠ "java/lang/invoke/MethodHandle" ∧ y.cls ≠ "java/lang/invoke/VarHandle")
    {W9 : Nat} {Pre : Pt → Array Value → Prop} {Post : Pt → Array Value → Option Value → Pt → Prop} {PostX : Pt → Array Value → Addr → Pt → Prop} (hK : vx_Back l R p e below s args y 3 W9 Pre Post PostX)
    {b : Addr} {cellB : Cell} (hcell : T.heap[b]? = some cellB) (hobj : cellB.vm.isStatics = false) (hcls : s.vm.findClass C = some cellB.cls)
    {g : JFrame} (hg : g.method = m) (hsize : g.locals.size = c.maxLocals) {argsL rest : List Value} (hlen : ∀ sig, parseMethodDescriptor y.desc = some sig → argsL.length = sig.parameters.length)
    (hstack : g.stack = argsL.reverse ++ .ref b :: rest) (hW : 2 * g.monitorRoom + (rest.map fun v => v.category).sum ≤ W9) (hdg : decode c.code g.pc = .ok (.invokevirtual index, 3))
    (hpre : ∀ vm₁, s.WarmedH vm₁ → Pre ⟨T.setVm vm₁, locs, cells, slots⟩ (Value.ref b :: argsL).toArray) :
    (∃ (v : Option Value) (vm₁ : Vm) (B : Pt), s.WarmedH vm₁ ∧ Stand p l e R s m args below meth c B.U B.locs B.cells B.slots ∧ Post ⟨T.setVm vm₁, locs, cells, slots⟩ (Value.ref b :: argsL).toArray v B ∧
      ∀ target, Steps p.tables e below (B.U.setTop { g with pc := g.pc + 3, stack := v.toList ++ rest }) target → Steps p.tables e below (T.setTop g) target) ∨
    (∃ (q : Addr) (vm₁ : Vm) (B : Pt), s.WarmedH vm₁ ∧ Stand p l e R s m args below meth c B.U B.locs B.cells B.slots ∧ PostX ⟨T.setVm vm₁, locs, cells, slots⟩ (Value.ref b :: argsL).toArray q B ∧
      Steps p.tables e below (T.setTop g) ((B.U.setTop { g with stack := rest }).pushFrame (.throwing q))) := by
  obtain ⟨mk, methM, hnamed, hmethM, hstM, habM⟩ := Cond.instanceMethod_spec hinst
  obtain ⟨methM', cM, hmethM', -, -, -, -, -, -, hsigM⟩ := Cond.code_spec hnamed hcode
  cases hmethM.symm.trans hmethM'
  obtain ⟨c2, r2, m2, q1, q2, q3, q4, kP, hkP, hkPi⟩ := Cond.selects_spec hsel
  cases hcls.symm.trans q1
  cases (State.methodFound?_of_named hnamed hy).symm.trans q2
  cases hnamed.symm.trans q3
  have hselP : selectMethod e.platform s.vm cellB.cls mk = .method mk := by rw [Launch.admits_selectMethod X.admits]; exact q4
  obtain ⟨vm₁, X₁, hstep₁⟩ := X.invokevirtual hexec hown hlink hnamed hmethM hstM hkP hkPi hy (a := b) (cell := cellB) hcell
    (fun z h => by rw [h] at hobj; cases hobj) hselP hmethM habM hkP hkPi (g := g) hg (argsL := argsL) (rest := rest) (hlen _ hsigM) hstack hdg
  rcases hK m meth c ⟨T.setVm vm₁, locs, cells, slots⟩ { g with stack := rest } (.invokevirtual index) mk (Value.ref b :: argsL).toArray X₁ hg hsize hdg hW (X₁.named hnamed) (hpre vm₁ X₁.warmed) with ⟨v, B, X', hpost, hsteps⟩ | ⟨q, B, X', hpost, hsteps⟩
  · exact Or.inl ⟨v, vm₁, B, X₁.warmed, X', hpost, fun target h => hstep₁ _ fun acts => by rw [doInvoke_state]; exact hsteps.trans h⟩
  · exact Or.inr ⟨q, vm₁, B, X₁.warmed, X', hpost, hstep₁ _ fun acts => by rw [doInvoke_state]; exact hsteps⟩
theorem vx_callS (X : Stand p l e R s m args below meth c T locs cells slots) (hexec : p.tables.exec = Jvm.exec) {own : String} {index : Nat} {y : MethodName} {bytes : ByteArray} {maxL : Nat} {ret : Option FieldType}
    (hown : s.vm.findClass own = some m.cls) (hlink : (Cond.methodLink own index y).before args s = true) (hstat : (Cond.static y).before args s = true) (hinit : (Cond.initialized y.cls).before args s = true)
    (hcode : (Cond.code y bytes maxL ret).before args s = true) (hy : y.cls ≠ "java/lang/invoke/MethodHandle" ∧ y.cls ≠ "java/lang/invoke/VarHandle")
    {W9 : Nat} {Pre : Pt → Array Value → Prop} {Post : Pt → Array Value → Option Value → Pt → Prop} {PostX : Pt → Array Value → Addr → Pt → Prop} (hK : vx_Back l R p e below s args y 3 W9 Pre Post PostX)
    {g : JFrame} (hg : g.method = m) (hsize : g.locals.size = c.maxLocals) {argsL rest : List Value} (hlen : ∀ sig, parseMethodDescriptor y.desc = some sig → argsL.length = sig.parameters.length)
    (hstack : g.stack = argsL.reverse ++ rest) (hW : 2 * g.monitorRoom + (rest.map fun v => v.category).sum ≤ W9) (hdg : decode c.code g.pc = .ok (.invokestatic index, 3))
    (hpre : ∀ vm₁, s.WarmedH vm₁ → Pre ⟨T.setVm vm₁, locs, cells, slots⟩ argsL.toArray) :
    (∃ (v : Option Value) (vm₁ : Vm) (B : Pt), s.WarmedH vm₁ ∧ Stand p l e R s m args below meth c B.U B.locs B.cells B.slots ∧ Post ⟨T.setVm vm₁, locs, cells, slots⟩ argsL.toArray v B ∧
      ∀ target, Steps p.tables e below (B.U.setTop { g with pc := g.pc + 3, stack := v.toList ++ rest }) target → Steps p.tables e below (T.setTop g) target) ∨
    (∃ (q : Addr) (vm₁ : Vm) (B : Pt), s.WarmedH vm₁ ∧ Stand p l e R s m args below meth c B.U B.locs B.cells B.slots ∧ PostX ⟨T.setVm vm₁, locs, cells, slots⟩ argsL.toArray q B ∧
      Steps p.tables e below (T.setTop g) ((B.U.setTop { g with stack := rest }).pushFrame (.throwing q))) := by
  obtain ⟨mk, hnamed⟩ := Cond.code_named hcode
  obtain ⟨methM, cM, hmethM, -, -, -, -, -, -, hsigM⟩ := Cond.code_spec hnamed hcode
  have hstatic : methM.isStatic = true := Cond.static_spec hnamed hmethM hstat
  obtain ⟨kP, hkP, -⟩ := className_of_methodNamed hnamed
  have hinitP : kP.init = .initialized := Cond.initialized_spec (findClass_of_methodNamed hnamed) hkP hinit
  obtain ⟨vm₁, X₁, hstep₁⟩ := X.invokestatic hexec hown hlink hnamed hmethM hstatic hkP hinitP hy (g := g) hg (argsL := argsL) (rest := rest) (hlen _ hsigM) hstack hdg
  rcases hK m meth c ⟨T.setVm vm₁, locs, cells, slots⟩ { g with stack := rest } (.invokestatic index) mk argsL.toArray X₁ hg hsize hdg hW (X₁.named hnamed) (hpre vm₁ X₁.warmed) with ⟨v, B, X', hpost, hsteps⟩ | ⟨q, B, X', hpost, hsteps⟩
  · exact Or.inl ⟨v, vm₁, B, X₁.warmed, X', hpost, fun target h => hstep₁ _ fun acts => by rw [doInvoke_state]; exact hsteps.trans h⟩
  · exact Or.inr ⟨q, vm₁, B, X₁.warmed, X', hpost, hstep₁ _ fun acts => by rw [doInvoke_state]; exact hsteps⟩
end Calls
theorem vx_cls {s : State} {T : State} {vm₁ : Vm} {E : String} {k : ClassId} (hW : s.WarmedH vm₁) (h : (T.setVm vm₁).vm.findClass E = some k) : s.vm.findClass E = some k := by
  have h1 : vm₁.findClass E = some k := h
  rw [hW.alike.findClass] at h1
  exact h1
/-- the method's frame g, with q thrown over it -/
def vx_W (p : Program) (l : Launch) (e : Env) (R : Room) (s : State) (m : MethodId) (args : Array Value) (below : List Frame) (meth : Method) (c : Code) (H : Heap) (locs : List Loc) (cells slots : Nat) (Q : State → Prop) (g : JFrame) (q : Addr) : Prop :=
  ∀ T : State, T.heap = H → Stand p l e R s m args below meth c T locs cells slots → ∃ t, Steps p.tables e below ((T.setTop g).pushFrame (.throwing q)) t ∧ Q t
def vx_Run (p : Program) (l : Launch) (e : Env) (R : Room) (s : State) (m : MethodId) (args : Array Value) (below : List Frame) (meth : Method) (c : Code) (H : Heap) (locs : List Loc) (cells slots mc ms : Nat) (g : JFrame) (rest : List Value) (Qa : State → Outcome → State → Prop) (XC : String → State → State → Prop) (free : Addr → Prop) : Prop :=
  ∀ T : State, T.heap = H → Stand p l e R s m args below meth c T locs cells slots →
    (∃ (v : Option Value) (st₀ t T' : State) (L : List Loc), st₀.heap = H ∧ Stand p l e R s m args below meth c T' (locs ++ L) (cells + mc) (slots + ms) ∧ (∀ q ∈ L, free q.base) ∧ T'.heap = t.heap ∧ T'.vm = t.vm ∧ Qa st₀ (.returned v) t ∧
      Goes p e below T g T' { g with pc := g.pc + 3, stack := v.toList ++ rest }) ∨
    (∃ (q : Addr) (st₀ t T' : State) (L : List Loc) (E : String) (ce : Cell), st₀.heap = H ∧ Stand p l e R s m args below meth c T' (locs ++ L) (cells + mc) (slots + ms) ∧ (∀ z ∈ L, free z.base) ∧ T'.heap = t.heap ∧ T'.vm = t.vm ∧ XC E st₀ t ∧ t.heap[q]? = some ce ∧ ce.vm = .none ∧ s.vm.findClass E = some ce.cls ∧
      Steps p.tables e below (T.setTop g) ((T'.setTop { g with stack := rest }).pushFrame (.throwing q)))
def vx_X {S : Type} (px : S → Prop) (B : String → S → State → Prop) (A : Nat → Prop) : String → State → State → Prop := fun E st t => ∃ u : S, px u ∧ B E u t ∧ va_F A st t
section Runs
variable {p : Program} {l : Launch} {e : Env} {R : Room} {s : State} {m : MethodId} {args : Array Value} {below : List Frame} {meth : Method} {c : Code} {H : Heap} {locs : List Loc} {cells slots : Nat}
variable {y : MethodName} {bytes cc : ByteArray} {maxL nL mc ms n index : Nat} {ret : Option FieldType} {ws : List Cond} {rm : Room} {Pc : Array Value → State → Prop} {Qc : Array Value → State → Outcome → State → Prop} {XC : String → State → State → Prop} {free : Addr → Prop} {Ts : List Cond} {own C : String} {b : Addr} {As rest : List Value} {g : JFrame}
theorem vx_callBack (cb : CallB R s args own index y bytes maxL ret ws rm mc ms n) (hM : vx_Met l y ws rm Pc Qc XC mc ms free) (hbl : FrameBlind Pc) : vx_Back l R p e below s args y 3 8 (PreOf R mc ms Pc) (PostOf Qc mc ms free) (vx_Post XC mc ms free) := by
  obtain ⟨hrc, hrs, hfr, hlo, hws, hcw, -, hini, -⟩ := cb
  exact vx_back (bytes := bytes) (maxL := maxL) (ret := ret) hM hbl hrc hrs hfr hlo hws hcw (fun a' U hW => word_at hW (Or.inl (by first | rfl | simp [Cond.onTables, Cond.keeps, Cond.steady])) hini)
theorem vx_runV (S : CallFix p m c cc nL s args Ts own) (hM : vx_Met l y ws rm Pc Qc XC mc ms free) (cw : CallW R s args own C index y bytes maxL ret ws rm mc ms n) (hp : PreV s H C b Pc As)
    (hg : g.method = m) (hn : As.length = n) (hsize : g.locals.size = nL) (hstack : g.stack = As.reverse ++ .ref b :: rest) (hW : 2 * g.monitorRoom + (rest.map fun v => v.category).sum ≤ 8) (hdg : decode cc g.pc = .ok (.invokevirtual index, 3)) (hf : cells + mc ≤ R.cells ∧ slots + ms ≤ R.slots) :
    vx_Run p l e R s m args below meth c H locs cells slots mc ms g rest (Qc (Value.ref b :: As).toArray) XC free := by
  have hK : vx_Back l R p e below s args y 3 8 (PreOf R mc ms Pc) (PostOf Qc mc ms free) (vx_Post XC mc ms free) := vx_callBack cw.1 hM hp.1
  obtain ⟨⟨-, -, -, -, -, -, hcode, -, hy, hlen, hl⟩, hin, hse⟩ := cw
  obtain ⟨hx, hb, hml, ho, -⟩ := S
  obtain ⟨-, ⟨cellB, hcB, hoB, hclB⟩, hPc⟩ := hp
  intro T hT X
  rcases vx_callV X hx (C := C) (bytes := bytes) (maxL := maxL) (ret := ret) ho hl hin hse hcode hy hK (by rw [hT]; exact hcB) hoB hclB hg (hsize.trans hml.symm) (argsL := As) (rest := rest) (fun sig h => hn.trans (hlen sig h)) hstack hW (by rw [hb]; exact hdg)
    (fun vm₁ hW₁ => ⟨hf.1, hf.2, hPc (T.setVm vm₁) hT hW₁⟩) with ⟨v, vm₁, ⟨U', l2, c2, s2⟩, hW₁, X', ⟨g', mk, t, L, e1, e2, hq, h1, hL, h2, h3⟩, st⟩ | ⟨q, vm₁, ⟨U', l2, c2, s2⟩, hW₁, X', ⟨g', mk, t, L, E, ce, e1, e2, hq, hce, hcv, hcl, h1, hL, h2, h3⟩, st⟩
  · dsimp only [Pt.U, Pt.locs, Pt.cells, Pt.slots] at X' e1 e2 h1 h2 h3 st
    subst h1; subst h2; subst h3
    exact Or.inl ⟨v, (T.setVm vm₁).calling g' mk (Value.ref b :: As).toArray, t, U', L, hT, X', hL, e1, e2, hq, st⟩
  · dsimp only [Pt.U, Pt.locs, Pt.cells, Pt.slots] at X' e1 e2 h1 h2 h3 st hcl
    subst h1; subst h2; subst h3
    exact Or.inr ⟨q, (T.setVm vm₁).calling g' mk (Value.ref b :: As).toArray, t, U', L, E, ce, hT, X', hL, e1, e2, hq, hce, hcv, vx_cls hW₁ hcl, st⟩
theorem vx_runS (S : CallFix p m c cc nL s args Ts own) (hM : vx_Met l y ws rm Pc Qc XC mc ms free) (cw : CallB R s args own index y bytes maxL ret ws rm mc ms n ∧ (Cond.static y).before args s = true) (hp : PreS s H Pc As)
    (hg : g.method = m) (hn : As.length = n) (hsize : g.locals.size = nL) (hstack : g.stack = As.reverse ++ rest) (hW : 2 * g.monitorRoom + (rest.map fun v => v.category).sum ≤ 8) (hdg : decode cc g.pc = .ok (.invokestatic index, 3)) (hf : cells + mc ≤ R.cells ∧ slots + ms ≤ R.slots) :
    vx_Run p l e R s m args below meth c H locs cells slots mc ms g rest (Qc As.toArray) XC free := by
  have hK : vx_Back l R p e below s args y 3 8 (PreOf R mc ms Pc) (PostOf Qc mc ms free) (vx_Post XC mc ms free) := vx_callBack cw.1 hM hp.1
  obtain ⟨⟨-, -, -, -, -, -, hcode, hini, hy, hlen, hl⟩, hstt⟩ := cw
  obtain ⟨hx, hb, hml, ho, -⟩ := S
  intro T hT X
  rcases vx_callS X hx (bytes := bytes) (maxL := maxL) (ret := ret) ho hl hstt hini hcode hy hK hg (hsize.trans hml.symm) (argsL := As) (rest := rest) (fun sig h => hn.trans (hlen sig h)) hstack hW (by rw [hb]; exact hdg)
    (fun vm₁ hW₁ => ⟨hf.1, hf.2, hp.2 (T.setVm vm₁) hT hW₁⟩) with ⟨v, vm₁, ⟨U', l2, c2, s2⟩, hW₁, X', ⟨g', mk, t, L, e1, e2, hq, h1, hL, h2, h3⟩, st⟩ | ⟨q, vm₁, ⟨U', l2, c2, s2⟩, hW₁, X', ⟨g', mk, t, L, E, ce, e1, e2, hq, hce, hcv, hcl, h1, hL, h2, h3⟩, st⟩
  · dsimp only [Pt.U, Pt.locs, Pt.cells, Pt.slots] at X' e1 e2 h1 h2 h3 st
    subst h1; subst h2; subst h3
    exact Or.inl ⟨v, (T.setVm vm₁).calling g' mk As.toArray, t, U', L, hT, X', hL, e1, e2, hq, st⟩
  · dsimp only [Pt.U, Pt.locs, Pt.cells, Pt.slots] at X' e1 e2 h1 h2 h3 st hcl
    subst h1; subst h2; subst h3
    exact Or.inr ⟨q, (T.setVm vm₁).calling g' mk As.toArray, t, U', L, E, ce, hT, X', hL, e1, e2, hq, hce, hcv, vx_cls hW₁ hcl, st⟩
end Runs
section Rows
variable {p : Program} {l : Launch} {e : Env} {R : Room} {s : State} {m : MethodId} {args : Array Value} {below : List Frame} {meth : Method} {c : Code} {H : Heap} {locs : List Loc} {cells slots : Nat} {Q : State → Prop}
variable {mc ms : Nat} {free : Addr → Prop} {A0 A1 : Nat → Prop} {H0 : Heap} {a : Array Value} {pc : Nat} {ls : Array Slot} {st0 rest : List Value}
theorem vx_keep {st₀ t T' : State} {L : List Loc} (h0 : st₀.heap = H) (e1 : T'.heap = t.heap) (hS : va_S A0 H0 H locs) (hA : ∀ q, q < H.size → A1 q → A0 q) (hf : ∀ q, free q → A0 q) (hL : ∀ q ∈ L, free q.base) (hF : va_F A1 st₀ t) :
    H.size ≤ T'.heap.size ∧ (∀ q : Nat, q < H.size → ¬ A1 q → T'.heap[q]? = H[q]?) ∧ va_S A0 H0 T'.heap (locs ++ L) := by
  obtain ⟨hz, hk⟩ := hF
  rw [h0] at hz hk
  exact ⟨by rw [e1]; exact hz, fun q h1 h2 => by rw [e1]; exact hk q h1 h2,
    ⟨Nat.le_trans hS.1 (by rw [e1]; exact hz), fun q h1 h2 => by rw [e1, hk q (Nat.lt_of_lt_of_le h1 hS.1) (fun z => h2 (hA q (Nat.lt_of_lt_of_le h1 hS.1) z))]; exact hS.2.1 q h1 h2, fun q hq => by
      rcases List.mem_append.mp hq with h | h
      · exact hS.2.2 q h
      · exact hf _ (hL q h)⟩⟩
theorem vx_calli {S SX : Type} {post : Int32 → S → Prop} {px : SX → Prop} {B : S → State → Prop} {BX : String → SX → State → Prop} {AX : Nat → Prop} (hr : vx_Run p l e R s m args below meth c H locs cells slots mc ms (F0 m pc ls st0) rest (va_Qi post B A1 a) (vx_X px BX AX) free) (hS : va_S A0 H0 H locs) (hA : ∀ q, q < H.size → A1 q → A0 q) (hf : ∀ q, free q → A0 q) (hAX : ∀ q, q < H.size → AX q → A0 q)
    (kx : ∀ (E : String) (ce : Cell) (q9 : Addr) (u : SX) (t : State) (H1 : Heap) (locs1 : List Loc), t.heap = H1 → s.vm.Alike t.vm → px u → BX E u t → H.size ≤ H1.size → (∀ q : Nat, q < H.size → ¬ AX q → H1[q]? = H[q]?) → va_S A0 H0 H1 locs1 → H1[q9]? = some ce → ce.vm = .none → s.vm.findClass E = some ce.cls → vx_W p l e R s m args below meth c H1 locs1 (cells + mc) (slots + ms) Q (F0 m pc ls rest) q9)
    (kk : ∀ (r : Int32) (u : S) (t : State) (H1 : Heap) (locs1 : List Loc), t.heap = H1 → s.vm.Alike t.vm → post r u → B u t → H.size ≤ H1.size → (∀ q : Nat, q < H.size → ¬ A1 q → H1[q]? = H[q]?) → va_S A0 H0 H1 locs1 → W p l e R s m args below meth c H1 locs1 (cells + mc) (slots + ms) Q (F0 m (pc + 3) ls (.int r :: rest))) : W p l e R s m args below meth c H locs cells slots Q (F0 m pc ls st0) := by
  intro T hT X
  rcases hr T hT X with ⟨v, st₀, t, T', L, h0, X', hL, e1, e2, ⟨⟨r, u, hv, hp, hb⟩, hF⟩, st⟩ | ⟨q, st₀, t, T', L, E, ce, h0, X', hL, e1, e2, ⟨u, hp, hb, hF⟩, hce, hcv, hcl, st⟩
  · cases hv
    obtain ⟨k1, k2, k3⟩ := vx_keep h0 e1 hS hA hf hL hF
    obtain ⟨t2, a1, b1⟩ := kk r u t T'.heap (locs ++ L) e1.symm (by rw [← e2]; exact X'.warmed.alike) hp hb k1 k2 k3 T' rfl X'
    exact ⟨t2, st t2 a1, b1⟩
  · obtain ⟨k1, k2, k3⟩ := vx_keep h0 e1 hS hAX hf hL hF
    obtain ⟨t2, a1, b1⟩ := kx E ce q u t T'.heap (locs ++ L) e1.symm (by rw [← e2]; exact X'.warmed.alike) hp hb k1 k2 k3 (by rw [e1]; exact hce) hcv hcl T' rfl X'
    exact ⟨t2, st.trans a1, b1⟩
theorem vx_calll {S SX : Type} {post : Int64 → S → Prop} {px : SX → Prop} {B : S → State → Prop} {BX : String → SX → State → Prop} {AX : Nat → Prop} (hr : vx_Run p l e R s m args below meth c H locs cells slots mc ms (F0 m pc ls st0) rest (va_Ql post B A1 a) (vx_X px BX AX) free) (hS : va_S A0 H0 H locs) (hA : ∀ q, q < H.size → A1 q → A0 q) (hf : ∀ q, free q → A0 q) (hAX : ∀ q, q < H.size → AX q → A0 q)
    (kx : ∀ (E : String) (ce : Cell) (q9 : Addr) (u : SX) (t : State) (H1 : Heap) (locs1 : List Loc), t.heap = H1 → s.vm.Alike t.vm → px u → BX E u t → H.size ≤ H1.size → (∀ q : Nat, q < H.size → ¬ AX q → H1[q]? = H[q]?) → va_S A0 H0 H1 locs1 → H1[q9]? = some ce → ce.vm = .none → s.vm.findClass E = some ce.cls → vx_W p l e R s m args below meth c H1 locs1 (cells + mc) (slots + ms) Q (F0 m pc ls rest) q9)
    (kk : ∀ (r : Int64) (u : S) (t : State) (H1 : Heap) (locs1 : List Loc), t.heap = H1 → s.vm.Alike t.vm → post r u → B u t → H.size ≤ H1.size → (∀ q : Nat, q < H.size → ¬ A1 q → H1[q]? = H[q]?) → va_S A0 H0 H1 locs1 → W p l e R s m args below meth c H1 locs1 (cells + mc) (slots + ms) Q (F0 m (pc + 3) ls (.long r :: rest))) : W p l e R s m args below meth c H locs cells slots Q (F0 m pc ls st0) := by
  intro T hT X
  rcases hr T hT X with ⟨v, st₀, t, T', L, h0, X', hL, e1, e2, ⟨⟨r, u, hv, hp, hb⟩, hF⟩, st⟩ | ⟨q, st₀, t, T', L, E, ce, h0, X', hL, e1, e2, ⟨u, hp, hb, hF⟩, hce, hcv, hcl, st⟩
  · cases hv
    obtain ⟨k1, k2, k3⟩ := vx_keep h0 e1 hS hA hf hL hF
    obtain ⟨t2, a1, b1⟩ := kk r u t T'.heap (locs ++ L) e1.symm (by rw [← e2]; exact X'.warmed.alike) hp hb k1 k2 k3 T' rfl X'
    exact ⟨t2, st t2 a1, b1⟩
  · obtain ⟨k1, k2, k3⟩ := vx_keep h0 e1 hS hAX hf hL hF
    obtain ⟨t2, a1, b1⟩ := kx E ce q u t T'.heap (locs ++ L) e1.symm (by rw [← e2]; exact X'.warmed.alike) hp hb k1 k2 k3 (by rw [e1]; exact hce) hcv hcl T' rfl X'
    exact ⟨t2, st.trans a1, b1⟩
theorem vx_callf {S SX : Type} {post : UInt32 → S → Prop} {px : SX → Prop} {B : S → State → Prop} {BX : String → SX → State → Prop} {AX : Nat → Prop} (hr : vx_Run p l e R s m args below meth c H locs cells slots mc ms (F0 m pc ls st0) rest (va_Qf post B A1 a) (vx_X px BX AX) free) (hS : va_S A0 H0 H locs) (hA : ∀ q, q < H.size → A1 q → A0 q) (hf : ∀ q, free q → A0 q) (hAX : ∀ q, q < H.size → AX q → A0 q)
    (kx : ∀ (E : String) (ce : Cell) (q9 : Addr) (u : SX) (t : State) (H1 : Heap) (locs1 : List Loc), t.heap = H1 → s.vm.Alike t.vm → px u → BX E u t → H.size ≤ H1.size → (∀ q : Nat, q < H.size → ¬ AX q → H1[q]? = H[q]?) → va_S A0 H0 H1 locs1 → H1[q9]? = some ce → ce.vm = .none → s.vm.findClass E = some ce.cls → vx_W p l e R s m args below meth c H1 locs1 (cells + mc) (slots + ms) Q (F0 m pc ls rest) q9)
    (kk : ∀ (r : UInt32) (u : S) (t : State) (H1 : Heap) (locs1 : List Loc), t.heap = H1 → s.vm.Alike t.vm → post r u → B u t → H.size ≤ H1.size → (∀ q : Nat, q < H.size → ¬ A1 q → H1[q]? = H[q]?) → va_S A0 H0 H1 locs1 → W p l e R s m args below meth c H1 locs1 (cells + mc) (slots + ms) Q (F0 m (pc + 3) ls (.float r :: rest))) : W p l e R s m args below meth c H locs cells slots Q (F0 m pc ls st0) := by
  intro T hT X
  rcases hr T hT X with ⟨v, st₀, t, T', L, h0, X', hL, e1, e2, ⟨⟨r, u, hv, hp, hb⟩, hF⟩, st⟩ | ⟨q, st₀, t, T', L, E, ce, h0, X', hL, e1, e2, ⟨u, hp, hb, hF⟩, hce, hcv, hcl, st⟩
  · cases hv
    obtain ⟨k1, k2, k3⟩ := vx_keep h0 e1 hS hA hf hL hF
    obtain ⟨t2, a1, b1⟩ := kk r u t T'.heap (locs ++ L) e1.symm (by rw [← e2]; exact X'.warmed.alike) hp hb k1 k2 k3 T' rfl X'
    exact ⟨t2, st t2 a1, b1⟩
  · obtain ⟨k1, k2, k3⟩ := vx_keep h0 e1 hS hAX hf hL hF
    obtain ⟨t2, a1, b1⟩ := kx E ce q u t T'.heap (locs ++ L) e1.symm (by rw [← e2]; exact X'.warmed.alike) hp hb k1 k2 k3 (by rw [e1]; exact hce) hcv hcl T' rfl X'
    exact ⟨t2, st.trans a1, b1⟩
theorem vx_calld {S SX : Type} {post : UInt64 → S → Prop} {px : SX → Prop} {B : S → State → Prop} {BX : String → SX → State → Prop} {AX : Nat → Prop} (hr : vx_Run p l e R s m args below meth c H locs cells slots mc ms (F0 m pc ls st0) rest (va_Qd post B A1 a) (vx_X px BX AX) free) (hS : va_S A0 H0 H locs) (hA : ∀ q, q < H.size → A1 q → A0 q) (hf : ∀ q, free q → A0 q) (hAX : ∀ q, q < H.size → AX q → A0 q)
    (kx : ∀ (E : String) (ce : Cell) (q9 : Addr) (u : SX) (t : State) (H1 : Heap) (locs1 : List Loc), t.heap = H1 → s.vm.Alike t.vm → px u → BX E u t → H.size ≤ H1.size → (∀ q : Nat, q < H.size → ¬ AX q → H1[q]? = H[q]?) → va_S A0 H0 H1 locs1 → H1[q9]? = some ce → ce.vm = .none → s.vm.findClass E = some ce.cls → vx_W p l e R s m args below meth c H1 locs1 (cells + mc) (slots + ms) Q (F0 m pc ls rest) q9)
    (kk : ∀ (r : UInt64) (u : S) (t : State) (H1 : Heap) (locs1 : List Loc), t.heap = H1 → s.vm.Alike t.vm → post r u → B u t → H.size ≤ H1.size → (∀ q : Nat, q < H.size → ¬ A1 q → H1[q]? = H[q]?) → va_S A0 H0 H1 locs1 → W p l e R s m args below meth c H1 locs1 (cells + mc) (slots + ms) Q (F0 m (pc + 3) ls (.double r :: rest))) : W p l e R s m args below meth c H locs cells slots Q (F0 m pc ls st0) := by
  intro T hT X
  rcases hr T hT X with ⟨v, st₀, t, T', L, h0, X', hL, e1, e2, ⟨⟨r, u, hv, hp, hb⟩, hF⟩, st⟩ | ⟨q, st₀, t, T', L, E, ce, h0, X', hL, e1, e2, ⟨u, hp, hb, hF⟩, hce, hcv, hcl, st⟩
  · cases hv
    obtain ⟨k1, k2, k3⟩ := vx_keep h0 e1 hS hA hf hL hF
    obtain ⟨t2, a1, b1⟩ := kk r u t T'.heap (locs ++ L) e1.symm (by rw [← e2]; exact X'.warmed.alike) hp hb k1 k2 k3 T' rfl X'
    exact ⟨t2, st t2 a1, b1⟩
  · obtain ⟨k1, k2, k3⟩ := vx_keep h0 e1 hS hAX hf hL hF
    obtain ⟨t2, a1, b1⟩ := kx E ce q u t T'.heap (locs ++ L) e1.symm (by rw [← e2]; exact X'.warmed.alike) hp hb k1 k2 k3 (by rw [e1]; exact hce) hcv hcl T' rfl X'
    exact ⟨t2, st.trans a1, b1⟩
theorem vx_callv {S SX : Type} {post : S → Prop} {px : SX → Prop} {B : S → State → Prop} {BX : String → SX → State → Prop} {AX : Nat → Prop} (hr : vx_Run p l e R s m args below meth c H locs cells slots mc ms (F0 m pc ls st0) rest (va_Qv post B A1 a) (vx_X px BX AX) free) (hS : va_S A0 H0 H locs) (hA : ∀ q, q < H.size → A1 q → A0 q) (hf : ∀ q, free q → A0 q) (hAX : ∀ q, q < H.size → AX q → A0 q)
    (kx : ∀ (E : String) (ce : Cell) (q9 : Addr) (u : SX) (t : State) (H1 : Heap) (locs1 : List Loc), t.heap = H1 → s.vm.Alike t.vm → px u → BX E u t → H.size ≤ H1.size → (∀ q : Nat, q < H.size → ¬ AX q → H1[q]? = H[q]?) → va_S A0 H0 H1 locs1 → H1[q9]? = some ce → ce.vm = .none → s.vm.findClass E = some ce.cls → vx_W p l e R s m args below meth c H1 locs1 (cells + mc) (slots + ms) Q (F0 m pc ls rest) q9)
    (kk : ∀ (u : S) (t : State) (H1 : Heap) (locs1 : List Loc), t.heap = H1 → s.vm.Alike t.vm → post u → B u t → H.size ≤ H1.size → (∀ q : Nat, q < H.size → ¬ A1 q → H1[q]? = H[q]?) → va_S A0 H0 H1 locs1 → W p l e R s m args below meth c H1 locs1 (cells + mc) (slots + ms) Q (F0 m (pc + 3) ls (rest))) : W p l e R s m args below meth c H locs cells slots Q (F0 m pc ls st0) := by
  intro T hT X
  rcases hr T hT X with ⟨v, st₀, t, T', L, h0, X', hL, e1, e2, ⟨⟨u, hv, hp, hb⟩, hF⟩, st⟩ | ⟨q, st₀, t, T', L, E, ce, h0, X', hL, e1, e2, ⟨u, hp, hb, hF⟩, hce, hcv, hcl, st⟩
  · cases hv
    obtain ⟨k1, k2, k3⟩ := vx_keep h0 e1 hS hA hf hL hF
    obtain ⟨t2, a1, b1⟩ := kk u t T'.heap (locs ++ L) e1.symm (by rw [← e2]; exact X'.warmed.alike) hp hb k1 k2 k3 T' rfl X'
    exact ⟨t2, st t2 a1, b1⟩
  · obtain ⟨k1, k2, k3⟩ := vx_keep h0 e1 hS hAX hf hL hF
    obtain ⟨t2, a1, b1⟩ := kx E ce q u t T'.heap (locs ++ L) e1.symm (by rw [← e2]; exact X'.warmed.alike) hp hb k1 k2 k3 (by rw [e1]; exact hce) hcv hcl T' rfl X'
    exact ⟨t2, st.trans a1, b1⟩
/-- caught by the row x of this method's table; the rows ahead don't take it -/
theorem vx_catch {own name : String} {E : String} {ce : Cell} {q : Addr} (hown : s.vm.findClass own = some m.cls) (pre : List ExceptionTableEntry) (x : ExceptionTableEntry) (suf : List ExceptionTableEntry) (hsplit : c.exceptionTable.toList = pre ++ x :: suf)
    (hpass : ∀ z ∈ pre, covers z pc = false ∨ (z.catchType ≠ 0 ∧ ∃ nm : String, (Cond.classLink own z.catchType nm).before args s = true ∧ va_Nc E nm s)) (hx : covers x pc = true) (h0 : x.catchType ≠ 0)
    (hlink : (Cond.classLink own x.catchType name).before args s = true) (hcast : (Cond.castable E name).before args s = true) (hcell : H[q]? = some ce) (hv : ce.vm = .none) (hcl : s.vm.findClass E = some ce.cls)
    (kk : W p l e R s m args below meth c H locs cells slots Q (F0 m x.handlerPc ls [.ref q])) : vx_W p l e R s m args below meth c H locs cells slots Q (F0 m pc ls rest) q := by
  intro T hT X
  have hpl : e.platform.magicAccessors = ({} : Platform).magicAccessors := by rw [X.admits.platform]
  obtain ⟨c3, c4, hc3, hc4, hasg⟩ := Cond.castable_spec hcast
  cases Option.some.inj (hc3.symm.trans hcl)
  obtain ⟨c5, hc5, hcl5⟩ := Cond.classLink_spec hown hlink e.platform hpl
  cases Option.some.inj (hc4.symm.trans hc5)
  obtain ⟨vm', X', st⟩ := X.thenCaughtThrough q (g := F0 m pc ls rest) rfl (Steps.refl _) (by rw [hT]; exact hcell) (by rw [hv]; rfl) (by obtain ⟨k9, h9, -⟩ := Vm.findClass_spec hcl; exact ⟨k9, h9⟩) pre x suf hsplit
    (fun z hz => by
      rcases hpass z hz with h | ⟨hz0, nm, hl1, hn1⟩
      · exact Or.inl h
      · obtain ⟨c6, hc6, hcl6⟩ := Cond.classLink_spec hown hl1 e.platform hpl
        obtain ⟨a8, b8, h1, h2, h3⟩ := hn1
        cases Option.some.inj (h1.symm.trans hcl)
        cases Option.some.inj (h2.symm.trans hc6)
        exact Or.inr ⟨hz0, _, hcl6, h3⟩) hx (Or.inr ⟨h0, c4, hcl5, hasg⟩)
  obtain ⟨t, a1, b1⟩ := kk (T.setVm vm') hT X'
  exact ⟨t, st.trans a1, b1⟩
end Rows
section Ends
variable {p : Program} {l : Launch} {e : Env} {R : Room} {s : State} {m : MethodId} {args : Array Value} {below : List Frame} {meth : Method} {c : Code} {H : Heap} {locs : List Loc} {cells slots : Nat} {Q : State → Prop}
variable {mc ms : Nat} {free : Addr → Prop} {A0 A1 : Nat → Prop} {H0 : Heap} {a : Array Value} {ls : Array Slot} {st0 rest : List Value}
variable {Qc : Array Value → State → Outcome → State → Prop} {XC : String → State → State → Prop}
/-- what a body that may throw owes at its end -/
def vx_MQ (below : List Frame) (Qc : Array Value → State → Outcome → State → Prop) (XC : String → State → State → Prop) (a : Array Value) (s : State) (mc ms : Nat) (free : Addr → Prop) : State → Prop := fun t =>
  ∃ o, t.status = .running ∧ Ended t below o ∧ vx_Q Qc XC mc ms free a s o t
theorem vx_ret {g : JFrame} {mc ms : Nat} (k : W p l e R s m args below meth c H locs cells slots (MQ below Qc args s mc ms free) g) : W p l e R s m args below meth c H locs cells slots (vx_MQ below Qc XC args s mc ms free) g := by
  intro T hT X
  obtain ⟨t, a1, o, b1, b2, b3, b4⟩ := k T hT X
  exact ⟨t, a1, o, b1, b2, Or.inl ⟨b3, b4⟩⟩
/-- not caught here: it goes on to the caller -/
theorem vx_widen {g : JFrame} {q : Addr} {k n : Nat} (h1 : cells ≤ k) (h2 : slots ≤ n) (kk : vx_W p l e R s m args below meth c H locs k n Q g q) : vx_W p l e R s m args below meth c H locs cells slots Q g q := fun T hT X => kk T hT (stand_widen X h1 h2)
theorem vx_out {pc : Nat} {E : String} {ce : Cell} {q : Addr} {mc ms : Nat} (hout : ∀ x ∈ c.exceptionTable.toList, covers x pc = false) (hlocks : meth.locks = false) (hcell : H[q]? = some ce) (hv : ce.vm = .none) (hcl : s.vm.findClass E = some ce.cls)
    (hx : ∀ t : State, t.heap = H → s.vm.Alike t.vm → XC E s t) (hf : ∀ z ∈ locs, free z.base) (hc : cells ≤ mc) (hs : slots ≤ ms) :
    vx_W p l e R s m args below meth c H locs cells slots (vx_MQ below Qc XC args s mc ms free) (F0 m pc ls rest) q := by
  intro T hT X
  obtain ⟨st1, hrun, hend, hW, hsm⟩ := X.leaveThrown q (g := F0 m pc ls rest) rfl rfl rfl hout hlocks
  have hcell9 : (T.setFrames (.throwing q :: below)).heap[q]? = some ce := by
    show T.heap[q]? = some ce
    rw [hT]; exact hcell
  exact ⟨_, st1, .threw q, hrun, hend, Or.inr ⟨q, rfl, E, ce, locs, hx _ hT hW.alike, hcell9, hv, hcl, hW, hsm.mono hc hs, hf⟩⟩
theorem vx_frame {U : State} {k n : Nat} (h : s.sameButNew ({ U with vm := s.vm } : State) locs k n) : s.heap.size ≤ U.heap.size ∧ ∀ q : Nat, q < s.heap.size → (∀ z ∈ locs, z.base ≠ q) → U.heap[q]? = s.heap[q]? := by
  obtain ⟨-, h2, -, -, -, h6⟩ := h
  refine ⟨h2, fun q hq hz => ?_⟩
  obtain ⟨c9, e1, e2, e3, e4⟩ := h6 q _ (Array.getElem?_eq_getElem hq)
  have hs : c9.slots = (s.heap[q]).slots := Array.ext_getElem? fun i => e4 i fun hm => hz _ hm rfl
  have h9 : c9 = s.heap[q] := by
    rw [hs] at e2
    exact e2
  have e5 : U.heap[q]? = some c9 := e1
  rw [e5, h9, Array.getElem?_eq_getElem hq]
/-- the words of a throw but the four that speak of the heap -/
def vx_no (w : Cond) : Bool := decide (w ≠ .isRef (.static Bundle.tN "UNASSIGNED_STACK" Bundle.steD)) && decide (w ≠ .isRef (.static Bundle.tN "SUPPRESSED_SENTINEL" Bundle.listD)) && decide (w ≠ .laysStatic Bundle.tN "UNASSIGNED_STACK" Bundle.steD) && decide (w ≠ .laysStatic Bundle.tN "SUPPRESSED_SENTINEL" Bundle.listD)
def vx_at0 (own : String) (ic : Nat) (X : String) (names : List String) : List Cond := (Bundle.ownAtoms0 own ic X names).filter vx_no
def vx_atS (own : String) (ic : Nat) (X : String) (names : List String) : List Cond := (Bundle.ownAtoms own ic X names).filter vx_no
/-- a word that the tables alone decide, or a good one -/
def vx_ot (w : Cond) : Bool := w.onTables || goodWord w
theorem vx_ot_at {args a' : Array Value} {s U : State} {w : Cond} (hW : s.WarmedH U.vm) (hvm : s.vm = U.vm) (hg : vx_ot w = true) (h : w.before args s = true) : w.before a' U = true := by
  simp only [vx_ot, Bool.or_eq_true] at hg
  rcases hg with hg | hg
  · exact va_tabs hg hvm h
  · exact word_at hW (good_of_word hg) h
/-- a list's words: the good ones out of the method's own list, the others by premises of their own -/
theorem vx_hat {args : Array Value} {s : State} {L B : List Cond} (h1 : ∀ w ∈ L.filter goodWord, w.before args s = true) (h2 : ∀ w ∈ L.filter (fun w => !goodWord w), w ∈ B) (h3 : ∀ w ∈ B, w.before args s = true) : ∀ w ∈ L, w.before args s = true := by
  intro w hw
  by_cases g : goodWord w = true
  · exact h1 w (List.mem_filter.mpr ⟨hw, g⟩)
  · refine h3 w (h2 w (List.mem_filter.mpr ⟨hw, ?_⟩))
    show (!goodWord w) = true
    cases hgw : goodWord w
    · rfl
    · exact absurd hgw g
theorem vx_c {args : Array Value} {s : State} {w : Cond} {B : List Cond} (h : w.before args s = true) (t : ∀ w ∈ B, w.before args s = true) : ∀ w' ∈ w :: B, w'.before args s = true := fun w' h' => (List.mem_cons.mp h').elim (fun e => by rw [e]; exact h) (t w')
theorem vx_n {args : Array Value} {s : State} : ∀ w ∈ ([] : List Cond), w.before args s = true := fun _ h => nomatch h
theorem vx_own {args : Array Value} {s : State} {L : List Cond} (h1 : ∀ w ∈ L.filter vx_no, w.before args s = true)
    (hU : (Cond.isRef (.static Bundle.tN "UNASSIGNED_STACK" Bundle.steD)).before args s = true) (hN : (Cond.isRef (.static Bundle.tN "SUPPRESSED_SENTINEL" Bundle.listD)).before args s = true)
    (lU : (Cond.laysStatic Bundle.tN "UNASSIGNED_STACK" Bundle.steD).before args s = true) (lN : (Cond.laysStatic Bundle.tN "SUPPRESSED_SENTINEL" Bundle.listD).before args s = true) : ∀ w ∈ L, w.before args s = true := by
  intro w hw
  by_cases e1 : w = .isRef (.static Bundle.tN "UNASSIGNED_STACK" Bundle.steD)
  · rw [e1]; exact hU
  · by_cases e2 : w = .isRef (.static Bundle.tN "SUPPRESSED_SENTINEL" Bundle.listD)
    · rw [e2]; exact hN
    · by_cases e3 : w = .laysStatic Bundle.tN "UNASSIGNED_STACK" Bundle.steD
      · rw [e3]; exact lU
      · by_cases e4 : w = .laysStatic Bundle.tN "SUPPRESSED_SENTINEL" Bundle.listD
        · rw [e4]; exact lN
        · exact h1 w (List.mem_filter.mpr ⟨hw, by unfold vx_no; rw [decide_eq_true e1, decide_eq_true e2, decide_eq_true e3, decide_eq_true e4]; rfl⟩)
/-- where a static field lies, its class's statics cell in H -/
def vx_L (C n d : String) (A : Nat → Prop) (U : State) (H : Heap) : Prop := ∃ (c : ClassId) (k : Class) (i : Nat) (f : Field) (a : Nat) (cell : Cell), U.vm.findClass C = some c ∧ U.fieldFound? C n d = some (c, k, i, f) ∧ f.isStatic = true ∧ k.statics = some a ∧ H[a]? = some cell ∧ cell.vm.isStatics = true ∧ cell.cls = c ∧ f.slot < cell.slots.size ∧ k.staticTypes[f.slot]? = some f.type ∧ ¬ A a
theorem vx_L.moved {C n d : String} {A : Nat → Prop} {u U : State} {H : Heap} (hvm : u.vm.Alike U.vm) (h : vx_L C n d A u H) : vx_L C n d A U H := by
  obtain ⟨c, k, i, f, a, cell, h1, h2, h3, h4, h5, h6, h7, h8, h9, h10⟩ := h
  obtain ⟨k', hi', he⟩ := State.fieldFound?_setVm hvm h2
  exact ⟨c, k', i, f, a, cell, by rw [hvm.findClass]; exact h1, hi', h3, by rw [he]; exact h4, h5, h6, h7, h8, by rw [he]; exact h9, h10⟩
theorem vx_L.kept {C n d : String} {A : Nat → Prop} {U : State} {H H1 : Heap} (h : vx_L C n d A U H) (hq : ∀ a : Nat, a < H.size → ¬ A a → H1[a]? = H[a]?) : vx_L C n d A U H1 := by
  obtain ⟨c, k, i, f, a, cell, h1, h2, h3, h4, h5, h6, h7, h8, h9, h10⟩ := h
  exact ⟨c, k, i, f, a, cell, h1, h2, h3, h4, by rw [hq a (Array.getElem?_eq_some_iff.mp h5).1 h10]; exact h5, h6, h7, h8, h9, h10⟩
theorem vx_L.narrow {C n d : String} {A B : Nat → Prop} {U : State} {H : Heap} (h : vx_L C n d A U H) (hAB : ∀ q, B q → A q) : vx_L C n d B U H := by
  obtain ⟨c, k, i, f, a, cell, h1, h2, h3, h4, h5, h6, h7, h8, h9, h10⟩ := h
  exact ⟨c, k, i, f, a, cell, h1, h2, h3, h4, h5, h6, h7, h8, h9, fun z => h10 (hAB _ z)⟩
theorem vx_L.word {C n d : String} {A : Nat → Prop} {s : State} {args : Array Value} (h : vx_L C n d A s s.heap) : (Cond.laysStatic C n d).before args s = true := by
  obtain ⟨c, k, i, f, a, cell, h1, h2, h3, h4, h5, h6, h7, h8, h9, -⟩ := h
  show (Cond.laysStatic C n d).holds args s none s [] = true
  exact Cond.laysStatic_of h1 h2 h3 h4 h5 h6 h7 h8 h9
/-- .. and what it holds: null or some reference -/
def vx_Zq (C n d : String) (A : Nat → Prop) (U : State) (H : Heap) : Prop := va_Zq C n d A U H ∧ vx_L C n d A U H
theorem vx_Zq.moved {C n d : String} {A : Nat → Prop} {u U : State} {H : Heap} (hvm : u.vm.Alike U.vm) (h : vx_Zq C n d A u H) : vx_Zq C n d A U H := ⟨va_Zq.moved hvm h.1, vx_L.moved hvm h.2⟩
theorem vx_Zq.kept {C n d : String} {A : Nat → Prop} {U : State} {H H1 : Heap} (h : vx_Zq C n d A U H) (hq : ∀ a : Nat, a < H.size → ¬ A a → H1[a]? = H[a]?) : vx_Zq C n d A U H1 := ⟨va_Zq.kept h.1 hq, vx_L.kept h.2 hq⟩
theorem vx_Zq.narrow {C n d : String} {A B : Nat → Prop} {U : State} {H : Heap} (h : vx_Zq C n d A U H) (hAB : ∀ q, B q → A q) : vx_Zq C n d B U H := ⟨va_Zq.narrow h.1 hAB, vx_L.narrow h.2 hAB⟩
theorem vx_Zqof {args : Array Value} {s : State} {C n d : String} {A : Nat → Prop} (hl : (Cond.laysStatic C n d).before args s = true) (hini : (Cond.initialized C).before args s = true) (h : (Cond.isRef (.static C n d)).before args s = true) (hA : ∀ a : Nat, a < s.heap.size → ¬ A a) : vx_Zq C n d A s s.heap := by
  refine ⟨va_Zqof hl hini h hA, ?_⟩
  obtain ⟨c, k, i, f, a, cell, h1, h2, h3, h4, h5, h6, h7, h8, h9⟩ := Cond.laysStatic_spec hl
  exact ⟨c, k, i, f, a, cell, h1, h2, h3, h4, h5, h6, h7, h8, h9, hA a (Array.getElem?_eq_some_iff.mp h5).1⟩
theorem vx_isRef {C n d : String} {v : Value} {A : Nat → Prop} {s : State} {args : Array Value} (h : va_Z C n d v A s s.heap) (hv : v.isRef = true) : (Cond.isRef (.static C n d)).before args s = true := by
  obtain ⟨cf, kf, fi, f, a, cell, h1, h2, h3, h4, h5, h6, h7, -⟩ := h
  have he : (Term.static C n d).eval args s none [] s = some v := by
    simp [Term.eval, State.fieldNamed?, h1, h2, h4, h5, h6, h7]
  simp only [Cond.before, Cond.holds, Cond.value, he]
  cases v <;> simp_all [Value.isRef]
theorem vx_isRefq {C n d : String} {A : Nat → Prop} {s : State} {args : Array Value} (h : va_Zq C n d A s s.heap) : (Cond.isRef (.static C n d)).before args s = true := by
  rcases h with h | ⟨t, h⟩
  · exact vx_isRef h rfl
  · exact vx_isRef h rfl
/-- the same frame, seen from here: as if the method were called anew in this heap -/
theorem vx_rebase {T : State} (X : Stand p l e R s m args below meth c T locs cells slots) {R' : Room} (hf : R'.frames ≤ R.frames) (hl : R'.locals ≤ R.locals) (hc : cells + R'.cells ≤ R.cells) (hs : slots + R'.slots ≤ R.slots) :
    Stand p l e R' ((T.setVm s.vm).setFrames (.invoking m args :: below)) m args below meth c T [] 0 0 := by
  have htop : (T.setVm s.vm).topJava?.isSome := X.here.top
  have hF : ((T.setVm s.vm).setFrames (.invoking m args :: below)).frames = .invoking m args :: below := State.frames_setFrames _ (State.cur_lt_of_top htop)
  obtain ⟨g₀, hg0⟩ := Option.isSome_iff_exists.mp htop
  obtain ⟨r, hr⟩ := State.topJava?_eq_some.mp hg0
  have hl9 : e.platform.stackLimits (T.setVm s.vm).me = e.platform.stackLimits s.me := X.limits
  have hb9 : (T.setVm s.vm).me.stackBytes = s.me.stackBytes := X.bytes
  refine ⟨X.admits, X.cas, X.clock, hF, ?_, X.hears, X.method, X.code, X.here, X.tail, X.warmed, ?_, ?_, ?_⟩
  · have h := X.room
    have hU : ((T.setVm s.vm).setFrames (.invoking m args :: below)).localsInUse = s.localsInUse := by
      rw [State.localsInUse_invoking hF (meth := meth) (c := c) X.method X.code, State.localsInUse_invoking X.frames X.method X.code]
    simp only [State.hasRoom, Bool.and_eq_true, decide_eq_true_eq] at h ⊢
    obtain ⟨⟨⟨⟨h1, h2, h3, h4, h5, h6⟩, h7⟩, h8⟩, h9⟩ := h
    rw [X.frames, List.length_cons] at h2 h3
    have q1 := X.heapSize
    have q2 := X.used
    simp only [hF, hU, List.length_cons, State.stackLimits_setFrames, State.stackBytes_setFrames, hl9, hb9]
    refine ⟨⟨⟨⟨by omega, by omega, by omega, by omega, by omega, h6⟩, ?_⟩, ?_⟩, X.book⟩
    · show T.heap.size + R'.cells ≤ e.platform.maxCells
      omega
    · show T.slotsUsed + R'.slots ≤ e.platform.maxSlots
      omega
  · rw [State.stackLimits_setFrames]; rfl
  · rw [State.stackBytes_setFrames]; rfl
  · refine ⟨?_, Nat.le_refl _, Nat.le_refl _, ?_, ?_, fun a c9 h9 => ⟨c9, h9, rfl, rfl, fun _ _ => rfl⟩⟩
    · obtain ⟨t, ht, -⟩ := State.frames_cons hr
      show T.setVm s.vm = { ((T.setVm s.vm).setFrames (.invoking m args :: below)).setFrames (T.setVm s.vm).frames with heap := T.heap, slotsUsed := T.slotsUsed }
      rw [State.setFrames_setFrames, State.setFrames_self ht]
      rfl
    · show T.slotsUsed = T.slotsUsed + ((T.heap.toList.drop T.heap.size).map (·.slots.size)).sum
      rw [List.drop_eq_nil_of_le (Nat.le_of_eq Array.length_toList)]
      rfl
    · show ((T.heap.toList.drop T.heap.size).map (·.slots.size)).sum ≤ 0
      rw [List.drop_eq_nil_of_le (Nat.le_of_eq Array.length_toList)]
      exact Nat.le_refl _
/-- 'throw new E()': new; dup; invokespecial; athrow -/
theorem vx_throw0 {cc : ByteArray} {pc : Nat} (hexec : p.tables.exec = Jvm.exec) (hb : c.code = cc) (hl : l.stackTraces = false) {own cls : String} {names : List String} {ik ic mc ms : Nat} {A : Nat → Prop}
    (hown : s.vm.findClass own = some m.cls) (hcls : Bundle.fit cls = true) (hnames : ∀ n ∈ names, Bundle.fit n = true)
    (hk : (Cond.classLink own ik cls).before args s = true) (hini : (Cond.initialized cls).before args s = true) (hat : ∀ w ∈ vx_at0 own ic cls names, w.before args s = true)
    (hgood : ∀ w ∈ Cond.classLink own ik cls :: Cond.initialized cls :: vx_at0 own ic cls names, vx_ot w = true)
    (hU : vx_Zq Bundle.tN "UNASSIGNED_STACK" Bundle.steD A s s.heap) (hN : vx_Zq Bundle.tN "SUPPRESSED_SENTINEL" Bundle.listD A s s.heap) (hS : va_S A s.heap H locs) (hsize : ls.size = c.maxLocals)
    (d0 : decode cc pc = .ok (.new ik, 3)) (d3 : decode cc (pc + 3) = .ok (.dup, 1)) (d4 : decode cc (pc + 4) = .ok (.invokespecial ic, 3)) (d7 : decode cc (pc + 7) = .ok (.athrow, 1))
    (hout : ∀ x ∈ c.exceptionTable.toList, covers x (pc + 7) = false)
    (hRframes : names.length + 3 < R.frames) (hRlocals : (rest.map fun v => v.category).sum + (13 * (names.length + 1) + 42) ≤ R.locals) (hRcells : cells + 1 ≤ R.cells) (hRslots : slots + 6 ≤ R.slots) (hlocks : meth.locks = false)
    (hx : ∀ t : State, s.vm.Alike t.vm → H.size ≤ t.heap.size → (∀ q : Nat, q < H.size → t.heap[q]? = H[q]?) → XC cls s t)
    (hf : ∀ z ∈ locs, free z.base) (hc : cells + 1 ≤ mc) (hs : slots + 6 ≤ ms) :
    W p l e R s m args below meth c H locs cells slots (vx_MQ below Qc XC args s mc ms free) (F0 m pc ls rest) := by
  intro T hT X
  have htr : e.platform.stackTraces = false := (show e.platform.stackTraces = l.stackTraces by rw [X.admits.platform]).trans hl
  have Y := vx_rebase X (R' := { frames := R.frames, locals := R.locals, cells := 1, slots := 6 }) (Nat.le_refl _) (Nat.le_refl _) hRcells hRslots
  obtain ⟨s', hA⟩ : ∃ z, z = (T.setVm s.vm).setFrames (.invoking m args :: below) := ⟨_, rfl⟩
  rw [← hA] at Y
  have hvm : s'.vm = s.vm := by rw [hA]; rfl
  have hhp : s'.heap = H := by rw [hA]; exact hT
  have hW0 : s.WarmedH s'.vm := by rw [hvm]; exact State.WarmedH.refl s
  have hat' : ∀ w ∈ vx_at0 own ic cls names, w.before args s' = true := fun w hw => vx_ot_at hW0 hvm.symm (hgood w (List.mem_cons_of_mem _ (List.mem_cons_of_mem _ hw))) (hat w hw)
  have hk' : (Cond.classLink own ik cls).before args s' = true := vx_ot_at hW0 hvm.symm (hgood _ List.mem_cons_self) hk
  have hini' : (Cond.initialized cls).before args s' = true := vx_ot_at hW0 hvm.symm (hgood _ (List.mem_cons_of_mem _ List.mem_cons_self)) hini
  have hU' : vx_Zq Bundle.tN "UNASSIGNED_STACK" Bundle.steD A s' s'.heap := by rw [hhp]; exact vx_Zq.moved hW0.alike (hU.kept hS.2.1)
  have hN' : vx_Zq Bundle.tN "SUPPRESSED_SENTINEL" Bundle.listD A s' s'.heap := by rw [hhp]; exact vx_Zq.moved hW0.alike (hN.kept hS.2.1)
  have h : ∀ w ∈ Bundle.ownAtoms0 own ic cls names, w.before args s' = true := vx_own hat' (vx_isRefq hU'.1) (vx_isRefq hN'.1) hU'.2.word hN'.2.word
  have hown' : s'.vm.findClass own = some m.cls := by rw [hvm]; exact hown
  have hins : (Cond.instantiable cls 6).before args s' = true := h _ (by simp [Bundle.ownAtoms0])
  obtain ⟨vm₁, cX, kX, hfX, hkX, -, -, X₁, st1⟩ := Y.newCold hexec (own := own) (C := cls) (index := ik) (n := 6) hown' hk' hins hini'
    (g := F0 m pc ls rest) rfl (by rw [hb]; exact d0) (Nat.le_refl _) (Nat.le_refl _)
  generalize hT1 : (T.setVm vm₁).pushCell { cls := cX, slots := kX.instanceTypes.map defaultValue, vm := .none } = T1 at X₁ st1
  have hcat : (Value.ref T.heap.size).category = 1 := rfl
  have hcellA : T1.heap[T.heap.size]? = some (freshCell cX kX) := by rw [← hT1]; exact State.heap_pushCell_size _ _
  have d3' : decode c.code (pc + 3) = .ok (.dup, 1) := by rw [hb]; exact d3
  obtain ⟨U, hsteps, hrun, hend, hW, hsame, ce, hce, hO⟩ := X₁.ctorThrow0 hexec htr (own := own) (cls := cls) (names := names) (ic := ic) hown' hcls hnames h (fun x hx => nomatch hx) hfX hkX hcellA (by rw [hhp, hT]; exact Nat.le_refl _)
    (g := { method := m, pc := pc + 4, locals := ls, stack := .ref T.heap.size :: .ref T.heap.size :: rest, locked := none }) rfl hsize rfl rfl (rest := rest) rfl
    (by rw [hb]; exact d4) (by rw [hb]; exact d7) hout hRframes (by simp only [List.map_cons, List.sum_cons, hcat]; omega) hlocks
  obtain ⟨f1, f2⟩ := vx_frame hsame
  rw [hhp] at f1 f2
  have hWs : s.WarmedH U.vm := State.WarmedH.trans hW0 hW
  have hcl : s.vm.findClass cls = some ce.cls := by
    have h9 := hO.cls
    rw [hvm] at h9
    exact h9
  have hall : s.sameButNew ({ U with vm := s.vm } : State) locs mc ms := by
    subst hA
    obtain ⟨e1, e2⟩ := hsame
    rw [State.setFrames_setFrames] at e1
    have h2 : (T.setVm s.vm).sameButNew ({ U with vm := s.vm } : State) [] (0 + 1) (0 + 6) := ⟨e1, e2⟩
    have h3 := X.same.trans h2
    rw [List.append_nil] at h3
    exact h3.mono hc hs
  refine ⟨U, ?_, .threw T.heap.size, hrun, hend, Or.inr ⟨T.heap.size, rfl, cls, ce, locs, hx U hWs.alike f1 (fun q hq => f2 q hq (fun z hz => nomatch hz)), hce, hO.vm, hcl, hWs, hall, hf⟩⟩
  refine st1 _ ?_
  show Steps p.tables e below (T1.setTop { method := m, pc := pc + 3, locals := ls, stack := .ref T.heap.size :: rest, locked := none }) _
  jvm_step X₁.here [X₁.here.top, hexec, d3', Value.category]
  exact hsteps
/-- 'throw new E("text")': new; dup; ldc; invokespecial; athrow -/
theorem vx_throwS {cc : ByteArray} {pc : Nat} (hexec : p.tables.exec = Jvm.exec) (hb : c.code = cc) (hl : l.stackTraces = false) {own cls text : String} {names : List String} {ik is ic mc ms sa : Nat} {A : Nat → Prop}
    (hown : s.vm.findClass own = some m.cls) (hcls : Bundle.fit cls = true) (hnames : ∀ n ∈ names, Bundle.fit n = true)
    (hk : (Cond.classLink own ik cls).before args s = true) (hini : (Cond.initialized cls).before args s = true) (hstr : vk_R own is text sa s) (hat : ∀ w ∈ vx_atS own ic cls names, w.before args s = true)
    (hgood : ∀ w ∈ Cond.classLink own ik cls :: Cond.initialized cls :: vx_atS own ic cls names, vx_ot w = true)
    (hU : vx_Zq Bundle.tN "UNASSIGNED_STACK" Bundle.steD A s s.heap) (hN : vx_Zq Bundle.tN "SUPPRESSED_SENTINEL" Bundle.listD A s s.heap) (hS : va_S A s.heap H locs) (hsize : ls.size = c.maxLocals)
    (d0 : decode cc pc = .ok (.new ik, 3)) (d3 : decode cc (pc + 3) = .ok (.dup, 1)) (d4 : decode cc (pc + 4) = .ok (.ldc is, 2)) (d6 : decode cc (pc + 6) = .ok (.invokespecial ic, 3)) (d9 : decode cc (pc + 9) = .ok (.athrow, 1))
    (hout : ∀ x ∈ c.exceptionTable.toList, covers x (pc + 9) = false)
    (hRframes : names.length + 3 < R.frames) (hRlocals : (rest.map fun v => v.category).sum + (13 * (names.length + 1) + 43) ≤ R.locals) (hRcells : cells + 1 ≤ R.cells) (hRslots : slots + 6 ≤ R.slots) (hlocks : meth.locks = false)
    (hx : ∀ t : State, s.vm.Alike t.vm → H.size ≤ t.heap.size → (∀ q : Nat, q < H.size → t.heap[q]? = H[q]?) → XC cls s t)
    (hf : ∀ z ∈ locs, free z.base) (hc : cells + 1 ≤ mc) (hs : slots + 6 ≤ ms) :
    W p l e R s m args below meth c H locs cells slots (vx_MQ below Qc XC args s mc ms free) (F0 m pc ls rest) := by
  intro T hT X
  have htr : e.platform.stackTraces = false := (show e.platform.stackTraces = l.stackTraces by rw [X.admits.platform]).trans hl
  have Y := vx_rebase X (R' := { frames := R.frames, locals := R.locals, cells := 1, slots := 6 }) (Nat.le_refl _) (Nat.le_refl _) hRcells hRslots
  obtain ⟨s', hA⟩ : ∃ z, z = (T.setVm s.vm).setFrames (.invoking m args :: below) := ⟨_, rfl⟩
  rw [← hA] at Y
  have hvm : s'.vm = s.vm := by rw [hA]; rfl
  have hhp : s'.heap = H := by rw [hA]; exact hT
  have hW0 : s.WarmedH s'.vm := by rw [hvm]; exact State.WarmedH.refl s
  have hat' : ∀ w ∈ vx_atS own ic cls names, w.before args s' = true := fun w hw => vx_ot_at hW0 hvm.symm (hgood w (List.mem_cons_of_mem _ (List.mem_cons_of_mem _ hw))) (hat w hw)
  have hk' : (Cond.classLink own ik cls).before args s' = true := vx_ot_at hW0 hvm.symm (hgood _ List.mem_cons_self) hk
  have hini' : (Cond.initialized cls).before args s' = true := vx_ot_at hW0 hvm.symm (hgood _ (List.mem_cons_of_mem _ List.mem_cons_self)) hini
  have hU' : vx_Zq Bundle.tN "UNASSIGNED_STACK" Bundle.steD A s' s'.heap := by rw [hhp]; exact vx_Zq.moved hW0.alike (hU.kept hS.2.1)
  have hN' : vx_Zq Bundle.tN "SUPPRESSED_SENTINEL" Bundle.listD A s' s'.heap := by rw [hhp]; exact vx_Zq.moved hW0.alike (hN.kept hS.2.1)
  have h : ∀ w ∈ Bundle.ownAtoms own ic cls names, w.before args s' = true := vx_own hat' (vx_isRefq hU'.1) (vx_isRefq hN'.1) hU'.2.word hN'.2.word
  have hown' : s'.vm.findClass own = some m.cls := by rw [hvm]; exact hown
  have hins : (Cond.instantiable cls 6).before args s' = true := h _ (by simp [Bundle.ownAtoms])
  obtain ⟨vm₁, cX, kX, hfX, hkX, -, -, X₁, st1⟩ := Y.newCold hexec (own := own) (C := cls) (index := ik) (n := 6) hown' hk' hins hini'
    (g := F0 m pc ls rest) rfl (by rw [hb]; exact d0) (Nat.le_refl _) (Nat.le_refl _)
  generalize hT1 : (T.setVm vm₁).pushCell { cls := cX, slots := kX.instanceTypes.map defaultValue, vm := .none } = T1 at X₁ st1
  have hcat : (Value.ref T.heap.size).category = 1 := rfl
  have hcellA : T1.heap[T.heap.size]? = some (freshCell cX kX) := by rw [← hT1]; exact State.heap_pushCell_size _ _
  have d3' : decode c.code (pc + 3) = .ok (.dup, 1) := by rw [hb]; exact d3
  have d4' : decode c.code (pc + 4) = .ok (.ldc is, 2) := by rw [hb]; exact d4
  have hstr' : vk_R own is text sa s' := vk_R.warm hW0 hstr
  obtain ⟨U, hsteps, hrun, hend, hW, hsame, ce, hce, hO⟩ := X₁.ctorThrowS hexec htr (own := own) (cls := cls) (names := names) (ic := ic) hown' hcls hnames h (fun x hx => nomatch hx) hfX hkX hcellA (by rw [hhp, hT]; exact Nat.le_refl _) (msg := .ref sa) rfl
    (g := { method := m, pc := pc + 6, locals := ls, stack := .ref sa :: .ref T.heap.size :: .ref T.heap.size :: rest, locked := none }) rfl hsize rfl rfl (rest := rest) rfl
    (by rw [hb]; exact d6) (by rw [hb]; exact d9) hout hRframes (by simp only [List.map_cons, List.sum_cons, hcat]; omega) hlocks
  obtain ⟨f1, f2⟩ := vx_frame hsame
  rw [hhp] at f1 f2
  have hWs : s.WarmedH U.vm := State.WarmedH.trans hW0 hW
  have hcl : s.vm.findClass cls = some ce.cls := by
    have h9 := hO.cls
    rw [hvm] at h9
    exact h9
  have hall : s.sameButNew ({ U with vm := s.vm } : State) locs mc ms := by
    subst hA
    obtain ⟨e1, e2⟩ := hsame
    rw [State.setFrames_setFrames] at e1
    have h2 : (T.setVm s.vm).sameButNew ({ U with vm := s.vm } : State) [] (0 + 1) (0 + 6) := ⟨e1, e2⟩
    have h3 := X.same.trans h2
    rw [List.append_nil] at h3
    exact h3.mono hc hs
  refine ⟨U, ?_, .threw T.heap.size, hrun, hend, Or.inr ⟨T.heap.size, rfl, cls, ce, locs, hx U hWs.alike f1 (fun q hq => f2 q hq (fun z hz => nomatch hz)), hce, hO.vm, hcl, hWs, hall, hf⟩⟩
  refine st1 _ ?_
  show Steps p.tables e below (T1.setTop { method := m, pc := pc + 3, locals := ls, stack := .ref T.heap.size :: rest, locked := none }) _
  jvm_step X₁.here [X₁.here.top, hexec, d3', Value.category]
  exact X₁.ldcString hexec (own := own) (text := text) (index := is) (a := sa) hown' hstr'.1 hstr'.2
    (g := { method := m, pc := pc + 4, locals := ls, stack := .ref T.heap.size :: .ref T.heap.size :: rest, locked := none }) rfl d4' _ hsteps
/-- 'throw new E("text")', the text by a wide index -/
theorem vx_throwSW {cc : ByteArray} {pc : Nat} (hexec : p.tables.exec = Jvm.exec) (hb : c.code = cc) (hl : l.stackTraces = false) {own cls text : String} {names : List String} {ik is ic mc ms sa : Nat} {A : Nat → Prop}
    (hown : s.vm.findClass own = some m.cls) (hcls : Bundle.fit cls = true) (hnames : ∀ n ∈ names, Bundle.fit n = true)
    (hk : (Cond.classLink own ik cls).before args s = true) (hini : (Cond.initialized cls).before args s = true) (hstr : vk_R own is text sa s) (hat : ∀ w ∈ vx_atS own ic cls names, w.before args s = true)
    (hgood : ∀ w ∈ Cond.classLink own ik cls :: Cond.initialized cls :: vx_atS own ic cls names, vx_ot w = true)
    (hU : vx_Zq Bundle.tN "UNASSIGNED_STACK" Bundle.steD A s s.heap) (hN : vx_Zq Bundle.tN "SUPPRESSED_SENTINEL" Bundle.listD A s s.heap) (hS : va_S A s.heap H locs) (hsize : ls.size = c.maxLocals)
    (d0 : decode cc pc = .ok (.new ik, 3)) (d3 : decode cc (pc + 3) = .ok (.dup, 1)) (d4 : decode cc (pc + 4) = .ok (.ldc_w is, 3)) (d7 : decode cc (pc + 7) = .ok (.invokespecial ic, 3)) (d10 : decode cc (pc + 10) = .ok (.athrow, 1))
    (hout : ∀ x ∈ c.exceptionTable.toList, covers x (pc + 10) = false)
    (hRframes : names.length + 3 < R.frames) (hRlocals : (rest.map fun v => v.category).sum + (13 * (names.length + 1) + 43) ≤ R.locals) (hRcells : cells + 1 ≤ R.cells) (hRslots : slots + 6 ≤ R.slots) (hlocks : meth.locks = false)
    (hx : ∀ t : State, s.vm.Alike t.vm → H.size ≤ t.heap.size → (∀ q : Nat, q < H.size → t.heap[q]? = H[q]?) → XC cls s t)
    (hf : ∀ z ∈ locs, free z.base) (hc : cells + 1 ≤ mc) (hs : slots + 6 ≤ ms) :
    W p l e R s m args below meth c H locs cells slots (vx_MQ below Qc XC args s mc ms free) (F0 m pc ls rest) := by
  intro T hT X
  have htr : e.platform.stackTraces = false := (show e.platform.stackTraces = l.stackTraces by rw [X.admits.platform]).trans hl
  have Y := vx_rebase X (R' := { frames := R.frames, locals := R.locals, cells := 1, slots := 6 }) (Nat.le_refl _) (Nat.le_refl _) hRcells hRslots
  obtain ⟨s', hA⟩ : ∃ z, z = (T.setVm s.vm).setFrames (.invoking m args :: below) := ⟨_, rfl⟩
  rw [← hA] at Y
  have hvm : s'.vm = s.vm := by rw [hA]; rfl
  have hhp : s'.heap = H := by rw [hA]; exact hT
  have hW0 : s.WarmedH s'.vm := by rw [hvm]; exact State.WarmedH.refl s
  have hat' : ∀ w ∈ vx_atS own ic cls names, w.before args s' = true := fun w hw => vx_ot_at hW0 hvm.symm (hgood w (List.mem_cons_of_mem _ (List.mem_cons_of_mem _ hw))) (hat w hw)
  have hk' : (Cond.classLink own ik cls).before args s' = true := vx_ot_at hW0 hvm.symm (hgood _ List.mem_cons_self) hk
  have hini' : (Cond.initialized cls).before args s' = true := vx_ot_at hW0 hvm.symm (hgood _ (List.mem_cons_of_mem _ List.mem_cons_self)) hini
  have hU' : vx_Zq Bundle.tN "UNASSIGNED_STACK" Bundle.steD A s' s'.heap := by rw [hhp]; exact vx_Zq.moved hW0.alike (hU.kept hS.2.1)
  have hN' : vx_Zq Bundle.tN "SUPPRESSED_SENTINEL" Bundle.listD A s' s'.heap := by rw [hhp]; exact vx_Zq.moved hW0.alike (hN.kept hS.2.1)
  have h : ∀ w ∈ Bundle.ownAtoms own ic cls names, w.before args s' = true := vx_own hat' (vx_isRefq hU'.1) (vx_isRefq hN'.1) hU'.2.word hN'.2.word
  have hown' : s'.vm.findClass own = some m.cls := by rw [hvm]; exact hown
  have hins : (Cond.instantiable cls 6).before args s' = true := h _ (by simp [Bundle.ownAtoms])
  obtain ⟨vm₁, cX, kX, hfX, hkX, -, -, X₁, st1⟩ := Y.newCold hexec (own := own) (C := cls) (index := ik) (n := 6) hown' hk' hins hini'
    (g := F0 m pc ls rest) rfl (by rw [hb]; exact d0) (Nat.le_refl _) (Nat.le_refl _)
  generalize hT1 : (T.setVm vm₁).pushCell { cls := cX, slots := kX.instanceTypes.map defaultValue, vm := .none } = T1 at X₁ st1
  have hcat : (Value.ref T.heap.size).category = 1 := rfl
  have hcellA : T1.heap[T.heap.size]? = some (freshCell cX kX) := by rw [← hT1]; exact State.heap_pushCell_size _ _
  have d3' : decode c.code (pc + 3) = .ok (.dup, 1) := by rw [hb]; exact d3
  have d4' : decode c.code (pc + 4) = .ok (.ldc_w is, 3) := by rw [hb]; exact d4
  have hstr' : vk_R own is text sa s' := vk_R.warm hW0 hstr
  obtain ⟨U, hsteps, hrun, hend, hW, hsame, ce, hce, hO⟩ := X₁.ctorThrowS hexec htr (own := own) (cls := cls) (names := names) (ic := ic) hown' hcls hnames h (fun x hx => nomatch hx) hfX hkX hcellA (by rw [hhp, hT]; exact Nat.le_refl _) (msg := .ref sa) rfl
    (g := { method := m, pc := pc + 7, locals := ls, stack := .ref sa :: .ref T.heap.size :: .ref T.heap.size :: rest, locked := none }) rfl hsize rfl rfl (rest := rest) rfl
    (by rw [hb]; exact d7) (by rw [hb]; exact d10) hout hRframes (by simp only [List.map_cons, List.sum_cons, hcat]; omega) hlocks
  obtain ⟨f1, f2⟩ := vx_frame hsame
  rw [hhp] at f1 f2
  have hWs : s.WarmedH U.vm := State.WarmedH.trans hW0 hW
  have hcl : s.vm.findClass cls = some ce.cls := by
    have h9 := hO.cls
    rw [hvm] at h9
    exact h9
  have hall : s.sameButNew ({ U with vm := s.vm } : State) locs mc ms := by
    subst hA
    obtain ⟨e1, e2⟩ := hsame
    rw [State.setFrames_setFrames] at e1
    have h2 : (T.setVm s.vm).sameButNew ({ U with vm := s.vm } : State) [] (0 + 1) (0 + 6) := ⟨e1, e2⟩
    have h3 := X.same.trans h2
    rw [List.append_nil] at h3
    exact h3.mono hc hs
  refine ⟨U, ?_, .threw T.heap.size, hrun, hend, Or.inr ⟨T.heap.size, rfl, cls, ce, locs, hx U hWs.alike f1 (fun q hq => f2 q hq (fun z hz => nomatch hz)), hce, hO.vm, hcl, hWs, hall, hf⟩⟩
  refine st1 _ ?_
  show Steps p.tables e below (T1.setTop { method := m, pc := pc + 3, locals := ls, stack := .ref T.heap.size :: rest, locked := none }) _
  jvm_step X₁.here [X₁.here.top, hexec, d3', Value.category]
  exact X₁.ldcStringW hexec (own := own) (text := text) (index := is) (a := sa) hown' hstr'.1 hstr'.2
    (g := { method := m, pc := pc + 4, locals := ls, stack := .ref T.heap.size :: .ref T.heap.size :: rest, locked := none }) rfl d4' _ hsteps
end Ends
section Bodies
variable {l : Launch}
theorem vx_ofW {y : MethodName} {ws ws' : List Cond} {rm : Room} {Pc : Array Value → State → Prop} {Qc : Array Value → State → Outcome → State → Prop} {XC : String → State → State → Prop} {mc ms : Nat} {free : Addr → Prop} {cc : ByteArray} {maxL : Nat} {ret : Option FieldType}
    (hy : plainName y.cls = true) (hw : ws = Cond.code y cc maxL ret :: ws')
    (body : ∀ p e s m args below meth c s₁, BodyLoose p l y (headSpec ws rm) cc maxL ret e s m args below meth c s₁ → c.maxLocals = maxL → (∀ x ∈ c.exceptionTable.toList, False) → Pc args s →
      W p l e (headSpec ws rm).room s m args below meth c s.heap [] 0 0 (vx_MQ below Qc XC args s mc ms free) (entryFrame m args maxL)) : vx_Met l y ws rm Pc Qc XC mc ms free := by
  refine MetFree.of_bodyS (code := cc) (maxLocals := maxL) (ret := ret) hy ?_ ?_
  · intro args s m h hn
    obtain ⟨meth, c, h1, h2, h3, h4, h5, h6, -, -⟩ := Cond.code_spec hn (atoms_spec (ws := ws) h _ (by rw [hw]; exact List.mem_cons_self))
    exact ⟨meth, c, h1, h2, h3, h4, h5, h6⟩
  · intro p e s m args below meth c s₁ B hml hP _
    have hh0 : s₁.heap = s.heap := by rw [B.state]; rfl
    have ht : ∀ x ∈ c.exceptionTable.toList, False := by
      obtain ⟨meth9, c9, h1, h2, -, -, -, -, h7, -⟩ := Cond.code_spec B.named (atoms_spec (ws := ws) B.pre _ (by rw [hw]; exact List.mem_cons_self))
      cases Option.some.inj (h1.symm.trans B.method)
      cases Option.some.inj (h2.symm.trans (Stand.of_body B).code)
      intro x hx
      rw [Array.isEmpty_iff.mp h7] at hx
      cases hx
    obtain ⟨t, a1, o, b1, b2, b3⟩ := body p e s m args below meth c s₁ B hml ht hP s₁ hh0 (Stand.of_body B)
    exact ⟨t, o, a1, b1, b2, b3⟩
/-- the table of a body with handlers -/
theorem vx_table {p : Program} {x y : MethodName} {S : Spec} {cc bytes : ByteArray} {maxL maxL' : Nat} {ret ret' : Option FieldType} {e : Env} {s s₁ : State} {m : MethodId} {args : Array Value} {below : List Frame} {meth : Method} {c : Code} {hh : List (Nat × Nat × Nat × Nat)}
    (B : BodyLoose p l y S cc maxL ret e s m args below meth c s₁) (h : (Cond.codeWith y bytes maxL' ret' hh).before args s = true) : c.exceptionTable.toList = tableOf hh := by
  obtain ⟨m9, meth9, c9, hn9, h1, h2, -, -, h6, -⟩ := Cond.codeWith_spec h
  cases Option.some.inj (hn9.symm.trans B.named)
  cases Option.some.inj (h1.symm.trans B.method)
  cases Option.some.inj (h2.symm.trans (Stand.of_body B).code)
  rw [← h6, table_eq]
end Bodies
end VXA
/-! ===== END ===== -/
/-! ===== BEGIN a static call of a method with an exception table ===== -/
section VXS
variable {p : Program} {l : Launch} {e : Env} {R : Room} {s : State} {m : MethodId} {args : Array Value} {below : List Frame} {meth : Method} {c : Code} {T : State} {H : Heap} {locs : List Loc} {cells slots : Nat}
abbrev vx_CSW (R : Room) (s : State) (args : Array Value) (own : String) (index : Nat) (y : MethodName) (bytes : ByteArray) (maxL : Nat) (ret : Option FieldType) (hh : List (Nat × Nat × Nat × Nat)) (ws : List Cond) (rm : Room) (mc ms n : Nat) : Prop :=
  (rm.cells = mc ∧ rm.slots = ms ∧ rm.frames + 1 ≤ R.frames ∧ 8 + (maxL + 11) + rm.locals ≤ R.locals ∧ (∀ w ∈ ws, ∀ (a' : Array Value) (U : State), s.WarmedH U.vm → w.before a' U = true) ∧ Cond.codeWith y bytes maxL ret hh ∈ ws) ∧
  (Cond.codeWith y bytes maxL ret hh).before args s = true ∧ (Cond.initialized y.cls).before args s = true ∧ (y.cls ≠ "java/lang/invoke/MethodHandle" ∧ y.cls ≠ "java/lang/invoke/VarHandle") ∧
  (∀ sig, parseMethodDescriptor y.desc = some sig → n = sig.parameters.length) ∧ (Cond.methodLink own index y).before args s = true ∧ (Cond.static y).before args s = true
theorem vx_cwSW {own : String} {index maxL mc ms : Nat} {y : MethodName} {bytes : ByteArray} {ret : Option FieldType} {hh : List (Nat × Nat × Nat × Nat)} {Ts ws ws' : List Cond} {rm : Room} (n : Nat) (ht : ∀ w ∈ Ts, w.before args s = true) (hT : GoodIn Ts (va_wsS own index y ws)) (hw : ws = Cond.codeWith y bytes maxL ret hh :: ws') (hrc : rm.cells = mc) (hrs : rm.slots = ms)
    (hd : y.cls ≠ "java/lang/invoke/MethodHandle" ∧ y.cls ≠ "java/lang/invoke/VarHandle" ∧ (parseMethodDescriptor y.desc).map (fun d => d.parameters.length) = some n) (hR : rm.frames + 1 ≤ R.frames ∧ 8 + (maxL + 11) + rm.locals ≤ R.locals) :
    vx_CSW R s args own index y bytes maxL ret hh ws rm mc ms n := by
  have ok : ∀ w ∈ va_wsS own index y ws, w.before args s = true := fun w h => ht w (hT w h).1
  have hG : GoodIn Ts ws := fun w h => hT w (by unfold va_wsS; exact List.mem_append_right _ h)
  have hc : Cond.codeWith y bytes maxL ret hh ∈ ws := by rw [hw]; exact List.mem_cons_self
  refine ⟨⟨hrc, hrs, hR.1, hR.2, pay_in ht hG, hc⟩, ht _ (hG _ hc).1, ok _ (by simp [va_wsS]), ⟨hd.1, hd.2.1⟩, fun sig h => ?_, ok _ (by simp [va_wsS]), ok _ (by simp [va_wsS])⟩
  have h2 := hd.2.2
  rw [h] at h2
  exact (Option.some.inj h2).symm
theorem vx_callSW (X : Stand p l e R s m args below meth c T locs cells slots) (hexec : p.tables.exec = Jvm.exec) {own : String} {index : Nat} {y : MethodName} {bytes : ByteArray} {maxL : Nat} {ret : Option FieldType} {hh : List (Nat × Nat × Nat × Nat)}
    (hown : s.vm.findClass own = some m.cls) (hlink : (Cond.methodLink own index y).before args s = true) (hstat : (Cond.static y).before args s = true) (hinit : (Cond.initialized y.cls).before args s = true)
    (hcode : (Cond.codeWith y bytes maxL ret hh).before args s = true) (hy : y.cls ≠ "java/lang/invoke/MethodHandle" ∧ y.cls ≠ "java/lang/invoke/VarHandle")
    {W9 : Nat} {Pre : Pt → Array Value → Prop} {Post : Pt → Array Value → Option Value → Pt → Prop} (hK : Back l R p e below s args y 3 W9 Pre Post)
    {g : JFrame} (hg : g.method = m) (hsize : g.locals.size = c.maxLocals) {argsL rest : List Value} (hlen : ∀ sig, parseMethodDescriptor y.desc = some sig → argsL.length = sig.parameters.length)
    (hstack : g.stack = argsL.reverse ++ rest) (hW : 2 * g.monitorRoom + (rest.map fun v => v.category).sum ≤ W9) (hdg : decode c.code g.pc = .ok (.invokestatic index, 3))
    (hpre : ∀ vm₁, s.WarmedH vm₁ → Pre ⟨T.setVm vm₁, locs, cells, slots⟩ argsL.toArray) :
    ∃ (v : Option Value) (vm₁ : Vm) (B : Pt), s.WarmedH vm₁ ∧ Stand p l e R s m args below meth c B.U B.locs B.cells B.slots ∧ Post ⟨T.setVm vm₁, locs, cells, slots⟩ argsL.toArray v B ∧
      ∀ target, Steps p.tables e below (B.U.setTop { g with pc := g.pc + 3, stack := v.toList ++ rest }) target → Steps p.tables e below (T.setTop g) target := by
  obtain ⟨mk, methM, cM, hnamed, hmethM, -, -, -, -, -, -, hsigM⟩ := Cond.codeWith_spec hcode
  have hstatic : methM.isStatic = true := Cond.static_spec hnamed hmethM hstat
  obtain ⟨kP, hkP, -⟩ := className_of_methodNamed hnamed
  have hinitP : kP.init = .initialized := Cond.initialized_spec (findClass_of_methodNamed hnamed) hkP hinit
  obtain ⟨vm₁, X₁, hstep₁⟩ := X.invokestatic hexec hown hlink hnamed hmethM hstatic hkP hinitP hy (g := g) hg (argsL := argsL) (rest := rest) (hlen _ hsigM) hstack hdg
  obtain ⟨v, B, X', hpost, hsteps⟩ := hK m meth c ⟨T.setVm vm₁, locs, cells, slots⟩ { g with stack := rest } (.invokestatic index) mk argsL.toArray X₁ hg hsize hdg hW (X₁.named hnamed) (hpre vm₁ X₁.warmed)
  exact ⟨v, vm₁, B, X₁.warmed, X', hpost, fun target h => hstep₁ _ fun acts => by rw [doInvoke_state]; exact hsteps.trans h⟩
theorem vx_runSW {y : MethodName} {bytes cc : ByteArray} {maxL nL mc ms n index : Nat} {ret : Option FieldType} {hh : List (Nat × Nat × Nat × Nat)} {ws : List Cond} {rm : Room} {Pc : Array Value → State → Prop} {Qc : Array Value → State → Outcome → State → Prop} {free : Addr → Prop} {Ts : List Cond} {own : String} {As rest : List Value} {g : JFrame}
    (S : CallFix p m c cc nL s args Ts own) (hM : Met l y ws rm Pc Qc mc ms free) (cw : vx_CSW R s args own index y bytes maxL ret hh ws rm mc ms n) (hp : PreS s H Pc As)
    (hg : g.method = m) (hn : As.length = n) (hsize : g.locals.size = nL) (hstack : g.stack = As.reverse ++ rest) (hW : 2 * g.monitorRoom + (rest.map fun v => v.category).sum ≤ 8) (hdg : decode cc g.pc = .ok (.invokestatic index, 3)) (hf : cells + mc ≤ R.cells ∧ slots + ms ≤ R.slots) :
    va_Run p l e R s m args below meth c H locs cells slots mc ms g rest (Qc As.toArray) (free) := by
  obtain ⟨⟨hrc, hrs, hfr, hlo, hws, hcw⟩, hcode, hini, hy, hlen, hl, hstt⟩ := cw
  have hK : Back l R p e below s args y 3 8 (PreOf R mc ms Pc) (PostOf Qc mc ms free) := va_backW (hh := hh) (bytes := bytes) (maxL := maxL) (ret := ret) hM hp.1 hrc hrs hfr hlo hws hcw (fun a' U hW => word_at hW (Or.inl (by first | rfl | simp [Cond.onTables, Cond.keeps, Cond.steady])) hini)
  obtain ⟨hx, hb, hml, ho, -⟩ := S
  intro T hT X
  obtain ⟨v, vm₁, ⟨U', l2, c2, s2⟩, hW₁, X', ⟨g', mk, t, L, e1, e2, hq, h1, hL, h2, h3⟩, st⟩ := vx_callSW X hx (hh := hh) (bytes := bytes) (maxL := maxL) (ret := ret) ho hl hstt hini hcode hy hK hg (hsize.trans hml.symm) (argsL := As) (rest := rest) (fun sig h => hn.trans (hlen sig h)) hstack hW (by rw [hb]; exact hdg)
    (fun vm₁ hW₁ => ⟨hf.1, hf.2, hp.2 (T.setVm vm₁) hT hW₁⟩)
  dsimp only [Pt.U, Pt.locs, Pt.cells, Pt.slots] at X' e1 e2 h1 h2 h3 st
  subst h1; subst h2; subst h3
  exact ⟨v, (T.setVm vm₁).calling g' mk As.toArray, t, U', L, hT, X', hL, e1, e2, hq, st⟩
/-- not caught here, past rows that name other classes: it goes on to the caller -/
theorem vx_outP {p : Program} {l : Launch} {e : Env} {R : Room} {s : State} {m : MethodId} {args : Array Value} {below : List Frame} {meth : Method} {c : Code} {H : Heap} {locs : List Loc} {cells slots : Nat} {free : Addr → Prop} {ls : Array Slot} {rest : List Value} {Qc : Array Value → State → Outcome → State → Prop} {XC : String → State → State → Prop}
    {pc : Nat} {own E : String} {ce : Cell} {q : Addr} {mc ms : Nat} (hown : s.vm.findClass own = some m.cls) (hlocks : meth.locks = false)
    (hpass : ∀ z ∈ c.exceptionTable.toList, covers z pc = false ∨ (z.catchType ≠ 0 ∧ ∃ nm : String, (Cond.classLink own z.catchType nm).before args s = true ∧ va_Nc E nm s)) (hcell : H[q]? = some ce) (hv : ce.vm = .none) (hcl : s.vm.findClass E = some ce.cls)
    (hx : ∀ t : State, t.heap = H → s.vm.Alike t.vm → XC E s t) (hf : ∀ z ∈ locs, free z.base) (hc : cells ≤ mc) (hs : slots ≤ ms) :
    vx_W p l e R s m args below meth c H locs cells slots (vx_MQ below Qc XC args s mc ms free) (F0 m pc ls rest) q := by
  intro T hT X
  have hpl : e.platform.magicAccessors = ({} : Platform).magicAccessors := by rw [X.admits.platform]
  obtain ⟨vm', hW', X', st⟩ := X.outThrough hlocks q (g := F0 m pc ls rest) rfl rfl rfl (cell := ce) (by rw [hT]; exact hcell) (by rw [hv]; rfl)
    (by obtain ⟨k9, h9, -⟩ := Vm.findClass_spec hcl; exact ⟨k9, h9⟩) (fun z hz => by
      rcases hpass z hz with h | ⟨hz0, nm, hl1, hn1⟩
      · exact Or.inl h
      · obtain ⟨c6, hc6, hcl6⟩ := Cond.classLink_spec hown hl1 e.platform hpl
        obtain ⟨a8, b8, h1, h2, h3⟩ := hn1
        cases Option.some.inj (h1.symm.trans hcl)
        cases Option.some.inj (h2.symm.trans hc6)
        exact Or.inr ⟨hz0, _, hcl6, h3⟩)
  obtain ⟨g₀, hfr⟩ := X'.frames_eq
  have hcell9 : ((T.setVm vm').setFrames (.throwing q :: below)).heap[q]? = some ce := by
    show T.heap[q]? = some ce
    rw [hT]; exact hcell
  have hend : Ended ((T.setVm vm').setFrames (.throwing q :: below)) below (.threw q) := State.frames_setFrames _ (State.cur_lt_of_frames hfr)
  refine ⟨(T.setVm vm').setFrames (.throwing q :: below), ?_, .threw q, X'.here.running, hend, Or.inr ⟨q, rfl, E, ce, locs, hx _ hT (X'.ends _).1.alike, hcell9, hv, hcl, (X'.ends _).1, (X'.ends _).2.mono hc hs, hf⟩⟩
  rw [X.pushThrowing_eq]
  exact st
/-- a thing of a world lies in the heap -/
theorem vx_lt {D : va_G} {cl : List vw_C} {ws : va_W} {H1 : Heap} (h : va_P D cl ws H1) {k : Nat} {q : Nat × va_E} (hk : ws[k]? = some q) : q.1 < H1.size := (h k q hk).lt
end VXS
/-! ===== END ===== -/
/-! ===== BEGIN methods with a table of their own: called by a name, returning or throwing ===== -/
section VXH
/-! vx_backW, vx_callVX, vx_callSX, vx_callVW, vx_runVW, vx_runVX, vx_runSX, vx_ofWH follow the same proofs as their sisters above (Free/Laws.lean, Shelf42/LK1.lean); vx_outP calls Shelf42/NT130.lean (outThrough). -/
section
variable {l : Launch} {R : Room} {p : Program} {e : Env} {below : List Frame} {s : State} {sargs : Array Value} {y : MethodName} {len W9 : Nat}
theorem vx_backW {ws : List Cond} {rm : Room} {Pc : Array Value → State → Prop} {Qc : Array Value → State → Outcome → State → Prop} {XC : String → State → State → Prop} {mc ms : Nat} {free : Addr → Prop} {bytes : ByteArray} {maxL : Nat} {ret : Option FieldType} {hh : List (Nat × Nat × Nat × Nat)}
    (hM : vx_Met l y ws rm Pc Qc XC mc ms free) (hblind : FrameBlind Pc) (hrc : rm.cells = mc) (hrs : rm.slots = ms)
    (hframes : rm.frames + 1 ≤ R.frames) (hlocals : W9 + (maxL + 11) + rm.locals ≤ R.locals)
    (hws : ∀ w ∈ ws, ∀ a' U, s.WarmedH U.vm → w.before a' U = true) (hcode : Cond.codeWith y bytes maxL ret hh ∈ ws) (hinit : ∀ a' U, s.WarmedH U.vm → (Cond.initialized y.cls).before a' U = true) :
    vx_Back l R p e below s sargs y len W9 (PreOf R mc ms Pc) (PostOf Qc mc ms free) (vx_Post XC mc ms free) := by
  intro m meth c A g ig mk a X hg hsize hdg hW hn hp
  have h1 : (headSpec ws rm).pre.before a A.U = true := atoms_intro fun w hw => hws w hw _ _ X.warmed
  have h2 : (Cond.codeWith y bytes maxL ret hh).before a A.U = true := hws _ hcode _ _ X.warmed
  have h3 : (Cond.initialized y.cls).before a A.U = true := hinit _ _ X.warmed
  have h4 : A.cells + (headSpec ws rm).room.cells ≤ R.cells := by rw [show (headSpec ws rm).room.cells = mc from hrc]; exact hp.1
  have h5 : A.slots + (headSpec ws rm).room.slots ≤ R.slots := by rw [show (headSpec ws rm).room.slots = ms from hrs]; exact hp.2.1
  have hPc : Pc a (A.U.calling g mk a) := hblind _ _ _ _ hp.2.2
  obtain ⟨U, Ls, c0, s0⟩ := A
  dsimp only [Pt.U, Pt.locs, Pt.cells, Pt.slots] at h1 h2 h3 h4 h5 X hn hPc ⊢
  obtain ⟨m9, methY, cY, hn9, hmY, hcY, -, hlY, -⟩ := Cond.codeWith_spec h2
  cases Option.some.inj (hn9.symm.trans hn)
  obtain ⟨kY, hkY, -⟩ := className_of_methodNamed hn
  have hinitY : kY.init = .initialized := Cond.initialized_spec (findClass_of_methodNamed hn) hkY h3
  have h : At U g.method c below := by rw [hg]; exact X.here
  have hlocals9 : W9 + (maxL + 11) + (headSpec ws rm).room.locals ≤ R.locals := hlocals
  have happ : (headSpec ws rm).appliesLoose y e.platform (U.calling g mk a) = true :=
    Spec.appliesLoose_calling (g := g) h hdg hn hkY hinitY
      (X.room_calling (g := g) (R' := (headSpec ws rm).room) hsize hmY hcY hframes (by rw [hlY]; omega) h4 h5) h1
  obtain ⟨mid, hmid⟩ := h.above
  have hfr : (U.setTop g).frames = (.java g :: mid) ++ below := by rw [State.frames_setTop' g h.top, hmid]; rfl
  obtain ⟨o, s₂, hsteps, -, hend, hq⟩ := Steps.callFree hM p X.admits X.cas X.clock (acts := []) hfr happ hPc trivial
  have hq' : vx_Q Qc XC mc ms free a (U.calling g mk a) o s₂ := hq
  rw [State.frames_setTop' g h.top] at hend
  obtain ⟨g₀, hg0⟩ := Option.isSome_iff_exists.mp h.top
  obtain ⟨r, hr⟩ := State.topJava?_eq_some.mp hg0
  have hr' : (({ U with heap := s₂.heap, slotsUsed := s₂.slotsUsed } : State).setVm s₂.vm).frames = .java g₀ :: r := hr
  rcases hq' with ⟨hqc, L, hfe, hL⟩ | ⟨q, rfl, E, ce, L, hx, hce, hcv, hcl, hW₂, hsm, hL⟩
  · obtain ⟨⟨v, rfl⟩, hW₂, e2, q2, q3, q4, q5, q6⟩ := id hfe
    have e3 : s₂ = ({ (U.calling g mk a).setFrames s₂.frames with heap := s₂.heap, slotsUsed := s₂.slotsUsed } : State).setVm s₂.vm := by
      have : s₂ = ({ s₂ with vm := (U.calling g mk a).vm } : State).setVm s₂.vm := rfl
      rw [e2] at this
      exact this
    obtain ⟨c₂, i₂, len₂, hc₂, hd₂, hf₂⟩ := hend
    have hW' : U.WarmedH s₂.vm := hW₂
    have hcc : c₂ = c := by
      have h1 : s₂.code? g.method = U.code? g.method := by
        rw [State.code?_eq, State.code?_eq, hW'.alike.method?]
      exact Option.some.inj (hc₂.symm.trans (h1.trans h.code))
    subst hcc
    have hlen : len₂ = len := by rw [hdg] at hd₂; cases hd₂; rfl
    subst hlen
    have hs₂ : s₂ = (({ U with heap := s₂.heap, slotsUsed := s₂.slotsUsed } : State).setVm s₂.vm).setTop { g with pc := g.pc + len₂, stack := v.toList ++ g.stack } := by
      refine e3.trans ?_
      rw [hf₂, State.calling_eq h.top, State.setFrames_setFrames, State.setTop_of_frames _ hr', hr]
      rfl
    have hsame : U.sameButNew ({ U with heap := s₂.heap, slotsUsed := s₂.slotsUsed } : State) L mc ms := by
      refine ⟨?_, q2, q3, q4, q5, q6⟩
      obtain ⟨t, ht, -⟩ := State.frames_cons hr
      show ({ U with heap := s₂.heap, slotsUsed := s₂.slotsUsed } : State) = { U.setFrames U.frames with heap := s₂.heap, slotsUsed := s₂.slotsUsed }
      rw [State.setFrames_self ht]
    subst hg
    refine Or.inl ⟨v, ⟨(({ U with heap := s₂.heap, slotsUsed := s₂.slotsUsed } : State).setVm s₂.vm), Ls ++ L, c0 + mc, s0 + ms⟩,
      ⟨X.admits, X.cas, X.clock, X.frames, X.room, X.hears, X.method, X.code, (X.here.setHeapUsed s₂.heap s₂.slotsUsed).setVm hW'.alike, X.tail, State.WarmedH.trans X.warmed hW', X.limits, X.bytes, X.same.trans (hsame.setVm s.vm)⟩,
      ⟨g, mk, s₂, L, rfl, rfl, hqc, rfl, hL, rfl, rfl⟩, ?_⟩
    show Steps p.tables e below _ ((({ U with heap := s₂.heap, slotsUsed := s₂.slotsUsed } : State).setVm s₂.vm).setTop { g with pc := g.pc + len₂, stack := v.toList ++ g.stack })
    rw [← hs₂]
    exact hsteps
  · obtain ⟨e2, q2, q3, q4, q5, q6⟩ := id hsm
    have e3 : s₂ = ({ (U.calling g mk a).setFrames s₂.frames with heap := s₂.heap, slotsUsed := s₂.slotsUsed } : State).setVm s₂.vm := by
      have : s₂ = ({ s₂ with vm := (U.calling g mk a).vm } : State).setVm s₂.vm := rfl
      rw [e2] at this
      exact this
    have hf₂ : s₂.frames = .throwing q :: .java g :: U.frames.tail := hend
    have hW' : U.WarmedH s₂.vm := hW₂
    have hs₂ : s₂ = ((({ U with heap := s₂.heap, slotsUsed := s₂.slotsUsed } : State).setVm s₂.vm).setTop g).pushFrame (.throwing q) := by
      refine e3.trans ?_
      rw [hf₂, State.calling_eq h.top, State.setFrames_setFrames, State.pushFrame, State.frames_setTop _ hr', State.setTop_of_frames _ hr', State.setFrames_setFrames, hr]
      rfl
    have hsame : U.sameButNew ({ U with heap := s₂.heap, slotsUsed := s₂.slotsUsed } : State) L mc ms := by
      refine ⟨?_, q2, q3, q4, q5, q6⟩
      obtain ⟨t, ht, -⟩ := State.frames_cons hr
      show ({ U with heap := s₂.heap, slotsUsed := s₂.slotsUsed } : State) = { U.setFrames U.frames with heap := s₂.heap, slotsUsed := s₂.slotsUsed }
      rw [State.setFrames_self ht]
    subst hg
    refine Or.inr ⟨q, ⟨(({ U with heap := s₂.heap, slotsUsed := s₂.slotsUsed } : State).setVm s₂.vm), Ls ++ L, c0 + mc, s0 + ms⟩,
      ⟨X.admits, X.cas, X.clock, X.frames, X.room, X.hears, X.method, X.code, (X.here.setHeapUsed s₂.heap s₂.slotsUsed).setVm hW'.alike, X.tail, State.WarmedH.trans X.warmed hW', X.limits, X.bytes, X.same.trans (hsame.setVm s.vm)⟩,
      ⟨g, mk, s₂, L, E, ce, rfl, rfl, hx, hce, hcv, hcl, rfl, hL, rfl, rfl⟩, ?_⟩
    show Steps p.tables e below _ (((({ U with heap := s₂.heap, slotsUsed := s₂.slotsUsed } : State).setVm s₂.vm).setTop g).pushFrame (.throwing q))
    rw [← hs₂]
    exact hsteps
end
variable {p : Program} {l : Launch} {e : Env} {R : Room} {s : State} {m : MethodId} {args : Array Value} {below : List Frame} {meth : Method} {c : Code} {T : State} {H : Heap} {locs : List Loc} {cells slots : Nat}
theorem vx_callVX (X : Stand p l e R s m args below meth c T locs cells slots) (hexec : p.tables.exec = Jvm.exec) {own C : String} {index : Nat} {y : MethodName} {bytes : ByteArray} {maxL : Nat} {ret : Option FieldType} {hh : List (Nat × Nat × Nat × Nat)}
    (hown : s.vm.findClass own = some m.cls) (hlink : (Cond.methodLink own index y).before args s = true) (hinst : (Cond.instanceMethod y).before args s = true) (hsel : (Cond.selects C y y).before args s = true)
    (hcode : (Cond.codeWith y bytes maxL ret hh).before args s = true) (hy : y.cls ≠ "java/lang/invoke/MethodHandle" ∧ y.cls ≠ "java/lang/invoke/VarHandle")
    {W9 : Nat} {Pre : Pt → Array Value → Prop} {Post : Pt → Array Value → Option Value → Pt → Prop} {PostX : Pt → Array Value → Addr → Pt → Prop} (hK : vx_Back l R p e below s args y 3 W9 Pre Post PostX)
    {b : Addr} {cellB : Cell} (hcell : T.heap[b]? = some cellB) (hobj : cellB.vm.isStatics = false) (hcls : s.vm.findClass C = some cellB.cls)
    {g : JFrame} (hg : g.method = m) (hsize : g.locals.size = c.maxLocals) {argsL rest : List Value} (hlen : ∀ sig, parseMethodDescriptor y.desc = some sig → argsL.length = sig.parameters.length)
    (hstack : g.stack = argsL.reverse ++ .ref b :: rest) (hW : 2 * g.monitorRoom + (rest.map fun v => v.category).sum ≤ W9) (hdg : decode c.code g.pc = .ok (.invokevirtual index, 3))
    (hpre : ∀ vm₁, s.WarmedH vm₁ → Pre ⟨T.setVm vm₁, locs, cells, slots⟩ (Value.ref b :: argsL).toArray) :
    (∃ (v : Option Value) (vm₁ : Vm) (B : Pt), s.WarmedH vm₁ ∧ Stand p l e R s m args below meth c B.U B.locs B.cells B.slots ∧ Post ⟨T.setVm vm₁, locs, cells, slots⟩ (Value.ref b :: argsL).toArray v B ∧
      ∀ target, Steps p.tables e below (B.U.setTop { g with pc := g.pc + 3, stack := v.toList ++ rest }) target → Steps p.tables e below (T.setTop g) target) ∨
    (∃ (q : Addr) (vm₁ : Vm) (B : Pt), s.WarmedH vm₁ ∧ Stand p l e R s m args below meth c B.U B.locs B.cells B.slots ∧ PostX ⟨T.setVm vm₁, locs, cells, slots⟩ (Value.ref b :: argsL).toArray q B ∧
      Steps p.tables e below (T.setTop g) ((B.U.setTop { g with stack := rest }).pushFrame (.throwing q))) := by
  obtain ⟨mk, methM, hnamed, hmethM, hstM, habM⟩ := Cond.instanceMethod_spec hinst
  obtain ⟨m8, methM', cM, hn8, hmethM', -, -, -, -, -, -, hsigM⟩ := Cond.codeWith_spec hcode
  cases Option.some.inj (hn8.symm.trans hnamed)
  cases hmethM.symm.trans hmethM'
  obtain ⟨c2, r2, m2, q1, q2, q3, q4, kP, hkP, hkPi⟩ := Cond.selects_spec hsel
  cases hcls.symm.trans q1
  cases (State.methodFound?_of_named hnamed hy).symm.trans q2
  cases hnamed.symm.trans q3
  have hselP : selectMethod e.platform s.vm cellB.cls mk = .method mk := by rw [Launch.admits_selectMethod X.admits]; exact q4
  obtain ⟨vm₁, X₁, hstep₁⟩ := X.invokevirtual hexec hown hlink hnamed hmethM hstM hkP hkPi hy (a := b) (cell := cellB) hcell
    (fun z h => by rw [h] at hobj; cases hobj) hselP hmethM habM hkP hkPi (g := g) hg (argsL := argsL) (rest := rest) (hlen _ hsigM) hstack hdg
  rcases hK m meth c ⟨T.setVm vm₁, locs, cells, slots⟩ { g with stack := rest } (.invokevirtual index) mk (Value.ref b :: argsL).toArray X₁ hg hsize hdg hW (X₁.named hnamed) (hpre vm₁ X₁.warmed) with ⟨v, B, X', hpost, hsteps⟩ | ⟨q, B, X', hpost, hsteps⟩
  · exact Or.inl ⟨v, vm₁, B, X₁.warmed, X', hpost, fun target h => hstep₁ _ fun acts => by rw [doInvoke_state]; exact hsteps.trans h⟩
  · exact Or.inr ⟨q, vm₁, B, X₁.warmed, X', hpost, hstep₁ _ fun acts => by rw [doInvoke_state]; exact hsteps⟩
theorem vx_callSX (X : Stand p l e R s m args below meth c T locs cells slots) (hexec : p.tables.exec = Jvm.exec) {own : String} {index : Nat} {y : MethodName} {bytes : ByteArray} {maxL : Nat} {ret : Option FieldType} {hh : List (Nat × Nat × Nat × Nat)}
    (hown : s.vm.findClass own = some m.cls) (hlink : (Cond.methodLink own index y).before args s = true) (hstat : (Cond.static y).before args s = true) (hinit : (Cond.initialized y.cls).before args s = true)
    (hcode : (Cond.codeWith y bytes maxL ret hh).before args s = true) (hy : y.cls ≠ "java/lang/invoke/MethodHandle" ∧ y.cls ≠ "java/lang/invoke/VarHandle")
    {W9 : Nat} {Pre : Pt → Array Value → Prop} {Post : Pt → Array Value → Option Value → Pt → Prop} {PostX : Pt → Array Value → Addr → Pt → Prop} (hK : vx_Back l R p e below s args y 3 W9 Pre Post PostX)
    {g : JFrame} (hg : g.method = m) (hsize : g.locals.size = c.maxLocals) {argsL rest : List Value} (hlen : ∀ sig, parseMethodDescriptor y.desc = some sig → argsL.length = sig.parameters.length)
    (hstack : g.stack = argsL.reverse ++ rest) (hW : 2 * g.monitorRoom + (rest.map fun v => v.category).sum ≤ W9) (hdg : decode c.code g.pc = .ok (.invokestatic index, 3))
    (hpre : ∀ vm₁, s.WarmedH vm₁ → Pre ⟨T.setVm vm₁, locs, cells, slots⟩ argsL.toArray) :
    (∃ (v : Option Value) (vm₁ : Vm) (B : Pt), s.WarmedH vm₁ ∧ Stand p l e R s m args below meth c B.U B.locs B.cells B.slots ∧ Post ⟨T.setVm vm₁, locs, cells, slots⟩ argsL.toArray v B ∧
      ∀ target, Steps p.tables e below (B.U.setTop { g with pc := g.pc + 3, stack := v.toList ++ rest }) target → Steps p.tables e below (T.setTop g) target) ∨
    (∃ (q : Addr) (vm₁ : Vm) (B : Pt), s.WarmedH vm₁ ∧ Stand p l e R s m args below meth c B.U B.locs B.cells B.slots ∧ PostX ⟨T.setVm vm₁, locs, cells, slots⟩ argsL.toArray q B ∧
      Steps p.tables e below (T.setTop g) ((B.U.setTop { g with stack := rest }).pushFrame (.throwing q))) := by
  obtain ⟨mk, methM, cM, hnamed, hmethM, -, -, -, -, -, -, hsigM⟩ := Cond.codeWith_spec hcode
  have hstatic : methM.isStatic = true := Cond.static_spec hnamed hmethM hstat
  obtain ⟨kP, hkP, -⟩ := className_of_methodNamed hnamed
  have hinitP : kP.init = .initialized := Cond.initialized_spec (findClass_of_methodNamed hnamed) hkP hinit
  obtain ⟨vm₁, X₁, hstep₁⟩ := X.invokestatic hexec hown hlink hnamed hmethM hstatic hkP hinitP hy (g := g) hg (argsL := argsL) (rest := rest) (hlen _ hsigM) hstack hdg
  rcases hK m meth c ⟨T.setVm vm₁, locs, cells, slots⟩ { g with stack := rest } (.invokestatic index) mk argsL.toArray X₁ hg hsize hdg hW (X₁.named hnamed) (hpre vm₁ X₁.warmed) with ⟨v, B, X', hpost, hsteps⟩ | ⟨q, B, X', hpost, hsteps⟩
  · exact Or.inl ⟨v, vm₁, B, X₁.warmed, X', hpost, fun target h => hstep₁ _ fun acts => by rw [doInvoke_state]; exact hsteps.trans h⟩
  · exact Or.inr ⟨q, vm₁, B, X₁.warmed, X', hpost, hstep₁ _ fun acts => by rw [doInvoke_state]; exact hsteps⟩
theorem vx_callVW (X : Stand p l e R s m args below meth c T locs cells slots) (hexec : p.tables.exec = Jvm.exec) {own C : String} {index : Nat} {y : MethodName} {bytes : ByteArray} {maxL : Nat} {ret : Option FieldType} {hh : List (Nat × Nat × Nat × Nat)}
    (hown : s.vm.findClass own = some m.cls) (hlink : (Cond.methodLink own index y).before args s = true) (hinst : (Cond.instanceMethod y).before args s = true) (hsel : (Cond.selects C y y).before args s = true)
    (hcode : (Cond.codeWith y bytes maxL ret hh).before args s = true) (hy : y.cls ≠ "java/lang/invoke/MethodHandle" ∧ y.cls ≠ "java/lang/invoke/VarHandle")
    {W9 : Nat} {Pre : Pt → Array Value → Prop} {Post : Pt → Array Value → Option Value → Pt → Prop} (hK : Back l R p e below s args y 3 W9 Pre Post)
    {b : Addr} {cellB : Cell} (hcell : T.heap[b]? = some cellB) (hobj : cellB.vm.isStatics = false) (hcls : s.vm.findClass C = some cellB.cls)
    {g : JFrame} (hg : g.method = m) (hsize : g.locals.size = c.maxLocals) {argsL rest : List Value} (hlen : ∀ sig, parseMethodDescriptor y.desc = some sig → argsL.length = sig.parameters.length)
    (hstack : g.stack = argsL.reverse ++ .ref b :: rest) (hW : 2 * g.monitorRoom + (rest.map fun v => v.category).sum ≤ W9) (hdg : decode c.code g.pc = .ok (.invokevirtual index, 3))
    (hpre : ∀ vm₁, s.WarmedH vm₁ → Pre ⟨T.setVm vm₁, locs, cells, slots⟩ (Value.ref b :: argsL).toArray) :
    ∃ (v : Option Value) (vm₁ : Vm) (B : Pt), s.WarmedH vm₁ ∧ Stand p l e R s m args below meth c B.U B.locs B.cells B.slots ∧ Post ⟨T.setVm vm₁, locs, cells, slots⟩ (Value.ref b :: argsL).toArray v B ∧
      ∀ target, Steps p.tables e below (B.U.setTop { g with pc := g.pc + 3, stack := v.toList ++ rest }) target → Steps p.tables e below (T.setTop g) target := by
  obtain ⟨mk, methM, hnamed, hmethM, hstM, habM⟩ := Cond.instanceMethod_spec hinst
  obtain ⟨m8, methM', cM, hn8, hmethM', -, -, -, -, -, -, hsigM⟩ := Cond.codeWith_spec hcode
  cases Option.some.inj (hn8.symm.trans hnamed)
  cases hmethM.symm.trans hmethM'
  obtain ⟨c2, r2, m2, q1, q2, q3, q4, kP, hkP, hkPi⟩ := Cond.selects_spec hsel
  cases hcls.symm.trans q1
  cases (State.methodFound?_of_named hnamed hy).symm.trans q2
  cases hnamed.symm.trans q3
  have hselP : selectMethod e.platform s.vm cellB.cls mk = .method mk := by rw [Launch.admits_selectMethod X.admits]; exact q4
  obtain ⟨vm₁, X₁, hstep₁⟩ := X.invokevirtual hexec hown hlink hnamed hmethM hstM hkP hkPi hy (a := b) (cell := cellB) hcell
    (fun z h => by rw [h] at hobj; cases hobj) hselP hmethM habM hkP hkPi (g := g) hg (argsL := argsL) (rest := rest) (hlen _ hsigM) hstack hdg
  obtain ⟨v, B, X', hpost, hsteps⟩ := hK m meth c ⟨T.setVm vm₁, locs, cells, slots⟩ { g with stack := rest } (.invokevirtual index) mk (Value.ref b :: argsL).toArray X₁ hg hsize hdg hW (X₁.named hnamed) (hpre vm₁ X₁.warmed)
  exact ⟨v, vm₁, B, X₁.warmed, X', hpost, fun target h => hstep₁ _ fun acts => by rw [doInvoke_state]; exact hsteps.trans h⟩
abbrev vx_CVW (R : Room) (s : State) (args : Array Value) (own C : String) (index : Nat) (y : MethodName) (bytes : ByteArray) (maxL : Nat) (ret : Option FieldType) (hh : List (Nat × Nat × Nat × Nat)) (ws : List Cond) (rm : Room) (mc ms n : Nat) : Prop :=
  (rm.cells = mc ∧ rm.slots = ms ∧ rm.frames + 1 ≤ R.frames ∧ 8 + (maxL + 11) + rm.locals ≤ R.locals ∧ (∀ w ∈ ws, ∀ (a' : Array Value) (U : State), s.WarmedH U.vm → w.before a' U = true) ∧ Cond.codeWith y bytes maxL ret hh ∈ ws) ∧
  (Cond.codeWith y bytes maxL ret hh).before args s = true ∧ (Cond.initialized y.cls).before args s = true ∧ (y.cls ≠ "java/lang/invoke/MethodHandle" ∧ y.cls ≠ "java/lang/invoke/VarHandle") ∧
  (∀ sig, parseMethodDescriptor y.desc = some sig → n = sig.parameters.length) ∧ (Cond.methodLink own index y).before args s = true ∧ (Cond.instanceMethod y).before args s = true ∧ (Cond.selects C y y).before args s = true
theorem vx_cwVW {own C : String} {index maxL mc ms : Nat} {y : MethodName} {bytes : ByteArray} {ret : Option FieldType} {hh : List (Nat × Nat × Nat × Nat)} {Ts ws ws' : List Cond} {rm : Room} (n : Nat) (ht : ∀ w ∈ Ts, w.before args s = true) (hT : GoodIn Ts (wsV own index C y ws)) (hw : ws = Cond.codeWith y bytes maxL ret hh :: ws') (hrc : rm.cells = mc) (hrs : rm.slots = ms)
    (hd : y.cls = C ∧ y.cls ≠ "java/lang/invoke/MethodHandle" ∧ y.cls ≠ "java/lang/invoke/VarHandle" ∧ (parseMethodDescriptor y.desc).map (fun d => d.parameters.length) = some n) (hR : rm.frames + 1 ≤ R.frames ∧ 8 + (maxL + 11) + rm.locals ≤ R.locals) :
    vx_CVW R s args own C index y bytes maxL ret hh ws rm mc ms n := by
  obtain ⟨hC, hd⟩ := hd
  subst hC
  have ok : ∀ w ∈ wsV own index y.cls y ws, w.before args s = true := fun w h => ht w (hT w h).1
  have hG : GoodIn Ts ws := fun w h => hT w (by unfold wsV; exact List.mem_append_right _ h)
  have hc : Cond.codeWith y bytes maxL ret hh ∈ ws := by rw [hw]; exact List.mem_cons_self
  refine ⟨⟨hrc, hrs, hR.1, hR.2, pay_in ht hG, hc⟩, ht _ (hG _ hc).1, ok _ (by simp [wsV]), ⟨hd.1, hd.2.1⟩, fun sig h => ?_, ok _ (by simp [wsV]), ok _ (by simp [wsV]), ok _ (by simp [wsV])⟩
  have h2 := hd.2.2
  rw [h] at h2
  exact (Option.some.inj h2).symm
theorem vx_runVW {y : MethodName} {bytes cc : ByteArray} {maxL nL mc ms n index : Nat} {ret : Option FieldType} {hh : List (Nat × Nat × Nat × Nat)} {ws : List Cond} {rm : Room} {Pc : Array Value → State → Prop} {Qc : Array Value → State → Outcome → State → Prop} {free : Addr → Prop} {Ts : List Cond} {own C : String} {b : Addr} {As rest : List Value} {g : JFrame}
    (S : CallFix p m c cc nL s args Ts own) (hM : Met l y ws rm Pc Qc mc ms free) (cw : vx_CVW R s args own C index y bytes maxL ret hh ws rm mc ms n) (hp : PreV s H C b Pc As)
    (hg : g.method = m) (hn : As.length = n) (hsize : g.locals.size = nL) (hstack : g.stack = As.reverse ++ .ref b :: rest) (hW : 2 * g.monitorRoom + (rest.map fun v => v.category).sum ≤ 8) (hdg : decode cc g.pc = .ok (.invokevirtual index, 3)) (hf : cells + mc ≤ R.cells ∧ slots + ms ≤ R.slots) :
    va_Run p l e R s m args below meth c H locs cells slots mc ms g rest (Qc (Value.ref b :: As).toArray) free := by
  obtain ⟨⟨hrc, hrs, hfr, hlo, hws, hcw⟩, hcode, hini, hy, hlen, hl, hin, hse⟩ := cw
  have hK : Back l R p e below s args y 3 8 (PreOf R mc ms Pc) (PostOf Qc mc ms free) := va_backW (hh := hh) (bytes := bytes) (maxL := maxL) (ret := ret) hM hp.1 hrc hrs hfr hlo hws hcw (fun a' U hW => word_at hW (Or.inl (by first | rfl | simp [Cond.onTables, Cond.keeps, Cond.steady])) hini)
  obtain ⟨hx, hb, hml, ho, -⟩ := S
  obtain ⟨-, ⟨cellB, hcB, hoB, hclB⟩, hPc⟩ := hp
  intro T hT X
  obtain ⟨v, vm₁, ⟨U', l2, c2, s2⟩, hW₁, X', ⟨g', mk, t, L, e1, e2, hq, h1, hL, h2, h3⟩, st⟩ := vx_callVW X hx (C := C) (hh := hh) (bytes := bytes) (maxL := maxL) (ret := ret) ho hl hin hse hcode hy hK (by rw [hT]; exact hcB) hoB hclB hg (hsize.trans hml.symm) (argsL := As) (rest := rest) (fun sig h => hn.trans (hlen sig h)) hstack hW (by rw [hb]; exact hdg)
    (fun vm₁ hW₁ => ⟨hf.1, hf.2, hPc (T.setVm vm₁) hT hW₁⟩)
  dsimp only [Pt.U, Pt.locs, Pt.cells, Pt.slots] at X' e1 e2 h1 h2 h3 st
  subst h1; subst h2; subst h3
  exact ⟨v, (T.setVm vm₁).calling g' mk (Value.ref b :: As).toArray, t, U', L, hT, X', hL, e1, e2, hq, st⟩
section
variable {y : MethodName} {bytes cc : ByteArray} {maxL nL mc ms n index : Nat} {ret : Option FieldType} {ws : List Cond} {rm : Room} {Pc : Array Value → State → Prop} {Qc : Array Value → State → Outcome → State → Prop} {XC : String → State → State → Prop} {free : Addr → Prop} {Ts : List Cond} {own C : String} {b : Addr} {As rest : List Value} {g : JFrame}
theorem vx_runVX {hh : List (Nat × Nat × Nat × Nat)} (S : CallFix p m c cc nL s args Ts own) (hM : vx_Met l y ws rm Pc Qc XC mc ms free) (cw : vx_CVW R s args own C index y bytes maxL ret hh ws rm mc ms n) (hp : PreV s H C b Pc As)
    (hg : g.method = m) (hn : As.length = n) (hsize : g.locals.size = nL) (hstack : g.stack = As.reverse ++ .ref b :: rest) (hW : 2 * g.monitorRoom + (rest.map fun v => v.category).sum ≤ 8) (hdg : decode cc g.pc = .ok (.invokevirtual index, 3)) (hf : cells + mc ≤ R.cells ∧ slots + ms ≤ R.slots) :
    vx_Run p l e R s m args below meth c H locs cells slots mc ms g rest (Qc (Value.ref b :: As).toArray) XC free := by
  obtain ⟨⟨hrc, hrs, hfr, hlo, hws, hcw⟩, hcode, hini, hy, hlen, hl, hin, hse⟩ := cw
  have hK : vx_Back l R p e below s args y 3 8 (PreOf R mc ms Pc) (PostOf Qc mc ms free) (vx_Post XC mc ms free) := vx_backW (hh := hh) (bytes := bytes) (maxL := maxL) (ret := ret) hM hp.1 hrc hrs hfr hlo hws hcw (fun a' U hW => word_at hW (Or.inl (by first | rfl | simp [Cond.onTables, Cond.keeps, Cond.steady])) hini)
  obtain ⟨hx, hb, hml, ho, -⟩ := S
  obtain ⟨-, ⟨cellB, hcB, hoB, hclB⟩, hPc⟩ := hp
  intro T hT X
  rcases vx_callVX X hx (C := C) (hh := hh) (bytes := bytes) (maxL := maxL) (ret := ret) ho hl hin hse hcode hy hK (by rw [hT]; exact hcB) hoB hclB hg (hsize.trans hml.symm) (argsL := As) (rest := rest) (fun sig h => hn.trans (hlen sig h)) hstack hW (by rw [hb]; exact hdg)
    (fun vm₁ hW₁ => ⟨hf.1, hf.2, hPc (T.setVm vm₁) hT hW₁⟩) with ⟨v, vm₁, ⟨U', l2, c2, s2⟩, hW₁, X', ⟨g', mk, t, L, e1, e2, hq, h1, hL, h2, h3⟩, st⟩ | ⟨q, vm₁, ⟨U', l2, c2, s2⟩, hW₁, X', ⟨g', mk, t, L, E, ce, e1, e2, hq, hce, hcv, hcl, h1, hL, h2, h3⟩, st⟩
  · dsimp only [Pt.U, Pt.locs, Pt.cells, Pt.slots] at X' e1 e2 h1 h2 h3 st
    subst h1; subst h2; subst h3
    exact Or.inl ⟨v, (T.setVm vm₁).calling g' mk (Value.ref b :: As).toArray, t, U', L, hT, X', hL, e1, e2, hq, st⟩
  · dsimp only [Pt.U, Pt.locs, Pt.cells, Pt.slots] at X' e1 e2 h1 h2 h3 st hcl
    subst h1; subst h2; subst h3
    exact Or.inr ⟨q, (T.setVm vm₁).calling g' mk (Value.ref b :: As).toArray, t, U', L, E, ce, hT, X', hL, e1, e2, hq, hce, hcv, vx_cls hW₁ hcl, st⟩
theorem vx_runSX {hh : List (Nat × Nat × Nat × Nat)} (S : CallFix p m c cc nL s args Ts own) (hM : vx_Met l y ws rm Pc Qc XC mc ms free) (cw : vx_CSW R s args own index y bytes maxL ret hh ws rm mc ms n) (hp : PreS s H Pc As)
    (hg : g.method = m) (hn : As.length = n) (hsize : g.locals.size = nL) (hstack : g.stack = As.reverse ++ rest) (hW : 2 * g.monitorRoom + (rest.map fun v => v.category).sum ≤ 8) (hdg : decode cc g.pc = .ok (.invokestatic index, 3)) (hf : cells + mc ≤ R.cells ∧ slots + ms ≤ R.slots) :
    vx_Run p l e R s m args below meth c H locs cells slots mc ms g rest (Qc As.toArray) XC free := by
  obtain ⟨⟨hrc, hrs, hfr, hlo, hws, hcw⟩, hcode, hini, hy, hlen, hl, hstt⟩ := cw
  have hK : vx_Back l R p e below s args y 3 8 (PreOf R mc ms Pc) (PostOf Qc mc ms free) (vx_Post XC mc ms free) := vx_backW (hh := hh) (bytes := bytes) (maxL := maxL) (ret := ret) hM hp.1 hrc hrs hfr hlo hws hcw (fun a' U hW => word_at hW (Or.inl (by first | rfl | simp [Cond.onTables, Cond.keeps, Cond.steady])) hini)
  obtain ⟨hx, hb, hml, ho, -⟩ := S
  intro T hT X
  rcases vx_callSX X hx (hh := hh) (bytes := bytes) (maxL := maxL) (ret := ret) ho hl hstt hini hcode hy hK hg (hsize.trans hml.symm) (argsL := As) (rest := rest) (fun sig h => hn.trans (hlen sig h)) hstack hW (by rw [hb]; exact hdg)
    (fun vm₁ hW₁ => ⟨hf.1, hf.2, hp.2 (T.setVm vm₁) hT hW₁⟩) with ⟨v, vm₁, ⟨U', l2, c2, s2⟩, hW₁, X', ⟨g', mk, t, L, e1, e2, hq, h1, hL, h2, h3⟩, st⟩ | ⟨q, vm₁, ⟨U', l2, c2, s2⟩, hW₁, X', ⟨g', mk, t, L, E, ce, e1, e2, hq, hce, hcv, hcl, h1, hL, h2, h3⟩, st⟩
  · dsimp only [Pt.U, Pt.locs, Pt.cells, Pt.slots] at X' e1 e2 h1 h2 h3 st
    subst h1; subst h2; subst h3
    exact Or.inl ⟨v, (T.setVm vm₁).calling g' mk As.toArray, t, U', L, hT, X', hL, e1, e2, hq, st⟩
  · dsimp only [Pt.U, Pt.locs, Pt.cells, Pt.slots] at X' e1 e2 h1 h2 h3 st hcl
    subst h1; subst h2; subst h3
    exact Or.inr ⟨q, (T.setVm vm₁).calling g' mk As.toArray, t, U', L, E, ce, hT, X', hL, e1, e2, hq, hce, hcv, vx_cls hW₁ hcl, st⟩
end
end VXH
theorem vx_ofWH {l : Launch} {y : MethodName} {ws ws' : List Cond} {rm : Room} {Pc : Array Value → State → Prop} {Qc : Array Value → State → Outcome → State → Prop} {XC : String → State → State → Prop} {mc ms : Nat} {free : Addr → Prop} {cc : ByteArray} {maxL : Nat} {ret : Option FieldType} {hh : List (Nat × Nat × Nat × Nat)}
    (hy : plainName y.cls = true) (hw : ws = Cond.codeWith y cc maxL ret hh :: ws')
    (body : ∀ p e s m args below meth c s₁, BodyLoose p l y (headSpec ws rm) cc maxL ret e s m args below meth c s₁ → c.maxLocals = maxL → Pc args s →
      W p l e (headSpec ws rm).room s m args below meth c s.heap [] 0 0 (vx_MQ below Qc XC args s mc ms free) (entryFrame m args maxL)) : vx_Met l y ws rm Pc Qc XC mc ms free := by
  refine MetFree.of_bodyS (code := cc) (maxLocals := maxL) (ret := ret) hy ?_ ?_
  · intro args s m h hn
    obtain ⟨m9, meth, c, hn9, h1, h2, h3, h4, -, h5, h6, -⟩ := Cond.codeWith_spec (atoms_spec (ws := ws) h _ (by rw [hw]; exact List.mem_cons_self))
    cases hn.symm.trans hn9
    exact ⟨meth, c, h1, h2, h3, h4, h5, h6⟩
  · intro p e s m args below meth c s₁ B hml hP _
    have hh0 : s₁.heap = s.heap := by rw [B.state]; rfl
    obtain ⟨t, a1, o, b1, b2, b3⟩ := body p e s m args below meth c s₁ B hml hP s₁ hh0 (Stand.of_body B)
    exact ⟨t, o, a1, b1, b2, b3⟩
/-! ===== END ===== -/
end
section
/-! ===== BEGIN printed: names, fields, word lists, decode rows ===== -/
def RX0 : String := "TrolleyGang$Bus"
def TX0 : u_T := fun k => match k with
  | 0 => ("TrolleyGang$Bus", "at", "I", false)
  | 1 => ("TrolleyGang$Bus", "hasScraper", "Z", false)
  | 2 => ("TrolleyGang$Bus", "runs", "Z", false)
  | 3 => ("TrolleyGang$Bus", "spansInAll", "I", false)
  | 4 => ("TrolleyGang$Bus", "faresInAll", "I", false)
  | _ => ("TrolleyGang$Bus", "hoursStuck", "I", false)
def tyX0 : Nat → FieldType := fun k => match k with
  | 0 => .int
  | 1 => .boolean
  | 2 => .boolean
  | 3 => .int
  | 4 => .int
  | _ => .int
abbrev wsX00 : List Cond := u_ws RX0 TX0 6
theorem nmX0 : ∀ a, a < 6 → ∀ b, b < 6 → a ≠ b → (TX0 a).2.1 ≠ (TX0 b).2.1 := by decide +kernel
theorem tyX0_ok : ∀ k, k < 6 → parseFieldDescriptor (TX0 k).2.2.1 = some (tyX0 k) := by decide +kernel
abbrev cX0_init : ByteArray := prog_2_method_1_code
def yX0_init : MethodName := ⟨RX0, "<init>", "()V"⟩
abbrev cX0_come : ByteArray := prog_2_method_2_code
def yX0_come : MethodName := ⟨RX0, "come", "(IZ)V"⟩
abbrev cX0_copyFrom : ByteArray := prog_2_method_3_code
def yX0_copyFrom : MethodName := ⟨RX0, "copyFrom", "(LTrolleyGang$Bus;)V"⟩
def RX1 : String := "TrolleyGang$Gang"
def TX1 : u_T := fun k => match k with
  | 0 => ("TrolleyGang$Gang", "orders", "[I", true)
  | 1 => ("TrolleyGang$Gang", "orderCount", "I", false)
  | 2 => ("TrolleyGang$Gang", "at", "I", false)
  | 3 => ("TrolleyGang$Gang", "worksAtFirst", "I", false)
  | 4 => ("TrolleyGang$Gang", "worksInAll", "I", false)
  | _ => ("TrolleyGang$Gang", "putUpInAll", "I", false)
def tyX1 : Nat → FieldType := fun k => match k with
  | 0 => .array .int
  | 1 => .int
  | 2 => .int
  | 3 => .int
  | 4 => .int
  | _ => .int
abbrev wsX10 : List Cond := u_ws RX1 TX1 6
theorem nmX1 : ∀ a, a < 6 → ∀ b, b < 6 → a ≠ b → (TX1 a).2.1 ≠ (TX1 b).2.1 := by decide +kernel
theorem tyX1_ok : ∀ k, k < 6 → parseFieldDescriptor (TX1 k).2.2.1 = some (tyX1 k) := by decide +kernel
abbrev cX1_init : ByteArray := prog_3_method_1_code
def yX1_init : MethodName := ⟨RX1, "<init>", "()V"⟩
abbrev cX1_copyFrom : ByteArray := prog_3_method_2_code
def yX1_copyFrom : MethodName := ⟨RX1, "copyFrom", "(LTrolleyGang$Gang;)V"⟩
abbrev cX1_placeOf : ByteArray := prog_3_method_3_code
def yX1_placeOf : MethodName := ⟨RX1, "placeOf", "(I)I"⟩
abbrev cX1_takeOut : ByteArray := prog_3_method_4_code
def yX1_takeOut : MethodName := ⟨RX1, "takeOut", "(I)V"⟩
abbrev cX1_haveOnly : ByteArray := prog_3_method_5_code
def yX1_haveOnly : MethodName := ⟨RX1, "haveOnly", "(I)V"⟩
abbrev cX1_spansUpwardsToFirst : ByteArray := prog_3_method_6_code
def yX1_spansUpwardsToFirst : MethodName := ⟨RX1, "spansUpwardsToFirst", "()I"⟩
abbrev cX1_hoursToFirst : ByteArray := prog_3_method_7_code
def yX1_hoursToFirst : MethodName := ⟨RX1, "hoursToFirst", "()I"⟩
abbrev cX1_goToFirst : ByteArray := prog_3_method_8_code
def yX1_goToFirst : MethodName := ⟨RX1, "goToFirst", "()V"⟩
def RX2 : String := "TrolleyGang$Ring"
def TX2 : u_T := fun k => match k with
  | 0 => ("TrolleyGang$Ring", "wires", "LTrolleyGang$Wires;", true)
  | 1 => ("TrolleyGang$Ring", "gang", "LTrolleyGang$Gang;", true)
  | 2 => ("TrolleyGang$Ring", "buses", "[LTrolleyGang$Bus;", true)
  | 3 => ("TrolleyGang$Ring", "busCount", "I", false)
  | 4 => ("TrolleyGang$Ring", "hour", "I", false)
  | _ => ("TrolleyGang$Ring", "coins", "I", false)
def tyX2 : Nat → FieldType := fun k => match k with
  | 0 => .object "TrolleyGang$Wires"
  | 1 => .object "TrolleyGang$Gang"
  | 2 => .array (.object "TrolleyGang$Bus")
  | 3 => .int
  | 4 => .int
  | _ => .int
abbrev wsX20 : List Cond := u_ws RX2 TX2 6
theorem nmX2 : ∀ a, a < 6 → ∀ b, b < 6 → a ≠ b → (TX2 a).2.1 ≠ (TX2 b).2.1 := by decide +kernel
theorem tyX2_ok : ∀ k, k < 6 → parseFieldDescriptor (TX2 k).2.2.1 = some (tyX2 k) := by decide +kernel
abbrev cX2_init : ByteArray := prog_4_method_1_code
def yX2_init : MethodName := ⟨RX2, "<init>", "()V"⟩
abbrev cX2_copyFrom : ByteArray := prog_4_method_2_code
def yX2_copyFrom : MethodName := ⟨RX2, "copyFrom", "(LTrolleyGang$Ring;)V"⟩
abbrev cX2_letGoBy : ByteArray := prog_4_method_3_code
def yX2_letGoBy : MethodName := ⟨RX2, "letGoBy", "(ILTrolleyGang$Tables;)V"⟩
abbrev cX2_letHourGoBy : ByteArray := prog_4_method_4_code
def yX2_letHourGoBy : MethodName := ⟨RX2, "letHourGoBy", "(LTrolleyGang$Tables;)V"⟩
abbrev cX2_letSwanFly : ByteArray := prog_4_method_5_code
def yX2_letSwanFly : MethodName := ⟨RX2, "letSwanFly", "(I)V"⟩
abbrev cX2_drive : ByteArray := prog_4_method_6_code
def yX2_drive : MethodName := ⟨RX2, "drive", "(LTrolleyGang$Bus;I)V"⟩
abbrev cX2_letGangWork : ByteArray := prog_4_method_7_code
def yX2_letGangWork : MethodName := ⟨RX2, "letGangWork", "()V"⟩
abbrev cX2_isOrderDoneByWorkAt : ByteArray := prog_4_method_8_code
def yX2_isOrderDoneByWorkAt : MethodName := ⟨RX2, "isOrderDoneByWorkAt", "(I)Z"⟩
abbrev cX2_tally : ByteArray := prog_4_method_9_code
def yX2_tally : MethodName := ⟨RX2, "tally", "(I)I"⟩
abbrev cX2_busesAt : ByteArray := prog_4_method_10_code
def yX2_busesAt : MethodName := ⟨RX2, "busesAt", "(I)I"⟩
abbrev cX2_busesRunning : ByteArray := prog_4_method_11_code
def yX2_busesRunning : MethodName := ⟨RX2, "busesRunning", "()I"⟩
abbrev cX2_hoursStuckInAll : ByteArray := prog_4_method_12_code
def yX2_hoursStuckInAll : MethodName := ⟨RX2, "hoursStuckInAll", "()I"⟩
def RX3 : String := "TrolleyGang$Tables"
def TX3 : u_T := fun k => match k with
  | 0 => ("TrolleyGang$Tables", "colds", "[I", true)
  | 1 => ("TrolleyGang$Tables", "swans", "[I", true)
  | 2 => ("TrolleyGang$Tables", "fareByDay", "I", false)
  | _ => ("TrolleyGang$Tables", "fareByNight", "I", false)
def tyX3 : Nat → FieldType := fun k => match k with
  | 0 => .array .int
  | 1 => .array .int
  | 2 => .int
  | _ => .int
abbrev wsX30 : List Cond := u_ws RX3 TX3 4
theorem nmX3 : ∀ a, a < 4 → ∀ b, b < 4 → a ≠ b → (TX3 a).2.1 ≠ (TX3 b).2.1 := by decide +kernel
theorem tyX3_ok : ∀ k, k < 4 → parseFieldDescriptor (TX3 k).2.2.1 = some (tyX3 k) := by decide +kernel
abbrev cX3_init : ByteArray := prog_5_method_1_code
def yX3_init : MethodName := ⟨RX3, "<init>", "()V"⟩
abbrev cX3_fare : ByteArray := prog_5_method_2_code
def yX3_fare : MethodName := ⟨RX3, "fare", "(Z)I"⟩
def RX4 : String := "TrolleyGang$Wires"
def TX4 : u_T := fun k => match k with
  | 0 => ("TrolleyGang$Wires", "worn", "[I", true)
  | _ => ("TrolleyGang$Wires", "frost", "[I", true)
def tyX4 : Nat → FieldType := fun k => match k with
  | 0 => .array .int
  | _ => .array .int
abbrev wsX40 : List Cond := u_ws RX4 TX4 2
theorem nmX4 : ∀ a, a < 2 → ∀ b, b < 2 → a ≠ b → (TX4 a).2.1 ≠ (TX4 b).2.1 := by decide +kernel
theorem tyX4_ok : ∀ k, k < 2 → parseFieldDescriptor (TX4 k).2.2.1 = some (tyX4 k) := by decide +kernel
abbrev cX4_init : ByteArray := prog_6_method_1_code
def yX4_init : MethodName := ⟨RX4, "<init>", "()V"⟩
abbrev cX4_copyFrom : ByteArray := prog_6_method_2_code
def yX4_copyFrom : MethodName := ⟨RX4, "copyFrom", "(LTrolleyGang$Wires;)V"⟩
abbrev cX4_isDown : ByteArray := prog_6_method_3_code
def yX4_isDown : MethodName := ⟨RX4, "isDown", "(I)Z"⟩
abbrev cX4_putUp : ByteArray := prog_6_method_4_code
def yX4_putUp : MethodName := ⟨RX4, "putUp", "(I)V"⟩
abbrev cX4_wear : ByteArray := prog_6_method_5_code
def yX4_wear : MethodName := ⟨RX4, "wear", "(II)V"⟩
abbrev cX4_mend : ByteArray := prog_6_method_6_code
def yX4_mend : MethodName := ⟨RX4, "mend", "(II)V"⟩
abbrev cX4_freeze : ByteArray := prog_6_method_7_code
def yX4_freeze : MethodName := ⟨RX4, "freeze", "(I)V"⟩
abbrev cX4_thaw : ByteArray := prog_6_method_8_code
def yX4_thaw : MethodName := ⟨RX4, "thaw", "()V"⟩
abbrev cX4_spansUpBehind : ByteArray := prog_6_method_9_code
def yX4_spansUpBehind : MethodName := ⟨RX4, "spansUpBehind", "(I)I"⟩
abbrev cX4_spansDown : ByteArray := prog_6_method_10_code
def yX4_spansDown : MethodName := ⟨RX4, "spansDown", "()I"⟩
abbrev cX4_wornInAll : ByteArray := prog_6_method_11_code
def yX4_wornInAll : MethodName := ⟨RX4, "wornInAll", "()I"⟩
abbrev cX4_frostInAll : ByteArray := prog_6_method_12_code
def yX4_frostInAll : MethodName := ⟨RX4, "frostInAll", "()I"⟩
def RX5 : String := "TrolleyGang"
def TX5 : u_T := fun k => match k with
  | 0 => ("TrolleyGang", "tables", "LTrolleyGang$Tables;", true)
  | 1 => ("TrolleyGang", "now", "LTrolleyGang$Ring;", true)
  | _ => ("TrolleyGang", "ahead", "LTrolleyGang$Ring;", true)
def tyX5 : Nat → FieldType := fun k => match k with
  | 0 => .object "TrolleyGang$Tables"
  | 1 => .object "TrolleyGang$Ring"
  | _ => .object "TrolleyGang$Ring"
abbrev wsX50 : List Cond := u_ws RX5 TX5 3
theorem nmX5 : ∀ a, a < 3 → ∀ b, b < 3 → a ≠ b → (TX5 a).2.1 ≠ (TX5 b).2.1 := by decide +kernel
theorem tyX5_ok : ∀ k, k < 3 → parseFieldDescriptor (TX5 k).2.2.1 = some (tyX5 k) := by decide +kernel
abbrev cX5_init : ByteArray := prog_1_method_1_code
def yX5_init : MethodName := ⟨RX5, "<init>", "()V"⟩
abbrev cX5_setCold : ByteArray := prog_1_method_2_code
def yX5_setCold : MethodName := ⟨RX5, "setCold", "(II)I"⟩
abbrev cX5_setSwan : ByteArray := prog_1_method_3_code
def yX5_setSwan : MethodName := ⟨RX5, "setSwan", "(II)I"⟩
abbrev cX5_setFare : ByteArray := prog_1_method_4_code
def yX5_setFare : MethodName := ⟨RX5, "setFare", "(ZI)I"⟩
abbrev cX5_bus : ByteArray := prog_1_method_5_code
def yX5_bus : MethodName := ⟨RX5, "bus", "(IZ)I"⟩
abbrev cX5_fit : ByteArray := prog_1_method_6_code
def yX5_fit : MethodName := ⟨RX5, "fit", "(II)I"⟩
abbrev cX5_park : ByteArray := prog_1_method_7_code
def yX5_park : MethodName := ⟨RX5, "park", "(I)Z"⟩
abbrev cX5_told : ByteArray := prog_1_method_8_code
def yX5_told : MethodName := ⟨RX5, "told", "(II)I"⟩
abbrev cX5_span : ByteArray := prog_1_method_9_code
def yX5_span : MethodName := ⟨RX5, "span", "(II)I"⟩
abbrev cX5_order : ByteArray := prog_1_method_10_code
def yX5_order : MethodName := ⟨RX5, "order", "(I)I"⟩
abbrev cX5_cancel : ByteArray := prog_1_method_11_code
def yX5_cancel : MethodName := ⟨RX5, "cancel", "(I)I"⟩
abbrev cX5_gang : ByteArray := prog_1_method_12_code
def yX5_gang : MethodName := ⟨RX5, "gang", "(I)I"⟩
abbrev cX5_count : ByteArray := prog_1_method_13_code
def yX5_count : MethodName := ⟨RX5, "count", "(I)I"⟩
abbrev cX5_pass : ByteArray := prog_1_method_14_code
def yX5_pass : MethodName := ⟨RX5, "pass", "(I)I"⟩
abbrev cX5_falls : ByteArray := prog_1_method_15_code
def yX5_falls : MethodName := ⟨RX5, "falls", "(I)I"⟩
abbrev cX5_foresee : ByteArray := prog_1_method_16_code
def yX5_foresee : MethodName := ⟨RX5, "foresee", "(II)I"⟩
abbrev cX5_advise : ByteArray := prog_1_method_17_code
def yX5_advise : MethodName := ⟨RX5, "advise", "(I)I"⟩
abbrev cX5_mean : ByteArray := prog_1_method_18_code
def yX5_mean : MethodName := ⟨RX5, "mean", "()D"⟩
abbrev cX5_digest : ByteArray := prog_1_method_19_code
def yX5_digest : MethodName := ⟨RX5, "digest", "()J"⟩
abbrev cX5_digestOfTables : ByteArray := prog_1_method_20_code
def yX5_digestOfTables : MethodName := ⟨RX5, "digestOfTables", "(J)J"⟩
abbrev cX5_coinsWithOnlyOrder : ByteArray := prog_1_method_21_code
def yX5_coinsWithOnlyOrder : MethodName := ⟨RX5, "coinsWithOnlyOrder", "(II)I"⟩
abbrev cX5_checkBus : ByteArray := prog_1_method_22_code
def yX5_checkBus : MethodName := ⟨RX5, "checkBus", "(I)V"⟩
abbrev cX5_checkSpan : ByteArray := prog_1_method_23_code
def yX5_checkSpan : MethodName := ⟨RX5, "checkSpan", "(I)V"⟩
abbrev cX5_checkWhat : ByteArray := prog_1_method_24_code
def yX5_checkWhat : MethodName := ⟨RX5, "checkWhat", "(II)V"⟩
abbrev cX5_checkHours : ByteArray := prog_1_method_25_code
def yX5_checkHours : MethodName := ⟨RX5, "checkHours", "(II)V"⟩
abbrev cX5_oneIf : ByteArray := prog_1_method_26_code
def yX5_oneIf : MethodName := ⟨RX5, "oneIf", "(Z)I"⟩
abbrev cX5_isNightAt : ByteArray := prog_1_method_27_code
def yX5_isNightAt : MethodName := ⟨RX5, "isNightAt", "(I)Z"⟩
def RX6 : String := "TrolleyGangModel"
def TX6 : u_T := fun k => match k with
  | 0 => ("TrolleyGangModel", "thrown", "I", false)
  | 1 => ("TrolleyGangModel", "buses", "I", false)
  | 2 => ("TrolleyGangModel", "fareByDay", "I", false)
  | 3 => ("TrolleyGangModel", "fareByNight", "I", false)
  | 4 => ("TrolleyGangModel", "cold", "[I", true)
  | 5 => ("TrolleyGangModel", "swan", "[I", true)
  | 6 => ("TrolleyGangModel", "now", "[I", true)
  | _ => ("TrolleyGangModel", "ahead", "[I", true)
def tyX6 : Nat → FieldType := fun k => match k with
  | 0 => .int
  | 1 => .int
  | 2 => .int
  | 3 => .int
  | 4 => .array .int
  | 5 => .array .int
  | 6 => .array .int
  | _ => .array .int
abbrev wsX60 : List Cond := u_ws RX6 TX6 8
theorem nmX6 : ∀ a, a < 8 → ∀ b, b < 8 → a ≠ b → (TX6 a).2.1 ≠ (TX6 b).2.1 := by decide +kernel
theorem tyX6_ok : ∀ k, k < 8 → parseFieldDescriptor (TX6 k).2.2.1 = some (tyX6 k) := by decide +kernel
abbrev cX6_thrown : ByteArray := prog_8_method_1_code
def yX6_thrown : MethodName := ⟨RX6, "thrown", "()I"⟩
abbrev cX6_no : ByteArray := prog_8_method_2_code
def yX6_no : MethodName := ⟨RX6, "no", "(I)I"⟩
abbrev cX6_isIn : ByteArray := prog_8_method_3_code
def yX6_isIn : MethodName := ⟨RX6, "isIn", "(III)Z"⟩
abbrev cX6_init : ByteArray := prog_8_method_4_code
def yX6_init : MethodName := ⟨RX6, "<init>", "()V"⟩
abbrev cX6_isSpan : ByteArray := prog_8_method_5_code
def yX6_isSpan : MethodName := ⟨RX6, "isSpan", "(I)Z"⟩
abbrev cX6_isBus : ByteArray := prog_8_method_6_code
def yX6_isBus : MethodName := ⟨RX6, "isBus", "(I)Z"⟩
abbrev cX6_isNight : ByteArray := prog_8_method_7_code
def yX6_isNight : MethodName := ⟨RX6, "isNight", "(I)Z"⟩
abbrev cX6_put : ByteArray := prog_8_method_8_code
def yX6_put : MethodName := ⟨RX6, "put", "([III)I"⟩
abbrev cX6_setCold : ByteArray := prog_8_method_9_code
def yX6_setCold : MethodName := ⟨RX6, "setCold", "(II)I"⟩
abbrev cX6_setSwan : ByteArray := prog_8_method_10_code
def yX6_setSwan : MethodName := ⟨RX6, "setSwan", "(II)I"⟩
abbrev cX6_setFare : ByteArray := prog_8_method_11_code
def yX6_setFare : MethodName := ⟨RX6, "setFare", "(ZI)I"⟩
abbrev cX6_bus : ByteArray := prog_8_method_12_code
def yX6_bus : MethodName := ⟨RX6, "bus", "(IZ)I"⟩
abbrev cX6_fit : ByteArray := prog_8_method_13_code
def yX6_fit : MethodName := ⟨RX6, "fit", "(II)I"⟩
abbrev cX6_park : ByteArray := prog_8_method_14_code
def yX6_park : MethodName := ⟨RX6, "park", "(I)Z"⟩
abbrev cX6_free : ByteArray := prog_8_method_15_code
def yX6_free : MethodName := ⟨RX6, "free", "(I)I"⟩
abbrev cX6_busTold : ByteArray := prog_8_method_16_code
def yX6_busTold : MethodName := ⟨RX6, "busTold", "(II)I"⟩
abbrev cX6_told : ByteArray := prog_8_method_17_code
def yX6_told : MethodName := ⟨RX6, "told", "(II)I"⟩
abbrev cX6_busesAt : ByteArray := prog_8_method_18_code
def yX6_busesAt : MethodName := ⟨RX6, "busesAt", "(I)I"⟩
abbrev cX6_placeOf : ByteArray := prog_8_method_19_code
def yX6_placeOf : MethodName := ⟨RX6, "placeOf", "(I)I"⟩
abbrev cX6_spanTold : ByteArray := prog_8_method_20_code
def yX6_spanTold : MethodName := ⟨RX6, "spanTold", "(II)I"⟩
abbrev cX6_span : ByteArray := prog_8_method_21_code
def yX6_span : MethodName := ⟨RX6, "span", "(II)I"⟩
abbrev cX6_order : ByteArray := prog_8_method_22_code
def yX6_order : MethodName := ⟨RX6, "order", "(I)I"⟩
abbrev cX6_remove : ByteArray := prog_8_method_23_code
def yX6_remove : MethodName := ⟨RX6, "remove", "([II)V"⟩
abbrev cX6_cancel : ByteArray := prog_8_method_24_code
def yX6_cancel : MethodName := ⟨RX6, "cancel", "(I)I"⟩
abbrev cX6_upwards : ByteArray := prog_8_method_25_code
def yX6_upwards : MethodName := ⟨RX6, "upwards", "(II)I"⟩
abbrev cX6_hoursTill : ByteArray := prog_8_method_26_code
def yX6_hoursTill : MethodName := ⟨RX6, "hoursTill", "(I)I"⟩
abbrev cX6_gangTold : ByteArray := prog_8_method_27_code
def yX6_gangTold : MethodName := ⟨RX6, "gangTold", "(I)I"⟩
abbrev cX6_gang : ByteArray := prog_8_method_28_code
def yX6_gang : MethodName := ⟨RX6, "gang", "(I)I"⟩
abbrev cX6_sum : ByteArray := prog_8_method_29_code
def yX6_sum : MethodName := ⟨RX6, "sum", "([II)I"⟩
abbrev cX6_ofBuses : ByteArray := prog_8_method_30_code
def yX6_ofBuses : MethodName := ⟨RX6, "ofBuses", "([II)I"⟩
abbrev cX6_summed : ByteArray := prog_8_method_31_code
def yX6_summed : MethodName := ⟨RX6, "summed", "([II)I"⟩
abbrev cX6_counted : ByteArray := prog_8_method_32_code
def yX6_counted : MethodName := ⟨RX6, "counted", "(I)I"⟩
abbrev cX6_count : ByteArray := prog_8_method_33_code
def yX6_count : MethodName := ⟨RX6, "count", "(I)I"⟩
abbrev cX6_wear : ByteArray := prog_8_method_34_code
def yX6_wear : MethodName := ⟨RX6, "wear", "([III)V"⟩
abbrev cX6_freeze : ByteArray := prog_8_method_35_code
def yX6_freeze : MethodName := ⟨RX6, "freeze", "([I)V"⟩
abbrev cX6_run : ByteArray := prog_8_method_36_code
def yX6_run : MethodName := ⟨RX6, "run", "([II)V"⟩
abbrev cX6_work : ByteArray := prog_8_method_37_code
def yX6_work : MethodName := ⟨RX6, "work", "([I)V"⟩
abbrev cX6_pass : ByteArray := prog_8_method_38_code
def yX6_pass : MethodName := ⟨RX6, "pass", "([I)V"⟩
abbrev cX6_passAll : ByteArray := prog_8_method_39_code
def yX6_passAll : MethodName := ⟨RX6, "passAll", "([II)V"⟩
abbrev cX6_lookAhead : ByteArray := prog_8_method_40_code
def yX6_lookAhead : MethodName := ⟨RX6, "lookAhead", "()V"⟩
abbrev cX6_pass_ : ByteArray := prog_8_method_41_code
def yX6_pass_ : MethodName := ⟨RX6, "pass", "(I)I"⟩
abbrev cX6_falls : ByteArray := prog_8_method_42_code
def yX6_falls : MethodName := ⟨RX6, "falls", "(I)I"⟩
abbrev cX6_foresee : ByteArray := prog_8_method_43_code
def yX6_foresee : MethodName := ⟨RX6, "foresee", "(II)I"⟩
abbrev cX6_coinsWith : ByteArray := prog_8_method_44_code
def yX6_coinsWith : MethodName := ⟨RX6, "coinsWith", "(II)I"⟩
abbrev cX6_advise : ByteArray := prog_8_method_45_code
def yX6_advise : MethodName := ⟨RX6, "advise", "(I)I"⟩
abbrev cX6_mean : ByteArray := prog_8_method_46_code
def yX6_mean : MethodName := ⟨RX6, "mean", "()D"⟩
abbrev cX6_digest : ByteArray := prog_8_method_47_code
def yX6_digest : MethodName := ⟨RX6, "digest", "()J"⟩
def RJ9 : String := "java/lang/Math"
def TJ9 : u_T := fun k => match k with
  | _ => ("", "", "", false)
def tyJ9 : Nat → FieldType := fun k => match k with
  | _ => .int
abbrev wsJ90 : List Cond := u_ws RJ9 TJ9 0
theorem nmJ9 : ∀ a, a < 0 → ∀ b, b < 0 → a ≠ b → (TJ9 a).2.1 ≠ (TJ9 b).2.1 := by decide +kernel
theorem tyJ9_ok : ∀ k, k < 0 → parseFieldDescriptor (TJ9 k).2.2.1 = some (tyJ9 k) := by decide +kernel
abbrev cJ9_max_7cf53 : ByteArray := prog_13_method_65_code
def yJ9_max_7cf53 : MethodName := ⟨RJ9, "max", "(II)I"⟩
abbrev cJ9_min_7cf53 : ByteArray := prog_13_method_69_code
def yJ9_min_7cf53 : MethodName := ⟨RJ9, "min", "(II)I"⟩
def RJ0 : String := "java/lang/String"
def TJ0 : u_T := fun k => match k with
  | _ => ("", "", "", false)
def tyJ0 : Nat → FieldType := fun k => match k with
  | _ => .int
abbrev wsJ00 : List Cond := u_ws RJ0 TJ0 0
theorem nmJ0 : ∀ a, a < 0 → ∀ b, b < 0 → a ≠ b → (TJ0 a).2.1 ≠ (TJ0 b).2.1 := by decide +kernel
theorem tyJ0_ok : ∀ k, k < 0 → parseFieldDescriptor (TJ0 k).2.2.1 = some (tyJ0 k) := by decide +kernel
def RJ10 : String := "java/lang/System"
def TJ10 : u_T := fun k => match k with
  | _ => ("", "", "", false)
def tyJ10 : Nat → FieldType := fun k => match k with
  | _ => .int
abbrev wsJ100 : List Cond := u_ws RJ10 TJ10 0
theorem nmJ10 : ∀ a, a < 0 → ∀ b, b < 0 → a ≠ b → (TJ10 a).2.1 ≠ (TJ10 b).2.1 := by decide +kernel
theorem tyJ10_ok : ∀ k, k < 0 → parseFieldDescriptor (TJ10 k).2.2.1 = some (tyJ10 k) := by decide +kernel
def RL : String := "TrolleyGangLaw"
abbrev cL_setCold : ByteArray := method_3_code
def yL_setCold : MethodName := ⟨RL, "setCold", "(LTrolleyGang;II[J)I"⟩
abbrev cL_setSwan : ByteArray := method_4_code
def yL_setSwan : MethodName := ⟨RL, "setSwan", "(LTrolleyGang;II[J)I"⟩
abbrev cL_setFare : ByteArray := method_5_code
def yL_setFare : MethodName := ⟨RL, "setFare", "(LTrolleyGang;ZI[J)I"⟩
abbrev cL_bus : ByteArray := method_6_code
def yL_bus : MethodName := ⟨RL, "bus", "(LTrolleyGang;IZ[J)I"⟩
abbrev cL_fit : ByteArray := method_7_code
def yL_fit : MethodName := ⟨RL, "fit", "(LTrolleyGang;II[J)I"⟩
abbrev cL_park : ByteArray := method_8_code
def yL_park : MethodName := ⟨RL, "park", "(LTrolleyGang;I[J)I"⟩
abbrev cL_told : ByteArray := method_9_code
def yL_told : MethodName := ⟨RL, "told", "(LTrolleyGang;II[J)I"⟩
abbrev cL_span : ByteArray := method_10_code
def yL_span : MethodName := ⟨RL, "span", "(LTrolleyGang;II[J)I"⟩
abbrev cL_order : ByteArray := method_11_code
def yL_order : MethodName := ⟨RL, "order", "(LTrolleyGang;I[J)I"⟩
abbrev cL_cancel : ByteArray := method_12_code
def yL_cancel : MethodName := ⟨RL, "cancel", "(LTrolleyGang;I[J)I"⟩
abbrev cL_gang : ByteArray := method_13_code
def yL_gang : MethodName := ⟨RL, "gang", "(LTrolleyGang;I[J)I"⟩
abbrev cL_count : ByteArray := method_14_code
def yL_count : MethodName := ⟨RL, "count", "(LTrolleyGang;I[J)I"⟩
abbrev cL_pass : ByteArray := method_15_code
def yL_pass : MethodName := ⟨RL, "pass", "(LTrolleyGang;I[J)I"⟩
abbrev cL_falls : ByteArray := method_16_code
def yL_falls : MethodName := ⟨RL, "falls", "(LTrolleyGang;I[J)I"⟩
abbrev cL_foresee : ByteArray := method_17_code
def yL_foresee : MethodName := ⟨RL, "foresee", "(LTrolleyGang;II[J)I"⟩
abbrev cL_advise : ByteArray := method_18_code
def yL_advise : MethodName := ⟨RL, "advise", "(LTrolleyGang;I[J)I"⟩
abbrev cL_law : ByteArray := code
def yL_law : MethodName := ⟨RL, "law", "([I)Z"⟩
def wsX0_init : List Cond := .code yX0_init cX0_init 1 none :: ([.methodLink RX0 1 objectInit, .instanceMethod objectInit, .code objectInit ⟨#[0xb1]⟩ 1 none])
def wsX0_come : List Cond := .code yX0_come cX0_come 3 none :: ([.fieldLink RX0 7 "TrolleyGang$Bus" "at" "I", .fieldLink RX0 13 "TrolleyGang$Bus" "hasScraper" "Z", .fieldLink RX0 17 "TrolleyGang$Bus" "runs" "Z"] ++ wsX00)
def wsX0_copyFrom : List Cond := .code yX0_copyFrom cX0_copyFrom 2 none :: ([.fieldLink RX0 7 "TrolleyGang$Bus" "at" "I", .fieldLink RX0 13 "TrolleyGang$Bus" "hasScraper" "Z", .fieldLink RX0 17 "TrolleyGang$Bus" "runs" "Z", .fieldLink RX0 20 "TrolleyGang$Bus" "spansInAll" "I", .fieldLink RX0 23 "TrolleyGang$Bus" "faresInAll" "I", .fieldLink RX0 26 "TrolleyGang$Bus" "hoursStuck" "I"] ++ wsX00)
def wsX1_init : List Cond := .code yX1_init cX1_init 1 none :: ([.methodLink RX1 3 objectInit, .instanceMethod objectInit, .code objectInit ⟨#[0xb1]⟩ 1 none, .arrayClass .int, .fieldLink RX1 9 "TrolleyGang$Gang" "orders" "[I"] ++ wsX10)
def wsX1_copyFrom : List Cond := .code yX1_copyFrom cX1_copyFrom 2 none :: ([.fieldLink RX1 9 "TrolleyGang$Gang" "orders" "[I", .methodLink RX1 15 arraycopyName, .native arraycopyName, .static arraycopyName, .initialized "java/lang/System", .fieldLink RX1 21 "TrolleyGang$Gang" "orderCount" "I", .fieldLink RX1 25 "TrolleyGang$Gang" "at" "I", .fieldLink RX1 28 "TrolleyGang$Gang" "worksAtFirst" "I", .fieldLink RX1 31 "TrolleyGang$Gang" "worksInAll" "I", .fieldLink RX1 34 "TrolleyGang$Gang" "putUpInAll" "I"] ++ wsX10)
def wsX1_placeOf : List Cond := .code yX1_placeOf cX1_placeOf 3 (some .int) :: ([.fieldLink RX1 21 "TrolleyGang$Gang" "orderCount" "I", .fieldLink RX1 9 "TrolleyGang$Gang" "orders" "[I"] ++ wsX10)
def wsX1_takeOut : List Cond := .code yX1_takeOut cX1_takeOut 3 none :: ([.fieldLink RX1 21 "TrolleyGang$Gang" "orderCount" "I", .fieldLink RX1 9 "TrolleyGang$Gang" "orders" "[I", .fieldLink RX1 28 "TrolleyGang$Gang" "worksAtFirst" "I"] ++ wsX10)
def wsX1_haveOnly : List Cond := .code yX1_haveOnly cX1_haveOnly 2 none :: ([.fieldLink RX1 21 "TrolleyGang$Gang" "orderCount" "I", .fieldLink RX1 28 "TrolleyGang$Gang" "worksAtFirst" "I", .fieldLink RX1 9 "TrolleyGang$Gang" "orders" "[I"] ++ wsX10)
def wsX1_spansUpwardsToFirst : List Cond := .code yX1_spansUpwardsToFirst cX1_spansUpwardsToFirst 1 (some .int) :: ([.fieldLink RX1 9 "TrolleyGang$Gang" "orders" "[I", .fieldLink RX1 25 "TrolleyGang$Gang" "at" "I"] ++ wsX10)
def wsX1_hoursToFirst : List Cond := .code yX1_hoursToFirst cX1_hoursToFirst 3 (some .int) :: ([.fieldLink RX1 21 "TrolleyGang$Gang" "orderCount" "I", .methodLink RX1 41 Lib.Math.min.name, .static Lib.Math.min.name, .initialized "java/lang/Math", .code Lib.Math.min.name Lib.Math.min.code 2 (some .int), .methodLink RX1 37 yX1_spansUpwardsToFirst, .instanceMethod yX1_spansUpwardsToFirst, .selects RX1 yX1_spansUpwardsToFirst yX1_spansUpwardsToFirst, .initialized RX1, .code yX1_spansUpwardsToFirst cX1_spansUpwardsToFirst 1 (some .int), .fieldLink RX1 9 "TrolleyGang$Gang" "orders" "[I", .fieldLink RX1 25 "TrolleyGang$Gang" "at" "I"] ++ wsX10)
def wsX1_goToFirst : List Cond := .code yX1_goToFirst cX1_goToFirst 4 none :: ([.methodLink RX1 41 Lib.Math.min.name, .static Lib.Math.min.name, .initialized "java/lang/Math", .code Lib.Math.min.name Lib.Math.min.code 2 (some .int), .fieldLink RX1 25 "TrolleyGang$Gang" "at" "I", .methodLink RX1 37 yX1_spansUpwardsToFirst, .instanceMethod yX1_spansUpwardsToFirst, .selects RX1 yX1_spansUpwardsToFirst yX1_spansUpwardsToFirst, .initialized RX1, .code yX1_spansUpwardsToFirst cX1_spansUpwardsToFirst 1 (some .int), .fieldLink RX1 9 "TrolleyGang$Gang" "orders" "[I"] ++ wsX10)
def wsX4_init : List Cond := .code yX4_init cX4_init 1 none :: ([.methodLink RX4 3 objectInit, .instanceMethod objectInit, .code objectInit ⟨#[0xb1]⟩ 1 none, .arrayClass .int, .fieldLink RX4 9 "TrolleyGang$Wires" "worn" "[I", .fieldLink RX4 15 "TrolleyGang$Wires" "frost" "[I"] ++ wsX40)
def wsX2_init_r1 : List Cond := [Cond.methodLink RX2 3 objectInit, Cond.instanceMethod objectInit, Cond.code objectInit ⟨#[0xb1]⟩ 1 none, Cond.classLink RX2 9 RX4, Cond.instantiable RX4 2, Cond.initialized RX4, Cond.fieldLink RX2 12 "TrolleyGang$Ring" "wires" "LTrolleyGang$Wires;", Cond.classLink RX2 18 RX1, Cond.instantiable RX1 6, Cond.initialized RX1, Cond.fieldLink RX2 21 "TrolleyGang$Ring" "gang" "LTrolleyGang$Gang;", Cond.classLink RX2 25 RX0, Cond.fieldLink RX2 27 "TrolleyGang$Ring" "buses" "[LTrolleyGang$Bus;", Cond.instantiable RX0 6, Cond.initialized RX0, Cond.instanceMethod yX4_init, Cond.code yX4_init cX4_init 1 none, Cond.methodLink RX4 3 objectInit, Cond.arrayClass .int, Cond.fieldLink RX4 9 "TrolleyGang$Wires" "worn" "[I", Cond.fieldLink RX4 15 "TrolleyGang$Wires" "frost" "[I", Cond.instanceMethod yX1_init, Cond.code yX1_init cX1_init 1 none, Cond.methodLink RX1 3 objectInit]
def wsX2_init_r2 : List Cond := [Cond.fieldLink RX1 9 "TrolleyGang$Gang" "orders" "[I", Cond.instanceMethod yX0_init, Cond.code yX0_init cX0_init 1 none, Cond.methodLink RX0 1 objectInit]
def wsX2_init : List Cond := .code yX2_init cX2_init 2 none :: ((wsX2_init_r1 ++ wsX2_init_r2) ++ wsX40 ++ wsX20 ++ wsX10 ++ wsX00)
def wsX4_copyFrom : List Cond := .code yX4_copyFrom cX4_copyFrom 2 none :: ([.fieldLink RX4 9 "TrolleyGang$Wires" "worn" "[I", .methodLink RX4 18 arraycopyName, .native arraycopyName, .static arraycopyName, .initialized "java/lang/System", .fieldLink RX4 15 "TrolleyGang$Wires" "frost" "[I"] ++ wsX40)
def wsX2_copyFrom_r1 : List Cond := [Cond.fieldLink RX2 12 "TrolleyGang$Ring" "wires" "LTrolleyGang$Wires;", Cond.fieldLink RX2 21 "TrolleyGang$Ring" "gang" "LTrolleyGang$Gang;", Cond.fieldLink RX2 39 "TrolleyGang$Ring" "busCount" "I", Cond.fieldLink RX2 27 "TrolleyGang$Ring" "buses" "[LTrolleyGang$Bus;", Cond.fieldLink RX2 46 "TrolleyGang$Ring" "hour" "I", Cond.fieldLink RX2 49 "TrolleyGang$Ring" "coins" "I", Cond.instanceMethod yX4_copyFrom, Cond.initialized RX4, Cond.selects RX4 yX4_copyFrom yX4_copyFrom, Cond.code yX4_copyFrom cX4_copyFrom 2 none, Cond.fieldLink RX4 9 "TrolleyGang$Wires" "worn" "[I", Cond.methodLink RX4 18 arraycopyName, Cond.native arraycopyName, Cond.static arraycopyName, Cond.initialized "java/lang/System", Cond.fieldLink RX4 15 "TrolleyGang$Wires" "frost" "[I", Cond.instanceMethod yX1_copyFrom, Cond.initialized RX1, Cond.selects RX1 yX1_copyFrom yX1_copyFrom, Cond.code yX1_copyFrom cX1_copyFrom 2 none, Cond.fieldLink RX1 9 "TrolleyGang$Gang" "orders" "[I", Cond.methodLink RX1 15 arraycopyName, Cond.fieldLink RX1 21 "TrolleyGang$Gang" "orderCount" "I", Cond.fieldLink RX1 25 "TrolleyGang$Gang" "at" "I"]
def wsX2_copyFrom_r2 : List Cond := [Cond.fieldLink RX1 28 "TrolleyGang$Gang" "worksAtFirst" "I", Cond.fieldLink RX1 31 "TrolleyGang$Gang" "worksInAll" "I", Cond.fieldLink RX1 34 "TrolleyGang$Gang" "putUpInAll" "I", Cond.instanceMethod yX0_copyFrom, Cond.initialized RX0, Cond.selects RX0 yX0_copyFrom yX0_copyFrom, Cond.code yX0_copyFrom cX0_copyFrom 2 none, Cond.fieldLink RX0 7 "TrolleyGang$Bus" "at" "I", Cond.fieldLink RX0 13 "TrolleyGang$Bus" "hasScraper" "Z", Cond.fieldLink RX0 17 "TrolleyGang$Bus" "runs" "Z", Cond.fieldLink RX0 20 "TrolleyGang$Bus" "spansInAll" "I", Cond.fieldLink RX0 23 "TrolleyGang$Bus" "faresInAll" "I", Cond.fieldLink RX0 26 "TrolleyGang$Bus" "hoursStuck" "I"]
def wsX2_copyFrom : List Cond := .code yX2_copyFrom cX2_copyFrom 3 none :: ((wsX2_copyFrom_r1 ++ wsX2_copyFrom_r2) ++ wsX20 ++ wsX40 ++ wsX10 ++ wsX00)
def wsX5_isNightAt : List Cond := .code yX5_isNightAt cX5_isNightAt 2 (some .boolean) :: ([])
def wsX4_freeze : List Cond := .code yX4_freeze cX4_freeze 3 none :: ([.fieldLink RX4 15 "TrolleyGang$Wires" "frost" "[I", .methodLink RX4 24 Lib.Math.min.name, .static Lib.Math.min.name, .initialized "java/lang/Math", .code Lib.Math.min.name Lib.Math.min.code 2 (some .int)] ++ wsX40)
def wsX4_thaw : List Cond := .code yX4_thaw cX4_thaw 2 none :: ([.fieldLink RX4 15 "TrolleyGang$Wires" "frost" "[I", .methodLink RX4 30 Lib.Math.max.name, .static Lib.Math.max.name, .initialized "java/lang/Math", .code Lib.Math.max.name Lib.Math.max.code 2 (some .int)] ++ wsX40)
def wsX4_isDown : List Cond := .code yX4_isDown cX4_isDown 2 (some .boolean) :: ([.fieldLink RX4 9 "TrolleyGang$Wires" "worn" "[I"] ++ wsX40)
def wsX4_wear : List Cond := .code yX4_wear cX4_wear 3 none :: ([.fieldLink RX4 9 "TrolleyGang$Wires" "worn" "[I", .methodLink RX4 24 Lib.Math.min.name, .static Lib.Math.min.name, .initialized "java/lang/Math", .code Lib.Math.min.name Lib.Math.min.code 2 (some .int)] ++ wsX40)
def wsX2_letSwanFly : List Cond := .code yX2_letSwanFly cX2_letSwanFly 2 none :: ([.fieldLink RX2 12 "TrolleyGang$Ring" "wires" "LTrolleyGang$Wires;", .instanceMethod yX4_isDown, .initialized RX4, .selects RX4 yX4_isDown yX4_isDown, .code yX4_isDown cX4_isDown 2 (some .boolean), .fieldLink RX4 9 "TrolleyGang$Wires" "worn" "[I", .instanceMethod yX4_wear, .selects RX4 yX4_wear yX4_wear, .code yX4_wear cX4_wear 3 none, .methodLink RX4 24 Lib.Math.min.name, .static Lib.Math.min.name, .initialized "java/lang/Math", .code Lib.Math.min.name Lib.Math.min.code 2 (some .int)] ++ wsX20 ++ wsX40)
def wsX3_fare : List Cond := .code yX3_fare cX3_fare 2 (some .int) :: ([.fieldLink RX3 22 "TrolleyGang$Tables" "fareByNight" "I", .fieldLink RX3 18 "TrolleyGang$Tables" "fareByDay" "I"] ++ wsX30)
def wsX2_drive : List Cond := .code yX2_drive cX2_drive 5 none :: ([.fieldLink RX2 12 "TrolleyGang$Ring" "wires" "LTrolleyGang$Wires;", .fieldLink RX2 49 "TrolleyGang$Ring" "coins" "I", .instanceMethod yX4_isDown, .initialized RX4, .selects RX4 yX4_isDown yX4_isDown, .code yX4_isDown cX4_isDown 2 (some .boolean), .fieldLink RX4 9 "TrolleyGang$Wires" "worn" "[I", .instanceMethod yX4_wear, .selects RX4 yX4_wear yX4_wear, .code yX4_wear cX4_wear 3 none, .methodLink RX4 24 Lib.Math.min.name, .static Lib.Math.min.name, .initialized "java/lang/Math", .code Lib.Math.min.name Lib.Math.min.code 2 (some .int)] ++ wsX00 ++ wsX20 ++ wsX40)
def wsX4_mend : List Cond := .code yX4_mend cX4_mend 3 none :: ([.fieldLink RX4 9 "TrolleyGang$Wires" "worn" "[I", .methodLink RX4 30 Lib.Math.max.name, .static Lib.Math.max.name, .initialized "java/lang/Math", .code Lib.Math.max.name Lib.Math.max.code 2 (some .int)] ++ wsX40)
def wsX4_putUp : List Cond := .code yX4_putUp cX4_putUp 2 none :: ([.fieldLink RX4 9 "TrolleyGang$Wires" "worn" "[I"] ++ wsX40)
def wsX2_isOrderDoneByWorkAt : List Cond := .code yX2_isOrderDoneByWorkAt cX2_isOrderDoneByWorkAt 2 (some .boolean) :: ([.fieldLink RX2 12 "TrolleyGang$Ring" "wires" "LTrolleyGang$Wires;", .fieldLink RX2 21 "TrolleyGang$Ring" "gang" "LTrolleyGang$Gang;", .instanceMethod yX4_isDown, .initialized RX4, .selects RX4 yX4_isDown yX4_isDown, .code yX4_isDown cX4_isDown 2 (some .boolean), .fieldLink RX4 9 "TrolleyGang$Wires" "worn" "[I", .instanceMethod yX4_mend, .selects RX4 yX4_mend yX4_mend, .code yX4_mend cX4_mend 3 none, .methodLink RX4 30 Lib.Math.max.name, .static Lib.Math.max.name, .initialized "java/lang/Math", .code Lib.Math.max.name Lib.Math.max.code 2 (some .int), .instanceMethod yX4_putUp, .selects RX4 yX4_putUp yX4_putUp, .code yX4_putUp cX4_putUp 2 none] ++ wsX20 ++ wsX40 ++ wsX10)
def wsX2_letGangWork_r1 : List Cond := [Cond.fieldLink RX2 21 "TrolleyGang$Ring" "gang" "LTrolleyGang$Gang;", Cond.fieldLink RX2 49 "TrolleyGang$Ring" "coins" "I", Cond.instanceMethod yX1_goToFirst, Cond.initialized RX1, Cond.selects RX1 yX1_goToFirst yX1_goToFirst, Cond.code yX1_goToFirst cX1_goToFirst 4 none, Cond.methodLink RX1 41 Lib.Math.min.name, Cond.static Lib.Math.min.name, Cond.initialized "java/lang/Math", Cond.code Lib.Math.min.name Lib.Math.min.code 2 (some .int), Cond.fieldLink RX1 25 "TrolleyGang$Gang" "at" "I", Cond.methodLink RX1 37 yX1_spansUpwardsToFirst, Cond.instanceMethod yX1_spansUpwardsToFirst, Cond.selects RX1 yX1_spansUpwardsToFirst yX1_spansUpwardsToFirst, Cond.code yX1_spansUpwardsToFirst cX1_spansUpwardsToFirst 1 (some .int), Cond.fieldLink RX1 9 "TrolleyGang$Gang" "orders" "[I", Cond.methodLink RX2 135 yX2_isOrderDoneByWorkAt, Cond.instanceMethod yX2_isOrderDoneByWorkAt, Cond.selects RX2 yX2_isOrderDoneByWorkAt yX2_isOrderDoneByWorkAt, Cond.initialized RX2, Cond.code yX2_isOrderDoneByWorkAt cX2_isOrderDoneByWorkAt 2 (some .boolean), Cond.fieldLink RX2 12 "TrolleyGang$Ring" "wires" "LTrolleyGang$Wires;", Cond.instanceMethod yX4_isDown, Cond.initialized RX4]
def wsX2_letGangWork_r2 : List Cond := [Cond.selects RX4 yX4_isDown yX4_isDown, Cond.code yX4_isDown cX4_isDown 2 (some .boolean), Cond.fieldLink RX4 9 "TrolleyGang$Wires" "worn" "[I", Cond.instanceMethod yX4_mend, Cond.selects RX4 yX4_mend yX4_mend, Cond.code yX4_mend cX4_mend 3 none, Cond.methodLink RX4 30 Lib.Math.max.name, Cond.static Lib.Math.max.name, Cond.code Lib.Math.max.name Lib.Math.max.code 2 (some .int), Cond.instanceMethod yX4_putUp, Cond.selects RX4 yX4_putUp yX4_putUp, Cond.code yX4_putUp cX4_putUp 2 none, Cond.instanceMethod yX1_takeOut, Cond.selects RX1 yX1_takeOut yX1_takeOut, Cond.code yX1_takeOut cX1_takeOut 3 none, Cond.fieldLink RX1 21 "TrolleyGang$Gang" "orderCount" "I", Cond.fieldLink RX1 28 "TrolleyGang$Gang" "worksAtFirst" "I"]
def wsX2_letGangWork : List Cond := .code yX2_letGangWork cX2_letGangWork 1 none :: ((wsX2_letGangWork_r1 ++ wsX2_letGangWork_r2) ++ wsX20 ++ wsX10 ++ wsX40)
def wsX2_letHourGoBy_r1 : List Cond := [Cond.fieldLink RX2 46 "TrolleyGang$Ring" "hour" "I", Cond.fieldLink RX2 12 "TrolleyGang$Ring" "wires" "LTrolleyGang$Wires;", Cond.fieldLink RX2 39 "TrolleyGang$Ring" "busCount" "I", Cond.fieldLink RX2 27 "TrolleyGang$Ring" "buses" "[LTrolleyGang$Bus;", Cond.static yX5_isNightAt, Cond.initialized RX5, Cond.code yX5_isNightAt cX5_isNightAt 2 (some .boolean), Cond.instanceMethod yX4_freeze, Cond.initialized RX4, Cond.selects RX4 yX4_freeze yX4_freeze, Cond.code yX4_freeze cX4_freeze 3 none, Cond.fieldLink RX4 15 "TrolleyGang$Wires" "frost" "[I", Cond.methodLink RX4 24 Lib.Math.min.name, Cond.static Lib.Math.min.name, Cond.initialized "java/lang/Math", Cond.code Lib.Math.min.name Lib.Math.min.code 2 (some .int), Cond.instanceMethod yX4_thaw, Cond.selects RX4 yX4_thaw yX4_thaw, Cond.code yX4_thaw cX4_thaw 2 none, Cond.methodLink RX4 30 Lib.Math.max.name, Cond.static Lib.Math.max.name, Cond.code Lib.Math.max.name Lib.Math.max.code 2 (some .int), Cond.methodLink RX2 76 yX2_letSwanFly, Cond.instanceMethod yX2_letSwanFly]
def wsX2_letHourGoBy_r2 : List Cond := [Cond.selects RX2 yX2_letSwanFly yX2_letSwanFly, Cond.initialized RX2, Cond.code yX2_letSwanFly cX2_letSwanFly 2 none, Cond.instanceMethod yX4_isDown, Cond.selects RX4 yX4_isDown yX4_isDown, Cond.code yX4_isDown cX4_isDown 2 (some .boolean), Cond.fieldLink RX4 9 "TrolleyGang$Wires" "worn" "[I", Cond.instanceMethod yX4_wear, Cond.selects RX4 yX4_wear yX4_wear, Cond.code yX4_wear cX4_wear 3 none, Cond.instanceMethod yX3_fare, Cond.initialized RX3, Cond.selects RX3 yX3_fare yX3_fare, Cond.code yX3_fare cX3_fare 2 (some .int), Cond.fieldLink RX3 22 "TrolleyGang$Tables" "fareByNight" "I", Cond.fieldLink RX3 18 "TrolleyGang$Tables" "fareByDay" "I", Cond.methodLink RX2 83 yX2_drive, Cond.instanceMethod yX2_drive, Cond.selects RX2 yX2_drive yX2_drive, Cond.code yX2_drive cX2_drive 5 none, Cond.fieldLink RX2 49 "TrolleyGang$Ring" "coins" "I", Cond.methodLink RX2 87 yX2_letGangWork, Cond.instanceMethod yX2_letGangWork, Cond.selects RX2 yX2_letGangWork yX2_letGangWork]
def wsX2_letHourGoBy_r3 : List Cond := [Cond.code yX2_letGangWork cX2_letGangWork 1 none, Cond.fieldLink RX2 21 "TrolleyGang$Ring" "gang" "LTrolleyGang$Gang;", Cond.instanceMethod yX1_goToFirst, Cond.initialized RX1, Cond.selects RX1 yX1_goToFirst yX1_goToFirst, Cond.code yX1_goToFirst cX1_goToFirst 4 none, Cond.methodLink RX1 41 Lib.Math.min.name, Cond.fieldLink RX1 25 "TrolleyGang$Gang" "at" "I", Cond.methodLink RX1 37 yX1_spansUpwardsToFirst, Cond.instanceMethod yX1_spansUpwardsToFirst, Cond.selects RX1 yX1_spansUpwardsToFirst yX1_spansUpwardsToFirst, Cond.code yX1_spansUpwardsToFirst cX1_spansUpwardsToFirst 1 (some .int), Cond.fieldLink RX1 9 "TrolleyGang$Gang" "orders" "[I", Cond.methodLink RX2 135 yX2_isOrderDoneByWorkAt, Cond.instanceMethod yX2_isOrderDoneByWorkAt, Cond.selects RX2 yX2_isOrderDoneByWorkAt yX2_isOrderDoneByWorkAt, Cond.code yX2_isOrderDoneByWorkAt cX2_isOrderDoneByWorkAt 2 (some .boolean), Cond.instanceMethod yX4_mend, Cond.selects RX4 yX4_mend yX4_mend, Cond.code yX4_mend cX4_mend 3 none, Cond.instanceMethod yX4_putUp, Cond.selects RX4 yX4_putUp yX4_putUp, Cond.code yX4_putUp cX4_putUp 2 none, Cond.instanceMethod yX1_takeOut]
def wsX2_letHourGoBy_r4 : List Cond := [Cond.selects RX1 yX1_takeOut yX1_takeOut, Cond.code yX1_takeOut cX1_takeOut 3 none, Cond.fieldLink RX1 21 "TrolleyGang$Gang" "orderCount" "I", Cond.fieldLink RX1 28 "TrolleyGang$Gang" "worksAtFirst" "I"]
def wsX2_letHourGoBy : List Cond := .code yX2_letHourGoBy cX2_letHourGoBy 5 none :: ((wsX2_letHourGoBy_r1 ++ (wsX2_letHourGoBy_r2 ++ (wsX2_letHourGoBy_r3 ++ wsX2_letHourGoBy_r4))) ++ wsX20 ++ wsX30 ++ wsX40 ++ wsX00 ++ wsX10)
def wsX2_letGoBy_r1 : List Cond := [Cond.methodLink RX2 52 yX2_letHourGoBy, Cond.instanceMethod yX2_letHourGoBy, Cond.selects RX2 yX2_letHourGoBy yX2_letHourGoBy, Cond.initialized RX2, Cond.code yX2_letHourGoBy cX2_letHourGoBy 5 none, Cond.fieldLink RX2 46 "TrolleyGang$Ring" "hour" "I", Cond.fieldLink RX2 12 "TrolleyGang$Ring" "wires" "LTrolleyGang$Wires;", Cond.fieldLink RX2 39 "TrolleyGang$Ring" "busCount" "I", Cond.fieldLink RX2 27 "TrolleyGang$Ring" "buses" "[LTrolleyGang$Bus;", Cond.static yX5_isNightAt, Cond.initialized RX5, Cond.code yX5_isNightAt cX5_isNightAt 2 (some .boolean), Cond.instanceMethod yX4_freeze, Cond.initialized RX4, Cond.selects RX4 yX4_freeze yX4_freeze, Cond.code yX4_freeze cX4_freeze 3 none, Cond.fieldLink RX4 15 "TrolleyGang$Wires" "frost" "[I", Cond.methodLink RX4 24 Lib.Math.min.name, Cond.static Lib.Math.min.name, Cond.initialized "java/lang/Math", Cond.code Lib.Math.min.name Lib.Math.min.code 2 (some .int), Cond.instanceMethod yX4_thaw, Cond.selects RX4 yX4_thaw yX4_thaw, Cond.code yX4_thaw cX4_thaw 2 none]
def wsX2_letGoBy_r2 : List Cond := [Cond.methodLink RX4 30 Lib.Math.max.name, Cond.static Lib.Math.max.name, Cond.code Lib.Math.max.name Lib.Math.max.code 2 (some .int), Cond.methodLink RX2 76 yX2_letSwanFly, Cond.instanceMethod yX2_letSwanFly, Cond.selects RX2 yX2_letSwanFly yX2_letSwanFly, Cond.code yX2_letSwanFly cX2_letSwanFly 2 none, Cond.instanceMethod yX4_isDown, Cond.selects RX4 yX4_isDown yX4_isDown, Cond.code yX4_isDown cX4_isDown 2 (some .boolean), Cond.fieldLink RX4 9 "TrolleyGang$Wires" "worn" "[I", Cond.instanceMethod yX4_wear, Cond.selects RX4 yX4_wear yX4_wear, Cond.code yX4_wear cX4_wear 3 none, Cond.instanceMethod yX3_fare, Cond.initialized RX3, Cond.selects RX3 yX3_fare yX3_fare, Cond.code yX3_fare cX3_fare 2 (some .int), Cond.fieldLink RX3 22 "TrolleyGang$Tables" "fareByNight" "I", Cond.fieldLink RX3 18 "TrolleyGang$Tables" "fareByDay" "I", Cond.methodLink RX2 83 yX2_drive, Cond.instanceMethod yX2_drive, Cond.selects RX2 yX2_drive yX2_drive, Cond.code yX2_drive cX2_drive 5 none]
def wsX2_letGoBy_r3 : List Cond := [Cond.fieldLink RX2 49 "TrolleyGang$Ring" "coins" "I", Cond.methodLink RX2 87 yX2_letGangWork, Cond.instanceMethod yX2_letGangWork, Cond.selects RX2 yX2_letGangWork yX2_letGangWork, Cond.code yX2_letGangWork cX2_letGangWork 1 none, Cond.fieldLink RX2 21 "TrolleyGang$Ring" "gang" "LTrolleyGang$Gang;", Cond.instanceMethod yX1_goToFirst, Cond.initialized RX1, Cond.selects RX1 yX1_goToFirst yX1_goToFirst, Cond.code yX1_goToFirst cX1_goToFirst 4 none, Cond.methodLink RX1 41 Lib.Math.min.name, Cond.fieldLink RX1 25 "TrolleyGang$Gang" "at" "I", Cond.methodLink RX1 37 yX1_spansUpwardsToFirst, Cond.instanceMethod yX1_spansUpwardsToFirst, Cond.selects RX1 yX1_spansUpwardsToFirst yX1_spansUpwardsToFirst, Cond.code yX1_spansUpwardsToFirst cX1_spansUpwardsToFirst 1 (some .int), Cond.fieldLink RX1 9 "TrolleyGang$Gang" "orders" "[I", Cond.methodLink RX2 135 yX2_isOrderDoneByWorkAt, Cond.instanceMethod yX2_isOrderDoneByWorkAt, Cond.selects RX2 yX2_isOrderDoneByWorkAt yX2_isOrderDoneByWorkAt, Cond.code yX2_isOrderDoneByWorkAt cX2_isOrderDoneByWorkAt 2 (some .boolean), Cond.instanceMethod yX4_mend, Cond.selects RX4 yX4_mend yX4_mend, Cond.code yX4_mend cX4_mend 3 none]
def wsX2_letGoBy_r4 : List Cond := [Cond.instanceMethod yX4_putUp, Cond.selects RX4 yX4_putUp yX4_putUp, Cond.code yX4_putUp cX4_putUp 2 none, Cond.instanceMethod yX1_takeOut, Cond.selects RX1 yX1_takeOut yX1_takeOut, Cond.code yX1_takeOut cX1_takeOut 3 none, Cond.fieldLink RX1 21 "TrolleyGang$Gang" "orderCount" "I", Cond.fieldLink RX1 28 "TrolleyGang$Gang" "worksAtFirst" "I"]
def wsX2_letGoBy : List Cond := .code yX2_letGoBy cX2_letGoBy 4 none :: ((wsX2_letGoBy_r1 ++ (wsX2_letGoBy_r2 ++ (wsX2_letGoBy_r3 ++ wsX2_letGoBy_r4))) ++ wsX20 ++ wsX30 ++ wsX40 ++ wsX00 ++ wsX10)
def wsX5_oneIf : List Cond := .code yX5_oneIf cX5_oneIf 1 (some .int) :: ([])
def wsX2_busesRunning : List Cond := .code yX2_busesRunning cX2_busesRunning 3 (some .int) :: ([.fieldLink RX2 39 "TrolleyGang$Ring" "busCount" "I", .fieldLink RX2 27 "TrolleyGang$Ring" "buses" "[LTrolleyGang$Bus;", .static yX5_oneIf, .initialized RX5, .code yX5_oneIf cX5_oneIf 1 (some .int)] ++ wsX20 ++ wsX00)
def wsX4_spansDown : List Cond := .code yX4_spansDown cX4_spansDown 3 (some .int) :: ([.methodLink RX4 33 yX4_isDown, .instanceMethod yX4_isDown, .selects RX4 yX4_isDown yX4_isDown, .initialized RX4, .code yX4_isDown cX4_isDown 2 (some .boolean), .fieldLink RX4 9 "TrolleyGang$Wires" "worn" "[I", .static yX5_oneIf, .initialized RX5, .code yX5_oneIf cX5_oneIf 1 (some .int)] ++ wsX40)
def wsX4_wornInAll : List Cond := .code yX4_wornInAll cX4_wornInAll 3 (some .int) :: ([.fieldLink RX4 9 "TrolleyGang$Wires" "worn" "[I"] ++ wsX40)
def wsX4_frostInAll : List Cond := .code yX4_frostInAll cX4_frostInAll 3 (some .int) :: ([.fieldLink RX4 15 "TrolleyGang$Wires" "frost" "[I"] ++ wsX40)
def wsX2_hoursStuckInAll : List Cond := .code yX2_hoursStuckInAll cX2_hoursStuckInAll 3 (some .int) :: ([.fieldLink RX2 39 "TrolleyGang$Ring" "busCount" "I", .fieldLink RX2 27 "TrolleyGang$Ring" "buses" "[LTrolleyGang$Bus;"] ++ wsX20 ++ wsX00)
def wsX2_tally_r1 : List Cond := [Cond.fieldLink RX2 46 "TrolleyGang$Ring" "hour" "I", Cond.fieldLink RX2 49 "TrolleyGang$Ring" "coins" "I", Cond.fieldLink RX2 39 "TrolleyGang$Ring" "busCount" "I", Cond.fieldLink RX2 12 "TrolleyGang$Ring" "wires" "LTrolleyGang$Wires;", Cond.static yX5_isNightAt, Cond.initialized RX5, Cond.code yX5_isNightAt cX5_isNightAt 2 (some .boolean), Cond.static yX5_oneIf, Cond.code yX5_oneIf cX5_oneIf 1 (some .int), Cond.methodLink RX2 156 yX2_busesRunning, Cond.instanceMethod yX2_busesRunning, Cond.selects RX2 yX2_busesRunning yX2_busesRunning, Cond.initialized RX2, Cond.code yX2_busesRunning cX2_busesRunning 3 (some .int), Cond.fieldLink RX2 27 "TrolleyGang$Ring" "buses" "[LTrolleyGang$Bus;", Cond.instanceMethod yX4_spansDown, Cond.initialized RX4, Cond.selects RX4 yX4_spansDown yX4_spansDown, Cond.code yX4_spansDown cX4_spansDown 3 (some .int), Cond.methodLink RX4 33 yX4_isDown, Cond.instanceMethod yX4_isDown, Cond.selects RX4 yX4_isDown yX4_isDown, Cond.code yX4_isDown cX4_isDown 2 (some .boolean), Cond.fieldLink RX4 9 "TrolleyGang$Wires" "worn" "[I"]
def wsX2_tally_r2 : List Cond := [Cond.instanceMethod yX4_wornInAll, Cond.selects RX4 yX4_wornInAll yX4_wornInAll, Cond.code yX4_wornInAll cX4_wornInAll 3 (some .int), Cond.instanceMethod yX4_frostInAll, Cond.selects RX4 yX4_frostInAll yX4_frostInAll, Cond.code yX4_frostInAll cX4_frostInAll 3 (some .int), Cond.fieldLink RX4 15 "TrolleyGang$Wires" "frost" "[I", Cond.methodLink RX2 169 yX2_hoursStuckInAll, Cond.instanceMethod yX2_hoursStuckInAll, Cond.selects RX2 yX2_hoursStuckInAll yX2_hoursStuckInAll, Cond.code yX2_hoursStuckInAll cX2_hoursStuckInAll 3 (some .int)]
def wsX2_tally : List Cond := .code yX2_tally cX2_tally 2 (some .int) :: ((wsX2_tally_r1 ++ wsX2_tally_r2) ++ wsX20 ++ wsX00 ++ wsX40)
def wsX2_busesAt : List Cond := .code yX2_busesAt cX2_busesAt 4 (some .int) :: ([.fieldLink RX2 39 "TrolleyGang$Ring" "busCount" "I", .fieldLink RX2 27 "TrolleyGang$Ring" "buses" "[LTrolleyGang$Bus;", .static yX5_oneIf, .initialized RX5, .code yX5_oneIf cX5_oneIf 1 (some .int)] ++ wsX20 ++ wsX00)
def wsX3_init : List Cond := .code yX3_init cX3_init 2 none :: ([.methodLink RX3 3 objectInit, .instanceMethod objectInit, .code objectInit ⟨#[0xb1]⟩ 1 none, .arrayClass .int, .fieldLink RX3 9 "TrolleyGang$Tables" "colds" "[I", .fieldLink RX3 15 "TrolleyGang$Tables" "swans" "[I", .fieldLink RX3 18 "TrolleyGang$Tables" "fareByDay" "I", .fieldLink RX3 22 "TrolleyGang$Tables" "fareByNight" "I"] ++ wsX30)
def wsX4_spansUpBehind : List Cond := .code yX4_spansUpBehind cX4_spansUpBehind 3 (some .int) :: ([.methodLink RX4 33 yX4_isDown, .instanceMethod yX4_isDown, .selects RX4 yX4_isDown yX4_isDown, .initialized RX4, .code yX4_isDown cX4_isDown 2 (some .boolean), .fieldLink RX4 9 "TrolleyGang$Wires" "worn" "[I"] ++ wsX40)
def wsX5_init_r1 : List Cond := [Cond.methodLink RX5 1 objectInit, Cond.instanceMethod objectInit, Cond.code objectInit ⟨#[0xb1]⟩ 1 none, Cond.classLink RX5 7 RX3, Cond.instantiable RX3 4, Cond.initialized RX3, Cond.fieldLink RX5 10 "TrolleyGang" "tables" "LTrolleyGang$Tables;", Cond.classLink RX5 16 RX2, Cond.instantiable RX2 6, Cond.initialized RX2, Cond.fieldLink RX5 19 "TrolleyGang" "now" "LTrolleyGang$Ring;", Cond.fieldLink RX5 23 "TrolleyGang" "ahead" "LTrolleyGang$Ring;", Cond.instanceMethod yX3_init, Cond.code yX3_init cX3_init 2 none, Cond.methodLink RX3 3 objectInit, Cond.arrayClass .int, Cond.fieldLink RX3 9 "TrolleyGang$Tables" "colds" "[I", Cond.fieldLink RX3 15 "TrolleyGang$Tables" "swans" "[I", Cond.fieldLink RX3 18 "TrolleyGang$Tables" "fareByDay" "I", Cond.fieldLink RX3 22 "TrolleyGang$Tables" "fareByNight" "I", Cond.instanceMethod yX2_init, Cond.code yX2_init cX2_init 2 none, Cond.methodLink RX2 3 objectInit, Cond.classLink RX2 9 RX4]
def wsX5_init_r2 : List Cond := [Cond.instantiable RX4 2, Cond.initialized RX4, Cond.fieldLink RX2 12 "TrolleyGang$Ring" "wires" "LTrolleyGang$Wires;", Cond.classLink RX2 18 RX1, Cond.instantiable RX1 6, Cond.initialized RX1, Cond.fieldLink RX2 21 "TrolleyGang$Ring" "gang" "LTrolleyGang$Gang;", Cond.classLink RX2 25 RX0, Cond.fieldLink RX2 27 "TrolleyGang$Ring" "buses" "[LTrolleyGang$Bus;", Cond.instantiable RX0 6, Cond.initialized RX0, Cond.instanceMethod yX4_init, Cond.code yX4_init cX4_init 1 none, Cond.methodLink RX4 3 objectInit, Cond.fieldLink RX4 9 "TrolleyGang$Wires" "worn" "[I", Cond.fieldLink RX4 15 "TrolleyGang$Wires" "frost" "[I", Cond.instanceMethod yX1_init, Cond.code yX1_init cX1_init 1 none, Cond.methodLink RX1 3 objectInit, Cond.fieldLink RX1 9 "TrolleyGang$Gang" "orders" "[I", Cond.instanceMethod yX0_init, Cond.code yX0_init cX0_init 1 none, Cond.methodLink RX0 1 objectInit]
def wsX5_init : List Cond := .code yX5_init cX5_init 1 none :: ((wsX5_init_r1 ++ wsX5_init_r2) ++ wsX30 ++ wsX50 ++ wsX20 ++ wsX40 ++ wsX10 ++ wsX00)
def wsX5_setCold : List Cond := .code yX5_setCold cX5_setCold 4 (some .int) :: ([.classLink RX5 26 "java/lang/IndexOutOfBoundsException", .initialized "java/lang/IndexOutOfBoundsException", .classLink RX5 33 "java/lang/IllegalArgumentException", .initialized "java/lang/IllegalArgumentException", .fieldLink RX5 10 "TrolleyGang" "tables" "LTrolleyGang$Tables;"] ++ wsX50 ++ wsX30 ++ (vx_atS RX5 30 "java/lang/IndexOutOfBoundsException" ["java/lang/RuntimeException", "java/lang/Exception"]).filter goodWord ++ (vx_atS RX5 37 "java/lang/IllegalArgumentException" ["java/lang/RuntimeException", "java/lang/Exception"]).filter goodWord)
def wsX5_setSwan : List Cond := .code yX5_setSwan cX5_setSwan 4 (some .int) :: ([.classLink RX5 26 "java/lang/IndexOutOfBoundsException", .initialized "java/lang/IndexOutOfBoundsException", .classLink RX5 33 "java/lang/IllegalArgumentException", .initialized "java/lang/IllegalArgumentException", .fieldLink RX5 10 "TrolleyGang" "tables" "LTrolleyGang$Tables;"] ++ wsX50 ++ wsX30 ++ (vx_atS RX5 30 "java/lang/IndexOutOfBoundsException" ["java/lang/RuntimeException", "java/lang/Exception"]).filter goodWord ++ (vx_atS RX5 37 "java/lang/IllegalArgumentException" ["java/lang/RuntimeException", "java/lang/Exception"]).filter goodWord)
def wsX5_setFare : List Cond := .code yX5_setFare cX5_setFare 4 (some .int) :: ([.classLink RX5 33 "java/lang/IllegalArgumentException", .initialized "java/lang/IllegalArgumentException", .fieldLink RX5 10 "TrolleyGang" "tables" "LTrolleyGang$Tables;", .instanceMethod yX3_fare, .initialized RX3, .selects RX3 yX3_fare yX3_fare, .code yX3_fare cX3_fare 2 (some .int), .fieldLink RX3 22 "TrolleyGang$Tables" "fareByNight" "I", .fieldLink RX3 18 "TrolleyGang$Tables" "fareByDay" "I"] ++ wsX50 ++ wsX30 ++ (vx_atS RX5 37 "java/lang/IllegalArgumentException" ["java/lang/RuntimeException", "java/lang/Exception"]).filter goodWord)
def wsX5_checkSpan : List Cond := .code yX5_checkSpan cX5_checkSpan 1 none :: ([.classLink RX5 26 "java/lang/IndexOutOfBoundsException", .initialized "java/lang/IndexOutOfBoundsException"] ++ (vx_atS RX5 30 "java/lang/IndexOutOfBoundsException" ["java/lang/RuntimeException", "java/lang/Exception"]).filter goodWord)
def wsX5_bus : List Cond := .code yX5_bus cX5_bus 4 (some .int) :: ([.classLink RX5 69 "java/lang/IllegalStateException", .initialized "java/lang/IllegalStateException", .fieldLink RX5 19 "TrolleyGang" "now" "LTrolleyGang$Ring;", .methodLink RX5 62 yX5_checkSpan, .static yX5_checkSpan, .initialized RX5, .code yX5_checkSpan cX5_checkSpan 1 none, .classLink RX5 26 "java/lang/IndexOutOfBoundsException", .initialized "java/lang/IndexOutOfBoundsException", .instanceMethod yX0_come, .initialized RX0, .selects RX0 yX0_come yX0_come, .code yX0_come cX0_come 3 none, .fieldLink RX0 7 "TrolleyGang$Bus" "at" "I", .fieldLink RX0 13 "TrolleyGang$Bus" "hasScraper" "Z", .fieldLink RX0 17 "TrolleyGang$Bus" "runs" "Z"] ++ wsX50 ++ wsX20 ++ wsX00 ++ (vx_atS RX5 73 "java/lang/IllegalStateException" ["java/lang/RuntimeException", "java/lang/Exception"]).filter goodWord ++ (vx_atS RX5 30 "java/lang/IndexOutOfBoundsException" ["java/lang/RuntimeException", "java/lang/Exception"]).filter goodWord)
def wsX5_checkBus : List Cond := .code yX5_checkBus cX5_checkBus 2 none :: ([.classLink RX5 26 "java/lang/IndexOutOfBoundsException", .initialized "java/lang/IndexOutOfBoundsException", .fieldLink RX5 19 "TrolleyGang" "now" "LTrolleyGang$Ring;"] ++ wsX50 ++ wsX20 ++ (vx_atS RX5 30 "java/lang/IndexOutOfBoundsException" ["java/lang/RuntimeException", "java/lang/Exception"]).filter goodWord)
def wsX5_fit : List Cond := .code yX5_fit cX5_fit 5 (some .int) :: ([.classLink RX5 69 "java/lang/IllegalStateException", .initialized "java/lang/IllegalStateException", .fieldLink RX5 19 "TrolleyGang" "now" "LTrolleyGang$Ring;", .methodLink RX5 84 yX5_checkBus, .instanceMethod yX5_checkBus, .selects RX5 yX5_checkBus yX5_checkBus, .initialized RX5, .code yX5_checkBus cX5_checkBus 2 none, .classLink RX5 26 "java/lang/IndexOutOfBoundsException", .initialized "java/lang/IndexOutOfBoundsException"] ++ wsX50 ++ wsX20 ++ wsX00 ++ (vx_atS RX5 73 "java/lang/IllegalStateException" ["java/lang/RuntimeException", "java/lang/Exception"]).filter goodWord ++ (vx_atS RX5 30 "java/lang/IndexOutOfBoundsException" ["java/lang/RuntimeException", "java/lang/Exception"]).filter goodWord)
def wsX5_park : List Cond := .code yX5_park cX5_park 3 (some .boolean) :: ([.fieldLink RX5 19 "TrolleyGang" "now" "LTrolleyGang$Ring;", .methodLink RX5 84 yX5_checkBus, .instanceMethod yX5_checkBus, .selects RX5 yX5_checkBus yX5_checkBus, .initialized RX5, .code yX5_checkBus cX5_checkBus 2 none, .classLink RX5 26 "java/lang/IndexOutOfBoundsException", .initialized "java/lang/IndexOutOfBoundsException"] ++ wsX50 ++ wsX20 ++ wsX00 ++ (vx_atS RX5 30 "java/lang/IndexOutOfBoundsException" ["java/lang/RuntimeException", "java/lang/Exception"]).filter goodWord)
def wsX5_checkWhat : List Cond := .code yX5_checkWhat cX5_checkWhat 2 none :: ([.classLink RX5 26 "java/lang/IndexOutOfBoundsException", .initialized "java/lang/IndexOutOfBoundsException"] ++ (vx_atS RX5 30 "java/lang/IndexOutOfBoundsException" ["java/lang/RuntimeException", "java/lang/Exception"]).filter goodWord)
def wsX5_told : List Cond := .code yX5_told cX5_told 4 (some .int) :: ([.fieldLink RX5 19 "TrolleyGang" "now" "LTrolleyGang$Ring;", .methodLink RX5 84 yX5_checkBus, .instanceMethod yX5_checkBus, .selects RX5 yX5_checkBus yX5_checkBus, .initialized RX5, .code yX5_checkBus cX5_checkBus 2 none, .classLink RX5 26 "java/lang/IndexOutOfBoundsException", .initialized "java/lang/IndexOutOfBoundsException", .methodLink RX5 99 yX5_checkWhat, .static yX5_checkWhat, .code yX5_checkWhat cX5_checkWhat 2 none, .methodLink RX5 103 yX5_oneIf, .static yX5_oneIf, .code yX5_oneIf cX5_oneIf 1 (some .int), .instanceMethod yX4_spansUpBehind, .initialized RX4, .selects RX4 yX4_spansUpBehind yX4_spansUpBehind, .code yX4_spansUpBehind cX4_spansUpBehind 3 (some .int), .methodLink RX4 33 yX4_isDown, .instanceMethod yX4_isDown, .selects RX4 yX4_isDown yX4_isDown, .code yX4_isDown cX4_isDown 2 (some .boolean), .fieldLink RX4 9 "TrolleyGang$Wires" "worn" "[I"] ++ wsX50 ++ wsX20 ++ wsX00 ++ wsX40 ++ (vx_atS RX5 30 "java/lang/IndexOutOfBoundsException" ["java/lang/RuntimeException", "java/lang/Exception"]).filter goodWord)
def wsX5_span_r1 : List Cond := [Cond.fieldLink RX5 19 "TrolleyGang" "now" "LTrolleyGang$Ring;", Cond.methodLink RX5 62 yX5_checkSpan, Cond.static yX5_checkSpan, Cond.initialized RX5, Cond.code yX5_checkSpan cX5_checkSpan 1 none, Cond.classLink RX5 26 "java/lang/IndexOutOfBoundsException", Cond.initialized "java/lang/IndexOutOfBoundsException", Cond.methodLink RX5 99 yX5_checkWhat, Cond.static yX5_checkWhat, Cond.code yX5_checkWhat cX5_checkWhat 2 none, Cond.instanceMethod yX4_isDown, Cond.initialized RX4, Cond.selects RX4 yX4_isDown yX4_isDown, Cond.code yX4_isDown cX4_isDown 2 (some .boolean), Cond.fieldLink RX4 9 "TrolleyGang$Wires" "worn" "[I", Cond.methodLink RX5 103 yX5_oneIf, Cond.static yX5_oneIf, Cond.code yX5_oneIf cX5_oneIf 1 (some .int), Cond.instanceMethod yX2_busesAt, Cond.initialized RX2, Cond.selects RX2 yX2_busesAt yX2_busesAt, Cond.code yX2_busesAt cX2_busesAt 4 (some .int), Cond.fieldLink RX2 39 "TrolleyGang$Ring" "busCount" "I", Cond.fieldLink RX2 27 "TrolleyGang$Ring" "buses" "[LTrolleyGang$Bus;"]
def wsX5_span_r2 : List Cond := [Cond.instanceMethod yX1_placeOf, Cond.initialized RX1, Cond.selects RX1 yX1_placeOf yX1_placeOf, Cond.code yX1_placeOf cX1_placeOf 3 (some .int), Cond.fieldLink RX1 21 "TrolleyGang$Gang" "orderCount" "I", Cond.fieldLink RX1 9 "TrolleyGang$Gang" "orders" "[I"]
def wsX5_span : List Cond := .code yX5_span cX5_span 3 (some .int) :: ((wsX5_span_r1 ++ wsX5_span_r2) ++ wsX50 ++ wsX20 ++ wsX40 ++ wsX00 ++ wsX10 ++ (vx_atS RX5 30 "java/lang/IndexOutOfBoundsException" ["java/lang/RuntimeException", "java/lang/Exception"]).filter goodWord)
def wsX5_order : List Cond := .code yX5_order cX5_order 2 (some .int) :: ([.classLink RX5 69 "java/lang/IllegalStateException", .initialized "java/lang/IllegalStateException", .fieldLink RX5 19 "TrolleyGang" "now" "LTrolleyGang$Ring;", .methodLink RX5 62 yX5_checkSpan, .static yX5_checkSpan, .initialized RX5, .code yX5_checkSpan cX5_checkSpan 1 none, .classLink RX5 26 "java/lang/IndexOutOfBoundsException", .initialized "java/lang/IndexOutOfBoundsException", .instanceMethod yX1_placeOf, .initialized RX1, .selects RX1 yX1_placeOf yX1_placeOf, .code yX1_placeOf cX1_placeOf 3 (some .int), .fieldLink RX1 21 "TrolleyGang$Gang" "orderCount" "I", .fieldLink RX1 9 "TrolleyGang$Gang" "orders" "[I"] ++ wsX50 ++ wsX20 ++ wsX10 ++ (vx_atS RX5 73 "java/lang/IllegalStateException" ["java/lang/RuntimeException", "java/lang/Exception"]).filter goodWord ++ (vx_atS RX5 30 "java/lang/IndexOutOfBoundsException" ["java/lang/RuntimeException", "java/lang/Exception"]).filter goodWord)
def wsX5_cancel : List Cond := .code yX5_cancel cX5_cancel 3 (some .int) :: ([.classLink RX5 69 "java/lang/IllegalStateException", .initialized "java/lang/IllegalStateException", .fieldLink RX5 19 "TrolleyGang" "now" "LTrolleyGang$Ring;", .methodLink RX5 62 yX5_checkSpan, .static yX5_checkSpan, .initialized RX5, .code yX5_checkSpan cX5_checkSpan 1 none, .classLink RX5 26 "java/lang/IndexOutOfBoundsException", .initialized "java/lang/IndexOutOfBoundsException", .instanceMethod yX1_placeOf, .initialized RX1, .selects RX1 yX1_placeOf yX1_placeOf, .code yX1_placeOf cX1_placeOf 3 (some .int), .fieldLink RX1 21 "TrolleyGang$Gang" "orderCount" "I", .fieldLink RX1 9 "TrolleyGang$Gang" "orders" "[I", .instanceMethod yX1_takeOut, .selects RX1 yX1_takeOut yX1_takeOut, .code yX1_takeOut cX1_takeOut 3 none, .fieldLink RX1 28 "TrolleyGang$Gang" "worksAtFirst" "I"] ++ wsX50 ++ wsX20 ++ wsX10 ++ (vx_atS RX5 73 "java/lang/IllegalStateException" ["java/lang/RuntimeException", "java/lang/Exception"]).filter goodWord ++ (vx_atS RX5 30 "java/lang/IndexOutOfBoundsException" ["java/lang/RuntimeException", "java/lang/Exception"]).filter goodWord)
def wsX5_gang : List Cond := .code yX5_gang cX5_gang 3 (some .int) :: ([.fieldLink RX5 19 "TrolleyGang" "now" "LTrolleyGang$Ring;", .methodLink RX5 99 yX5_checkWhat, .static yX5_checkWhat, .initialized RX5, .code yX5_checkWhat cX5_checkWhat 2 none, .classLink RX5 26 "java/lang/IndexOutOfBoundsException", .initialized "java/lang/IndexOutOfBoundsException", .instanceMethod yX1_hoursToFirst, .initialized RX1, .selects RX1 yX1_hoursToFirst yX1_hoursToFirst, .code yX1_hoursToFirst cX1_hoursToFirst 3 (some .int), .fieldLink RX1 21 "TrolleyGang$Gang" "orderCount" "I", .methodLink RX1 41 Lib.Math.min.name, .static Lib.Math.min.name, .initialized "java/lang/Math", .code Lib.Math.min.name Lib.Math.min.code 2 (some .int), .methodLink RX1 37 yX1_spansUpwardsToFirst, .instanceMethod yX1_spansUpwardsToFirst, .selects RX1 yX1_spansUpwardsToFirst yX1_spansUpwardsToFirst, .code yX1_spansUpwardsToFirst cX1_spansUpwardsToFirst 1 (some .int), .fieldLink RX1 9 "TrolleyGang$Gang" "orders" "[I", .fieldLink RX1 25 "TrolleyGang$Gang" "at" "I"] ++ wsX50 ++ wsX20 ++ wsX10 ++ (vx_atS RX5 30 "java/lang/IndexOutOfBoundsException" ["java/lang/RuntimeException", "java/lang/Exception"]).filter goodWord)
def wsX5_count_r1 : List Cond := [Cond.fieldLink RX5 19 "TrolleyGang" "now" "LTrolleyGang$Ring;", Cond.methodLink RX5 99 yX5_checkWhat, Cond.static yX5_checkWhat, Cond.initialized RX5, Cond.code yX5_checkWhat cX5_checkWhat 2 none, Cond.classLink RX5 26 "java/lang/IndexOutOfBoundsException", Cond.initialized "java/lang/IndexOutOfBoundsException", Cond.instanceMethod yX2_tally, Cond.initialized RX2, Cond.selects RX2 yX2_tally yX2_tally, Cond.code yX2_tally cX2_tally 2 (some .int), Cond.fieldLink RX2 46 "TrolleyGang$Ring" "hour" "I", Cond.fieldLink RX2 49 "TrolleyGang$Ring" "coins" "I", Cond.fieldLink RX2 39 "TrolleyGang$Ring" "busCount" "I", Cond.fieldLink RX2 12 "TrolleyGang$Ring" "wires" "LTrolleyGang$Wires;", Cond.static yX5_isNightAt, Cond.code yX5_isNightAt cX5_isNightAt 2 (some .boolean), Cond.static yX5_oneIf, Cond.code yX5_oneIf cX5_oneIf 1 (some .int), Cond.methodLink RX2 156 yX2_busesRunning, Cond.instanceMethod yX2_busesRunning, Cond.selects RX2 yX2_busesRunning yX2_busesRunning, Cond.code yX2_busesRunning cX2_busesRunning 3 (some .int), Cond.fieldLink RX2 27 "TrolleyGang$Ring" "buses" "[LTrolleyGang$Bus;"]
def wsX5_count_r2 : List Cond := [Cond.instanceMethod yX4_spansDown, Cond.initialized RX4, Cond.selects RX4 yX4_spansDown yX4_spansDown, Cond.code yX4_spansDown cX4_spansDown 3 (some .int), Cond.methodLink RX4 33 yX4_isDown, Cond.instanceMethod yX4_isDown, Cond.selects RX4 yX4_isDown yX4_isDown, Cond.code yX4_isDown cX4_isDown 2 (some .boolean), Cond.fieldLink RX4 9 "TrolleyGang$Wires" "worn" "[I", Cond.instanceMethod yX4_wornInAll, Cond.selects RX4 yX4_wornInAll yX4_wornInAll, Cond.code yX4_wornInAll cX4_wornInAll 3 (some .int), Cond.instanceMethod yX4_frostInAll, Cond.selects RX4 yX4_frostInAll yX4_frostInAll, Cond.code yX4_frostInAll cX4_frostInAll 3 (some .int), Cond.fieldLink RX4 15 "TrolleyGang$Wires" "frost" "[I", Cond.methodLink RX2 169 yX2_hoursStuckInAll, Cond.instanceMethod yX2_hoursStuckInAll, Cond.selects RX2 yX2_hoursStuckInAll yX2_hoursStuckInAll, Cond.code yX2_hoursStuckInAll cX2_hoursStuckInAll 3 (some .int)]
def wsX5_count : List Cond := .code yX5_count cX5_count 2 (some .int) :: ((wsX5_count_r1 ++ wsX5_count_r2) ++ wsX50 ++ wsX20 ++ wsX00 ++ wsX40 ++ (vx_atS RX5 30 "java/lang/IndexOutOfBoundsException" ["java/lang/RuntimeException", "java/lang/Exception"]).filter goodWord)
def wsX5_checkHours : List Cond := .code yX5_checkHours cX5_checkHours 2 none :: ([.classLink RX5 33 "java/lang/IllegalArgumentException", .initialized "java/lang/IllegalArgumentException"] ++ (vx_atS RX5 37 "java/lang/IllegalArgumentException" ["java/lang/RuntimeException", "java/lang/Exception"]).filter goodWord)
def wsX5_pass_r1 : List Cond := [Cond.fieldLink RX5 19 "TrolleyGang" "now" "LTrolleyGang$Ring;", Cond.fieldLink RX5 10 "TrolleyGang" "tables" "LTrolleyGang$Tables;", Cond.methodLink RX5 179 yX5_checkHours, Cond.static yX5_checkHours, Cond.initialized RX5, Cond.code yX5_checkHours cX5_checkHours 2 none, Cond.classLink RX5 33 "java/lang/IllegalArgumentException", Cond.initialized "java/lang/IllegalArgumentException", Cond.instanceMethod yX2_letGoBy, Cond.initialized RX2, Cond.selects RX2 yX2_letGoBy yX2_letGoBy, Cond.code yX2_letGoBy cX2_letGoBy 4 none, Cond.methodLink RX2 52 yX2_letHourGoBy, Cond.instanceMethod yX2_letHourGoBy, Cond.selects RX2 yX2_letHourGoBy yX2_letHourGoBy, Cond.code yX2_letHourGoBy cX2_letHourGoBy 5 none, Cond.fieldLink RX2 46 "TrolleyGang$Ring" "hour" "I", Cond.fieldLink RX2 12 "TrolleyGang$Ring" "wires" "LTrolleyGang$Wires;", Cond.fieldLink RX2 39 "TrolleyGang$Ring" "busCount" "I", Cond.fieldLink RX2 27 "TrolleyGang$Ring" "buses" "[LTrolleyGang$Bus;", Cond.static yX5_isNightAt, Cond.code yX5_isNightAt cX5_isNightAt 2 (some .boolean), Cond.instanceMethod yX4_freeze, Cond.initialized RX4]
def wsX5_pass_r2 : List Cond := [Cond.selects RX4 yX4_freeze yX4_freeze, Cond.code yX4_freeze cX4_freeze 3 none, Cond.fieldLink RX4 15 "TrolleyGang$Wires" "frost" "[I", Cond.methodLink RX4 24 Lib.Math.min.name, Cond.static Lib.Math.min.name, Cond.initialized "java/lang/Math", Cond.code Lib.Math.min.name Lib.Math.min.code 2 (some .int), Cond.instanceMethod yX4_thaw, Cond.selects RX4 yX4_thaw yX4_thaw, Cond.code yX4_thaw cX4_thaw 2 none, Cond.methodLink RX4 30 Lib.Math.max.name, Cond.static Lib.Math.max.name, Cond.code Lib.Math.max.name Lib.Math.max.code 2 (some .int), Cond.methodLink RX2 76 yX2_letSwanFly, Cond.instanceMethod yX2_letSwanFly, Cond.selects RX2 yX2_letSwanFly yX2_letSwanFly, Cond.code yX2_letSwanFly cX2_letSwanFly 2 none, Cond.instanceMethod yX4_isDown, Cond.selects RX4 yX4_isDown yX4_isDown, Cond.code yX4_isDown cX4_isDown 2 (some .boolean), Cond.fieldLink RX4 9 "TrolleyGang$Wires" "worn" "[I", Cond.instanceMethod yX4_wear, Cond.selects RX4 yX4_wear yX4_wear, Cond.code yX4_wear cX4_wear 3 none]
def wsX5_pass_r3 : List Cond := [Cond.instanceMethod yX3_fare, Cond.initialized RX3, Cond.selects RX3 yX3_fare yX3_fare, Cond.code yX3_fare cX3_fare 2 (some .int), Cond.fieldLink RX3 22 "TrolleyGang$Tables" "fareByNight" "I", Cond.fieldLink RX3 18 "TrolleyGang$Tables" "fareByDay" "I", Cond.methodLink RX2 83 yX2_drive, Cond.instanceMethod yX2_drive, Cond.selects RX2 yX2_drive yX2_drive, Cond.code yX2_drive cX2_drive 5 none, Cond.fieldLink RX2 49 "TrolleyGang$Ring" "coins" "I", Cond.methodLink RX2 87 yX2_letGangWork, Cond.instanceMethod yX2_letGangWork, Cond.selects RX2 yX2_letGangWork yX2_letGangWork, Cond.code yX2_letGangWork cX2_letGangWork 1 none, Cond.fieldLink RX2 21 "TrolleyGang$Ring" "gang" "LTrolleyGang$Gang;", Cond.instanceMethod yX1_goToFirst, Cond.initialized RX1, Cond.selects RX1 yX1_goToFirst yX1_goToFirst, Cond.code yX1_goToFirst cX1_goToFirst 4 none, Cond.methodLink RX1 41 Lib.Math.min.name, Cond.fieldLink RX1 25 "TrolleyGang$Gang" "at" "I", Cond.methodLink RX1 37 yX1_spansUpwardsToFirst, Cond.instanceMethod yX1_spansUpwardsToFirst]
def wsX5_pass_r4 : List Cond := [Cond.selects RX1 yX1_spansUpwardsToFirst yX1_spansUpwardsToFirst, Cond.code yX1_spansUpwardsToFirst cX1_spansUpwardsToFirst 1 (some .int), Cond.fieldLink RX1 9 "TrolleyGang$Gang" "orders" "[I", Cond.methodLink RX2 135 yX2_isOrderDoneByWorkAt, Cond.instanceMethod yX2_isOrderDoneByWorkAt, Cond.selects RX2 yX2_isOrderDoneByWorkAt yX2_isOrderDoneByWorkAt, Cond.code yX2_isOrderDoneByWorkAt cX2_isOrderDoneByWorkAt 2 (some .boolean), Cond.instanceMethod yX4_mend, Cond.selects RX4 yX4_mend yX4_mend, Cond.code yX4_mend cX4_mend 3 none, Cond.instanceMethod yX4_putUp, Cond.selects RX4 yX4_putUp yX4_putUp, Cond.code yX4_putUp cX4_putUp 2 none, Cond.instanceMethod yX1_takeOut, Cond.selects RX1 yX1_takeOut yX1_takeOut, Cond.code yX1_takeOut cX1_takeOut 3 none, Cond.fieldLink RX1 21 "TrolleyGang$Gang" "orderCount" "I", Cond.fieldLink RX1 28 "TrolleyGang$Gang" "worksAtFirst" "I"]
def wsX5_pass : List Cond := .code yX5_pass cX5_pass 3 (some .int) :: ((wsX5_pass_r1 ++ (wsX5_pass_r2 ++ (wsX5_pass_r3 ++ wsX5_pass_r4))) ++ wsX50 ++ wsX20 ++ wsX30 ++ wsX40 ++ wsX00 ++ wsX10 ++ (vx_atS RX5 37 "java/lang/IllegalArgumentException" ["java/lang/RuntimeException", "java/lang/Exception"]).filter goodWord)
def wsX5_falls_r1 : List Cond := [Cond.fieldLink RX5 23 "TrolleyGang" "ahead" "LTrolleyGang$Ring;", Cond.fieldLink RX5 19 "TrolleyGang" "now" "LTrolleyGang$Ring;", Cond.fieldLink RX5 10 "TrolleyGang" "tables" "LTrolleyGang$Tables;", Cond.methodLink RX5 62 yX5_checkSpan, Cond.static yX5_checkSpan, Cond.initialized RX5, Cond.code yX5_checkSpan cX5_checkSpan 1 none, Cond.classLink RX5 26 "java/lang/IndexOutOfBoundsException", Cond.initialized "java/lang/IndexOutOfBoundsException", Cond.instanceMethod yX2_copyFrom, Cond.initialized RX2, Cond.selects RX2 yX2_copyFrom yX2_copyFrom, Cond.code yX2_copyFrom cX2_copyFrom 3 none, Cond.fieldLink RX2 12 "TrolleyGang$Ring" "wires" "LTrolleyGang$Wires;", Cond.fieldLink RX2 21 "TrolleyGang$Ring" "gang" "LTrolleyGang$Gang;", Cond.fieldLink RX2 39 "TrolleyGang$Ring" "busCount" "I", Cond.fieldLink RX2 27 "TrolleyGang$Ring" "buses" "[LTrolleyGang$Bus;", Cond.fieldLink RX2 46 "TrolleyGang$Ring" "hour" "I", Cond.fieldLink RX2 49 "TrolleyGang$Ring" "coins" "I", Cond.instanceMethod yX4_copyFrom, Cond.initialized RX4, Cond.selects RX4 yX4_copyFrom yX4_copyFrom, Cond.code yX4_copyFrom cX4_copyFrom 2 none, Cond.fieldLink RX4 9 "TrolleyGang$Wires" "worn" "[I"]
def wsX5_falls_r2 : List Cond := [Cond.methodLink RX4 18 arraycopyName, Cond.native arraycopyName, Cond.static arraycopyName, Cond.initialized "java/lang/System", Cond.fieldLink RX4 15 "TrolleyGang$Wires" "frost" "[I", Cond.instanceMethod yX1_copyFrom, Cond.initialized RX1, Cond.selects RX1 yX1_copyFrom yX1_copyFrom, Cond.code yX1_copyFrom cX1_copyFrom 2 none, Cond.fieldLink RX1 9 "TrolleyGang$Gang" "orders" "[I", Cond.methodLink RX1 15 arraycopyName, Cond.fieldLink RX1 21 "TrolleyGang$Gang" "orderCount" "I", Cond.fieldLink RX1 25 "TrolleyGang$Gang" "at" "I", Cond.fieldLink RX1 28 "TrolleyGang$Gang" "worksAtFirst" "I", Cond.fieldLink RX1 31 "TrolleyGang$Gang" "worksInAll" "I", Cond.fieldLink RX1 34 "TrolleyGang$Gang" "putUpInAll" "I", Cond.instanceMethod yX0_copyFrom, Cond.initialized RX0, Cond.selects RX0 yX0_copyFrom yX0_copyFrom, Cond.code yX0_copyFrom cX0_copyFrom 2 none, Cond.fieldLink RX0 7 "TrolleyGang$Bus" "at" "I", Cond.fieldLink RX0 13 "TrolleyGang$Bus" "hasScraper" "Z", Cond.fieldLink RX0 17 "TrolleyGang$Bus" "runs" "Z", Cond.fieldLink RX0 20 "TrolleyGang$Bus" "spansInAll" "I"]
def wsX5_falls_r3 : List Cond := [Cond.fieldLink RX0 23 "TrolleyGang$Bus" "faresInAll" "I", Cond.fieldLink RX0 26 "TrolleyGang$Bus" "hoursStuck" "I", Cond.instanceMethod yX4_isDown, Cond.selects RX4 yX4_isDown yX4_isDown, Cond.code yX4_isDown cX4_isDown 2 (some .boolean), Cond.instanceMethod yX2_letGoBy, Cond.selects RX2 yX2_letGoBy yX2_letGoBy, Cond.code yX2_letGoBy cX2_letGoBy 4 none, Cond.methodLink RX2 52 yX2_letHourGoBy, Cond.instanceMethod yX2_letHourGoBy, Cond.selects RX2 yX2_letHourGoBy yX2_letHourGoBy, Cond.code yX2_letHourGoBy cX2_letHourGoBy 5 none, Cond.static yX5_isNightAt, Cond.code yX5_isNightAt cX5_isNightAt 2 (some .boolean), Cond.instanceMethod yX4_freeze, Cond.selects RX4 yX4_freeze yX4_freeze, Cond.code yX4_freeze cX4_freeze 3 none, Cond.methodLink RX4 24 Lib.Math.min.name, Cond.static Lib.Math.min.name, Cond.initialized "java/lang/Math", Cond.code Lib.Math.min.name Lib.Math.min.code 2 (some .int), Cond.instanceMethod yX4_thaw, Cond.selects RX4 yX4_thaw yX4_thaw, Cond.code yX4_thaw cX4_thaw 2 none]
def wsX5_falls_r4 : List Cond := [Cond.methodLink RX4 30 Lib.Math.max.name, Cond.static Lib.Math.max.name, Cond.code Lib.Math.max.name Lib.Math.max.code 2 (some .int), Cond.methodLink RX2 76 yX2_letSwanFly, Cond.instanceMethod yX2_letSwanFly, Cond.selects RX2 yX2_letSwanFly yX2_letSwanFly, Cond.code yX2_letSwanFly cX2_letSwanFly 2 none, Cond.instanceMethod yX4_wear, Cond.selects RX4 yX4_wear yX4_wear, Cond.code yX4_wear cX4_wear 3 none, Cond.instanceMethod yX3_fare, Cond.initialized RX3, Cond.selects RX3 yX3_fare yX3_fare, Cond.code yX3_fare cX3_fare 2 (some .int), Cond.fieldLink RX3 22 "TrolleyGang$Tables" "fareByNight" "I", Cond.fieldLink RX3 18 "TrolleyGang$Tables" "fareByDay" "I", Cond.methodLink RX2 83 yX2_drive, Cond.instanceMethod yX2_drive, Cond.selects RX2 yX2_drive yX2_drive, Cond.code yX2_drive cX2_drive 5 none, Cond.methodLink RX2 87 yX2_letGangWork, Cond.instanceMethod yX2_letGangWork, Cond.selects RX2 yX2_letGangWork yX2_letGangWork, Cond.code yX2_letGangWork cX2_letGangWork 1 none]
def wsX5_falls_r5 : List Cond := [Cond.instanceMethod yX1_goToFirst, Cond.selects RX1 yX1_goToFirst yX1_goToFirst, Cond.code yX1_goToFirst cX1_goToFirst 4 none, Cond.methodLink RX1 41 Lib.Math.min.name, Cond.methodLink RX1 37 yX1_spansUpwardsToFirst, Cond.instanceMethod yX1_spansUpwardsToFirst, Cond.selects RX1 yX1_spansUpwardsToFirst yX1_spansUpwardsToFirst, Cond.code yX1_spansUpwardsToFirst cX1_spansUpwardsToFirst 1 (some .int), Cond.methodLink RX2 135 yX2_isOrderDoneByWorkAt, Cond.instanceMethod yX2_isOrderDoneByWorkAt, Cond.selects RX2 yX2_isOrderDoneByWorkAt yX2_isOrderDoneByWorkAt, Cond.code yX2_isOrderDoneByWorkAt cX2_isOrderDoneByWorkAt 2 (some .boolean), Cond.instanceMethod yX4_mend, Cond.selects RX4 yX4_mend yX4_mend, Cond.code yX4_mend cX4_mend 3 none, Cond.instanceMethod yX4_putUp, Cond.selects RX4 yX4_putUp yX4_putUp, Cond.code yX4_putUp cX4_putUp 2 none, Cond.instanceMethod yX1_takeOut, Cond.selects RX1 yX1_takeOut yX1_takeOut, Cond.code yX1_takeOut cX1_takeOut 3 none]
def wsX5_falls : List Cond := .code yX5_falls cX5_falls 3 (some .int) :: ((wsX5_falls_r1 ++ (wsX5_falls_r2 ++ (wsX5_falls_r3 ++ (wsX5_falls_r4 ++ wsX5_falls_r5)))) ++ wsX50 ++ wsX20 ++ wsX40 ++ wsX10 ++ wsX00 ++ wsX30 ++ (vx_atS RX5 30 "java/lang/IndexOutOfBoundsException" ["java/lang/RuntimeException", "java/lang/Exception"]).filter goodWord)
def wsX5_foresee_r1 : List Cond := [Cond.classLink RX5 26 "java/lang/IndexOutOfBoundsException", Cond.initialized "java/lang/IndexOutOfBoundsException", Cond.fieldLink RX5 23 "TrolleyGang" "ahead" "LTrolleyGang$Ring;", Cond.fieldLink RX5 19 "TrolleyGang" "now" "LTrolleyGang$Ring;", Cond.fieldLink RX5 10 "TrolleyGang" "tables" "LTrolleyGang$Tables;", Cond.methodLink RX5 179 yX5_checkHours, Cond.static yX5_checkHours, Cond.initialized RX5, Cond.code yX5_checkHours cX5_checkHours 2 none, Cond.classLink RX5 33 "java/lang/IllegalArgumentException", Cond.initialized "java/lang/IllegalArgumentException", Cond.instanceMethod yX2_copyFrom, Cond.initialized RX2, Cond.selects RX2 yX2_copyFrom yX2_copyFrom, Cond.code yX2_copyFrom cX2_copyFrom 3 none, Cond.fieldLink RX2 12 "TrolleyGang$Ring" "wires" "LTrolleyGang$Wires;", Cond.fieldLink RX2 21 "TrolleyGang$Ring" "gang" "LTrolleyGang$Gang;", Cond.fieldLink RX2 39 "TrolleyGang$Ring" "busCount" "I", Cond.fieldLink RX2 27 "TrolleyGang$Ring" "buses" "[LTrolleyGang$Bus;", Cond.fieldLink RX2 46 "TrolleyGang$Ring" "hour" "I", Cond.fieldLink RX2 49 "TrolleyGang$Ring" "coins" "I", Cond.instanceMethod yX4_copyFrom, Cond.initialized RX4, Cond.selects RX4 yX4_copyFrom yX4_copyFrom]
def wsX5_foresee_r2 : List Cond := [Cond.code yX4_copyFrom cX4_copyFrom 2 none, Cond.fieldLink RX4 9 "TrolleyGang$Wires" "worn" "[I", Cond.methodLink RX4 18 arraycopyName, Cond.native arraycopyName, Cond.static arraycopyName, Cond.initialized "java/lang/System", Cond.fieldLink RX4 15 "TrolleyGang$Wires" "frost" "[I", Cond.instanceMethod yX1_copyFrom, Cond.initialized RX1, Cond.selects RX1 yX1_copyFrom yX1_copyFrom, Cond.code yX1_copyFrom cX1_copyFrom 2 none, Cond.fieldLink RX1 9 "TrolleyGang$Gang" "orders" "[I", Cond.methodLink RX1 15 arraycopyName, Cond.fieldLink RX1 21 "TrolleyGang$Gang" "orderCount" "I", Cond.fieldLink RX1 25 "TrolleyGang$Gang" "at" "I", Cond.fieldLink RX1 28 "TrolleyGang$Gang" "worksAtFirst" "I", Cond.fieldLink RX1 31 "TrolleyGang$Gang" "worksInAll" "I", Cond.fieldLink RX1 34 "TrolleyGang$Gang" "putUpInAll" "I", Cond.instanceMethod yX0_copyFrom, Cond.initialized RX0, Cond.selects RX0 yX0_copyFrom yX0_copyFrom, Cond.code yX0_copyFrom cX0_copyFrom 2 none, Cond.fieldLink RX0 7 "TrolleyGang$Bus" "at" "I", Cond.fieldLink RX0 13 "TrolleyGang$Bus" "hasScraper" "Z"]
def wsX5_foresee_r3 : List Cond := [Cond.fieldLink RX0 17 "TrolleyGang$Bus" "runs" "Z", Cond.fieldLink RX0 20 "TrolleyGang$Bus" "spansInAll" "I", Cond.fieldLink RX0 23 "TrolleyGang$Bus" "faresInAll" "I", Cond.fieldLink RX0 26 "TrolleyGang$Bus" "hoursStuck" "I", Cond.instanceMethod yX2_letGoBy, Cond.selects RX2 yX2_letGoBy yX2_letGoBy, Cond.code yX2_letGoBy cX2_letGoBy 4 none, Cond.methodLink RX2 52 yX2_letHourGoBy, Cond.instanceMethod yX2_letHourGoBy, Cond.selects RX2 yX2_letHourGoBy yX2_letHourGoBy, Cond.code yX2_letHourGoBy cX2_letHourGoBy 5 none, Cond.static yX5_isNightAt, Cond.code yX5_isNightAt cX5_isNightAt 2 (some .boolean), Cond.instanceMethod yX4_freeze, Cond.selects RX4 yX4_freeze yX4_freeze, Cond.code yX4_freeze cX4_freeze 3 none, Cond.methodLink RX4 24 Lib.Math.min.name, Cond.static Lib.Math.min.name, Cond.initialized "java/lang/Math", Cond.code Lib.Math.min.name Lib.Math.min.code 2 (some .int), Cond.instanceMethod yX4_thaw, Cond.selects RX4 yX4_thaw yX4_thaw, Cond.code yX4_thaw cX4_thaw 2 none, Cond.methodLink RX4 30 Lib.Math.max.name]
def wsX5_foresee_r4 : List Cond := [Cond.static Lib.Math.max.name, Cond.code Lib.Math.max.name Lib.Math.max.code 2 (some .int), Cond.methodLink RX2 76 yX2_letSwanFly, Cond.instanceMethod yX2_letSwanFly, Cond.selects RX2 yX2_letSwanFly yX2_letSwanFly, Cond.code yX2_letSwanFly cX2_letSwanFly 2 none, Cond.instanceMethod yX4_isDown, Cond.selects RX4 yX4_isDown yX4_isDown, Cond.code yX4_isDown cX4_isDown 2 (some .boolean), Cond.instanceMethod yX4_wear, Cond.selects RX4 yX4_wear yX4_wear, Cond.code yX4_wear cX4_wear 3 none, Cond.instanceMethod yX3_fare, Cond.initialized RX3, Cond.selects RX3 yX3_fare yX3_fare, Cond.code yX3_fare cX3_fare 2 (some .int), Cond.fieldLink RX3 22 "TrolleyGang$Tables" "fareByNight" "I", Cond.fieldLink RX3 18 "TrolleyGang$Tables" "fareByDay" "I", Cond.methodLink RX2 83 yX2_drive, Cond.instanceMethod yX2_drive, Cond.selects RX2 yX2_drive yX2_drive, Cond.code yX2_drive cX2_drive 5 none, Cond.methodLink RX2 87 yX2_letGangWork, Cond.instanceMethod yX2_letGangWork]
def wsX5_foresee_r5 : List Cond := [Cond.selects RX2 yX2_letGangWork yX2_letGangWork, Cond.code yX2_letGangWork cX2_letGangWork 1 none, Cond.instanceMethod yX1_goToFirst, Cond.selects RX1 yX1_goToFirst yX1_goToFirst, Cond.code yX1_goToFirst cX1_goToFirst 4 none, Cond.methodLink RX1 41 Lib.Math.min.name, Cond.methodLink RX1 37 yX1_spansUpwardsToFirst, Cond.instanceMethod yX1_spansUpwardsToFirst, Cond.selects RX1 yX1_spansUpwardsToFirst yX1_spansUpwardsToFirst, Cond.code yX1_spansUpwardsToFirst cX1_spansUpwardsToFirst 1 (some .int), Cond.methodLink RX2 135 yX2_isOrderDoneByWorkAt, Cond.instanceMethod yX2_isOrderDoneByWorkAt, Cond.selects RX2 yX2_isOrderDoneByWorkAt yX2_isOrderDoneByWorkAt, Cond.code yX2_isOrderDoneByWorkAt cX2_isOrderDoneByWorkAt 2 (some .boolean), Cond.instanceMethod yX4_mend, Cond.selects RX4 yX4_mend yX4_mend, Cond.code yX4_mend cX4_mend 3 none, Cond.instanceMethod yX4_putUp, Cond.selects RX4 yX4_putUp yX4_putUp, Cond.code yX4_putUp cX4_putUp 2 none, Cond.instanceMethod yX1_takeOut, Cond.selects RX1 yX1_takeOut yX1_takeOut, Cond.code yX1_takeOut cX1_takeOut 3 none, Cond.instanceMethod yX2_tally]
def wsX5_foresee_r6 : List Cond := [Cond.selects RX2 yX2_tally yX2_tally, Cond.code yX2_tally cX2_tally 2 (some .int), Cond.static yX5_oneIf, Cond.code yX5_oneIf cX5_oneIf 1 (some .int), Cond.methodLink RX2 156 yX2_busesRunning, Cond.instanceMethod yX2_busesRunning, Cond.selects RX2 yX2_busesRunning yX2_busesRunning, Cond.code yX2_busesRunning cX2_busesRunning 3 (some .int), Cond.instanceMethod yX4_spansDown, Cond.selects RX4 yX4_spansDown yX4_spansDown, Cond.code yX4_spansDown cX4_spansDown 3 (some .int), Cond.methodLink RX4 33 yX4_isDown, Cond.instanceMethod yX4_wornInAll, Cond.selects RX4 yX4_wornInAll yX4_wornInAll, Cond.code yX4_wornInAll cX4_wornInAll 3 (some .int), Cond.instanceMethod yX4_frostInAll, Cond.selects RX4 yX4_frostInAll yX4_frostInAll, Cond.code yX4_frostInAll cX4_frostInAll 3 (some .int), Cond.methodLink RX2 169 yX2_hoursStuckInAll, Cond.instanceMethod yX2_hoursStuckInAll, Cond.selects RX2 yX2_hoursStuckInAll yX2_hoursStuckInAll, Cond.code yX2_hoursStuckInAll cX2_hoursStuckInAll 3 (some .int)]
def wsX5_foresee : List Cond := .code yX5_foresee cX5_foresee 3 (some .int) :: ((wsX5_foresee_r1 ++ (wsX5_foresee_r2 ++ (wsX5_foresee_r3 ++ (wsX5_foresee_r4 ++ (wsX5_foresee_r5 ++ wsX5_foresee_r6))))) ++ wsX50 ++ wsX20 ++ wsX40 ++ wsX10 ++ wsX00 ++ wsX30 ++ (vx_atS RX5 30 "java/lang/IndexOutOfBoundsException" ["java/lang/RuntimeException", "java/lang/Exception"]).filter goodWord ++ (vx_atS RX5 37 "java/lang/IllegalArgumentException" ["java/lang/RuntimeException", "java/lang/Exception"]).filter goodWord)
def wsX5_coinsWithOnlyOrder_r1 : List Cond := [Cond.fieldLink RX5 23 "TrolleyGang" "ahead" "LTrolleyGang$Ring;", Cond.fieldLink RX5 19 "TrolleyGang" "now" "LTrolleyGang$Ring;", Cond.fieldLink RX5 10 "TrolleyGang" "tables" "LTrolleyGang$Tables;", Cond.instanceMethod yX2_copyFrom, Cond.initialized RX2, Cond.selects RX2 yX2_copyFrom yX2_copyFrom, Cond.code yX2_copyFrom cX2_copyFrom 3 none, Cond.fieldLink RX2 12 "TrolleyGang$Ring" "wires" "LTrolleyGang$Wires;", Cond.fieldLink RX2 21 "TrolleyGang$Ring" "gang" "LTrolleyGang$Gang;", Cond.fieldLink RX2 39 "TrolleyGang$Ring" "busCount" "I", Cond.fieldLink RX2 27 "TrolleyGang$Ring" "buses" "[LTrolleyGang$Bus;", Cond.fieldLink RX2 46 "TrolleyGang$Ring" "hour" "I", Cond.fieldLink RX2 49 "TrolleyGang$Ring" "coins" "I", Cond.instanceMethod yX4_copyFrom, Cond.initialized RX4, Cond.selects RX4 yX4_copyFrom yX4_copyFrom, Cond.code yX4_copyFrom cX4_copyFrom 2 none, Cond.fieldLink RX4 9 "TrolleyGang$Wires" "worn" "[I", Cond.methodLink RX4 18 arraycopyName, Cond.native arraycopyName, Cond.static arraycopyName, Cond.initialized "java/lang/System", Cond.fieldLink RX4 15 "TrolleyGang$Wires" "frost" "[I", Cond.instanceMethod yX1_copyFrom]
def wsX5_coinsWithOnlyOrder_r2 : List Cond := [Cond.initialized RX1, Cond.selects RX1 yX1_copyFrom yX1_copyFrom, Cond.code yX1_copyFrom cX1_copyFrom 2 none, Cond.fieldLink RX1 9 "TrolleyGang$Gang" "orders" "[I", Cond.methodLink RX1 15 arraycopyName, Cond.fieldLink RX1 21 "TrolleyGang$Gang" "orderCount" "I", Cond.fieldLink RX1 25 "TrolleyGang$Gang" "at" "I", Cond.fieldLink RX1 28 "TrolleyGang$Gang" "worksAtFirst" "I", Cond.fieldLink RX1 31 "TrolleyGang$Gang" "worksInAll" "I", Cond.fieldLink RX1 34 "TrolleyGang$Gang" "putUpInAll" "I", Cond.instanceMethod yX0_copyFrom, Cond.initialized RX0, Cond.selects RX0 yX0_copyFrom yX0_copyFrom, Cond.code yX0_copyFrom cX0_copyFrom 2 none, Cond.fieldLink RX0 7 "TrolleyGang$Bus" "at" "I", Cond.fieldLink RX0 13 "TrolleyGang$Bus" "hasScraper" "Z", Cond.fieldLink RX0 17 "TrolleyGang$Bus" "runs" "Z", Cond.fieldLink RX0 20 "TrolleyGang$Bus" "spansInAll" "I", Cond.fieldLink RX0 23 "TrolleyGang$Bus" "faresInAll" "I", Cond.fieldLink RX0 26 "TrolleyGang$Bus" "hoursStuck" "I", Cond.instanceMethod yX1_haveOnly, Cond.selects RX1 yX1_haveOnly yX1_haveOnly, Cond.code yX1_haveOnly cX1_haveOnly 2 none, Cond.instanceMethod yX2_letGoBy]
def wsX5_coinsWithOnlyOrder_r3 : List Cond := [Cond.selects RX2 yX2_letGoBy yX2_letGoBy, Cond.code yX2_letGoBy cX2_letGoBy 4 none, Cond.methodLink RX2 52 yX2_letHourGoBy, Cond.instanceMethod yX2_letHourGoBy, Cond.selects RX2 yX2_letHourGoBy yX2_letHourGoBy, Cond.code yX2_letHourGoBy cX2_letHourGoBy 5 none, Cond.static yX5_isNightAt, Cond.initialized RX5, Cond.code yX5_isNightAt cX5_isNightAt 2 (some .boolean), Cond.instanceMethod yX4_freeze, Cond.selects RX4 yX4_freeze yX4_freeze, Cond.code yX4_freeze cX4_freeze 3 none, Cond.methodLink RX4 24 Lib.Math.min.name, Cond.static Lib.Math.min.name, Cond.initialized "java/lang/Math", Cond.code Lib.Math.min.name Lib.Math.min.code 2 (some .int), Cond.instanceMethod yX4_thaw, Cond.selects RX4 yX4_thaw yX4_thaw, Cond.code yX4_thaw cX4_thaw 2 none, Cond.methodLink RX4 30 Lib.Math.max.name, Cond.static Lib.Math.max.name, Cond.code Lib.Math.max.name Lib.Math.max.code 2 (some .int), Cond.methodLink RX2 76 yX2_letSwanFly, Cond.instanceMethod yX2_letSwanFly]
def wsX5_coinsWithOnlyOrder_r4 : List Cond := [Cond.selects RX2 yX2_letSwanFly yX2_letSwanFly, Cond.code yX2_letSwanFly cX2_letSwanFly 2 none, Cond.instanceMethod yX4_isDown, Cond.selects RX4 yX4_isDown yX4_isDown, Cond.code yX4_isDown cX4_isDown 2 (some .boolean), Cond.instanceMethod yX4_wear, Cond.selects RX4 yX4_wear yX4_wear, Cond.code yX4_wear cX4_wear 3 none, Cond.instanceMethod yX3_fare, Cond.initialized RX3, Cond.selects RX3 yX3_fare yX3_fare, Cond.code yX3_fare cX3_fare 2 (some .int), Cond.fieldLink RX3 22 "TrolleyGang$Tables" "fareByNight" "I", Cond.fieldLink RX3 18 "TrolleyGang$Tables" "fareByDay" "I", Cond.methodLink RX2 83 yX2_drive, Cond.instanceMethod yX2_drive, Cond.selects RX2 yX2_drive yX2_drive, Cond.code yX2_drive cX2_drive 5 none, Cond.methodLink RX2 87 yX2_letGangWork, Cond.instanceMethod yX2_letGangWork, Cond.selects RX2 yX2_letGangWork yX2_letGangWork, Cond.code yX2_letGangWork cX2_letGangWork 1 none, Cond.instanceMethod yX1_goToFirst, Cond.selects RX1 yX1_goToFirst yX1_goToFirst]
def wsX5_coinsWithOnlyOrder_r5 : List Cond := [Cond.code yX1_goToFirst cX1_goToFirst 4 none, Cond.methodLink RX1 41 Lib.Math.min.name, Cond.methodLink RX1 37 yX1_spansUpwardsToFirst, Cond.instanceMethod yX1_spansUpwardsToFirst, Cond.selects RX1 yX1_spansUpwardsToFirst yX1_spansUpwardsToFirst, Cond.code yX1_spansUpwardsToFirst cX1_spansUpwardsToFirst 1 (some .int), Cond.methodLink RX2 135 yX2_isOrderDoneByWorkAt, Cond.instanceMethod yX2_isOrderDoneByWorkAt, Cond.selects RX2 yX2_isOrderDoneByWorkAt yX2_isOrderDoneByWorkAt, Cond.code yX2_isOrderDoneByWorkAt cX2_isOrderDoneByWorkAt 2 (some .boolean), Cond.instanceMethod yX4_mend, Cond.selects RX4 yX4_mend yX4_mend, Cond.code yX4_mend cX4_mend 3 none, Cond.instanceMethod yX4_putUp, Cond.selects RX4 yX4_putUp yX4_putUp, Cond.code yX4_putUp cX4_putUp 2 none, Cond.instanceMethod yX1_takeOut, Cond.selects RX1 yX1_takeOut yX1_takeOut, Cond.code yX1_takeOut cX1_takeOut 3 none]
def wsX5_coinsWithOnlyOrder : List Cond := .code yX5_coinsWithOnlyOrder cX5_coinsWithOnlyOrder 3 (some .int) :: ((wsX5_coinsWithOnlyOrder_r1 ++ (wsX5_coinsWithOnlyOrder_r2 ++ (wsX5_coinsWithOnlyOrder_r3 ++ (wsX5_coinsWithOnlyOrder_r4 ++ wsX5_coinsWithOnlyOrder_r5)))) ++ wsX50 ++ wsX20 ++ wsX40 ++ wsX10 ++ wsX00 ++ wsX30)
def wsX5_advise_r1 : List Cond := [Cond.methodLink RX5 179 yX5_checkHours, Cond.static yX5_checkHours, Cond.initialized RX5, Cond.code yX5_checkHours cX5_checkHours 2 none, Cond.classLink RX5 33 "java/lang/IllegalArgumentException", Cond.initialized "java/lang/IllegalArgumentException", Cond.methodLink RX5 195 yX5_coinsWithOnlyOrder, Cond.instanceMethod yX5_coinsWithOnlyOrder, Cond.selects RX5 yX5_coinsWithOnlyOrder yX5_coinsWithOnlyOrder, Cond.code yX5_coinsWithOnlyOrder cX5_coinsWithOnlyOrder 3 (some .int), Cond.fieldLink RX5 23 "TrolleyGang" "ahead" "LTrolleyGang$Ring;", Cond.fieldLink RX5 19 "TrolleyGang" "now" "LTrolleyGang$Ring;", Cond.fieldLink RX5 10 "TrolleyGang" "tables" "LTrolleyGang$Tables;", Cond.instanceMethod yX2_copyFrom, Cond.initialized RX2, Cond.selects RX2 yX2_copyFrom yX2_copyFrom, Cond.code yX2_copyFrom cX2_copyFrom 3 none, Cond.fieldLink RX2 12 "TrolleyGang$Ring" "wires" "LTrolleyGang$Wires;", Cond.fieldLink RX2 21 "TrolleyGang$Ring" "gang" "LTrolleyGang$Gang;", Cond.fieldLink RX2 39 "TrolleyGang$Ring" "busCount" "I", Cond.fieldLink RX2 27 "TrolleyGang$Ring" "buses" "[LTrolleyGang$Bus;", Cond.fieldLink RX2 46 "TrolleyGang$Ring" "hour" "I", Cond.fieldLink RX2 49 "TrolleyGang$Ring" "coins" "I", Cond.instanceMethod yX4_copyFrom]
def wsX5_advise_r2 : List Cond := [Cond.initialized RX4, Cond.selects RX4 yX4_copyFrom yX4_copyFrom, Cond.code yX4_copyFrom cX4_copyFrom 2 none, Cond.fieldLink RX4 9 "TrolleyGang$Wires" "worn" "[I", Cond.methodLink RX4 18 arraycopyName, Cond.native arraycopyName, Cond.static arraycopyName, Cond.initialized "java/lang/System", Cond.fieldLink RX4 15 "TrolleyGang$Wires" "frost" "[I", Cond.instanceMethod yX1_copyFrom, Cond.initialized RX1, Cond.selects RX1 yX1_copyFrom yX1_copyFrom, Cond.code yX1_copyFrom cX1_copyFrom 2 none, Cond.fieldLink RX1 9 "TrolleyGang$Gang" "orders" "[I", Cond.methodLink RX1 15 arraycopyName, Cond.fieldLink RX1 21 "TrolleyGang$Gang" "orderCount" "I", Cond.fieldLink RX1 25 "TrolleyGang$Gang" "at" "I", Cond.fieldLink RX1 28 "TrolleyGang$Gang" "worksAtFirst" "I", Cond.fieldLink RX1 31 "TrolleyGang$Gang" "worksInAll" "I", Cond.fieldLink RX1 34 "TrolleyGang$Gang" "putUpInAll" "I", Cond.instanceMethod yX0_copyFrom, Cond.initialized RX0, Cond.selects RX0 yX0_copyFrom yX0_copyFrom, Cond.code yX0_copyFrom cX0_copyFrom 2 none]
def wsX5_advise_r3 : List Cond := [Cond.fieldLink RX0 7 "TrolleyGang$Bus" "at" "I", Cond.fieldLink RX0 13 "TrolleyGang$Bus" "hasScraper" "Z", Cond.fieldLink RX0 17 "TrolleyGang$Bus" "runs" "Z", Cond.fieldLink RX0 20 "TrolleyGang$Bus" "spansInAll" "I", Cond.fieldLink RX0 23 "TrolleyGang$Bus" "faresInAll" "I", Cond.fieldLink RX0 26 "TrolleyGang$Bus" "hoursStuck" "I", Cond.instanceMethod yX1_haveOnly, Cond.selects RX1 yX1_haveOnly yX1_haveOnly, Cond.code yX1_haveOnly cX1_haveOnly 2 none, Cond.instanceMethod yX2_letGoBy, Cond.selects RX2 yX2_letGoBy yX2_letGoBy, Cond.code yX2_letGoBy cX2_letGoBy 4 none, Cond.methodLink RX2 52 yX2_letHourGoBy, Cond.instanceMethod yX2_letHourGoBy, Cond.selects RX2 yX2_letHourGoBy yX2_letHourGoBy, Cond.code yX2_letHourGoBy cX2_letHourGoBy 5 none, Cond.static yX5_isNightAt, Cond.code yX5_isNightAt cX5_isNightAt 2 (some .boolean), Cond.instanceMethod yX4_freeze, Cond.selects RX4 yX4_freeze yX4_freeze, Cond.code yX4_freeze cX4_freeze 3 none, Cond.methodLink RX4 24 Lib.Math.min.name, Cond.static Lib.Math.min.name, Cond.initialized "java/lang/Math"]
def wsX5_advise_r4 : List Cond := [Cond.code Lib.Math.min.name Lib.Math.min.code 2 (some .int), Cond.instanceMethod yX4_thaw, Cond.selects RX4 yX4_thaw yX4_thaw, Cond.code yX4_thaw cX4_thaw 2 none, Cond.methodLink RX4 30 Lib.Math.max.name, Cond.static Lib.Math.max.name, Cond.code Lib.Math.max.name Lib.Math.max.code 2 (some .int), Cond.methodLink RX2 76 yX2_letSwanFly, Cond.instanceMethod yX2_letSwanFly, Cond.selects RX2 yX2_letSwanFly yX2_letSwanFly, Cond.code yX2_letSwanFly cX2_letSwanFly 2 none, Cond.instanceMethod yX4_isDown, Cond.selects RX4 yX4_isDown yX4_isDown, Cond.code yX4_isDown cX4_isDown 2 (some .boolean), Cond.instanceMethod yX4_wear, Cond.selects RX4 yX4_wear yX4_wear, Cond.code yX4_wear cX4_wear 3 none, Cond.instanceMethod yX3_fare, Cond.initialized RX3, Cond.selects RX3 yX3_fare yX3_fare, Cond.code yX3_fare cX3_fare 2 (some .int), Cond.fieldLink RX3 22 "TrolleyGang$Tables" "fareByNight" "I", Cond.fieldLink RX3 18 "TrolleyGang$Tables" "fareByDay" "I", Cond.methodLink RX2 83 yX2_drive]
def wsX5_advise_r5 : List Cond := [Cond.instanceMethod yX2_drive, Cond.selects RX2 yX2_drive yX2_drive, Cond.code yX2_drive cX2_drive 5 none, Cond.methodLink RX2 87 yX2_letGangWork, Cond.instanceMethod yX2_letGangWork, Cond.selects RX2 yX2_letGangWork yX2_letGangWork, Cond.code yX2_letGangWork cX2_letGangWork 1 none, Cond.instanceMethod yX1_goToFirst, Cond.selects RX1 yX1_goToFirst yX1_goToFirst, Cond.code yX1_goToFirst cX1_goToFirst 4 none, Cond.methodLink RX1 41 Lib.Math.min.name, Cond.methodLink RX1 37 yX1_spansUpwardsToFirst, Cond.instanceMethod yX1_spansUpwardsToFirst, Cond.selects RX1 yX1_spansUpwardsToFirst yX1_spansUpwardsToFirst, Cond.code yX1_spansUpwardsToFirst cX1_spansUpwardsToFirst 1 (some .int), Cond.methodLink RX2 135 yX2_isOrderDoneByWorkAt, Cond.instanceMethod yX2_isOrderDoneByWorkAt, Cond.selects RX2 yX2_isOrderDoneByWorkAt yX2_isOrderDoneByWorkAt, Cond.code yX2_isOrderDoneByWorkAt cX2_isOrderDoneByWorkAt 2 (some .boolean), Cond.instanceMethod yX4_mend, Cond.selects RX4 yX4_mend yX4_mend, Cond.code yX4_mend cX4_mend 3 none, Cond.instanceMethod yX4_putUp, Cond.selects RX4 yX4_putUp yX4_putUp]
def wsX5_advise_r6 : List Cond := [Cond.code yX4_putUp cX4_putUp 2 none, Cond.instanceMethod yX1_takeOut, Cond.selects RX1 yX1_takeOut yX1_takeOut, Cond.code yX1_takeOut cX1_takeOut 3 none]
def wsX5_advise : List Cond := .code yX5_advise cX5_advise 6 (some .int) :: ((wsX5_advise_r1 ++ (wsX5_advise_r2 ++ (wsX5_advise_r3 ++ (wsX5_advise_r4 ++ (wsX5_advise_r5 ++ wsX5_advise_r6))))) ++ wsX50 ++ wsX20 ++ wsX40 ++ wsX10 ++ wsX00 ++ wsX30 ++ (vx_atS RX5 37 "java/lang/IllegalArgumentException" ["java/lang/RuntimeException", "java/lang/Exception"]).filter goodWord)
def wsX5_mean : List Cond := .code yX5_mean cX5_mean 1 (some .double) :: ([.fieldLink RX5 19 "TrolleyGang" "now" "LTrolleyGang$Ring;", .constantDouble RX5 202 (4627448617123184640), .instanceMethod yX4_wornInAll, .initialized RX4, .selects RX4 yX4_wornInAll yX4_wornInAll, .code yX4_wornInAll cX4_wornInAll 3 (some .int), .fieldLink RX4 9 "TrolleyGang$Wires" "worn" "[I"] ++ wsX50 ++ wsX20 ++ wsX40)
def wsX5_digestOfTables : List Cond := .code yX5_digestOfTables cX5_digestOfTables 6 (some .long) :: ([.constantLong RX5 206 (31), .fieldLink RX5 10 "TrolleyGang" "tables" "LTrolleyGang$Tables;"] ++ wsX50 ++ wsX30)
def wsX5_digest_r1 : List Cond := [Cond.constantLong RX5 204 (1301), Cond.constantLong RX5 206 (31), Cond.fieldLink RX5 19 "TrolleyGang" "now" "LTrolleyGang$Ring;", Cond.methodLink RX5 208 yX5_count, Cond.instanceMethod yX5_count, Cond.selects RX5 yX5_count yX5_count, Cond.initialized RX5, Cond.code yX5_count cX5_count 2 (some .int), Cond.methodLink RX5 99 yX5_checkWhat, Cond.static yX5_checkWhat, Cond.code yX5_checkWhat cX5_checkWhat 2 none, Cond.classLink RX5 26 "java/lang/IndexOutOfBoundsException", Cond.initialized "java/lang/IndexOutOfBoundsException", Cond.instanceMethod yX2_tally, Cond.initialized RX2, Cond.selects RX2 yX2_tally yX2_tally, Cond.code yX2_tally cX2_tally 2 (some .int), Cond.fieldLink RX2 46 "TrolleyGang$Ring" "hour" "I", Cond.fieldLink RX2 49 "TrolleyGang$Ring" "coins" "I", Cond.fieldLink RX2 39 "TrolleyGang$Ring" "busCount" "I", Cond.fieldLink RX2 12 "TrolleyGang$Ring" "wires" "LTrolleyGang$Wires;", Cond.static yX5_isNightAt, Cond.code yX5_isNightAt cX5_isNightAt 2 (some .boolean), Cond.static yX5_oneIf]
def wsX5_digest_r2 : List Cond := [Cond.code yX5_oneIf cX5_oneIf 1 (some .int), Cond.methodLink RX2 156 yX2_busesRunning, Cond.instanceMethod yX2_busesRunning, Cond.selects RX2 yX2_busesRunning yX2_busesRunning, Cond.code yX2_busesRunning cX2_busesRunning 3 (some .int), Cond.fieldLink RX2 27 "TrolleyGang$Ring" "buses" "[LTrolleyGang$Bus;", Cond.instanceMethod yX4_spansDown, Cond.initialized RX4, Cond.selects RX4 yX4_spansDown yX4_spansDown, Cond.code yX4_spansDown cX4_spansDown 3 (some .int), Cond.methodLink RX4 33 yX4_isDown, Cond.instanceMethod yX4_isDown, Cond.selects RX4 yX4_isDown yX4_isDown, Cond.code yX4_isDown cX4_isDown 2 (some .boolean), Cond.fieldLink RX4 9 "TrolleyGang$Wires" "worn" "[I", Cond.instanceMethod yX4_wornInAll, Cond.selects RX4 yX4_wornInAll yX4_wornInAll, Cond.code yX4_wornInAll cX4_wornInAll 3 (some .int), Cond.instanceMethod yX4_frostInAll, Cond.selects RX4 yX4_frostInAll yX4_frostInAll, Cond.code yX4_frostInAll cX4_frostInAll 3 (some .int), Cond.fieldLink RX4 15 "TrolleyGang$Wires" "frost" "[I", Cond.methodLink RX2 169 yX2_hoursStuckInAll, Cond.instanceMethod yX2_hoursStuckInAll]
def wsX5_digest_r3 : List Cond := [Cond.selects RX2 yX2_hoursStuckInAll yX2_hoursStuckInAll, Cond.code yX2_hoursStuckInAll cX2_hoursStuckInAll 3 (some .int), Cond.methodLink RX5 211 yX5_digestOfTables, Cond.instanceMethod yX5_digestOfTables, Cond.selects RX5 yX5_digestOfTables yX5_digestOfTables, Cond.code yX5_digestOfTables cX5_digestOfTables 6 (some .long), Cond.fieldLink RX5 10 "TrolleyGang" "tables" "LTrolleyGang$Tables;", Cond.methodLink RX5 215 yX5_gang, Cond.instanceMethod yX5_gang, Cond.selects RX5 yX5_gang yX5_gang, Cond.code yX5_gang cX5_gang 3 (some .int), Cond.instanceMethod yX1_hoursToFirst, Cond.initialized RX1, Cond.selects RX1 yX1_hoursToFirst yX1_hoursToFirst, Cond.code yX1_hoursToFirst cX1_hoursToFirst 3 (some .int), Cond.fieldLink RX1 21 "TrolleyGang$Gang" "orderCount" "I", Cond.methodLink RX1 41 Lib.Math.min.name, Cond.static Lib.Math.min.name, Cond.initialized "java/lang/Math", Cond.code Lib.Math.min.name Lib.Math.min.code 2 (some .int), Cond.methodLink RX1 37 yX1_spansUpwardsToFirst, Cond.instanceMethod yX1_spansUpwardsToFirst, Cond.selects RX1 yX1_spansUpwardsToFirst yX1_spansUpwardsToFirst, Cond.code yX1_spansUpwardsToFirst cX1_spansUpwardsToFirst 1 (some .int)]
def wsX5_digest_r4 : List Cond := [Cond.fieldLink RX1 9 "TrolleyGang$Gang" "orders" "[I", Cond.fieldLink RX1 25 "TrolleyGang$Gang" "at" "I", Cond.methodLink RX5 217 yX5_span, Cond.instanceMethod yX5_span, Cond.selects RX5 yX5_span yX5_span, Cond.code yX5_span cX5_span 3 (some .int), Cond.methodLink RX5 62 yX5_checkSpan, Cond.static yX5_checkSpan, Cond.code yX5_checkSpan cX5_checkSpan 1 none, Cond.methodLink RX5 103 yX5_oneIf, Cond.instanceMethod yX2_busesAt, Cond.selects RX2 yX2_busesAt yX2_busesAt, Cond.code yX2_busesAt cX2_busesAt 4 (some .int), Cond.instanceMethod yX1_placeOf, Cond.selects RX1 yX1_placeOf yX1_placeOf, Cond.code yX1_placeOf cX1_placeOf 3 (some .int), Cond.methodLink RX5 220 yX5_told, Cond.instanceMethod yX5_told, Cond.selects RX5 yX5_told yX5_told, Cond.code yX5_told cX5_told 4 (some .int), Cond.methodLink RX5 84 yX5_checkBus, Cond.instanceMethod yX5_checkBus, Cond.selects RX5 yX5_checkBus yX5_checkBus, Cond.code yX5_checkBus cX5_checkBus 2 none]
def wsX5_digest_r5 : List Cond := [Cond.instanceMethod yX4_spansUpBehind, Cond.selects RX4 yX4_spansUpBehind yX4_spansUpBehind, Cond.code yX4_spansUpBehind cX4_spansUpBehind 3 (some .int)]
def wsX5_digest : List Cond := .code yX5_digest cX5_digest 5 (some .long) :: ((wsX5_digest_r1 ++ (wsX5_digest_r2 ++ (wsX5_digest_r3 ++ (wsX5_digest_r4 ++ wsX5_digest_r5)))) ++ wsX50 ++ wsX20 ++ wsX00 ++ wsX40 ++ wsX30 ++ wsX10 ++ (vx_atS RX5 30 "java/lang/IndexOutOfBoundsException" ["java/lang/RuntimeException", "java/lang/Exception"]).filter goodWord)
def wsX6_thrown : List Cond := .code yX6_thrown cX6_thrown 1 (some .int) :: ([.fieldLink RX6 1 "TrolleyGangModel" "thrown" "I"] ++ wsX60)
def wsX6_no : List Cond := .code yX6_no cX6_no 2 (some .int) :: ([.fieldLink RX6 1 "TrolleyGangModel" "thrown" "I"] ++ wsX60)
def wsX6_isIn : List Cond := .code yX6_isIn cX6_isIn 3 (some .boolean) :: ([])
def wsX6_init : List Cond := .code yX6_init cX6_init 2 none :: ([.methodLink RX6 7 objectInit, .instanceMethod objectInit, .code objectInit ⟨#[0xb1]⟩ 1 none, .fieldLink RX6 13 "TrolleyGangModel" "fareByDay" "I", .fieldLink RX6 16 "TrolleyGangModel" "fareByNight" "I", .arrayClass .int, .fieldLink RX6 19 "TrolleyGangModel" "cold" "[I", .fieldLink RX6 23 "TrolleyGangModel" "swan" "[I", .fieldLink RX6 26 "TrolleyGangModel" "now" "[I", .fieldLink RX6 29 "TrolleyGangModel" "ahead" "[I"] ++ wsX60)
def wsX6_isSpan : List Cond := .code yX6_isSpan cX6_isSpan 1 (some .boolean) :: ([.methodLink RX6 32 yX6_isIn, .static yX6_isIn, .initialized RX6, .code yX6_isIn cX6_isIn 3 (some .boolean)])
def wsX6_isBus : List Cond := .code yX6_isBus cX6_isBus 2 (some .boolean) :: ([.fieldLink RX6 36 "TrolleyGangModel" "buses" "I", .methodLink RX6 32 yX6_isIn, .static yX6_isIn, .initialized RX6, .code yX6_isIn cX6_isIn 3 (some .boolean)] ++ wsX60)
def wsX6_isNight : List Cond := .code yX6_isNight cX6_isNight 1 (some .boolean) :: ([])
def wsX6_put : List Cond := .code yX6_put cX6_put 4 (some .int) :: ([])
def wsX6_setCold : List Cond := .code yX6_setCold cX6_setCold 3 (some .int) :: ([.fieldLink RX6 1 "TrolleyGangModel" "thrown" "I", .fieldLink RX6 19 "TrolleyGangModel" "cold" "[I", .methodLink RX6 32 yX6_isIn, .static yX6_isIn, .initialized RX6, .code yX6_isIn cX6_isIn 3 (some .boolean), .methodLink RX6 39 yX6_no, .instanceMethod yX6_no, .selects RX6 yX6_no yX6_no, .code yX6_no cX6_no 2 (some .int), .methodLink RX6 43 yX6_put, .static yX6_put, .code yX6_put cX6_put 4 (some .int)] ++ wsX60)
def wsX6_setSwan : List Cond := .code yX6_setSwan cX6_setSwan 3 (some .int) :: ([.fieldLink RX6 1 "TrolleyGangModel" "thrown" "I", .fieldLink RX6 23 "TrolleyGangModel" "swan" "[I", .methodLink RX6 32 yX6_isIn, .static yX6_isIn, .initialized RX6, .code yX6_isIn cX6_isIn 3 (some .boolean), .methodLink RX6 39 yX6_no, .instanceMethod yX6_no, .selects RX6 yX6_no yX6_no, .code yX6_no cX6_no 2 (some .int), .methodLink RX6 43 yX6_put, .static yX6_put, .code yX6_put cX6_put 4 (some .int)] ++ wsX60)
def wsX6_setFare : List Cond := .code yX6_setFare cX6_setFare 4 (some .int) :: ([.fieldLink RX6 1 "TrolleyGangModel" "thrown" "I", .fieldLink RX6 16 "TrolleyGangModel" "fareByNight" "I", .fieldLink RX6 13 "TrolleyGangModel" "fareByDay" "I", .methodLink RX6 32 yX6_isIn, .static yX6_isIn, .initialized RX6, .code yX6_isIn cX6_isIn 3 (some .boolean), .methodLink RX6 39 yX6_no, .instanceMethod yX6_no, .selects RX6 yX6_no yX6_no, .code yX6_no cX6_no 2 (some .int)] ++ wsX60)
def wsX6_bus : List Cond := .code yX6_bus cX6_bus 4 (some .int) :: ([.fieldLink RX6 1 "TrolleyGangModel" "thrown" "I", .fieldLink RX6 36 "TrolleyGangModel" "buses" "I", .fieldLink RX6 26 "TrolleyGangModel" "now" "[I", .methodLink RX6 47 yX6_isSpan, .static yX6_isSpan, .initialized RX6, .code yX6_isSpan cX6_isSpan 1 (some .boolean), .methodLink RX6 32 yX6_isIn, .static yX6_isIn, .code yX6_isIn cX6_isIn 3 (some .boolean), .methodLink RX6 39 yX6_no, .instanceMethod yX6_no, .selects RX6 yX6_no yX6_no, .code yX6_no cX6_no 2 (some .int)] ++ wsX60)
def wsX6_fit : List Cond := .code yX6_fit cX6_fit 3 (some .int) :: ([.fieldLink RX6 1 "TrolleyGangModel" "thrown" "I", .fieldLink RX6 26 "TrolleyGangModel" "now" "[I", .methodLink RX6 51 yX6_isBus, .instanceMethod yX6_isBus, .selects RX6 yX6_isBus yX6_isBus, .initialized RX6, .code yX6_isBus cX6_isBus 2 (some .boolean), .fieldLink RX6 36 "TrolleyGangModel" "buses" "I", .methodLink RX6 32 yX6_isIn, .static yX6_isIn, .code yX6_isIn cX6_isIn 3 (some .boolean), .methodLink RX6 39 yX6_no, .instanceMethod yX6_no, .selects RX6 yX6_no yX6_no, .code yX6_no cX6_no 2 (some .int)] ++ wsX60)
def wsX6_park : List Cond := .code yX6_park cX6_park 2 (some .boolean) :: ([.fieldLink RX6 1 "TrolleyGangModel" "thrown" "I", .fieldLink RX6 26 "TrolleyGangModel" "now" "[I", .methodLink RX6 51 yX6_isBus, .instanceMethod yX6_isBus, .selects RX6 yX6_isBus yX6_isBus, .initialized RX6, .code yX6_isBus cX6_isBus 2 (some .boolean), .fieldLink RX6 36 "TrolleyGangModel" "buses" "I", .methodLink RX6 32 yX6_isIn, .static yX6_isIn, .code yX6_isIn cX6_isIn 3 (some .boolean), .methodLink RX6 39 yX6_no, .instanceMethod yX6_no, .selects RX6 yX6_no yX6_no, .code yX6_no cX6_no 2 (some .int)] ++ wsX60)
def wsX6_free : List Cond := .code yX6_free cX6_free 3 (some .int) :: ([.fieldLink RX6 26 "TrolleyGangModel" "now" "[I"] ++ wsX60)
def wsX6_busTold : List Cond := .code yX6_busTold cX6_busTold 3 (some .int) :: ([.fieldLink RX6 26 "TrolleyGangModel" "now" "[I", .methodLink RX6 54 yX6_free, .instanceMethod yX6_free, .selects RX6 yX6_free yX6_free, .initialized RX6, .code yX6_free cX6_free 3 (some .int)] ++ wsX60)
def wsX6_told : List Cond := .code yX6_told cX6_told 3 (some .int) :: ([.fieldLink RX6 1 "TrolleyGangModel" "thrown" "I", .methodLink RX6 51 yX6_isBus, .instanceMethod yX6_isBus, .selects RX6 yX6_isBus yX6_isBus, .initialized RX6, .code yX6_isBus cX6_isBus 2 (some .boolean), .fieldLink RX6 36 "TrolleyGangModel" "buses" "I", .methodLink RX6 32 yX6_isIn, .static yX6_isIn, .code yX6_isIn cX6_isIn 3 (some .boolean), .methodLink RX6 57 yX6_busTold, .instanceMethod yX6_busTold, .selects RX6 yX6_busTold yX6_busTold, .code yX6_busTold cX6_busTold 3 (some .int), .fieldLink RX6 26 "TrolleyGangModel" "now" "[I", .methodLink RX6 54 yX6_free, .instanceMethod yX6_free, .selects RX6 yX6_free yX6_free, .code yX6_free cX6_free 3 (some .int), .methodLink RX6 39 yX6_no, .instanceMethod yX6_no, .selects RX6 yX6_no yX6_no, .code yX6_no cX6_no 2 (some .int)] ++ wsX60)
def wsX6_busesAt : List Cond := .code yX6_busesAt cX6_busesAt 4 (some .int) :: ([.fieldLink RX6 36 "TrolleyGangModel" "buses" "I", .fieldLink RX6 26 "TrolleyGangModel" "now" "[I"] ++ wsX60)
def wsX6_placeOf : List Cond := .code yX6_placeOf cX6_placeOf 3 (some .int) :: ([.fieldLink RX6 26 "TrolleyGangModel" "now" "[I"] ++ wsX60)
def wsX6_spanTold : List Cond := .code yX6_spanTold cX6_spanTold 3 (some .int) :: ([.fieldLink RX6 26 "TrolleyGangModel" "now" "[I", .methodLink RX6 61 yX6_busesAt, .instanceMethod yX6_busesAt, .selects RX6 yX6_busesAt yX6_busesAt, .initialized RX6, .code yX6_busesAt cX6_busesAt 4 (some .int), .fieldLink RX6 36 "TrolleyGangModel" "buses" "I", .methodLink RX6 64 yX6_placeOf, .instanceMethod yX6_placeOf, .selects RX6 yX6_placeOf yX6_placeOf, .code yX6_placeOf cX6_placeOf 3 (some .int)] ++ wsX60)
def wsX6_span_r1 : List Cond := [Cond.fieldLink RX6 1 "TrolleyGangModel" "thrown" "I", Cond.methodLink RX6 47 yX6_isSpan, Cond.static yX6_isSpan, Cond.initialized RX6, Cond.code yX6_isSpan cX6_isSpan 1 (some .boolean), Cond.methodLink RX6 32 yX6_isIn, Cond.static yX6_isIn, Cond.code yX6_isIn cX6_isIn 3 (some .boolean), Cond.methodLink RX6 67 yX6_spanTold, Cond.instanceMethod yX6_spanTold, Cond.selects RX6 yX6_spanTold yX6_spanTold, Cond.code yX6_spanTold cX6_spanTold 3 (some .int), Cond.fieldLink RX6 26 "TrolleyGangModel" "now" "[I", Cond.methodLink RX6 61 yX6_busesAt, Cond.instanceMethod yX6_busesAt, Cond.selects RX6 yX6_busesAt yX6_busesAt, Cond.code yX6_busesAt cX6_busesAt 4 (some .int), Cond.fieldLink RX6 36 "TrolleyGangModel" "buses" "I", Cond.methodLink RX6 64 yX6_placeOf, Cond.instanceMethod yX6_placeOf, Cond.selects RX6 yX6_placeOf yX6_placeOf, Cond.code yX6_placeOf cX6_placeOf 3 (some .int), Cond.methodLink RX6 39 yX6_no, Cond.instanceMethod yX6_no]
def wsX6_span_r2 : List Cond := [Cond.selects RX6 yX6_no yX6_no, Cond.code yX6_no cX6_no 2 (some .int)]
def wsX6_span : List Cond := .code yX6_span cX6_span 3 (some .int) :: ((wsX6_span_r1 ++ wsX6_span_r2) ++ wsX60)
def wsX6_order : List Cond := .code yX6_order cX6_order 2 (some .int) :: ([.fieldLink RX6 1 "TrolleyGangModel" "thrown" "I", .fieldLink RX6 26 "TrolleyGangModel" "now" "[I", .methodLink RX6 47 yX6_isSpan, .static yX6_isSpan, .initialized RX6, .code yX6_isSpan cX6_isSpan 1 (some .boolean), .methodLink RX6 32 yX6_isIn, .static yX6_isIn, .code yX6_isIn cX6_isIn 3 (some .boolean), .methodLink RX6 39 yX6_no, .instanceMethod yX6_no, .selects RX6 yX6_no yX6_no, .code yX6_no cX6_no 2 (some .int), .methodLink RX6 64 yX6_placeOf, .instanceMethod yX6_placeOf, .selects RX6 yX6_placeOf yX6_placeOf, .code yX6_placeOf cX6_placeOf 3 (some .int)] ++ wsX60)
def wsX6_remove : List Cond := .code yX6_remove cX6_remove 3 none :: ([])
def wsX6_cancel : List Cond := .code yX6_cancel cX6_cancel 3 (some .int) :: ([.fieldLink RX6 1 "TrolleyGangModel" "thrown" "I", .fieldLink RX6 26 "TrolleyGangModel" "now" "[I", .methodLink RX6 47 yX6_isSpan, .static yX6_isSpan, .initialized RX6, .code yX6_isSpan cX6_isSpan 1 (some .boolean), .methodLink RX6 32 yX6_isIn, .static yX6_isIn, .code yX6_isIn cX6_isIn 3 (some .boolean), .methodLink RX6 39 yX6_no, .instanceMethod yX6_no, .selects RX6 yX6_no yX6_no, .code yX6_no cX6_no 2 (some .int), .methodLink RX6 64 yX6_placeOf, .instanceMethod yX6_placeOf, .selects RX6 yX6_placeOf yX6_placeOf, .code yX6_placeOf cX6_placeOf 3 (some .int), .methodLink RX6 70 yX6_remove, .static yX6_remove, .code yX6_remove cX6_remove 3 none] ++ wsX60)
def wsX6_upwards : List Cond := .code yX6_upwards cX6_upwards 2 (some .int) :: ([])
def wsX6_hoursTill : List Cond := .code yX6_hoursTill cX6_hoursTill 3 (some .int) :: ([.fieldLink RX6 26 "TrolleyGangModel" "now" "[I", .methodLink RX6 77 Lib.Math.min.name, .static Lib.Math.min.name, .initialized "java/lang/Math", .code Lib.Math.min.name Lib.Math.min.code 2 (some .int), .methodLink RX6 74 yX6_upwards, .static yX6_upwards, .initialized RX6, .code yX6_upwards cX6_upwards 2 (some .int)] ++ wsX60)
def wsX6_gangTold : List Cond := .code yX6_gangTold cX6_gangTold 3 (some .int) :: ([.fieldLink RX6 26 "TrolleyGangModel" "now" "[I", .methodLink RX6 82 yX6_hoursTill, .instanceMethod yX6_hoursTill, .selects RX6 yX6_hoursTill yX6_hoursTill, .initialized RX6, .code yX6_hoursTill cX6_hoursTill 3 (some .int), .methodLink RX6 77 Lib.Math.min.name, .static Lib.Math.min.name, .initialized "java/lang/Math", .code Lib.Math.min.name Lib.Math.min.code 2 (some .int), .methodLink RX6 74 yX6_upwards, .static yX6_upwards, .code yX6_upwards cX6_upwards 2 (some .int)] ++ wsX60)
def wsX6_gang_r1 : List Cond := [Cond.fieldLink RX6 1 "TrolleyGangModel" "thrown" "I", Cond.methodLink RX6 32 yX6_isIn, Cond.static yX6_isIn, Cond.initialized RX6, Cond.code yX6_isIn cX6_isIn 3 (some .boolean), Cond.methodLink RX6 85 yX6_gangTold, Cond.instanceMethod yX6_gangTold, Cond.selects RX6 yX6_gangTold yX6_gangTold, Cond.code yX6_gangTold cX6_gangTold 3 (some .int), Cond.fieldLink RX6 26 "TrolleyGangModel" "now" "[I", Cond.methodLink RX6 82 yX6_hoursTill, Cond.instanceMethod yX6_hoursTill, Cond.selects RX6 yX6_hoursTill yX6_hoursTill, Cond.code yX6_hoursTill cX6_hoursTill 3 (some .int), Cond.methodLink RX6 77 Lib.Math.min.name, Cond.static Lib.Math.min.name, Cond.initialized "java/lang/Math", Cond.code Lib.Math.min.name Lib.Math.min.code 2 (some .int), Cond.methodLink RX6 74 yX6_upwards, Cond.static yX6_upwards, Cond.code yX6_upwards cX6_upwards 2 (some .int), Cond.methodLink RX6 39 yX6_no, Cond.instanceMethod yX6_no, Cond.selects RX6 yX6_no yX6_no]
def wsX6_gang_r2 : List Cond := [Cond.code yX6_no cX6_no 2 (some .int)]
def wsX6_gang : List Cond := .code yX6_gang cX6_gang 2 (some .int) :: ((wsX6_gang_r1 ++ wsX6_gang_r2) ++ wsX60)
def wsX6_sum : List Cond := .code yX6_sum cX6_sum 4 (some .int) :: ([])
def wsX6_ofBuses : List Cond := .code yX6_ofBuses cX6_ofBuses 5 (some .int) :: ([.fieldLink RX6 36 "TrolleyGangModel" "buses" "I"] ++ wsX60)
def wsX6_summed : List Cond := .code yX6_summed cX6_summed 3 (some .int) :: ([.methodLink RX6 88 yX6_sum, .static yX6_sum, .initialized RX6, .code yX6_sum cX6_sum 4 (some .int), .methodLink RX6 92 yX6_ofBuses, .instanceMethod yX6_ofBuses, .selects RX6 yX6_ofBuses yX6_ofBuses, .code yX6_ofBuses cX6_ofBuses 5 (some .int), .fieldLink RX6 36 "TrolleyGangModel" "buses" "I"] ++ wsX60)
def wsX6_counted : List Cond := .code yX6_counted cX6_counted 2 (some .int) :: ([.fieldLink RX6 26 "TrolleyGangModel" "now" "[I", .fieldLink RX6 36 "TrolleyGangModel" "buses" "I", .methodLink RX6 95 yX6_isNight, .static yX6_isNight, .initialized RX6, .code yX6_isNight cX6_isNight 1 (some .boolean), .methodLink RX6 92 yX6_ofBuses, .instanceMethod yX6_ofBuses, .selects RX6 yX6_ofBuses yX6_ofBuses, .code yX6_ofBuses cX6_ofBuses 5 (some .int), .methodLink RX6 98 yX6_summed, .instanceMethod yX6_summed, .selects RX6 yX6_summed yX6_summed, .code yX6_summed cX6_summed 3 (some .int), .methodLink RX6 88 yX6_sum, .static yX6_sum, .code yX6_sum cX6_sum 4 (some .int)] ++ wsX60)
def wsX6_count_r1 : List Cond := [Cond.fieldLink RX6 1 "TrolleyGangModel" "thrown" "I", Cond.methodLink RX6 32 yX6_isIn, Cond.static yX6_isIn, Cond.initialized RX6, Cond.code yX6_isIn cX6_isIn 3 (some .boolean), Cond.methodLink RX6 101 yX6_counted, Cond.instanceMethod yX6_counted, Cond.selects RX6 yX6_counted yX6_counted, Cond.code yX6_counted cX6_counted 2 (some .int), Cond.fieldLink RX6 26 "TrolleyGangModel" "now" "[I", Cond.fieldLink RX6 36 "TrolleyGangModel" "buses" "I", Cond.methodLink RX6 95 yX6_isNight, Cond.static yX6_isNight, Cond.code yX6_isNight cX6_isNight 1 (some .boolean), Cond.methodLink RX6 92 yX6_ofBuses, Cond.instanceMethod yX6_ofBuses, Cond.selects RX6 yX6_ofBuses yX6_ofBuses, Cond.code yX6_ofBuses cX6_ofBuses 5 (some .int), Cond.methodLink RX6 98 yX6_summed, Cond.instanceMethod yX6_summed, Cond.selects RX6 yX6_summed yX6_summed, Cond.code yX6_summed cX6_summed 3 (some .int), Cond.methodLink RX6 88 yX6_sum, Cond.static yX6_sum]
def wsX6_count_r2 : List Cond := [Cond.code yX6_sum cX6_sum 4 (some .int), Cond.methodLink RX6 39 yX6_no, Cond.instanceMethod yX6_no, Cond.selects RX6 yX6_no yX6_no, Cond.code yX6_no cX6_no 2 (some .int)]
def wsX6_count : List Cond := .code yX6_count cX6_count 2 (some .int) :: ((wsX6_count_r1 ++ wsX6_count_r2) ++ wsX60)
def wsX6_wear : List Cond := .code yX6_wear cX6_wear 3 none :: ([.methodLink RX6 77 Lib.Math.min.name, .static Lib.Math.min.name, .initialized "java/lang/Math", .code Lib.Math.min.name Lib.Math.min.code 2 (some .int)])
def wsX6_freeze : List Cond := .code yX6_freeze cX6_freeze 4 none :: ([.fieldLink RX6 19 "TrolleyGangModel" "cold" "[I", .methodLink RX6 77 Lib.Math.min.name, .static Lib.Math.min.name, .initialized "java/lang/Math", .code Lib.Math.min.name Lib.Math.min.code 2 (some .int), .methodLink RX6 104 Lib.Math.max.name, .static Lib.Math.max.name, .code Lib.Math.max.name Lib.Math.max.code 2 (some .int), .methodLink RX6 95 yX6_isNight, .static yX6_isNight, .initialized RX6, .code yX6_isNight cX6_isNight 1 (some .boolean)] ++ wsX60)
def wsX6_run : List Cond := .code yX6_run cX6_run 7 none :: ([.fieldLink RX6 16 "TrolleyGangModel" "fareByNight" "I", .fieldLink RX6 13 "TrolleyGangModel" "fareByDay" "I", .methodLink RX6 95 yX6_isNight, .static yX6_isNight, .initialized RX6, .code yX6_isNight cX6_isNight 1 (some .boolean), .methodLink RX6 107 yX6_wear, .static yX6_wear, .code yX6_wear cX6_wear 3 none, .methodLink RX6 77 Lib.Math.min.name, .static Lib.Math.min.name, .initialized "java/lang/Math", .code Lib.Math.min.name Lib.Math.min.code 2 (some .int)] ++ wsX60)
def wsX6_work : List Cond := .code yX6_work cX6_work 4 none :: ([.methodLink RX6 77 Lib.Math.min.name, .static Lib.Math.min.name, .initialized "java/lang/Math", .code Lib.Math.min.name Lib.Math.min.code 2 (some .int), .methodLink RX6 104 Lib.Math.max.name, .static Lib.Math.max.name, .code Lib.Math.max.name Lib.Math.max.code 2 (some .int), .methodLink RX6 74 yX6_upwards, .static yX6_upwards, .initialized RX6, .code yX6_upwards cX6_upwards 2 (some .int), .methodLink RX6 70 yX6_remove, .static yX6_remove, .code yX6_remove cX6_remove 3 none])
def wsX6_pass_r1 : List Cond := [Cond.fieldLink RX6 23 "TrolleyGangModel" "swan" "[I", Cond.fieldLink RX6 36 "TrolleyGangModel" "buses" "I", Cond.methodLink RX6 111 yX6_freeze, Cond.instanceMethod yX6_freeze, Cond.selects RX6 yX6_freeze yX6_freeze, Cond.initialized RX6, Cond.code yX6_freeze cX6_freeze 4 none, Cond.fieldLink RX6 19 "TrolleyGangModel" "cold" "[I", Cond.methodLink RX6 77 Lib.Math.min.name, Cond.static Lib.Math.min.name, Cond.initialized "java/lang/Math", Cond.code Lib.Math.min.name Lib.Math.min.code 2 (some .int), Cond.methodLink RX6 104 Lib.Math.max.name, Cond.static Lib.Math.max.name, Cond.code Lib.Math.max.name Lib.Math.max.code 2 (some .int), Cond.methodLink RX6 95 yX6_isNight, Cond.static yX6_isNight, Cond.code yX6_isNight cX6_isNight 1 (some .boolean), Cond.methodLink RX6 107 yX6_wear, Cond.static yX6_wear, Cond.code yX6_wear cX6_wear 3 none, Cond.methodLink RX6 115 yX6_run, Cond.instanceMethod yX6_run, Cond.selects RX6 yX6_run yX6_run]
def wsX6_pass_r2 : List Cond := [Cond.code yX6_run cX6_run 7 none, Cond.fieldLink RX6 16 "TrolleyGangModel" "fareByNight" "I", Cond.fieldLink RX6 13 "TrolleyGangModel" "fareByDay" "I", Cond.methodLink RX6 118 yX6_work, Cond.static yX6_work, Cond.code yX6_work cX6_work 4 none, Cond.methodLink RX6 74 yX6_upwards, Cond.static yX6_upwards, Cond.code yX6_upwards cX6_upwards 2 (some .int), Cond.methodLink RX6 70 yX6_remove, Cond.static yX6_remove, Cond.code yX6_remove cX6_remove 3 none]
def wsX6_pass : List Cond := .code yX6_pass cX6_pass 4 none :: ((wsX6_pass_r1 ++ wsX6_pass_r2) ++ wsX60)
def wsX6_passAll_r1 : List Cond := [Cond.methodLink RX6 121 yX6_pass, Cond.instanceMethod yX6_pass, Cond.selects RX6 yX6_pass yX6_pass, Cond.initialized RX6, Cond.code yX6_pass cX6_pass 4 none, Cond.fieldLink RX6 23 "TrolleyGangModel" "swan" "[I", Cond.fieldLink RX6 36 "TrolleyGangModel" "buses" "I", Cond.methodLink RX6 111 yX6_freeze, Cond.instanceMethod yX6_freeze, Cond.selects RX6 yX6_freeze yX6_freeze, Cond.code yX6_freeze cX6_freeze 4 none, Cond.fieldLink RX6 19 "TrolleyGangModel" "cold" "[I", Cond.methodLink RX6 77 Lib.Math.min.name, Cond.static Lib.Math.min.name, Cond.initialized "java/lang/Math", Cond.code Lib.Math.min.name Lib.Math.min.code 2 (some .int), Cond.methodLink RX6 104 Lib.Math.max.name, Cond.static Lib.Math.max.name, Cond.code Lib.Math.max.name Lib.Math.max.code 2 (some .int), Cond.methodLink RX6 95 yX6_isNight, Cond.static yX6_isNight, Cond.code yX6_isNight cX6_isNight 1 (some .boolean), Cond.methodLink RX6 107 yX6_wear, Cond.static yX6_wear]
def wsX6_passAll_r2 : List Cond := [Cond.code yX6_wear cX6_wear 3 none, Cond.methodLink RX6 115 yX6_run, Cond.instanceMethod yX6_run, Cond.selects RX6 yX6_run yX6_run, Cond.code yX6_run cX6_run 7 none, Cond.fieldLink RX6 16 "TrolleyGangModel" "fareByNight" "I", Cond.fieldLink RX6 13 "TrolleyGangModel" "fareByDay" "I", Cond.methodLink RX6 118 yX6_work, Cond.static yX6_work, Cond.code yX6_work cX6_work 4 none, Cond.methodLink RX6 74 yX6_upwards, Cond.static yX6_upwards, Cond.code yX6_upwards cX6_upwards 2 (some .int), Cond.methodLink RX6 70 yX6_remove, Cond.static yX6_remove, Cond.code yX6_remove cX6_remove 3 none]
def wsX6_passAll : List Cond := .code yX6_passAll cX6_passAll 4 none :: ((wsX6_passAll_r1 ++ wsX6_passAll_r2) ++ wsX60)
def wsX6_lookAhead : List Cond := .code yX6_lookAhead cX6_lookAhead 1 none :: ([.fieldLink RX6 26 "TrolleyGangModel" "now" "[I", .fieldLink RX6 29 "TrolleyGangModel" "ahead" "[I", .methodLink RX6 124 arraycopyName, .native arraycopyName, .static arraycopyName, .initialized "java/lang/System"] ++ wsX60)
def wsX6_pass__r1 : List Cond := [Cond.fieldLink RX6 1 "TrolleyGangModel" "thrown" "I", Cond.fieldLink RX6 26 "TrolleyGangModel" "now" "[I", Cond.methodLink RX6 32 yX6_isIn, Cond.static yX6_isIn, Cond.initialized RX6, Cond.code yX6_isIn cX6_isIn 3 (some .boolean), Cond.methodLink RX6 39 yX6_no, Cond.instanceMethod yX6_no, Cond.selects RX6 yX6_no yX6_no, Cond.code yX6_no cX6_no 2 (some .int), Cond.methodLink RX6 130 yX6_passAll, Cond.instanceMethod yX6_passAll, Cond.selects RX6 yX6_passAll yX6_passAll, Cond.code yX6_passAll cX6_passAll 4 none, Cond.methodLink RX6 121 yX6_pass, Cond.instanceMethod yX6_pass, Cond.selects RX6 yX6_pass yX6_pass, Cond.code yX6_pass cX6_pass 4 none, Cond.fieldLink RX6 23 "TrolleyGangModel" "swan" "[I", Cond.fieldLink RX6 36 "TrolleyGangModel" "buses" "I", Cond.methodLink RX6 111 yX6_freeze, Cond.instanceMethod yX6_freeze, Cond.selects RX6 yX6_freeze yX6_freeze, Cond.code yX6_freeze cX6_freeze 4 none]
def wsX6_pass__r2 : List Cond := [Cond.fieldLink RX6 19 "TrolleyGangModel" "cold" "[I", Cond.methodLink RX6 77 Lib.Math.min.name, Cond.static Lib.Math.min.name, Cond.initialized "java/lang/Math", Cond.code Lib.Math.min.name Lib.Math.min.code 2 (some .int), Cond.methodLink RX6 104 Lib.Math.max.name, Cond.static Lib.Math.max.name, Cond.code Lib.Math.max.name Lib.Math.max.code 2 (some .int), Cond.methodLink RX6 95 yX6_isNight, Cond.static yX6_isNight, Cond.code yX6_isNight cX6_isNight 1 (some .boolean), Cond.methodLink RX6 107 yX6_wear, Cond.static yX6_wear, Cond.code yX6_wear cX6_wear 3 none, Cond.methodLink RX6 115 yX6_run, Cond.instanceMethod yX6_run, Cond.selects RX6 yX6_run yX6_run, Cond.code yX6_run cX6_run 7 none, Cond.fieldLink RX6 16 "TrolleyGangModel" "fareByNight" "I", Cond.fieldLink RX6 13 "TrolleyGangModel" "fareByDay" "I", Cond.methodLink RX6 118 yX6_work, Cond.static yX6_work, Cond.code yX6_work cX6_work 4 none, Cond.methodLink RX6 74 yX6_upwards]
def wsX6_pass__r3 : List Cond := [Cond.static yX6_upwards, Cond.code yX6_upwards cX6_upwards 2 (some .int), Cond.methodLink RX6 70 yX6_remove, Cond.static yX6_remove, Cond.code yX6_remove cX6_remove 3 none]
def wsX6_pass_ : List Cond := .code yX6_pass_ cX6_pass_ 3 (some .int) :: ((wsX6_pass__r1 ++ (wsX6_pass__r2 ++ wsX6_pass__r3)) ++ wsX60)
def wsX6_falls_r1 : List Cond := [Cond.fieldLink RX6 1 "TrolleyGangModel" "thrown" "I", Cond.fieldLink RX6 29 "TrolleyGangModel" "ahead" "[I", Cond.methodLink RX6 47 yX6_isSpan, Cond.static yX6_isSpan, Cond.initialized RX6, Cond.code yX6_isSpan cX6_isSpan 1 (some .boolean), Cond.methodLink RX6 32 yX6_isIn, Cond.static yX6_isIn, Cond.code yX6_isIn cX6_isIn 3 (some .boolean), Cond.methodLink RX6 39 yX6_no, Cond.instanceMethod yX6_no, Cond.selects RX6 yX6_no yX6_no, Cond.code yX6_no cX6_no 2 (some .int), Cond.methodLink RX6 133 yX6_lookAhead, Cond.instanceMethod yX6_lookAhead, Cond.selects RX6 yX6_lookAhead yX6_lookAhead, Cond.code yX6_lookAhead cX6_lookAhead 1 none, Cond.fieldLink RX6 26 "TrolleyGangModel" "now" "[I", Cond.methodLink RX6 124 arraycopyName, Cond.native arraycopyName, Cond.static arraycopyName, Cond.initialized "java/lang/System", Cond.methodLink RX6 121 yX6_pass, Cond.instanceMethod yX6_pass]
def wsX6_falls_r2 : List Cond := [Cond.selects RX6 yX6_pass yX6_pass, Cond.code yX6_pass cX6_pass 4 none, Cond.fieldLink RX6 23 "TrolleyGangModel" "swan" "[I", Cond.fieldLink RX6 36 "TrolleyGangModel" "buses" "I", Cond.methodLink RX6 111 yX6_freeze, Cond.instanceMethod yX6_freeze, Cond.selects RX6 yX6_freeze yX6_freeze, Cond.code yX6_freeze cX6_freeze 4 none, Cond.fieldLink RX6 19 "TrolleyGangModel" "cold" "[I", Cond.methodLink RX6 77 Lib.Math.min.name, Cond.static Lib.Math.min.name, Cond.initialized "java/lang/Math", Cond.code Lib.Math.min.name Lib.Math.min.code 2 (some .int), Cond.methodLink RX6 104 Lib.Math.max.name, Cond.static Lib.Math.max.name, Cond.code Lib.Math.max.name Lib.Math.max.code 2 (some .int), Cond.methodLink RX6 95 yX6_isNight, Cond.static yX6_isNight, Cond.code yX6_isNight cX6_isNight 1 (some .boolean), Cond.methodLink RX6 107 yX6_wear, Cond.static yX6_wear, Cond.code yX6_wear cX6_wear 3 none, Cond.methodLink RX6 115 yX6_run, Cond.instanceMethod yX6_run]
def wsX6_falls_r3 : List Cond := [Cond.selects RX6 yX6_run yX6_run, Cond.code yX6_run cX6_run 7 none, Cond.fieldLink RX6 16 "TrolleyGangModel" "fareByNight" "I", Cond.fieldLink RX6 13 "TrolleyGangModel" "fareByDay" "I", Cond.methodLink RX6 118 yX6_work, Cond.static yX6_work, Cond.code yX6_work cX6_work 4 none, Cond.methodLink RX6 74 yX6_upwards, Cond.static yX6_upwards, Cond.code yX6_upwards cX6_upwards 2 (some .int), Cond.methodLink RX6 70 yX6_remove, Cond.static yX6_remove, Cond.code yX6_remove cX6_remove 3 none]
def wsX6_falls : List Cond := .code yX6_falls cX6_falls 3 (some .int) :: ((wsX6_falls_r1 ++ (wsX6_falls_r2 ++ wsX6_falls_r3)) ++ wsX60)
def wsX6_foresee_r1 : List Cond := [Cond.fieldLink RX6 1 "TrolleyGangModel" "thrown" "I", Cond.fieldLink RX6 29 "TrolleyGangModel" "ahead" "[I", Cond.methodLink RX6 32 yX6_isIn, Cond.static yX6_isIn, Cond.initialized RX6, Cond.code yX6_isIn cX6_isIn 3 (some .boolean), Cond.methodLink RX6 39 yX6_no, Cond.instanceMethod yX6_no, Cond.selects RX6 yX6_no yX6_no, Cond.code yX6_no cX6_no 2 (some .int), Cond.methodLink RX6 133 yX6_lookAhead, Cond.instanceMethod yX6_lookAhead, Cond.selects RX6 yX6_lookAhead yX6_lookAhead, Cond.code yX6_lookAhead cX6_lookAhead 1 none, Cond.fieldLink RX6 26 "TrolleyGangModel" "now" "[I", Cond.methodLink RX6 124 arraycopyName, Cond.native arraycopyName, Cond.static arraycopyName, Cond.initialized "java/lang/System", Cond.methodLink RX6 130 yX6_passAll, Cond.instanceMethod yX6_passAll, Cond.selects RX6 yX6_passAll yX6_passAll, Cond.code yX6_passAll cX6_passAll 4 none, Cond.methodLink RX6 121 yX6_pass]
def wsX6_foresee_r2 : List Cond := [Cond.instanceMethod yX6_pass, Cond.selects RX6 yX6_pass yX6_pass, Cond.code yX6_pass cX6_pass 4 none, Cond.fieldLink RX6 23 "TrolleyGangModel" "swan" "[I", Cond.fieldLink RX6 36 "TrolleyGangModel" "buses" "I", Cond.methodLink RX6 111 yX6_freeze, Cond.instanceMethod yX6_freeze, Cond.selects RX6 yX6_freeze yX6_freeze, Cond.code yX6_freeze cX6_freeze 4 none, Cond.fieldLink RX6 19 "TrolleyGangModel" "cold" "[I", Cond.methodLink RX6 77 Lib.Math.min.name, Cond.static Lib.Math.min.name, Cond.initialized "java/lang/Math", Cond.code Lib.Math.min.name Lib.Math.min.code 2 (some .int), Cond.methodLink RX6 104 Lib.Math.max.name, Cond.static Lib.Math.max.name, Cond.code Lib.Math.max.name Lib.Math.max.code 2 (some .int), Cond.methodLink RX6 95 yX6_isNight, Cond.static yX6_isNight, Cond.code yX6_isNight cX6_isNight 1 (some .boolean), Cond.methodLink RX6 107 yX6_wear, Cond.static yX6_wear, Cond.code yX6_wear cX6_wear 3 none, Cond.methodLink RX6 115 yX6_run]
def wsX6_foresee_r3 : List Cond := [Cond.instanceMethod yX6_run, Cond.selects RX6 yX6_run yX6_run, Cond.code yX6_run cX6_run 7 none, Cond.fieldLink RX6 16 "TrolleyGangModel" "fareByNight" "I", Cond.fieldLink RX6 13 "TrolleyGangModel" "fareByDay" "I", Cond.methodLink RX6 118 yX6_work, Cond.static yX6_work, Cond.code yX6_work cX6_work 4 none, Cond.methodLink RX6 74 yX6_upwards, Cond.static yX6_upwards, Cond.code yX6_upwards cX6_upwards 2 (some .int), Cond.methodLink RX6 70 yX6_remove, Cond.static yX6_remove, Cond.code yX6_remove cX6_remove 3 none, Cond.methodLink RX6 98 yX6_summed, Cond.instanceMethod yX6_summed, Cond.selects RX6 yX6_summed yX6_summed, Cond.code yX6_summed cX6_summed 3 (some .int), Cond.methodLink RX6 88 yX6_sum, Cond.static yX6_sum, Cond.code yX6_sum cX6_sum 4 (some .int), Cond.methodLink RX6 92 yX6_ofBuses, Cond.instanceMethod yX6_ofBuses, Cond.selects RX6 yX6_ofBuses yX6_ofBuses]
def wsX6_foresee_r4 : List Cond := [Cond.code yX6_ofBuses cX6_ofBuses 5 (some .int)]
def wsX6_foresee : List Cond := .code yX6_foresee cX6_foresee 3 (some .int) :: ((wsX6_foresee_r1 ++ (wsX6_foresee_r2 ++ (wsX6_foresee_r3 ++ wsX6_foresee_r4))) ++ wsX60)
def wsX6_coinsWith_r1 : List Cond := [Cond.fieldLink RX6 29 "TrolleyGangModel" "ahead" "[I", Cond.methodLink RX6 133 yX6_lookAhead, Cond.instanceMethod yX6_lookAhead, Cond.selects RX6 yX6_lookAhead yX6_lookAhead, Cond.initialized RX6, Cond.code yX6_lookAhead cX6_lookAhead 1 none, Cond.fieldLink RX6 26 "TrolleyGangModel" "now" "[I", Cond.methodLink RX6 124 arraycopyName, Cond.native arraycopyName, Cond.static arraycopyName, Cond.initialized "java/lang/System", Cond.methodLink RX6 130 yX6_passAll, Cond.instanceMethod yX6_passAll, Cond.selects RX6 yX6_passAll yX6_passAll, Cond.code yX6_passAll cX6_passAll 4 none, Cond.methodLink RX6 121 yX6_pass, Cond.instanceMethod yX6_pass, Cond.selects RX6 yX6_pass yX6_pass, Cond.code yX6_pass cX6_pass 4 none, Cond.fieldLink RX6 23 "TrolleyGangModel" "swan" "[I", Cond.fieldLink RX6 36 "TrolleyGangModel" "buses" "I", Cond.methodLink RX6 111 yX6_freeze, Cond.instanceMethod yX6_freeze, Cond.selects RX6 yX6_freeze yX6_freeze]
def wsX6_coinsWith_r2 : List Cond := [Cond.code yX6_freeze cX6_freeze 4 none, Cond.fieldLink RX6 19 "TrolleyGangModel" "cold" "[I", Cond.methodLink RX6 77 Lib.Math.min.name, Cond.static Lib.Math.min.name, Cond.initialized "java/lang/Math", Cond.code Lib.Math.min.name Lib.Math.min.code 2 (some .int), Cond.methodLink RX6 104 Lib.Math.max.name, Cond.static Lib.Math.max.name, Cond.code Lib.Math.max.name Lib.Math.max.code 2 (some .int), Cond.methodLink RX6 95 yX6_isNight, Cond.static yX6_isNight, Cond.code yX6_isNight cX6_isNight 1 (some .boolean), Cond.methodLink RX6 107 yX6_wear, Cond.static yX6_wear, Cond.code yX6_wear cX6_wear 3 none, Cond.methodLink RX6 115 yX6_run, Cond.instanceMethod yX6_run, Cond.selects RX6 yX6_run yX6_run, Cond.code yX6_run cX6_run 7 none, Cond.fieldLink RX6 16 "TrolleyGangModel" "fareByNight" "I", Cond.fieldLink RX6 13 "TrolleyGangModel" "fareByDay" "I", Cond.methodLink RX6 118 yX6_work, Cond.static yX6_work, Cond.code yX6_work cX6_work 4 none]
def wsX6_coinsWith_r3 : List Cond := [Cond.methodLink RX6 74 yX6_upwards, Cond.static yX6_upwards, Cond.code yX6_upwards cX6_upwards 2 (some .int), Cond.methodLink RX6 70 yX6_remove, Cond.static yX6_remove, Cond.code yX6_remove cX6_remove 3 none]
def wsX6_coinsWith : List Cond := .code yX6_coinsWith cX6_coinsWith 3 (some .int) :: ((wsX6_coinsWith_r1 ++ (wsX6_coinsWith_r2 ++ wsX6_coinsWith_r3)) ++ wsX60)
def wsX6_advise_r1 : List Cond := [Cond.fieldLink RX6 1 "TrolleyGangModel" "thrown" "I", Cond.methodLink RX6 32 yX6_isIn, Cond.static yX6_isIn, Cond.initialized RX6, Cond.code yX6_isIn cX6_isIn 3 (some .boolean), Cond.methodLink RX6 39 yX6_no, Cond.instanceMethod yX6_no, Cond.selects RX6 yX6_no yX6_no, Cond.code yX6_no cX6_no 2 (some .int), Cond.methodLink RX6 136 yX6_coinsWith, Cond.instanceMethod yX6_coinsWith, Cond.selects RX6 yX6_coinsWith yX6_coinsWith, Cond.code yX6_coinsWith cX6_coinsWith 3 (some .int), Cond.fieldLink RX6 29 "TrolleyGangModel" "ahead" "[I", Cond.methodLink RX6 133 yX6_lookAhead, Cond.instanceMethod yX6_lookAhead, Cond.selects RX6 yX6_lookAhead yX6_lookAhead, Cond.code yX6_lookAhead cX6_lookAhead 1 none, Cond.fieldLink RX6 26 "TrolleyGangModel" "now" "[I", Cond.methodLink RX6 124 arraycopyName, Cond.native arraycopyName, Cond.static arraycopyName, Cond.initialized "java/lang/System", Cond.methodLink RX6 130 yX6_passAll]
def wsX6_advise_r2 : List Cond := [Cond.instanceMethod yX6_passAll, Cond.selects RX6 yX6_passAll yX6_passAll, Cond.code yX6_passAll cX6_passAll 4 none, Cond.methodLink RX6 121 yX6_pass, Cond.instanceMethod yX6_pass, Cond.selects RX6 yX6_pass yX6_pass, Cond.code yX6_pass cX6_pass 4 none, Cond.fieldLink RX6 23 "TrolleyGangModel" "swan" "[I", Cond.fieldLink RX6 36 "TrolleyGangModel" "buses" "I", Cond.methodLink RX6 111 yX6_freeze, Cond.instanceMethod yX6_freeze, Cond.selects RX6 yX6_freeze yX6_freeze, Cond.code yX6_freeze cX6_freeze 4 none, Cond.fieldLink RX6 19 "TrolleyGangModel" "cold" "[I", Cond.methodLink RX6 77 Lib.Math.min.name, Cond.static Lib.Math.min.name, Cond.initialized "java/lang/Math", Cond.code Lib.Math.min.name Lib.Math.min.code 2 (some .int), Cond.methodLink RX6 104 Lib.Math.max.name, Cond.static Lib.Math.max.name, Cond.code Lib.Math.max.name Lib.Math.max.code 2 (some .int), Cond.methodLink RX6 95 yX6_isNight, Cond.static yX6_isNight, Cond.code yX6_isNight cX6_isNight 1 (some .boolean)]
def wsX6_advise_r3 : List Cond := [Cond.methodLink RX6 107 yX6_wear, Cond.static yX6_wear, Cond.code yX6_wear cX6_wear 3 none, Cond.methodLink RX6 115 yX6_run, Cond.instanceMethod yX6_run, Cond.selects RX6 yX6_run yX6_run, Cond.code yX6_run cX6_run 7 none, Cond.fieldLink RX6 16 "TrolleyGangModel" "fareByNight" "I", Cond.fieldLink RX6 13 "TrolleyGangModel" "fareByDay" "I", Cond.methodLink RX6 118 yX6_work, Cond.static yX6_work, Cond.code yX6_work cX6_work 4 none, Cond.methodLink RX6 74 yX6_upwards, Cond.static yX6_upwards, Cond.code yX6_upwards cX6_upwards 2 (some .int), Cond.methodLink RX6 70 yX6_remove, Cond.static yX6_remove, Cond.code yX6_remove cX6_remove 3 none]
def wsX6_advise : List Cond := .code yX6_advise cX6_advise 6 (some .int) :: ((wsX6_advise_r1 ++ (wsX6_advise_r2 ++ wsX6_advise_r3)) ++ wsX60)
def wsX6_mean : List Cond := .code yX6_mean cX6_mean 1 (some .double) :: ([.fieldLink RX6 1 "TrolleyGangModel" "thrown" "I", .fieldLink RX6 26 "TrolleyGangModel" "now" "[I", .constantDouble RX6 139 (4627448617123184640), .methodLink RX6 88 yX6_sum, .static yX6_sum, .initialized RX6, .code yX6_sum cX6_sum 4 (some .int)] ++ wsX60)
def wsX6_digest_r1 : List Cond := [Cond.fieldLink RX6 1 "TrolleyGangModel" "thrown" "I", Cond.constantLong RX6 141 (1301), Cond.constantLong RX6 143 (31), Cond.fieldLink RX6 19 "TrolleyGangModel" "cold" "[I", Cond.fieldLink RX6 23 "TrolleyGangModel" "swan" "[I", Cond.fieldLink RX6 13 "TrolleyGangModel" "fareByDay" "I", Cond.fieldLink RX6 16 "TrolleyGangModel" "fareByNight" "I", Cond.fieldLink RX6 36 "TrolleyGangModel" "buses" "I", Cond.methodLink RX6 101 yX6_counted, Cond.instanceMethod yX6_counted, Cond.selects RX6 yX6_counted yX6_counted, Cond.initialized RX6, Cond.code yX6_counted cX6_counted 2 (some .int), Cond.fieldLink RX6 26 "TrolleyGangModel" "now" "[I", Cond.methodLink RX6 95 yX6_isNight, Cond.static yX6_isNight, Cond.code yX6_isNight cX6_isNight 1 (some .boolean), Cond.methodLink RX6 92 yX6_ofBuses, Cond.instanceMethod yX6_ofBuses, Cond.selects RX6 yX6_ofBuses yX6_ofBuses, Cond.code yX6_ofBuses cX6_ofBuses 5 (some .int), Cond.methodLink RX6 98 yX6_summed, Cond.instanceMethod yX6_summed, Cond.selects RX6 yX6_summed yX6_summed]
def wsX6_digest_r2 : List Cond := [Cond.code yX6_summed cX6_summed 3 (some .int), Cond.methodLink RX6 88 yX6_sum, Cond.static yX6_sum, Cond.code yX6_sum cX6_sum 4 (some .int), Cond.methodLink RX6 85 yX6_gangTold, Cond.instanceMethod yX6_gangTold, Cond.selects RX6 yX6_gangTold yX6_gangTold, Cond.code yX6_gangTold cX6_gangTold 3 (some .int), Cond.methodLink RX6 82 yX6_hoursTill, Cond.instanceMethod yX6_hoursTill, Cond.selects RX6 yX6_hoursTill yX6_hoursTill, Cond.code yX6_hoursTill cX6_hoursTill 3 (some .int), Cond.methodLink RX6 77 Lib.Math.min.name, Cond.static Lib.Math.min.name, Cond.initialized "java/lang/Math", Cond.code Lib.Math.min.name Lib.Math.min.code 2 (some .int), Cond.methodLink RX6 74 yX6_upwards, Cond.static yX6_upwards, Cond.code yX6_upwards cX6_upwards 2 (some .int), Cond.methodLink RX6 67 yX6_spanTold, Cond.instanceMethod yX6_spanTold, Cond.selects RX6 yX6_spanTold yX6_spanTold, Cond.code yX6_spanTold cX6_spanTold 3 (some .int), Cond.methodLink RX6 61 yX6_busesAt]
def wsX6_digest_r3 : List Cond := [Cond.instanceMethod yX6_busesAt, Cond.selects RX6 yX6_busesAt yX6_busesAt, Cond.code yX6_busesAt cX6_busesAt 4 (some .int), Cond.methodLink RX6 64 yX6_placeOf, Cond.instanceMethod yX6_placeOf, Cond.selects RX6 yX6_placeOf yX6_placeOf, Cond.code yX6_placeOf cX6_placeOf 3 (some .int), Cond.methodLink RX6 57 yX6_busTold, Cond.instanceMethod yX6_busTold, Cond.selects RX6 yX6_busTold yX6_busTold, Cond.code yX6_busTold cX6_busTold 3 (some .int), Cond.methodLink RX6 54 yX6_free, Cond.instanceMethod yX6_free, Cond.selects RX6 yX6_free yX6_free, Cond.code yX6_free cX6_free 3 (some .int)]
def wsX6_digest : List Cond := .code yX6_digest cX6_digest 7 (some .long) :: ((wsX6_digest_r1 ++ (wsX6_digest_r2 ++ wsX6_digest_r3)) ++ wsX60)
def wsJ9_max_7cf53 : List Cond := .code yJ9_max_7cf53 cJ9_max_7cf53 2 (some .int) :: ([])
def wsJ9_min_7cf53 : List Cond := .code yJ9_min_7cf53 cJ9_min_7cf53 2 (some .int) :: ([])
def wsL_setCold : List Cond := .codeWith yL_setCold cL_setCold 5 (some .int) [(0, 10, 13, 13), (0, 10, 17, 15)] :: ([.classLink RL 13 "java/lang/IndexOutOfBoundsException", .classLink RL 15 "java/lang/IllegalArgumentException", .methodLink RL 7 yX5_setCold, .instanceMethod yX5_setCold, .selects RX5 yX5_setCold yX5_setCold, .initialized RX5, .code yX5_setCold cX5_setCold 4 (some .int), .classLink RX5 26 "java/lang/IndexOutOfBoundsException", .initialized "java/lang/IndexOutOfBoundsException", .classLink RX5 33 "java/lang/IllegalArgumentException", .initialized "java/lang/IllegalArgumentException", .fieldLink RX5 10 "TrolleyGang" "tables" "LTrolleyGang$Tables;"] ++ wsX50 ++ wsX30 ++ (vx_atS RX5 30 "java/lang/IndexOutOfBoundsException" ["java/lang/RuntimeException", "java/lang/Exception"]).filter goodWord ++ (vx_atS RX5 37 "java/lang/IllegalArgumentException" ["java/lang/RuntimeException", "java/lang/Exception"]).filter goodWord)
def wsL_setSwan : List Cond := .codeWith yL_setSwan cL_setSwan 5 (some .int) [(0, 10, 13, 13), (0, 10, 17, 15)] :: ([.classLink RL 13 "java/lang/IndexOutOfBoundsException", .classLink RL 15 "java/lang/IllegalArgumentException", .methodLink RL 17 yX5_setSwan, .instanceMethod yX5_setSwan, .selects RX5 yX5_setSwan yX5_setSwan, .initialized RX5, .code yX5_setSwan cX5_setSwan 4 (some .int), .classLink RX5 26 "java/lang/IndexOutOfBoundsException", .initialized "java/lang/IndexOutOfBoundsException", .classLink RX5 33 "java/lang/IllegalArgumentException", .initialized "java/lang/IllegalArgumentException", .fieldLink RX5 10 "TrolleyGang" "tables" "LTrolleyGang$Tables;"] ++ wsX50 ++ wsX30 ++ (vx_atS RX5 30 "java/lang/IndexOutOfBoundsException" ["java/lang/RuntimeException", "java/lang/Exception"]).filter goodWord ++ (vx_atS RX5 37 "java/lang/IllegalArgumentException" ["java/lang/RuntimeException", "java/lang/Exception"]).filter goodWord)
def wsL_setFare : List Cond := .codeWith yL_setFare cL_setFare 5 (some .int) [(0, 10, 13, 15)] :: ([.classLink RL 15 "java/lang/IllegalArgumentException", .methodLink RL 20 yX5_setFare, .instanceMethod yX5_setFare, .selects RX5 yX5_setFare yX5_setFare, .initialized RX5, .code yX5_setFare cX5_setFare 4 (some .int), .classLink RX5 33 "java/lang/IllegalArgumentException", .initialized "java/lang/IllegalArgumentException", .fieldLink RX5 10 "TrolleyGang" "tables" "LTrolleyGang$Tables;", .instanceMethod yX3_fare, .initialized RX3, .selects RX3 yX3_fare yX3_fare, .code yX3_fare cX3_fare 2 (some .int), .fieldLink RX3 22 "TrolleyGang$Tables" "fareByNight" "I", .fieldLink RX3 18 "TrolleyGang$Tables" "fareByDay" "I"] ++ wsX50 ++ wsX30 ++ (vx_atS RX5 37 "java/lang/IllegalArgumentException" ["java/lang/RuntimeException", "java/lang/Exception"]).filter goodWord)
def wsL_bus : List Cond := .codeWith yL_bus cL_bus 5 (some .int) [(0, 10, 13, 13), (0, 10, 17, 28)] :: ([.classLink RL 13 "java/lang/IndexOutOfBoundsException", .classLink RL 28 "java/lang/IllegalStateException", .methodLink RL 24 yX5_bus, .instanceMethod yX5_bus, .selects RX5 yX5_bus yX5_bus, .initialized RX5, .code yX5_bus cX5_bus 4 (some .int), .classLink RX5 69 "java/lang/IllegalStateException", .initialized "java/lang/IllegalStateException", .fieldLink RX5 19 "TrolleyGang" "now" "LTrolleyGang$Ring;", .methodLink RX5 62 yX5_checkSpan, .static yX5_checkSpan, .code yX5_checkSpan cX5_checkSpan 1 none, .classLink RX5 26 "java/lang/IndexOutOfBoundsException", .initialized "java/lang/IndexOutOfBoundsException", .instanceMethod yX0_come, .initialized RX0, .selects RX0 yX0_come yX0_come, .code yX0_come cX0_come 3 none, .fieldLink RX0 7 "TrolleyGang$Bus" "at" "I", .fieldLink RX0 13 "TrolleyGang$Bus" "hasScraper" "Z", .fieldLink RX0 17 "TrolleyGang$Bus" "runs" "Z"] ++ wsX50 ++ wsX20 ++ wsX00 ++ (vx_atS RX5 73 "java/lang/IllegalStateException" ["java/lang/RuntimeException", "java/lang/Exception"]).filter goodWord ++ (vx_atS RX5 30 "java/lang/IndexOutOfBoundsException" ["java/lang/RuntimeException", "java/lang/Exception"]).filter goodWord)
def wsL_fit : List Cond := .codeWith yL_fit cL_fit 5 (some .int) [(0, 10, 13, 13), (0, 10, 17, 28)] :: ([.classLink RL 13 "java/lang/IndexOutOfBoundsException", .classLink RL 28 "java/lang/IllegalStateException", .methodLink RL 30 yX5_fit, .instanceMethod yX5_fit, .selects RX5 yX5_fit yX5_fit, .initialized RX5, .code yX5_fit cX5_fit 5 (some .int), .classLink RX5 69 "java/lang/IllegalStateException", .initialized "java/lang/IllegalStateException", .fieldLink RX5 19 "TrolleyGang" "now" "LTrolleyGang$Ring;", .methodLink RX5 84 yX5_checkBus, .instanceMethod yX5_checkBus, .selects RX5 yX5_checkBus yX5_checkBus, .code yX5_checkBus cX5_checkBus 2 none, .classLink RX5 26 "java/lang/IndexOutOfBoundsException", .initialized "java/lang/IndexOutOfBoundsException"] ++ wsX50 ++ wsX20 ++ wsX00 ++ (vx_atS RX5 73 "java/lang/IllegalStateException" ["java/lang/RuntimeException", "java/lang/Exception"]).filter goodWord ++ (vx_atS RX5 30 "java/lang/IndexOutOfBoundsException" ["java/lang/RuntimeException", "java/lang/Exception"]).filter goodWord)
def wsL_park : List Cond := .codeWith yL_park cL_park 4 (some .int) [(0, 16, 19, 13)] :: ([.classLink RL 13 "java/lang/IndexOutOfBoundsException", .methodLink RL 33 yX5_park, .instanceMethod yX5_park, .selects RX5 yX5_park yX5_park, .initialized RX5, .code yX5_park cX5_park 3 (some .boolean), .fieldLink RX5 19 "TrolleyGang" "now" "LTrolleyGang$Ring;", .methodLink RX5 84 yX5_checkBus, .instanceMethod yX5_checkBus, .selects RX5 yX5_checkBus yX5_checkBus, .code yX5_checkBus cX5_checkBus 2 none, .classLink RX5 26 "java/lang/IndexOutOfBoundsException", .initialized "java/lang/IndexOutOfBoundsException"] ++ wsX50 ++ wsX20 ++ wsX00 ++ (vx_atS RX5 30 "java/lang/IndexOutOfBoundsException" ["java/lang/RuntimeException", "java/lang/Exception"]).filter goodWord)
def wsL_told_r1 : List Cond := [Cond.classLink RL 13 "java/lang/IndexOutOfBoundsException", Cond.methodLink RL 37 yX5_told, Cond.instanceMethod yX5_told, Cond.selects RX5 yX5_told yX5_told, Cond.initialized RX5, Cond.code yX5_told cX5_told 4 (some .int), Cond.fieldLink RX5 19 "TrolleyGang" "now" "LTrolleyGang$Ring;", Cond.methodLink RX5 84 yX5_checkBus, Cond.instanceMethod yX5_checkBus, Cond.selects RX5 yX5_checkBus yX5_checkBus, Cond.code yX5_checkBus cX5_checkBus 2 none, Cond.classLink RX5 26 "java/lang/IndexOutOfBoundsException", Cond.initialized "java/lang/IndexOutOfBoundsException", Cond.methodLink RX5 99 yX5_checkWhat, Cond.static yX5_checkWhat, Cond.code yX5_checkWhat cX5_checkWhat 2 none, Cond.methodLink RX5 103 yX5_oneIf, Cond.static yX5_oneIf, Cond.code yX5_oneIf cX5_oneIf 1 (some .int), Cond.instanceMethod yX4_spansUpBehind, Cond.initialized RX4, Cond.selects RX4 yX4_spansUpBehind yX4_spansUpBehind, Cond.code yX4_spansUpBehind cX4_spansUpBehind 3 (some .int), Cond.methodLink RX4 33 yX4_isDown]
def wsL_told_r2 : List Cond := [Cond.instanceMethod yX4_isDown, Cond.selects RX4 yX4_isDown yX4_isDown, Cond.code yX4_isDown cX4_isDown 2 (some .boolean), Cond.fieldLink RX4 9 "TrolleyGang$Wires" "worn" "[I"]
def wsL_told : List Cond := .codeWith yL_told cL_told 5 (some .int) [(0, 10, 13, 13)] :: ((wsL_told_r1 ++ wsL_told_r2) ++ wsX50 ++ wsX20 ++ wsX00 ++ wsX40 ++ (vx_atS RX5 30 "java/lang/IndexOutOfBoundsException" ["java/lang/RuntimeException", "java/lang/Exception"]).filter goodWord)
def wsL_span_r1 : List Cond := [Cond.classLink RL 13 "java/lang/IndexOutOfBoundsException", Cond.methodLink RL 40 yX5_span, Cond.instanceMethod yX5_span, Cond.selects RX5 yX5_span yX5_span, Cond.initialized RX5, Cond.code yX5_span cX5_span 3 (some .int), Cond.fieldLink RX5 19 "TrolleyGang" "now" "LTrolleyGang$Ring;", Cond.methodLink RX5 62 yX5_checkSpan, Cond.static yX5_checkSpan, Cond.code yX5_checkSpan cX5_checkSpan 1 none, Cond.classLink RX5 26 "java/lang/IndexOutOfBoundsException", Cond.initialized "java/lang/IndexOutOfBoundsException", Cond.methodLink RX5 99 yX5_checkWhat, Cond.static yX5_checkWhat, Cond.code yX5_checkWhat cX5_checkWhat 2 none, Cond.instanceMethod yX4_isDown, Cond.initialized RX4, Cond.selects RX4 yX4_isDown yX4_isDown, Cond.code yX4_isDown cX4_isDown 2 (some .boolean), Cond.fieldLink RX4 9 "TrolleyGang$Wires" "worn" "[I", Cond.methodLink RX5 103 yX5_oneIf, Cond.static yX5_oneIf, Cond.code yX5_oneIf cX5_oneIf 1 (some .int), Cond.instanceMethod yX2_busesAt]
def wsL_span_r2 : List Cond := [Cond.initialized RX2, Cond.selects RX2 yX2_busesAt yX2_busesAt, Cond.code yX2_busesAt cX2_busesAt 4 (some .int), Cond.fieldLink RX2 39 "TrolleyGang$Ring" "busCount" "I", Cond.fieldLink RX2 27 "TrolleyGang$Ring" "buses" "[LTrolleyGang$Bus;", Cond.instanceMethod yX1_placeOf, Cond.initialized RX1, Cond.selects RX1 yX1_placeOf yX1_placeOf, Cond.code yX1_placeOf cX1_placeOf 3 (some .int), Cond.fieldLink RX1 21 "TrolleyGang$Gang" "orderCount" "I", Cond.fieldLink RX1 9 "TrolleyGang$Gang" "orders" "[I"]
def wsL_span : List Cond := .codeWith yL_span cL_span 5 (some .int) [(0, 10, 13, 13)] :: ((wsL_span_r1 ++ wsL_span_r2) ++ wsX50 ++ wsX20 ++ wsX40 ++ wsX00 ++ wsX10 ++ (vx_atS RX5 30 "java/lang/IndexOutOfBoundsException" ["java/lang/RuntimeException", "java/lang/Exception"]).filter goodWord)
def wsL_order : List Cond := .codeWith yL_order cL_order 4 (some .int) [(0, 9, 12, 13), (0, 9, 15, 28)] :: ([.classLink RL 13 "java/lang/IndexOutOfBoundsException", .classLink RL 28 "java/lang/IllegalStateException", .methodLink RL 43 yX5_order, .instanceMethod yX5_order, .selects RX5 yX5_order yX5_order, .initialized RX5, .code yX5_order cX5_order 2 (some .int), .classLink RX5 69 "java/lang/IllegalStateException", .initialized "java/lang/IllegalStateException", .fieldLink RX5 19 "TrolleyGang" "now" "LTrolleyGang$Ring;", .methodLink RX5 62 yX5_checkSpan, .static yX5_checkSpan, .code yX5_checkSpan cX5_checkSpan 1 none, .classLink RX5 26 "java/lang/IndexOutOfBoundsException", .initialized "java/lang/IndexOutOfBoundsException", .instanceMethod yX1_placeOf, .initialized RX1, .selects RX1 yX1_placeOf yX1_placeOf, .code yX1_placeOf cX1_placeOf 3 (some .int), .fieldLink RX1 21 "TrolleyGang$Gang" "orderCount" "I", .fieldLink RX1 9 "TrolleyGang$Gang" "orders" "[I"] ++ wsX50 ++ wsX20 ++ wsX10 ++ (vx_atS RX5 73 "java/lang/IllegalStateException" ["java/lang/RuntimeException", "java/lang/Exception"]).filter goodWord ++ (vx_atS RX5 30 "java/lang/IndexOutOfBoundsException" ["java/lang/RuntimeException", "java/lang/Exception"]).filter goodWord)
def wsL_cancel_r1 : List Cond := [Cond.classLink RL 13 "java/lang/IndexOutOfBoundsException", Cond.classLink RL 28 "java/lang/IllegalStateException", Cond.methodLink RL 47 yX5_cancel, Cond.instanceMethod yX5_cancel, Cond.selects RX5 yX5_cancel yX5_cancel, Cond.initialized RX5, Cond.code yX5_cancel cX5_cancel 3 (some .int), Cond.classLink RX5 69 "java/lang/IllegalStateException", Cond.initialized "java/lang/IllegalStateException", Cond.fieldLink RX5 19 "TrolleyGang" "now" "LTrolleyGang$Ring;", Cond.methodLink RX5 62 yX5_checkSpan, Cond.static yX5_checkSpan, Cond.code yX5_checkSpan cX5_checkSpan 1 none, Cond.classLink RX5 26 "java/lang/IndexOutOfBoundsException", Cond.initialized "java/lang/IndexOutOfBoundsException", Cond.instanceMethod yX1_placeOf, Cond.initialized RX1, Cond.selects RX1 yX1_placeOf yX1_placeOf, Cond.code yX1_placeOf cX1_placeOf 3 (some .int), Cond.fieldLink RX1 21 "TrolleyGang$Gang" "orderCount" "I", Cond.fieldLink RX1 9 "TrolleyGang$Gang" "orders" "[I", Cond.instanceMethod yX1_takeOut, Cond.selects RX1 yX1_takeOut yX1_takeOut, Cond.code yX1_takeOut cX1_takeOut 3 none]
def wsL_cancel_r2 : List Cond := [Cond.fieldLink RX1 28 "TrolleyGang$Gang" "worksAtFirst" "I"]
def wsL_cancel : List Cond := .codeWith yL_cancel cL_cancel 4 (some .int) [(0, 9, 12, 13), (0, 9, 15, 28)] :: ((wsL_cancel_r1 ++ wsL_cancel_r2) ++ wsX50 ++ wsX20 ++ wsX10 ++ (vx_atS RX5 73 "java/lang/IllegalStateException" ["java/lang/RuntimeException", "java/lang/Exception"]).filter goodWord ++ (vx_atS RX5 30 "java/lang/IndexOutOfBoundsException" ["java/lang/RuntimeException", "java/lang/Exception"]).filter goodWord)
def wsL_gang_r1 : List Cond := [Cond.classLink RL 13 "java/lang/IndexOutOfBoundsException", Cond.methodLink RL 50 yX5_gang, Cond.instanceMethod yX5_gang, Cond.selects RX5 yX5_gang yX5_gang, Cond.initialized RX5, Cond.code yX5_gang cX5_gang 3 (some .int), Cond.fieldLink RX5 19 "TrolleyGang" "now" "LTrolleyGang$Ring;", Cond.methodLink RX5 99 yX5_checkWhat, Cond.static yX5_checkWhat, Cond.code yX5_checkWhat cX5_checkWhat 2 none, Cond.classLink RX5 26 "java/lang/IndexOutOfBoundsException", Cond.initialized "java/lang/IndexOutOfBoundsException", Cond.instanceMethod yX1_hoursToFirst, Cond.initialized RX1, Cond.selects RX1 yX1_hoursToFirst yX1_hoursToFirst, Cond.code yX1_hoursToFirst cX1_hoursToFirst 3 (some .int), Cond.fieldLink RX1 21 "TrolleyGang$Gang" "orderCount" "I", Cond.methodLink RX1 41 Lib.Math.min.name, Cond.static Lib.Math.min.name, Cond.initialized "java/lang/Math", Cond.code Lib.Math.min.name Lib.Math.min.code 2 (some .int), Cond.methodLink RX1 37 yX1_spansUpwardsToFirst, Cond.instanceMethod yX1_spansUpwardsToFirst, Cond.selects RX1 yX1_spansUpwardsToFirst yX1_spansUpwardsToFirst]
def wsL_gang_r2 : List Cond := [Cond.code yX1_spansUpwardsToFirst cX1_spansUpwardsToFirst 1 (some .int), Cond.fieldLink RX1 9 "TrolleyGang$Gang" "orders" "[I", Cond.fieldLink RX1 25 "TrolleyGang$Gang" "at" "I"]
def wsL_gang : List Cond := .codeWith yL_gang cL_gang 4 (some .int) [(0, 9, 12, 13)] :: ((wsL_gang_r1 ++ wsL_gang_r2) ++ wsX50 ++ wsX20 ++ wsX10 ++ (vx_atS RX5 30 "java/lang/IndexOutOfBoundsException" ["java/lang/RuntimeException", "java/lang/Exception"]).filter goodWord)
def wsL_count_r1 : List Cond := [Cond.classLink RL 13 "java/lang/IndexOutOfBoundsException", Cond.methodLink RL 53 yX5_count, Cond.instanceMethod yX5_count, Cond.selects RX5 yX5_count yX5_count, Cond.initialized RX5, Cond.code yX5_count cX5_count 2 (some .int), Cond.fieldLink RX5 19 "TrolleyGang" "now" "LTrolleyGang$Ring;", Cond.methodLink RX5 99 yX5_checkWhat, Cond.static yX5_checkWhat, Cond.code yX5_checkWhat cX5_checkWhat 2 none, Cond.classLink RX5 26 "java/lang/IndexOutOfBoundsException", Cond.initialized "java/lang/IndexOutOfBoundsException", Cond.instanceMethod yX2_tally, Cond.initialized RX2, Cond.selects RX2 yX2_tally yX2_tally, Cond.code yX2_tally cX2_tally 2 (some .int), Cond.fieldLink RX2 46 "TrolleyGang$Ring" "hour" "I", Cond.fieldLink RX2 49 "TrolleyGang$Ring" "coins" "I", Cond.fieldLink RX2 39 "TrolleyGang$Ring" "busCount" "I", Cond.fieldLink RX2 12 "TrolleyGang$Ring" "wires" "LTrolleyGang$Wires;", Cond.static yX5_isNightAt, Cond.code yX5_isNightAt cX5_isNightAt 2 (some .boolean), Cond.static yX5_oneIf, Cond.code yX5_oneIf cX5_oneIf 1 (some .int)]
def wsL_count_r2 : List Cond := [Cond.methodLink RX2 156 yX2_busesRunning, Cond.instanceMethod yX2_busesRunning, Cond.selects RX2 yX2_busesRunning yX2_busesRunning, Cond.code yX2_busesRunning cX2_busesRunning 3 (some .int), Cond.fieldLink RX2 27 "TrolleyGang$Ring" "buses" "[LTrolleyGang$Bus;", Cond.instanceMethod yX4_spansDown, Cond.initialized RX4, Cond.selects RX4 yX4_spansDown yX4_spansDown, Cond.code yX4_spansDown cX4_spansDown 3 (some .int), Cond.methodLink RX4 33 yX4_isDown, Cond.instanceMethod yX4_isDown, Cond.selects RX4 yX4_isDown yX4_isDown, Cond.code yX4_isDown cX4_isDown 2 (some .boolean), Cond.fieldLink RX4 9 "TrolleyGang$Wires" "worn" "[I", Cond.instanceMethod yX4_wornInAll, Cond.selects RX4 yX4_wornInAll yX4_wornInAll, Cond.code yX4_wornInAll cX4_wornInAll 3 (some .int), Cond.instanceMethod yX4_frostInAll, Cond.selects RX4 yX4_frostInAll yX4_frostInAll, Cond.code yX4_frostInAll cX4_frostInAll 3 (some .int), Cond.fieldLink RX4 15 "TrolleyGang$Wires" "frost" "[I", Cond.methodLink RX2 169 yX2_hoursStuckInAll, Cond.instanceMethod yX2_hoursStuckInAll, Cond.selects RX2 yX2_hoursStuckInAll yX2_hoursStuckInAll]
def wsL_count_r3 : List Cond := [Cond.code yX2_hoursStuckInAll cX2_hoursStuckInAll 3 (some .int)]
def wsL_count : List Cond := .codeWith yL_count cL_count 4 (some .int) [(0, 9, 12, 13)] :: ((wsL_count_r1 ++ (wsL_count_r2 ++ wsL_count_r3)) ++ wsX50 ++ wsX20 ++ wsX00 ++ wsX40 ++ (vx_atS RX5 30 "java/lang/IndexOutOfBoundsException" ["java/lang/RuntimeException", "java/lang/Exception"]).filter goodWord)
def wsL_pass_r1 : List Cond := [Cond.classLink RL 15 "java/lang/IllegalArgumentException", Cond.methodLink RL 56 yX5_pass, Cond.instanceMethod yX5_pass, Cond.selects RX5 yX5_pass yX5_pass, Cond.initialized RX5, Cond.code yX5_pass cX5_pass 3 (some .int), Cond.fieldLink RX5 19 "TrolleyGang" "now" "LTrolleyGang$Ring;", Cond.fieldLink RX5 10 "TrolleyGang" "tables" "LTrolleyGang$Tables;", Cond.methodLink RX5 179 yX5_checkHours, Cond.static yX5_checkHours, Cond.code yX5_checkHours cX5_checkHours 2 none, Cond.classLink RX5 33 "java/lang/IllegalArgumentException", Cond.initialized "java/lang/IllegalArgumentException", Cond.instanceMethod yX2_letGoBy, Cond.initialized RX2, Cond.selects RX2 yX2_letGoBy yX2_letGoBy, Cond.code yX2_letGoBy cX2_letGoBy 4 none, Cond.methodLink RX2 52 yX2_letHourGoBy, Cond.instanceMethod yX2_letHourGoBy, Cond.selects RX2 yX2_letHourGoBy yX2_letHourGoBy, Cond.code yX2_letHourGoBy cX2_letHourGoBy 5 none, Cond.fieldLink RX2 46 "TrolleyGang$Ring" "hour" "I", Cond.fieldLink RX2 12 "TrolleyGang$Ring" "wires" "LTrolleyGang$Wires;", Cond.fieldLink RX2 39 "TrolleyGang$Ring" "busCount" "I"]
def wsL_pass_r2 : List Cond := [Cond.fieldLink RX2 27 "TrolleyGang$Ring" "buses" "[LTrolleyGang$Bus;", Cond.static yX5_isNightAt, Cond.code yX5_isNightAt cX5_isNightAt 2 (some .boolean), Cond.instanceMethod yX4_freeze, Cond.initialized RX4, Cond.selects RX4 yX4_freeze yX4_freeze, Cond.code yX4_freeze cX4_freeze 3 none, Cond.fieldLink RX4 15 "TrolleyGang$Wires" "frost" "[I", Cond.methodLink RX4 24 Lib.Math.min.name, Cond.static Lib.Math.min.name, Cond.initialized "java/lang/Math", Cond.code Lib.Math.min.name Lib.Math.min.code 2 (some .int), Cond.instanceMethod yX4_thaw, Cond.selects RX4 yX4_thaw yX4_thaw, Cond.code yX4_thaw cX4_thaw 2 none, Cond.methodLink RX4 30 Lib.Math.max.name, Cond.static Lib.Math.max.name, Cond.code Lib.Math.max.name Lib.Math.max.code 2 (some .int), Cond.methodLink RX2 76 yX2_letSwanFly, Cond.instanceMethod yX2_letSwanFly, Cond.selects RX2 yX2_letSwanFly yX2_letSwanFly, Cond.code yX2_letSwanFly cX2_letSwanFly 2 none, Cond.instanceMethod yX4_isDown, Cond.selects RX4 yX4_isDown yX4_isDown]
def wsL_pass_r3 : List Cond := [Cond.code yX4_isDown cX4_isDown 2 (some .boolean), Cond.fieldLink RX4 9 "TrolleyGang$Wires" "worn" "[I", Cond.instanceMethod yX4_wear, Cond.selects RX4 yX4_wear yX4_wear, Cond.code yX4_wear cX4_wear 3 none, Cond.instanceMethod yX3_fare, Cond.initialized RX3, Cond.selects RX3 yX3_fare yX3_fare, Cond.code yX3_fare cX3_fare 2 (some .int), Cond.fieldLink RX3 22 "TrolleyGang$Tables" "fareByNight" "I", Cond.fieldLink RX3 18 "TrolleyGang$Tables" "fareByDay" "I", Cond.methodLink RX2 83 yX2_drive, Cond.instanceMethod yX2_drive, Cond.selects RX2 yX2_drive yX2_drive, Cond.code yX2_drive cX2_drive 5 none, Cond.fieldLink RX2 49 "TrolleyGang$Ring" "coins" "I", Cond.methodLink RX2 87 yX2_letGangWork, Cond.instanceMethod yX2_letGangWork, Cond.selects RX2 yX2_letGangWork yX2_letGangWork, Cond.code yX2_letGangWork cX2_letGangWork 1 none, Cond.fieldLink RX2 21 "TrolleyGang$Ring" "gang" "LTrolleyGang$Gang;", Cond.instanceMethod yX1_goToFirst, Cond.initialized RX1, Cond.selects RX1 yX1_goToFirst yX1_goToFirst]
def wsL_pass_r4 : List Cond := [Cond.code yX1_goToFirst cX1_goToFirst 4 none, Cond.methodLink RX1 41 Lib.Math.min.name, Cond.fieldLink RX1 25 "TrolleyGang$Gang" "at" "I", Cond.methodLink RX1 37 yX1_spansUpwardsToFirst, Cond.instanceMethod yX1_spansUpwardsToFirst, Cond.selects RX1 yX1_spansUpwardsToFirst yX1_spansUpwardsToFirst, Cond.code yX1_spansUpwardsToFirst cX1_spansUpwardsToFirst 1 (some .int), Cond.fieldLink RX1 9 "TrolleyGang$Gang" "orders" "[I", Cond.methodLink RX2 135 yX2_isOrderDoneByWorkAt, Cond.instanceMethod yX2_isOrderDoneByWorkAt, Cond.selects RX2 yX2_isOrderDoneByWorkAt yX2_isOrderDoneByWorkAt, Cond.code yX2_isOrderDoneByWorkAt cX2_isOrderDoneByWorkAt 2 (some .boolean), Cond.instanceMethod yX4_mend, Cond.selects RX4 yX4_mend yX4_mend, Cond.code yX4_mend cX4_mend 3 none, Cond.instanceMethod yX4_putUp, Cond.selects RX4 yX4_putUp yX4_putUp, Cond.code yX4_putUp cX4_putUp 2 none, Cond.instanceMethod yX1_takeOut, Cond.selects RX1 yX1_takeOut yX1_takeOut, Cond.code yX1_takeOut cX1_takeOut 3 none, Cond.fieldLink RX1 21 "TrolleyGang$Gang" "orderCount" "I", Cond.fieldLink RX1 28 "TrolleyGang$Gang" "worksAtFirst" "I"]
def wsL_pass : List Cond := .codeWith yL_pass cL_pass 4 (some .int) [(0, 9, 12, 15)] :: ((wsL_pass_r1 ++ (wsL_pass_r2 ++ (wsL_pass_r3 ++ wsL_pass_r4))) ++ wsX50 ++ wsX20 ++ wsX30 ++ wsX40 ++ wsX00 ++ wsX10 ++ (vx_atS RX5 37 "java/lang/IllegalArgumentException" ["java/lang/RuntimeException", "java/lang/Exception"]).filter goodWord)
def wsL_falls_r1 : List Cond := [Cond.classLink RL 13 "java/lang/IndexOutOfBoundsException", Cond.methodLink RL 59 yX5_falls, Cond.instanceMethod yX5_falls, Cond.selects RX5 yX5_falls yX5_falls, Cond.initialized RX5, Cond.code yX5_falls cX5_falls 3 (some .int), Cond.fieldLink RX5 23 "TrolleyGang" "ahead" "LTrolleyGang$Ring;", Cond.fieldLink RX5 19 "TrolleyGang" "now" "LTrolleyGang$Ring;", Cond.fieldLink RX5 10 "TrolleyGang" "tables" "LTrolleyGang$Tables;", Cond.methodLink RX5 62 yX5_checkSpan, Cond.static yX5_checkSpan, Cond.code yX5_checkSpan cX5_checkSpan 1 none, Cond.classLink RX5 26 "java/lang/IndexOutOfBoundsException", Cond.initialized "java/lang/IndexOutOfBoundsException", Cond.instanceMethod yX2_copyFrom, Cond.initialized RX2, Cond.selects RX2 yX2_copyFrom yX2_copyFrom, Cond.code yX2_copyFrom cX2_copyFrom 3 none, Cond.fieldLink RX2 12 "TrolleyGang$Ring" "wires" "LTrolleyGang$Wires;", Cond.fieldLink RX2 21 "TrolleyGang$Ring" "gang" "LTrolleyGang$Gang;", Cond.fieldLink RX2 39 "TrolleyGang$Ring" "busCount" "I", Cond.fieldLink RX2 27 "TrolleyGang$Ring" "buses" "[LTrolleyGang$Bus;", Cond.fieldLink RX2 46 "TrolleyGang$Ring" "hour" "I", Cond.fieldLink RX2 49 "TrolleyGang$Ring" "coins" "I"]
def wsL_falls_r2 : List Cond := [Cond.instanceMethod yX4_copyFrom, Cond.initialized RX4, Cond.selects RX4 yX4_copyFrom yX4_copyFrom, Cond.code yX4_copyFrom cX4_copyFrom 2 none, Cond.fieldLink RX4 9 "TrolleyGang$Wires" "worn" "[I", Cond.methodLink RX4 18 arraycopyName, Cond.native arraycopyName, Cond.static arraycopyName, Cond.initialized "java/lang/System", Cond.fieldLink RX4 15 "TrolleyGang$Wires" "frost" "[I", Cond.instanceMethod yX1_copyFrom, Cond.initialized RX1, Cond.selects RX1 yX1_copyFrom yX1_copyFrom, Cond.code yX1_copyFrom cX1_copyFrom 2 none, Cond.fieldLink RX1 9 "TrolleyGang$Gang" "orders" "[I", Cond.methodLink RX1 15 arraycopyName, Cond.fieldLink RX1 21 "TrolleyGang$Gang" "orderCount" "I", Cond.fieldLink RX1 25 "TrolleyGang$Gang" "at" "I", Cond.fieldLink RX1 28 "TrolleyGang$Gang" "worksAtFirst" "I", Cond.fieldLink RX1 31 "TrolleyGang$Gang" "worksInAll" "I", Cond.fieldLink RX1 34 "TrolleyGang$Gang" "putUpInAll" "I", Cond.instanceMethod yX0_copyFrom, Cond.initialized RX0, Cond.selects RX0 yX0_copyFrom yX0_copyFrom]
def wsL_falls_r3 : List Cond := [Cond.code yX0_copyFrom cX0_copyFrom 2 none, Cond.fieldLink RX0 7 "TrolleyGang$Bus" "at" "I", Cond.fieldLink RX0 13 "TrolleyGang$Bus" "hasScraper" "Z", Cond.fieldLink RX0 17 "TrolleyGang$Bus" "runs" "Z", Cond.fieldLink RX0 20 "TrolleyGang$Bus" "spansInAll" "I", Cond.fieldLink RX0 23 "TrolleyGang$Bus" "faresInAll" "I", Cond.fieldLink RX0 26 "TrolleyGang$Bus" "hoursStuck" "I", Cond.instanceMethod yX4_isDown, Cond.selects RX4 yX4_isDown yX4_isDown, Cond.code yX4_isDown cX4_isDown 2 (some .boolean), Cond.instanceMethod yX2_letGoBy, Cond.selects RX2 yX2_letGoBy yX2_letGoBy, Cond.code yX2_letGoBy cX2_letGoBy 4 none, Cond.methodLink RX2 52 yX2_letHourGoBy, Cond.instanceMethod yX2_letHourGoBy, Cond.selects RX2 yX2_letHourGoBy yX2_letHourGoBy, Cond.code yX2_letHourGoBy cX2_letHourGoBy 5 none, Cond.static yX5_isNightAt, Cond.code yX5_isNightAt cX5_isNightAt 2 (some .boolean), Cond.instanceMethod yX4_freeze, Cond.selects RX4 yX4_freeze yX4_freeze, Cond.code yX4_freeze cX4_freeze 3 none, Cond.methodLink RX4 24 Lib.Math.min.name, Cond.static Lib.Math.min.name]
def wsL_falls_r4 : List Cond := [Cond.initialized "java/lang/Math", Cond.code Lib.Math.min.name Lib.Math.min.code 2 (some .int), Cond.instanceMethod yX4_thaw, Cond.selects RX4 yX4_thaw yX4_thaw, Cond.code yX4_thaw cX4_thaw 2 none, Cond.methodLink RX4 30 Lib.Math.max.name, Cond.static Lib.Math.max.name, Cond.code Lib.Math.max.name Lib.Math.max.code 2 (some .int), Cond.methodLink RX2 76 yX2_letSwanFly, Cond.instanceMethod yX2_letSwanFly, Cond.selects RX2 yX2_letSwanFly yX2_letSwanFly, Cond.code yX2_letSwanFly cX2_letSwanFly 2 none, Cond.instanceMethod yX4_wear, Cond.selects RX4 yX4_wear yX4_wear, Cond.code yX4_wear cX4_wear 3 none, Cond.instanceMethod yX3_fare, Cond.initialized RX3, Cond.selects RX3 yX3_fare yX3_fare, Cond.code yX3_fare cX3_fare 2 (some .int), Cond.fieldLink RX3 22 "TrolleyGang$Tables" "fareByNight" "I", Cond.fieldLink RX3 18 "TrolleyGang$Tables" "fareByDay" "I", Cond.methodLink RX2 83 yX2_drive, Cond.instanceMethod yX2_drive, Cond.selects RX2 yX2_drive yX2_drive]
def wsL_falls_r5 : List Cond := [Cond.code yX2_drive cX2_drive 5 none, Cond.methodLink RX2 87 yX2_letGangWork, Cond.instanceMethod yX2_letGangWork, Cond.selects RX2 yX2_letGangWork yX2_letGangWork, Cond.code yX2_letGangWork cX2_letGangWork 1 none, Cond.instanceMethod yX1_goToFirst, Cond.selects RX1 yX1_goToFirst yX1_goToFirst, Cond.code yX1_goToFirst cX1_goToFirst 4 none, Cond.methodLink RX1 41 Lib.Math.min.name, Cond.methodLink RX1 37 yX1_spansUpwardsToFirst, Cond.instanceMethod yX1_spansUpwardsToFirst, Cond.selects RX1 yX1_spansUpwardsToFirst yX1_spansUpwardsToFirst, Cond.code yX1_spansUpwardsToFirst cX1_spansUpwardsToFirst 1 (some .int), Cond.methodLink RX2 135 yX2_isOrderDoneByWorkAt, Cond.instanceMethod yX2_isOrderDoneByWorkAt, Cond.selects RX2 yX2_isOrderDoneByWorkAt yX2_isOrderDoneByWorkAt, Cond.code yX2_isOrderDoneByWorkAt cX2_isOrderDoneByWorkAt 2 (some .boolean), Cond.instanceMethod yX4_mend, Cond.selects RX4 yX4_mend yX4_mend, Cond.code yX4_mend cX4_mend 3 none, Cond.instanceMethod yX4_putUp, Cond.selects RX4 yX4_putUp yX4_putUp, Cond.code yX4_putUp cX4_putUp 2 none, Cond.instanceMethod yX1_takeOut]
def wsL_falls_r6 : List Cond := [Cond.selects RX1 yX1_takeOut yX1_takeOut, Cond.code yX1_takeOut cX1_takeOut 3 none]
def wsL_falls : List Cond := .codeWith yL_falls cL_falls 4 (some .int) [(0, 9, 12, 13)] :: ((wsL_falls_r1 ++ (wsL_falls_r2 ++ (wsL_falls_r3 ++ (wsL_falls_r4 ++ (wsL_falls_r5 ++ wsL_falls_r6))))) ++ wsX50 ++ wsX20 ++ wsX40 ++ wsX10 ++ wsX00 ++ wsX30 ++ (vx_atS RX5 30 "java/lang/IndexOutOfBoundsException" ["java/lang/RuntimeException", "java/lang/Exception"]).filter goodWord)
def wsL_foresee_r1 : List Cond := [Cond.classLink RL 15 "java/lang/IllegalArgumentException", Cond.classLink RL 13 "java/lang/IndexOutOfBoundsException", Cond.methodLink RL 62 yX5_foresee, Cond.instanceMethod yX5_foresee, Cond.selects RX5 yX5_foresee yX5_foresee, Cond.initialized RX5, Cond.code yX5_foresee cX5_foresee 3 (some .int), Cond.classLink RX5 26 "java/lang/IndexOutOfBoundsException", Cond.initialized "java/lang/IndexOutOfBoundsException", Cond.fieldLink RX5 23 "TrolleyGang" "ahead" "LTrolleyGang$Ring;", Cond.fieldLink RX5 19 "TrolleyGang" "now" "LTrolleyGang$Ring;", Cond.fieldLink RX5 10 "TrolleyGang" "tables" "LTrolleyGang$Tables;", Cond.methodLink RX5 179 yX5_checkHours, Cond.static yX5_checkHours, Cond.code yX5_checkHours cX5_checkHours 2 none, Cond.classLink RX5 33 "java/lang/IllegalArgumentException", Cond.initialized "java/lang/IllegalArgumentException", Cond.instanceMethod yX2_copyFrom, Cond.initialized RX2, Cond.selects RX2 yX2_copyFrom yX2_copyFrom, Cond.code yX2_copyFrom cX2_copyFrom 3 none, Cond.fieldLink RX2 12 "TrolleyGang$Ring" "wires" "LTrolleyGang$Wires;", Cond.fieldLink RX2 21 "TrolleyGang$Ring" "gang" "LTrolleyGang$Gang;", Cond.fieldLink RX2 39 "TrolleyGang$Ring" "busCount" "I"]
def wsL_foresee_r2 : List Cond := [Cond.fieldLink RX2 27 "TrolleyGang$Ring" "buses" "[LTrolleyGang$Bus;", Cond.fieldLink RX2 46 "TrolleyGang$Ring" "hour" "I", Cond.fieldLink RX2 49 "TrolleyGang$Ring" "coins" "I", Cond.instanceMethod yX4_copyFrom, Cond.initialized RX4, Cond.selects RX4 yX4_copyFrom yX4_copyFrom, Cond.code yX4_copyFrom cX4_copyFrom 2 none, Cond.fieldLink RX4 9 "TrolleyGang$Wires" "worn" "[I", Cond.methodLink RX4 18 arraycopyName, Cond.native arraycopyName, Cond.static arraycopyName, Cond.initialized "java/lang/System", Cond.fieldLink RX4 15 "TrolleyGang$Wires" "frost" "[I", Cond.instanceMethod yX1_copyFrom, Cond.initialized RX1, Cond.selects RX1 yX1_copyFrom yX1_copyFrom, Cond.code yX1_copyFrom cX1_copyFrom 2 none, Cond.fieldLink RX1 9 "TrolleyGang$Gang" "orders" "[I", Cond.methodLink RX1 15 arraycopyName, Cond.fieldLink RX1 21 "TrolleyGang$Gang" "orderCount" "I", Cond.fieldLink RX1 25 "TrolleyGang$Gang" "at" "I", Cond.fieldLink RX1 28 "TrolleyGang$Gang" "worksAtFirst" "I", Cond.fieldLink RX1 31 "TrolleyGang$Gang" "worksInAll" "I", Cond.fieldLink RX1 34 "TrolleyGang$Gang" "putUpInAll" "I"]
def wsL_foresee_r3 : List Cond := [Cond.instanceMethod yX0_copyFrom, Cond.initialized RX0, Cond.selects RX0 yX0_copyFrom yX0_copyFrom, Cond.code yX0_copyFrom cX0_copyFrom 2 none, Cond.fieldLink RX0 7 "TrolleyGang$Bus" "at" "I", Cond.fieldLink RX0 13 "TrolleyGang$Bus" "hasScraper" "Z", Cond.fieldLink RX0 17 "TrolleyGang$Bus" "runs" "Z", Cond.fieldLink RX0 20 "TrolleyGang$Bus" "spansInAll" "I", Cond.fieldLink RX0 23 "TrolleyGang$Bus" "faresInAll" "I", Cond.fieldLink RX0 26 "TrolleyGang$Bus" "hoursStuck" "I", Cond.instanceMethod yX2_letGoBy, Cond.selects RX2 yX2_letGoBy yX2_letGoBy, Cond.code yX2_letGoBy cX2_letGoBy 4 none, Cond.methodLink RX2 52 yX2_letHourGoBy, Cond.instanceMethod yX2_letHourGoBy, Cond.selects RX2 yX2_letHourGoBy yX2_letHourGoBy, Cond.code yX2_letHourGoBy cX2_letHourGoBy 5 none, Cond.static yX5_isNightAt, Cond.code yX5_isNightAt cX5_isNightAt 2 (some .boolean), Cond.instanceMethod yX4_freeze, Cond.selects RX4 yX4_freeze yX4_freeze, Cond.code yX4_freeze cX4_freeze 3 none, Cond.methodLink RX4 24 Lib.Math.min.name, Cond.static Lib.Math.min.name]
def wsL_foresee_r4 : List Cond := [Cond.initialized "java/lang/Math", Cond.code Lib.Math.min.name Lib.Math.min.code 2 (some .int), Cond.instanceMethod yX4_thaw, Cond.selects RX4 yX4_thaw yX4_thaw, Cond.code yX4_thaw cX4_thaw 2 none, Cond.methodLink RX4 30 Lib.Math.max.name, Cond.static Lib.Math.max.name, Cond.code Lib.Math.max.name Lib.Math.max.code 2 (some .int), Cond.methodLink RX2 76 yX2_letSwanFly, Cond.instanceMethod yX2_letSwanFly, Cond.selects RX2 yX2_letSwanFly yX2_letSwanFly, Cond.code yX2_letSwanFly cX2_letSwanFly 2 none, Cond.instanceMethod yX4_isDown, Cond.selects RX4 yX4_isDown yX4_isDown, Cond.code yX4_isDown cX4_isDown 2 (some .boolean), Cond.instanceMethod yX4_wear, Cond.selects RX4 yX4_wear yX4_wear, Cond.code yX4_wear cX4_wear 3 none, Cond.instanceMethod yX3_fare, Cond.initialized RX3, Cond.selects RX3 yX3_fare yX3_fare, Cond.code yX3_fare cX3_fare 2 (some .int), Cond.fieldLink RX3 22 "TrolleyGang$Tables" "fareByNight" "I", Cond.fieldLink RX3 18 "TrolleyGang$Tables" "fareByDay" "I"]
def wsL_foresee_r5 : List Cond := [Cond.methodLink RX2 83 yX2_drive, Cond.instanceMethod yX2_drive, Cond.selects RX2 yX2_drive yX2_drive, Cond.code yX2_drive cX2_drive 5 none, Cond.methodLink RX2 87 yX2_letGangWork, Cond.instanceMethod yX2_letGangWork, Cond.selects RX2 yX2_letGangWork yX2_letGangWork, Cond.code yX2_letGangWork cX2_letGangWork 1 none, Cond.instanceMethod yX1_goToFirst, Cond.selects RX1 yX1_goToFirst yX1_goToFirst, Cond.code yX1_goToFirst cX1_goToFirst 4 none, Cond.methodLink RX1 41 Lib.Math.min.name, Cond.methodLink RX1 37 yX1_spansUpwardsToFirst, Cond.instanceMethod yX1_spansUpwardsToFirst, Cond.selects RX1 yX1_spansUpwardsToFirst yX1_spansUpwardsToFirst, Cond.code yX1_spansUpwardsToFirst cX1_spansUpwardsToFirst 1 (some .int), Cond.methodLink RX2 135 yX2_isOrderDoneByWorkAt, Cond.instanceMethod yX2_isOrderDoneByWorkAt, Cond.selects RX2 yX2_isOrderDoneByWorkAt yX2_isOrderDoneByWorkAt, Cond.code yX2_isOrderDoneByWorkAt cX2_isOrderDoneByWorkAt 2 (some .boolean), Cond.instanceMethod yX4_mend, Cond.selects RX4 yX4_mend yX4_mend, Cond.code yX4_mend cX4_mend 3 none, Cond.instanceMethod yX4_putUp]
def wsL_foresee_r6 : List Cond := [Cond.selects RX4 yX4_putUp yX4_putUp, Cond.code yX4_putUp cX4_putUp 2 none, Cond.instanceMethod yX1_takeOut, Cond.selects RX1 yX1_takeOut yX1_takeOut, Cond.code yX1_takeOut cX1_takeOut 3 none, Cond.instanceMethod yX2_tally, Cond.selects RX2 yX2_tally yX2_tally, Cond.code yX2_tally cX2_tally 2 (some .int), Cond.static yX5_oneIf, Cond.code yX5_oneIf cX5_oneIf 1 (some .int), Cond.methodLink RX2 156 yX2_busesRunning, Cond.instanceMethod yX2_busesRunning, Cond.selects RX2 yX2_busesRunning yX2_busesRunning, Cond.code yX2_busesRunning cX2_busesRunning 3 (some .int), Cond.instanceMethod yX4_spansDown, Cond.selects RX4 yX4_spansDown yX4_spansDown, Cond.code yX4_spansDown cX4_spansDown 3 (some .int), Cond.methodLink RX4 33 yX4_isDown, Cond.instanceMethod yX4_wornInAll, Cond.selects RX4 yX4_wornInAll yX4_wornInAll, Cond.code yX4_wornInAll cX4_wornInAll 3 (some .int), Cond.instanceMethod yX4_frostInAll, Cond.selects RX4 yX4_frostInAll yX4_frostInAll, Cond.code yX4_frostInAll cX4_frostInAll 3 (some .int)]
def wsL_foresee_r7 : List Cond := [Cond.methodLink RX2 169 yX2_hoursStuckInAll, Cond.instanceMethod yX2_hoursStuckInAll, Cond.selects RX2 yX2_hoursStuckInAll yX2_hoursStuckInAll, Cond.code yX2_hoursStuckInAll cX2_hoursStuckInAll 3 (some .int)]
def wsL_foresee : List Cond := .codeWith yL_foresee cL_foresee 5 (some .int) [(0, 10, 13, 15), (0, 10, 17, 13)] :: ((wsL_foresee_r1 ++ (wsL_foresee_r2 ++ (wsL_foresee_r3 ++ (wsL_foresee_r4 ++ (wsL_foresee_r5 ++ (wsL_foresee_r6 ++ wsL_foresee_r7)))))) ++ wsX50 ++ wsX20 ++ wsX40 ++ wsX10 ++ wsX00 ++ wsX30 ++ (vx_atS RX5 30 "java/lang/IndexOutOfBoundsException" ["java/lang/RuntimeException", "java/lang/Exception"]).filter goodWord ++ (vx_atS RX5 37 "java/lang/IllegalArgumentException" ["java/lang/RuntimeException", "java/lang/Exception"]).filter goodWord)
def wsL_advise_r1 : List Cond := [Cond.classLink RL 15 "java/lang/IllegalArgumentException", Cond.methodLink RL 65 yX5_advise, Cond.instanceMethod yX5_advise, Cond.selects RX5 yX5_advise yX5_advise, Cond.initialized RX5, Cond.code yX5_advise cX5_advise 6 (some .int), Cond.methodLink RX5 179 yX5_checkHours, Cond.static yX5_checkHours, Cond.code yX5_checkHours cX5_checkHours 2 none, Cond.classLink RX5 33 "java/lang/IllegalArgumentException", Cond.initialized "java/lang/IllegalArgumentException", Cond.methodLink RX5 195 yX5_coinsWithOnlyOrder, Cond.instanceMethod yX5_coinsWithOnlyOrder, Cond.selects RX5 yX5_coinsWithOnlyOrder yX5_coinsWithOnlyOrder, Cond.code yX5_coinsWithOnlyOrder cX5_coinsWithOnlyOrder 3 (some .int), Cond.fieldLink RX5 23 "TrolleyGang" "ahead" "LTrolleyGang$Ring;", Cond.fieldLink RX5 19 "TrolleyGang" "now" "LTrolleyGang$Ring;", Cond.fieldLink RX5 10 "TrolleyGang" "tables" "LTrolleyGang$Tables;", Cond.instanceMethod yX2_copyFrom, Cond.initialized RX2, Cond.selects RX2 yX2_copyFrom yX2_copyFrom, Cond.code yX2_copyFrom cX2_copyFrom 3 none, Cond.fieldLink RX2 12 "TrolleyGang$Ring" "wires" "LTrolleyGang$Wires;", Cond.fieldLink RX2 21 "TrolleyGang$Ring" "gang" "LTrolleyGang$Gang;"]
def wsL_advise_r2 : List Cond := [Cond.fieldLink RX2 39 "TrolleyGang$Ring" "busCount" "I", Cond.fieldLink RX2 27 "TrolleyGang$Ring" "buses" "[LTrolleyGang$Bus;", Cond.fieldLink RX2 46 "TrolleyGang$Ring" "hour" "I", Cond.fieldLink RX2 49 "TrolleyGang$Ring" "coins" "I", Cond.instanceMethod yX4_copyFrom, Cond.initialized RX4, Cond.selects RX4 yX4_copyFrom yX4_copyFrom, Cond.code yX4_copyFrom cX4_copyFrom 2 none, Cond.fieldLink RX4 9 "TrolleyGang$Wires" "worn" "[I", Cond.methodLink RX4 18 arraycopyName, Cond.native arraycopyName, Cond.static arraycopyName, Cond.initialized "java/lang/System", Cond.fieldLink RX4 15 "TrolleyGang$Wires" "frost" "[I", Cond.instanceMethod yX1_copyFrom, Cond.initialized RX1, Cond.selects RX1 yX1_copyFrom yX1_copyFrom, Cond.code yX1_copyFrom cX1_copyFrom 2 none, Cond.fieldLink RX1 9 "TrolleyGang$Gang" "orders" "[I", Cond.methodLink RX1 15 arraycopyName, Cond.fieldLink RX1 21 "TrolleyGang$Gang" "orderCount" "I", Cond.fieldLink RX1 25 "TrolleyGang$Gang" "at" "I", Cond.fieldLink RX1 28 "TrolleyGang$Gang" "worksAtFirst" "I", Cond.fieldLink RX1 31 "TrolleyGang$Gang" "worksInAll" "I"]
def wsL_advise_r3 : List Cond := [Cond.fieldLink RX1 34 "TrolleyGang$Gang" "putUpInAll" "I", Cond.instanceMethod yX0_copyFrom, Cond.initialized RX0, Cond.selects RX0 yX0_copyFrom yX0_copyFrom, Cond.code yX0_copyFrom cX0_copyFrom 2 none, Cond.fieldLink RX0 7 "TrolleyGang$Bus" "at" "I", Cond.fieldLink RX0 13 "TrolleyGang$Bus" "hasScraper" "Z", Cond.fieldLink RX0 17 "TrolleyGang$Bus" "runs" "Z", Cond.fieldLink RX0 20 "TrolleyGang$Bus" "spansInAll" "I", Cond.fieldLink RX0 23 "TrolleyGang$Bus" "faresInAll" "I", Cond.fieldLink RX0 26 "TrolleyGang$Bus" "hoursStuck" "I", Cond.instanceMethod yX1_haveOnly, Cond.selects RX1 yX1_haveOnly yX1_haveOnly, Cond.code yX1_haveOnly cX1_haveOnly 2 none, Cond.instanceMethod yX2_letGoBy, Cond.selects RX2 yX2_letGoBy yX2_letGoBy, Cond.code yX2_letGoBy cX2_letGoBy 4 none, Cond.methodLink RX2 52 yX2_letHourGoBy, Cond.instanceMethod yX2_letHourGoBy, Cond.selects RX2 yX2_letHourGoBy yX2_letHourGoBy, Cond.code yX2_letHourGoBy cX2_letHourGoBy 5 none, Cond.static yX5_isNightAt, Cond.code yX5_isNightAt cX5_isNightAt 2 (some .boolean), Cond.instanceMethod yX4_freeze]
def wsL_advise_r4 : List Cond := [Cond.selects RX4 yX4_freeze yX4_freeze, Cond.code yX4_freeze cX4_freeze 3 none, Cond.methodLink RX4 24 Lib.Math.min.name, Cond.static Lib.Math.min.name, Cond.initialized "java/lang/Math", Cond.code Lib.Math.min.name Lib.Math.min.code 2 (some .int), Cond.instanceMethod yX4_thaw, Cond.selects RX4 yX4_thaw yX4_thaw, Cond.code yX4_thaw cX4_thaw 2 none, Cond.methodLink RX4 30 Lib.Math.max.name, Cond.static Lib.Math.max.name, Cond.code Lib.Math.max.name Lib.Math.max.code 2 (some .int), Cond.methodLink RX2 76 yX2_letSwanFly, Cond.instanceMethod yX2_letSwanFly, Cond.selects RX2 yX2_letSwanFly yX2_letSwanFly, Cond.code yX2_letSwanFly cX2_letSwanFly 2 none, Cond.instanceMethod yX4_isDown, Cond.selects RX4 yX4_isDown yX4_isDown, Cond.code yX4_isDown cX4_isDown 2 (some .boolean), Cond.instanceMethod yX4_wear, Cond.selects RX4 yX4_wear yX4_wear, Cond.code yX4_wear cX4_wear 3 none, Cond.instanceMethod yX3_fare, Cond.initialized RX3]
def wsL_advise_r5 : List Cond := [Cond.selects RX3 yX3_fare yX3_fare, Cond.code yX3_fare cX3_fare 2 (some .int), Cond.fieldLink RX3 22 "TrolleyGang$Tables" "fareByNight" "I", Cond.fieldLink RX3 18 "TrolleyGang$Tables" "fareByDay" "I", Cond.methodLink RX2 83 yX2_drive, Cond.instanceMethod yX2_drive, Cond.selects RX2 yX2_drive yX2_drive, Cond.code yX2_drive cX2_drive 5 none, Cond.methodLink RX2 87 yX2_letGangWork, Cond.instanceMethod yX2_letGangWork, Cond.selects RX2 yX2_letGangWork yX2_letGangWork, Cond.code yX2_letGangWork cX2_letGangWork 1 none, Cond.instanceMethod yX1_goToFirst, Cond.selects RX1 yX1_goToFirst yX1_goToFirst, Cond.code yX1_goToFirst cX1_goToFirst 4 none, Cond.methodLink RX1 41 Lib.Math.min.name, Cond.methodLink RX1 37 yX1_spansUpwardsToFirst, Cond.instanceMethod yX1_spansUpwardsToFirst, Cond.selects RX1 yX1_spansUpwardsToFirst yX1_spansUpwardsToFirst, Cond.code yX1_spansUpwardsToFirst cX1_spansUpwardsToFirst 1 (some .int), Cond.methodLink RX2 135 yX2_isOrderDoneByWorkAt, Cond.instanceMethod yX2_isOrderDoneByWorkAt, Cond.selects RX2 yX2_isOrderDoneByWorkAt yX2_isOrderDoneByWorkAt, Cond.code yX2_isOrderDoneByWorkAt cX2_isOrderDoneByWorkAt 2 (some .boolean)]
def wsL_advise_r6 : List Cond := [Cond.instanceMethod yX4_mend, Cond.selects RX4 yX4_mend yX4_mend, Cond.code yX4_mend cX4_mend 3 none, Cond.instanceMethod yX4_putUp, Cond.selects RX4 yX4_putUp yX4_putUp, Cond.code yX4_putUp cX4_putUp 2 none, Cond.instanceMethod yX1_takeOut, Cond.selects RX1 yX1_takeOut yX1_takeOut, Cond.code yX1_takeOut cX1_takeOut 3 none]
def wsL_advise : List Cond := .codeWith yL_advise cL_advise 4 (some .int) [(0, 9, 12, 15)] :: ((wsL_advise_r1 ++ (wsL_advise_r2 ++ (wsL_advise_r3 ++ (wsL_advise_r4 ++ (wsL_advise_r5 ++ wsL_advise_r6))))) ++ wsX50 ++ wsX20 ++ wsX40 ++ wsX10 ++ wsX00 ++ wsX30 ++ (vx_atS RX5 37 "java/lang/IllegalArgumentException" ["java/lang/RuntimeException", "java/lang/Exception"]).filter goodWord)
def wsL_law0_r1 : List Cond := [Cond.classLink RL 8 RX5, Cond.instantiable RX5 3, Cond.initialized RX5, Cond.classLink RL 69 RX6, Cond.instantiable RX6 8, Cond.initialized RX6, Cond.arrayClass .long, Cond.methodLink RL 68 yX5_init, Cond.instanceMethod yX5_init, Cond.code yX5_init cX5_init 1 none, Cond.methodLink RX5 1 objectInit, Cond.instanceMethod objectInit, Cond.code objectInit ⟨#[0xb1]⟩ 1 none, Cond.classLink RX5 7 RX3, Cond.instantiable RX3 4, Cond.initialized RX3, Cond.fieldLink RX5 10 "TrolleyGang" "tables" "LTrolleyGang$Tables;", Cond.classLink RX5 16 RX2, Cond.instantiable RX2 6, Cond.initialized RX2, Cond.fieldLink RX5 19 "TrolleyGang" "now" "LTrolleyGang$Ring;", Cond.fieldLink RX5 23 "TrolleyGang" "ahead" "LTrolleyGang$Ring;", Cond.instanceMethod yX3_init, Cond.code yX3_init cX3_init 2 none]
def wsL_law0_r2 : List Cond := [Cond.methodLink RX3 3 objectInit, Cond.arrayClass .int, Cond.fieldLink RX3 9 "TrolleyGang$Tables" "colds" "[I", Cond.fieldLink RX3 15 "TrolleyGang$Tables" "swans" "[I", Cond.fieldLink RX3 18 "TrolleyGang$Tables" "fareByDay" "I", Cond.fieldLink RX3 22 "TrolleyGang$Tables" "fareByNight" "I", Cond.instanceMethod yX2_init, Cond.code yX2_init cX2_init 2 none, Cond.methodLink RX2 3 objectInit, Cond.classLink RX2 9 RX4, Cond.instantiable RX4 2, Cond.initialized RX4, Cond.fieldLink RX2 12 "TrolleyGang$Ring" "wires" "LTrolleyGang$Wires;", Cond.classLink RX2 18 RX1, Cond.instantiable RX1 6, Cond.initialized RX1, Cond.fieldLink RX2 21 "TrolleyGang$Ring" "gang" "LTrolleyGang$Gang;", Cond.classLink RX2 25 RX0, Cond.fieldLink RX2 27 "TrolleyGang$Ring" "buses" "[LTrolleyGang$Bus;", Cond.instantiable RX0 6, Cond.initialized RX0, Cond.instanceMethod yX4_init, Cond.code yX4_init cX4_init 1 none, Cond.methodLink RX4 3 objectInit]
def wsL_law0_r3 : List Cond := [Cond.fieldLink RX4 9 "TrolleyGang$Wires" "worn" "[I", Cond.fieldLink RX4 15 "TrolleyGang$Wires" "frost" "[I", Cond.instanceMethod yX1_init, Cond.code yX1_init cX1_init 1 none, Cond.methodLink RX1 3 objectInit, Cond.fieldLink RX1 9 "TrolleyGang$Gang" "orders" "[I", Cond.instanceMethod yX0_init, Cond.code yX0_init cX0_init 1 none, Cond.methodLink RX0 1 objectInit, Cond.methodLink RL 71 yX6_init, Cond.instanceMethod yX6_init, Cond.code yX6_init cX6_init 2 none, Cond.methodLink RX6 7 objectInit, Cond.fieldLink RX6 13 "TrolleyGangModel" "fareByDay" "I", Cond.fieldLink RX6 16 "TrolleyGangModel" "fareByNight" "I", Cond.fieldLink RX6 19 "TrolleyGangModel" "cold" "[I", Cond.fieldLink RX6 23 "TrolleyGangModel" "swan" "[I", Cond.fieldLink RX6 26 "TrolleyGangModel" "now" "[I", Cond.fieldLink RX6 29 "TrolleyGangModel" "ahead" "[I", Cond.methodLink RL 72 yL_setCold, Cond.static yL_setCold, Cond.initialized RL, Cond.codeWith yL_setCold cL_setCold 5 (some .int) [(0, 10, 13, 13), (0, 10, 17, 15)], Cond.classLink RL 13 "java/lang/IndexOutOfBoundsException"]
def wsL_law0_r4 : List Cond := [Cond.classLink RL 15 "java/lang/IllegalArgumentException", Cond.methodLink RL 7 yX5_setCold, Cond.instanceMethod yX5_setCold, Cond.selects RX5 yX5_setCold yX5_setCold, Cond.code yX5_setCold cX5_setCold 4 (some .int), Cond.classLink RX5 26 "java/lang/IndexOutOfBoundsException", Cond.initialized "java/lang/IndexOutOfBoundsException", Cond.classLink RX5 33 "java/lang/IllegalArgumentException", Cond.initialized "java/lang/IllegalArgumentException", Cond.methodLink RL 77 yX6_setCold, Cond.instanceMethod yX6_setCold, Cond.selects RX6 yX6_setCold yX6_setCold, Cond.code yX6_setCold cX6_setCold 3 (some .int), Cond.fieldLink RX6 1 "TrolleyGangModel" "thrown" "I", Cond.methodLink RX6 32 yX6_isIn, Cond.static yX6_isIn, Cond.code yX6_isIn cX6_isIn 3 (some .boolean), Cond.methodLink RX6 39 yX6_no, Cond.instanceMethod yX6_no, Cond.selects RX6 yX6_no yX6_no, Cond.code yX6_no cX6_no 2 (some .int), Cond.methodLink RX6 43 yX6_put, Cond.static yX6_put, Cond.code yX6_put cX6_put 4 (some .int)]
def wsL_law0_r5 : List Cond := [Cond.methodLink RL 78 yX6_thrown, Cond.instanceMethod yX6_thrown, Cond.selects RX6 yX6_thrown yX6_thrown, Cond.code yX6_thrown cX6_thrown 1 (some .int), Cond.methodLink RL 82 yL_setSwan, Cond.static yL_setSwan, Cond.codeWith yL_setSwan cL_setSwan 5 (some .int) [(0, 10, 13, 13), (0, 10, 17, 15)], Cond.methodLink RL 17 yX5_setSwan, Cond.instanceMethod yX5_setSwan, Cond.selects RX5 yX5_setSwan yX5_setSwan, Cond.code yX5_setSwan cX5_setSwan 4 (some .int), Cond.methodLink RL 84 yX6_setSwan, Cond.instanceMethod yX6_setSwan, Cond.selects RX6 yX6_setSwan yX6_setSwan, Cond.code yX6_setSwan cX6_setSwan 3 (some .int), Cond.methodLink RL 85 yL_setFare, Cond.static yL_setFare, Cond.codeWith yL_setFare cL_setFare 5 (some .int) [(0, 10, 13, 15)], Cond.methodLink RL 20 yX5_setFare, Cond.instanceMethod yX5_setFare, Cond.selects RX5 yX5_setFare yX5_setFare, Cond.code yX5_setFare cX5_setFare 4 (some .int), Cond.instanceMethod yX3_fare, Cond.selects RX3 yX3_fare yX3_fare]
def wsL_law0_r6 : List Cond := [Cond.code yX3_fare cX3_fare 2 (some .int), Cond.methodLink RL 88 yX6_setFare, Cond.instanceMethod yX6_setFare, Cond.selects RX6 yX6_setFare yX6_setFare, Cond.code yX6_setFare cX6_setFare 4 (some .int), Cond.methodLink RL 89 yL_bus, Cond.static yL_bus, Cond.codeWith yL_bus cL_bus 5 (some .int) [(0, 10, 13, 13), (0, 10, 17, 28)], Cond.classLink RL 28 "java/lang/IllegalStateException", Cond.methodLink RL 24 yX5_bus, Cond.instanceMethod yX5_bus, Cond.selects RX5 yX5_bus yX5_bus, Cond.code yX5_bus cX5_bus 4 (some .int), Cond.classLink RX5 69 "java/lang/IllegalStateException", Cond.initialized "java/lang/IllegalStateException", Cond.methodLink RX5 62 yX5_checkSpan, Cond.static yX5_checkSpan, Cond.code yX5_checkSpan cX5_checkSpan 1 none, Cond.instanceMethod yX0_come, Cond.selects RX0 yX0_come yX0_come, Cond.code yX0_come cX0_come 3 none, Cond.fieldLink RX0 7 "TrolleyGang$Bus" "at" "I", Cond.fieldLink RX0 13 "TrolleyGang$Bus" "hasScraper" "Z", Cond.fieldLink RX0 17 "TrolleyGang$Bus" "runs" "Z"]
def wsL_law0_r7 : List Cond := [Cond.methodLink RL 92 yX6_bus, Cond.instanceMethod yX6_bus, Cond.selects RX6 yX6_bus yX6_bus, Cond.code yX6_bus cX6_bus 4 (some .int), Cond.fieldLink RX6 36 "TrolleyGangModel" "buses" "I", Cond.methodLink RX6 47 yX6_isSpan, Cond.static yX6_isSpan, Cond.code yX6_isSpan cX6_isSpan 1 (some .boolean), Cond.methodLink RL 93 yL_fit, Cond.static yL_fit, Cond.codeWith yL_fit cL_fit 5 (some .int) [(0, 10, 13, 13), (0, 10, 17, 28)], Cond.methodLink RL 30 yX5_fit, Cond.instanceMethod yX5_fit, Cond.selects RX5 yX5_fit yX5_fit, Cond.code yX5_fit cX5_fit 5 (some .int), Cond.methodLink RX5 84 yX5_checkBus, Cond.instanceMethod yX5_checkBus, Cond.selects RX5 yX5_checkBus yX5_checkBus, Cond.code yX5_checkBus cX5_checkBus 2 none, Cond.methodLink RL 95 yX6_fit, Cond.instanceMethod yX6_fit, Cond.selects RX6 yX6_fit yX6_fit, Cond.code yX6_fit cX6_fit 3 (some .int), Cond.methodLink RX6 51 yX6_isBus]
def wsL_law0_r8 : List Cond := [Cond.instanceMethod yX6_isBus, Cond.selects RX6 yX6_isBus yX6_isBus, Cond.code yX6_isBus cX6_isBus 2 (some .boolean), Cond.methodLink RL 96 yL_park, Cond.static yL_park, Cond.codeWith yL_park cL_park 4 (some .int) [(0, 16, 19, 13)], Cond.methodLink RL 33 yX5_park, Cond.instanceMethod yX5_park, Cond.selects RX5 yX5_park yX5_park, Cond.code yX5_park cX5_park 3 (some .boolean), Cond.methodLink RL 99 yX6_park, Cond.instanceMethod yX6_park, Cond.selects RX6 yX6_park yX6_park, Cond.code yX6_park cX6_park 2 (some .boolean), Cond.methodLink RL 100 yL_told, Cond.static yL_told, Cond.codeWith yL_told cL_told 5 (some .int) [(0, 10, 13, 13)], Cond.methodLink RL 37 yX5_told, Cond.instanceMethod yX5_told, Cond.selects RX5 yX5_told yX5_told, Cond.code yX5_told cX5_told 4 (some .int), Cond.methodLink RX5 99 yX5_checkWhat, Cond.static yX5_checkWhat, Cond.code yX5_checkWhat cX5_checkWhat 2 none]
def wsL_law0_r9 : List Cond := [Cond.methodLink RX5 103 yX5_oneIf, Cond.static yX5_oneIf, Cond.code yX5_oneIf cX5_oneIf 1 (some .int), Cond.instanceMethod yX4_spansUpBehind, Cond.selects RX4 yX4_spansUpBehind yX4_spansUpBehind, Cond.code yX4_spansUpBehind cX4_spansUpBehind 3 (some .int), Cond.methodLink RX4 33 yX4_isDown, Cond.instanceMethod yX4_isDown, Cond.selects RX4 yX4_isDown yX4_isDown, Cond.code yX4_isDown cX4_isDown 2 (some .boolean), Cond.methodLink RL 102 yX6_told, Cond.instanceMethod yX6_told, Cond.selects RX6 yX6_told yX6_told, Cond.code yX6_told cX6_told 3 (some .int), Cond.methodLink RX6 57 yX6_busTold, Cond.instanceMethod yX6_busTold, Cond.selects RX6 yX6_busTold yX6_busTold, Cond.code yX6_busTold cX6_busTold 3 (some .int), Cond.methodLink RX6 54 yX6_free, Cond.instanceMethod yX6_free, Cond.selects RX6 yX6_free yX6_free, Cond.code yX6_free cX6_free 3 (some .int), Cond.methodLink RL 103 yL_span, Cond.static yL_span]
def wsL_law0_r10 : List Cond := [Cond.codeWith yL_span cL_span 5 (some .int) [(0, 10, 13, 13)], Cond.methodLink RL 40 yX5_span, Cond.instanceMethod yX5_span, Cond.selects RX5 yX5_span yX5_span, Cond.code yX5_span cX5_span 3 (some .int), Cond.instanceMethod yX2_busesAt, Cond.selects RX2 yX2_busesAt yX2_busesAt, Cond.code yX2_busesAt cX2_busesAt 4 (some .int), Cond.fieldLink RX2 39 "TrolleyGang$Ring" "busCount" "I", Cond.instanceMethod yX1_placeOf, Cond.selects RX1 yX1_placeOf yX1_placeOf, Cond.code yX1_placeOf cX1_placeOf 3 (some .int), Cond.fieldLink RX1 21 "TrolleyGang$Gang" "orderCount" "I", Cond.methodLink RL 105 yX6_span, Cond.instanceMethod yX6_span, Cond.selects RX6 yX6_span yX6_span, Cond.code yX6_span cX6_span 3 (some .int), Cond.methodLink RX6 67 yX6_spanTold, Cond.instanceMethod yX6_spanTold, Cond.selects RX6 yX6_spanTold yX6_spanTold, Cond.code yX6_spanTold cX6_spanTold 3 (some .int), Cond.methodLink RX6 61 yX6_busesAt, Cond.instanceMethod yX6_busesAt, Cond.selects RX6 yX6_busesAt yX6_busesAt]
def wsL_law0_r11 : List Cond := [Cond.code yX6_busesAt cX6_busesAt 4 (some .int), Cond.methodLink RX6 64 yX6_placeOf, Cond.instanceMethod yX6_placeOf, Cond.selects RX6 yX6_placeOf yX6_placeOf, Cond.code yX6_placeOf cX6_placeOf 3 (some .int), Cond.methodLink RL 106 yL_order, Cond.static yL_order, Cond.codeWith yL_order cL_order 4 (some .int) [(0, 9, 12, 13), (0, 9, 15, 28)], Cond.methodLink RL 43 yX5_order, Cond.instanceMethod yX5_order, Cond.selects RX5 yX5_order yX5_order, Cond.code yX5_order cX5_order 2 (some .int), Cond.methodLink RL 108 yX6_order, Cond.instanceMethod yX6_order, Cond.selects RX6 yX6_order yX6_order, Cond.code yX6_order cX6_order 2 (some .int), Cond.methodLink RL 109 yL_cancel, Cond.static yL_cancel, Cond.codeWith yL_cancel cL_cancel 4 (some .int) [(0, 9, 12, 13), (0, 9, 15, 28)], Cond.methodLink RL 47 yX5_cancel, Cond.instanceMethod yX5_cancel, Cond.selects RX5 yX5_cancel yX5_cancel, Cond.code yX5_cancel cX5_cancel 3 (some .int), Cond.instanceMethod yX1_takeOut]
def wsL_law0_r12 : List Cond := [Cond.selects RX1 yX1_takeOut yX1_takeOut, Cond.code yX1_takeOut cX1_takeOut 3 none, Cond.fieldLink RX1 28 "TrolleyGang$Gang" "worksAtFirst" "I", Cond.methodLink RL 111 yX6_cancel, Cond.instanceMethod yX6_cancel, Cond.selects RX6 yX6_cancel yX6_cancel, Cond.code yX6_cancel cX6_cancel 3 (some .int), Cond.methodLink RX6 70 yX6_remove, Cond.static yX6_remove, Cond.code yX6_remove cX6_remove 3 none, Cond.methodLink RL 112 yL_gang, Cond.static yL_gang, Cond.codeWith yL_gang cL_gang 4 (some .int) [(0, 9, 12, 13)], Cond.methodLink RL 50 yX5_gang, Cond.instanceMethod yX5_gang, Cond.selects RX5 yX5_gang yX5_gang, Cond.code yX5_gang cX5_gang 3 (some .int), Cond.instanceMethod yX1_hoursToFirst, Cond.selects RX1 yX1_hoursToFirst yX1_hoursToFirst, Cond.code yX1_hoursToFirst cX1_hoursToFirst 3 (some .int), Cond.methodLink RX1 41 Lib.Math.min.name, Cond.static Lib.Math.min.name, Cond.initialized "java/lang/Math", Cond.code Lib.Math.min.name Lib.Math.min.code 2 (some .int)]
def wsL_law0_r13 : List Cond := [Cond.methodLink RX1 37 yX1_spansUpwardsToFirst, Cond.instanceMethod yX1_spansUpwardsToFirst, Cond.selects RX1 yX1_spansUpwardsToFirst yX1_spansUpwardsToFirst, Cond.code yX1_spansUpwardsToFirst cX1_spansUpwardsToFirst 1 (some .int), Cond.fieldLink RX1 25 "TrolleyGang$Gang" "at" "I", Cond.methodLink RL 114 yX6_gang, Cond.instanceMethod yX6_gang, Cond.selects RX6 yX6_gang yX6_gang, Cond.code yX6_gang cX6_gang 2 (some .int), Cond.methodLink RX6 85 yX6_gangTold, Cond.instanceMethod yX6_gangTold, Cond.selects RX6 yX6_gangTold yX6_gangTold, Cond.code yX6_gangTold cX6_gangTold 3 (some .int), Cond.methodLink RX6 82 yX6_hoursTill, Cond.instanceMethod yX6_hoursTill, Cond.selects RX6 yX6_hoursTill yX6_hoursTill, Cond.code yX6_hoursTill cX6_hoursTill 3 (some .int), Cond.methodLink RX6 77 Lib.Math.min.name, Cond.methodLink RX6 74 yX6_upwards, Cond.static yX6_upwards, Cond.code yX6_upwards cX6_upwards 2 (some .int), Cond.methodLink RL 115 yL_count, Cond.static yL_count, Cond.codeWith yL_count cL_count 4 (some .int) [(0, 9, 12, 13)]]
def wsL_law0_r14 : List Cond := [Cond.methodLink RL 53 yX5_count, Cond.instanceMethod yX5_count, Cond.selects RX5 yX5_count yX5_count, Cond.code yX5_count cX5_count 2 (some .int), Cond.instanceMethod yX2_tally, Cond.selects RX2 yX2_tally yX2_tally, Cond.code yX2_tally cX2_tally 2 (some .int), Cond.fieldLink RX2 46 "TrolleyGang$Ring" "hour" "I", Cond.fieldLink RX2 49 "TrolleyGang$Ring" "coins" "I", Cond.static yX5_isNightAt, Cond.code yX5_isNightAt cX5_isNightAt 2 (some .boolean), Cond.methodLink RX2 156 yX2_busesRunning, Cond.instanceMethod yX2_busesRunning, Cond.selects RX2 yX2_busesRunning yX2_busesRunning, Cond.code yX2_busesRunning cX2_busesRunning 3 (some .int), Cond.instanceMethod yX4_spansDown, Cond.selects RX4 yX4_spansDown yX4_spansDown, Cond.code yX4_spansDown cX4_spansDown 3 (some .int), Cond.instanceMethod yX4_wornInAll, Cond.selects RX4 yX4_wornInAll yX4_wornInAll, Cond.code yX4_wornInAll cX4_wornInAll 3 (some .int), Cond.instanceMethod yX4_frostInAll, Cond.selects RX4 yX4_frostInAll yX4_frostInAll, Cond.code yX4_frostInAll cX4_frostInAll 3 (some .int)]
def wsL_law0_r15 : List Cond := [Cond.methodLink RX2 169 yX2_hoursStuckInAll, Cond.instanceMethod yX2_hoursStuckInAll, Cond.selects RX2 yX2_hoursStuckInAll yX2_hoursStuckInAll, Cond.code yX2_hoursStuckInAll cX2_hoursStuckInAll 3 (some .int), Cond.methodLink RL 117 yX6_count, Cond.instanceMethod yX6_count, Cond.selects RX6 yX6_count yX6_count, Cond.code yX6_count cX6_count 2 (some .int), Cond.methodLink RX6 101 yX6_counted, Cond.instanceMethod yX6_counted, Cond.selects RX6 yX6_counted yX6_counted, Cond.code yX6_counted cX6_counted 2 (some .int), Cond.methodLink RX6 95 yX6_isNight, Cond.static yX6_isNight, Cond.code yX6_isNight cX6_isNight 1 (some .boolean), Cond.methodLink RX6 92 yX6_ofBuses, Cond.instanceMethod yX6_ofBuses, Cond.selects RX6 yX6_ofBuses yX6_ofBuses, Cond.code yX6_ofBuses cX6_ofBuses 5 (some .int), Cond.methodLink RX6 98 yX6_summed, Cond.instanceMethod yX6_summed, Cond.selects RX6 yX6_summed yX6_summed, Cond.code yX6_summed cX6_summed 3 (some .int), Cond.methodLink RX6 88 yX6_sum]
def wsL_law0_r16 : List Cond := [Cond.static yX6_sum, Cond.code yX6_sum cX6_sum 4 (some .int), Cond.methodLink RL 118 yL_pass, Cond.static yL_pass, Cond.codeWith yL_pass cL_pass 4 (some .int) [(0, 9, 12, 15)], Cond.methodLink RL 56 yX5_pass, Cond.instanceMethod yX5_pass, Cond.selects RX5 yX5_pass yX5_pass, Cond.code yX5_pass cX5_pass 3 (some .int), Cond.methodLink RX5 179 yX5_checkHours, Cond.static yX5_checkHours, Cond.code yX5_checkHours cX5_checkHours 2 none, Cond.instanceMethod yX2_letGoBy, Cond.selects RX2 yX2_letGoBy yX2_letGoBy, Cond.code yX2_letGoBy cX2_letGoBy 4 none, Cond.methodLink RX2 52 yX2_letHourGoBy, Cond.instanceMethod yX2_letHourGoBy, Cond.selects RX2 yX2_letHourGoBy yX2_letHourGoBy, Cond.code yX2_letHourGoBy cX2_letHourGoBy 5 none, Cond.instanceMethod yX4_freeze, Cond.selects RX4 yX4_freeze yX4_freeze, Cond.code yX4_freeze cX4_freeze 3 none, Cond.methodLink RX4 24 Lib.Math.min.name, Cond.instanceMethod yX4_thaw]
def wsL_law0_r17 : List Cond := [Cond.selects RX4 yX4_thaw yX4_thaw, Cond.code yX4_thaw cX4_thaw 2 none, Cond.methodLink RX4 30 Lib.Math.max.name, Cond.static Lib.Math.max.name, Cond.code Lib.Math.max.name Lib.Math.max.code 2 (some .int), Cond.methodLink RX2 76 yX2_letSwanFly, Cond.instanceMethod yX2_letSwanFly, Cond.selects RX2 yX2_letSwanFly yX2_letSwanFly, Cond.code yX2_letSwanFly cX2_letSwanFly 2 none, Cond.instanceMethod yX4_wear, Cond.selects RX4 yX4_wear yX4_wear, Cond.code yX4_wear cX4_wear 3 none, Cond.methodLink RX2 83 yX2_drive, Cond.instanceMethod yX2_drive, Cond.selects RX2 yX2_drive yX2_drive, Cond.code yX2_drive cX2_drive 5 none, Cond.methodLink RX2 87 yX2_letGangWork, Cond.instanceMethod yX2_letGangWork, Cond.selects RX2 yX2_letGangWork yX2_letGangWork, Cond.code yX2_letGangWork cX2_letGangWork 1 none, Cond.instanceMethod yX1_goToFirst, Cond.selects RX1 yX1_goToFirst yX1_goToFirst, Cond.code yX1_goToFirst cX1_goToFirst 4 none, Cond.methodLink RX2 135 yX2_isOrderDoneByWorkAt]
def wsL_law0_r18 : List Cond := [Cond.instanceMethod yX2_isOrderDoneByWorkAt, Cond.selects RX2 yX2_isOrderDoneByWorkAt yX2_isOrderDoneByWorkAt, Cond.code yX2_isOrderDoneByWorkAt cX2_isOrderDoneByWorkAt 2 (some .boolean), Cond.instanceMethod yX4_mend, Cond.selects RX4 yX4_mend yX4_mend, Cond.code yX4_mend cX4_mend 3 none, Cond.instanceMethod yX4_putUp, Cond.selects RX4 yX4_putUp yX4_putUp, Cond.code yX4_putUp cX4_putUp 2 none, Cond.methodLink RL 120 yX6_pass_, Cond.instanceMethod yX6_pass_, Cond.selects RX6 yX6_pass_ yX6_pass_, Cond.code yX6_pass_ cX6_pass_ 3 (some .int), Cond.methodLink RX6 130 yX6_passAll, Cond.instanceMethod yX6_passAll, Cond.selects RX6 yX6_passAll yX6_passAll, Cond.code yX6_passAll cX6_passAll 4 none, Cond.methodLink RX6 121 yX6_pass, Cond.instanceMethod yX6_pass, Cond.selects RX6 yX6_pass yX6_pass, Cond.code yX6_pass cX6_pass 4 none, Cond.methodLink RX6 111 yX6_freeze, Cond.instanceMethod yX6_freeze, Cond.selects RX6 yX6_freeze yX6_freeze]
def wsL_law0_r19 : List Cond := [Cond.code yX6_freeze cX6_freeze 4 none, Cond.methodLink RX6 104 Lib.Math.max.name, Cond.methodLink RX6 107 yX6_wear, Cond.static yX6_wear, Cond.code yX6_wear cX6_wear 3 none, Cond.methodLink RX6 115 yX6_run, Cond.instanceMethod yX6_run, Cond.selects RX6 yX6_run yX6_run, Cond.code yX6_run cX6_run 7 none, Cond.methodLink RX6 118 yX6_work, Cond.static yX6_work, Cond.code yX6_work cX6_work 4 none, Cond.methodLink RL 121 yL_falls, Cond.static yL_falls, Cond.codeWith yL_falls cL_falls 4 (some .int) [(0, 9, 12, 13)], Cond.methodLink RL 59 yX5_falls, Cond.instanceMethod yX5_falls, Cond.selects RX5 yX5_falls yX5_falls, Cond.code yX5_falls cX5_falls 3 (some .int), Cond.instanceMethod yX2_copyFrom, Cond.selects RX2 yX2_copyFrom yX2_copyFrom, Cond.code yX2_copyFrom cX2_copyFrom 3 none, Cond.instanceMethod yX4_copyFrom, Cond.selects RX4 yX4_copyFrom yX4_copyFrom]
def wsL_law0_r20 : List Cond := [Cond.code yX4_copyFrom cX4_copyFrom 2 none, Cond.methodLink RX4 18 arraycopyName, Cond.native arraycopyName, Cond.static arraycopyName, Cond.initialized "java/lang/System", Cond.instanceMethod yX1_copyFrom, Cond.selects RX1 yX1_copyFrom yX1_copyFrom, Cond.code yX1_copyFrom cX1_copyFrom 2 none, Cond.methodLink RX1 15 arraycopyName, Cond.fieldLink RX1 31 "TrolleyGang$Gang" "worksInAll" "I", Cond.fieldLink RX1 34 "TrolleyGang$Gang" "putUpInAll" "I", Cond.instanceMethod yX0_copyFrom, Cond.selects RX0 yX0_copyFrom yX0_copyFrom, Cond.code yX0_copyFrom cX0_copyFrom 2 none, Cond.fieldLink RX0 20 "TrolleyGang$Bus" "spansInAll" "I", Cond.fieldLink RX0 23 "TrolleyGang$Bus" "faresInAll" "I", Cond.fieldLink RX0 26 "TrolleyGang$Bus" "hoursStuck" "I", Cond.methodLink RL 123 yX6_falls, Cond.instanceMethod yX6_falls, Cond.selects RX6 yX6_falls yX6_falls, Cond.code yX6_falls cX6_falls 3 (some .int), Cond.methodLink RX6 133 yX6_lookAhead, Cond.instanceMethod yX6_lookAhead, Cond.selects RX6 yX6_lookAhead yX6_lookAhead]
def wsL_law0_r21 : List Cond := [Cond.code yX6_lookAhead cX6_lookAhead 1 none, Cond.methodLink RX6 124 arraycopyName, Cond.methodLink RL 124 yL_foresee, Cond.static yL_foresee, Cond.codeWith yL_foresee cL_foresee 5 (some .int) [(0, 10, 13, 15), (0, 10, 17, 13)], Cond.methodLink RL 62 yX5_foresee, Cond.instanceMethod yX5_foresee, Cond.selects RX5 yX5_foresee yX5_foresee, Cond.code yX5_foresee cX5_foresee 3 (some .int), Cond.methodLink RL 126 yX6_foresee, Cond.instanceMethod yX6_foresee, Cond.selects RX6 yX6_foresee yX6_foresee, Cond.code yX6_foresee cX6_foresee 3 (some .int), Cond.methodLink RL 127 yL_advise, Cond.static yL_advise, Cond.codeWith yL_advise cL_advise 4 (some .int) [(0, 9, 12, 15)], Cond.methodLink RL 65 yX5_advise, Cond.instanceMethod yX5_advise, Cond.selects RX5 yX5_advise yX5_advise, Cond.code yX5_advise cX5_advise 6 (some .int), Cond.methodLink RX5 195 yX5_coinsWithOnlyOrder, Cond.instanceMethod yX5_coinsWithOnlyOrder, Cond.selects RX5 yX5_coinsWithOnlyOrder yX5_coinsWithOnlyOrder, Cond.code yX5_coinsWithOnlyOrder cX5_coinsWithOnlyOrder 3 (some .int)]
def wsL_law0_r22 : List Cond := [Cond.instanceMethod yX1_haveOnly, Cond.selects RX1 yX1_haveOnly yX1_haveOnly, Cond.code yX1_haveOnly cX1_haveOnly 2 none, Cond.methodLink RL 129 yX6_advise, Cond.instanceMethod yX6_advise, Cond.selects RX6 yX6_advise yX6_advise, Cond.code yX6_advise cX6_advise 6 (some .int), Cond.methodLink RX6 136 yX6_coinsWith, Cond.instanceMethod yX6_coinsWith, Cond.selects RX6 yX6_coinsWith yX6_coinsWith, Cond.code yX6_coinsWith cX6_coinsWith 3 (some .int), Cond.methodLink RL 130 yX5_mean, Cond.instanceMethod yX5_mean, Cond.selects RX5 yX5_mean yX5_mean, Cond.code yX5_mean cX5_mean 1 (some .double), Cond.constantDouble RX5 202 (4627448617123184640), Cond.methodLink RL 134 yX6_mean, Cond.instanceMethod yX6_mean, Cond.selects RX6 yX6_mean yX6_mean, Cond.code yX6_mean cX6_mean 1 (some .double), Cond.constantDouble RX6 139 (4627448617123184640), Cond.methodLink RL 135 yX5_digest, Cond.instanceMethod yX5_digest, Cond.selects RX5 yX5_digest yX5_digest]
def wsL_law0_r23 : List Cond := [Cond.code yX5_digest cX5_digest 5 (some .long), Cond.constantLong RX5 204 (1301), Cond.constantLong RX5 206 (31), Cond.methodLink RX5 208 yX5_count, Cond.methodLink RX5 211 yX5_digestOfTables, Cond.instanceMethod yX5_digestOfTables, Cond.selects RX5 yX5_digestOfTables yX5_digestOfTables, Cond.code yX5_digestOfTables cX5_digestOfTables 6 (some .long), Cond.methodLink RX5 215 yX5_gang, Cond.methodLink RX5 217 yX5_span, Cond.methodLink RX5 220 yX5_told, Cond.methodLink RL 139 yX6_digest, Cond.instanceMethod yX6_digest, Cond.selects RX6 yX6_digest yX6_digest, Cond.code yX6_digest cX6_digest 7 (some .long), Cond.constantLong RX6 141 (1301), Cond.constantLong RX6 143 (31)]
def wsL_law0 : List Cond := (wsL_law0_r1 ++ (wsL_law0_r2 ++ (wsL_law0_r3 ++ (wsL_law0_r4 ++ (wsL_law0_r5 ++ (wsL_law0_r6 ++ (wsL_law0_r7 ++ (wsL_law0_r8 ++ (wsL_law0_r9 ++ (wsL_law0_r10 ++ (wsL_law0_r11 ++ (wsL_law0_r12 ++ (wsL_law0_r13 ++ (wsL_law0_r14 ++ (wsL_law0_r15 ++ (wsL_law0_r16 ++ (wsL_law0_r17 ++ (wsL_law0_r18 ++ (wsL_law0_r19 ++ (wsL_law0_r20 ++ (wsL_law0_r21 ++ (wsL_law0_r22 ++ wsL_law0_r23)))))))))))))))))))))) ++ wsX50 ++ wsX60 ++ wsX30 ++ wsX20 ++ wsX40 ++ wsX10 ++ wsX00 ++ ([] : List Cond)
def wsL_law : List Cond := wsL_law0 ++ (vx_atS RX5 30 "java/lang/IndexOutOfBoundsException" ["java/lang/RuntimeException", "java/lang/Exception"]).filter goodWord ++ (vx_atS RX5 37 "java/lang/IllegalArgumentException" ["java/lang/RuntimeException", "java/lang/Exception"]).filter goodWord ++ (vx_atS RX5 73 "java/lang/IllegalStateException" ["java/lang/RuntimeException", "java/lang/Exception"]).filter goodWord
abbrev vwCl : List vw_C := [(RX0, TX0, 6), (RX1, TX1, 6), (RX2, TX2, 6), (RX3, TX3, 4), (RX4, TX4, 2), (RX5, TX5, 3), (RX6, TX6, 8)]
theorem dX0_init_0 : decode cX0_init 0 = .ok (.aload_n 0, 1) := by decide +kernel
theorem dX0_init_1 : decode cX0_init 1 = .ok (.invokespecial 1, 3) := by decide +kernel
theorem dX0_init_4 : decode cX0_init 4 = .ok (.return_, 1) := by decide +kernel
theorem dX0_come_0 : decode cX0_come 0 = .ok (.aload_n 0, 1) := by decide +kernel
theorem dX0_come_1 : decode cX0_come 1 = .ok (.iload_n 1, 1) := by decide +kernel
theorem dX0_come_2 : decode cX0_come 2 = .ok (.putfield 7, 3) := by decide +kernel
theorem dX0_come_5 : decode cX0_come 5 = .ok (.aload_n 0, 1) := by decide +kernel
theorem dX0_come_6 : decode cX0_come 6 = .ok (.iload_n 2, 1) := by decide +kernel
theorem dX0_come_7 : decode cX0_come 7 = .ok (.putfield 13, 3) := by decide +kernel
theorem dX0_come_10 : decode cX0_come 10 = .ok (.aload_n 0, 1) := by decide +kernel
theorem dX0_come_11 : decode cX0_come 11 = .ok (.iconst 1, 1) := by decide +kernel
theorem dX0_come_12 : decode cX0_come 12 = .ok (.putfield 17, 3) := by decide +kernel
theorem dX0_come_15 : decode cX0_come 15 = .ok (.return_, 1) := by decide +kernel
theorem dX0_copyFrom_0 : decode cX0_copyFrom 0 = .ok (.aload_n 0, 1) := by decide +kernel
theorem dX0_copyFrom_1 : decode cX0_copyFrom 1 = .ok (.aload_n 1, 1) := by decide +kernel
theorem dX0_copyFrom_2 : decode cX0_copyFrom 2 = .ok (.getfield 7, 3) := by decide +kernel
theorem dX0_copyFrom_5 : decode cX0_copyFrom 5 = .ok (.putfield 7, 3) := by decide +kernel
theorem dX0_copyFrom_8 : decode cX0_copyFrom 8 = .ok (.aload_n 0, 1) := by decide +kernel
theorem dX0_copyFrom_9 : decode cX0_copyFrom 9 = .ok (.aload_n 1, 1) := by decide +kernel
theorem dX0_copyFrom_10 : decode cX0_copyFrom 10 = .ok (.getfield 13, 3) := by decide +kernel
theorem dX0_copyFrom_13 : decode cX0_copyFrom 13 = .ok (.putfield 13, 3) := by decide +kernel
theorem dX0_copyFrom_16 : decode cX0_copyFrom 16 = .ok (.aload_n 0, 1) := by decide +kernel
theorem dX0_copyFrom_17 : decode cX0_copyFrom 17 = .ok (.aload_n 1, 1) := by decide +kernel
theorem dX0_copyFrom_18 : decode cX0_copyFrom 18 = .ok (.getfield 17, 3) := by decide +kernel
theorem dX0_copyFrom_21 : decode cX0_copyFrom 21 = .ok (.putfield 17, 3) := by decide +kernel
theorem dX0_copyFrom_24 : decode cX0_copyFrom 24 = .ok (.aload_n 0, 1) := by decide +kernel
theorem dX0_copyFrom_25 : decode cX0_copyFrom 25 = .ok (.aload_n 1, 1) := by decide +kernel
theorem dX0_copyFrom_26 : decode cX0_copyFrom 26 = .ok (.getfield 20, 3) := by decide +kernel
theorem dX0_copyFrom_29 : decode cX0_copyFrom 29 = .ok (.putfield 20, 3) := by decide +kernel
theorem dX0_copyFrom_32 : decode cX0_copyFrom 32 = .ok (.aload_n 0, 1) := by decide +kernel
theorem dX0_copyFrom_33 : decode cX0_copyFrom 33 = .ok (.aload_n 1, 1) := by decide +kernel
theorem dX0_copyFrom_34 : decode cX0_copyFrom 34 = .ok (.getfield 23, 3) := by decide +kernel
theorem dX0_copyFrom_37 : decode cX0_copyFrom 37 = .ok (.putfield 23, 3) := by decide +kernel
theorem dX0_copyFrom_40 : decode cX0_copyFrom 40 = .ok (.aload_n 0, 1) := by decide +kernel
theorem dX0_copyFrom_41 : decode cX0_copyFrom 41 = .ok (.aload_n 1, 1) := by decide +kernel
theorem dX0_copyFrom_42 : decode cX0_copyFrom 42 = .ok (.getfield 26, 3) := by decide +kernel
theorem dX0_copyFrom_45 : decode cX0_copyFrom 45 = .ok (.putfield 26, 3) := by decide +kernel
theorem dX0_copyFrom_48 : decode cX0_copyFrom 48 = .ok (.return_, 1) := by decide +kernel
theorem dX1_init_0 : decode cX1_init 0 = .ok (.aload_n 0, 1) := by decide +kernel
theorem dX1_init_1 : decode cX1_init 1 = .ok (.invokespecial 3, 3) := by decide +kernel
theorem dX1_init_4 : decode cX1_init 4 = .ok (.aload_n 0, 1) := by decide +kernel
theorem dX1_init_5 : decode cX1_init 5 = .ok (.bipush 6, 2) := by decide +kernel
theorem dX1_init_7 : decode cX1_init 7 = .ok (.newarray .int, 2) := by decide +kernel
theorem dX1_init_9 : decode cX1_init 9 = .ok (.putfield 9, 3) := by decide +kernel
theorem dX1_init_12 : decode cX1_init 12 = .ok (.return_, 1) := by decide +kernel
theorem dX1_copyFrom_0 : decode cX1_copyFrom 0 = .ok (.aload_n 1, 1) := by decide +kernel
theorem dX1_copyFrom_1 : decode cX1_copyFrom 1 = .ok (.getfield 9, 3) := by decide +kernel
theorem dX1_copyFrom_4 : decode cX1_copyFrom 4 = .ok (.iconst 0, 1) := by decide +kernel
theorem dX1_copyFrom_5 : decode cX1_copyFrom 5 = .ok (.aload_n 0, 1) := by decide +kernel
theorem dX1_copyFrom_6 : decode cX1_copyFrom 6 = .ok (.getfield 9, 3) := by decide +kernel
theorem dX1_copyFrom_9 : decode cX1_copyFrom 9 = .ok (.iconst 0, 1) := by decide +kernel
theorem dX1_copyFrom_10 : decode cX1_copyFrom 10 = .ok (.bipush 6, 2) := by decide +kernel
theorem dX1_copyFrom_12 : decode cX1_copyFrom 12 = .ok (.invokestatic 15, 3) := by decide +kernel
theorem dX1_copyFrom_15 : decode cX1_copyFrom 15 = .ok (.aload_n 0, 1) := by decide +kernel
theorem dX1_copyFrom_16 : decode cX1_copyFrom 16 = .ok (.aload_n 1, 1) := by decide +kernel
theorem dX1_copyFrom_17 : decode cX1_copyFrom 17 = .ok (.getfield 21, 3) := by decide +kernel
theorem dX1_copyFrom_20 : decode cX1_copyFrom 20 = .ok (.putfield 21, 3) := by decide +kernel
theorem dX1_copyFrom_23 : decode cX1_copyFrom 23 = .ok (.aload_n 0, 1) := by decide +kernel
theorem dX1_copyFrom_24 : decode cX1_copyFrom 24 = .ok (.aload_n 1, 1) := by decide +kernel
theorem dX1_copyFrom_25 : decode cX1_copyFrom 25 = .ok (.getfield 25, 3) := by decide +kernel
theorem dX1_copyFrom_28 : decode cX1_copyFrom 28 = .ok (.putfield 25, 3) := by decide +kernel
theorem dX1_copyFrom_31 : decode cX1_copyFrom 31 = .ok (.aload_n 0, 1) := by decide +kernel
theorem dX1_copyFrom_32 : decode cX1_copyFrom 32 = .ok (.aload_n 1, 1) := by decide +kernel
theorem dX1_copyFrom_33 : decode cX1_copyFrom 33 = .ok (.getfield 28, 3) := by decide +kernel
theorem dX1_copyFrom_36 : decode cX1_copyFrom 36 = .ok (.putfield 28, 3) := by decide +kernel
theorem dX1_copyFrom_39 : decode cX1_copyFrom 39 = .ok (.aload_n 0, 1) := by decide +kernel
theorem dX1_copyFrom_40 : decode cX1_copyFrom 40 = .ok (.aload_n 1, 1) := by decide +kernel
theorem dX1_copyFrom_41 : decode cX1_copyFrom 41 = .ok (.getfield 31, 3) := by decide +kernel
theorem dX1_copyFrom_44 : decode cX1_copyFrom 44 = .ok (.putfield 31, 3) := by decide +kernel
theorem dX1_copyFrom_47 : decode cX1_copyFrom 47 = .ok (.aload_n 0, 1) := by decide +kernel
theorem dX1_copyFrom_48 : decode cX1_copyFrom 48 = .ok (.aload_n 1, 1) := by decide +kernel
theorem dX1_copyFrom_49 : decode cX1_copyFrom 49 = .ok (.getfield 34, 3) := by decide +kernel
theorem dX1_copyFrom_52 : decode cX1_copyFrom 52 = .ok (.putfield 34, 3) := by decide +kernel
theorem dX1_copyFrom_55 : decode cX1_copyFrom 55 = .ok (.return_, 1) := by decide +kernel
theorem dX1_placeOf_0 : decode cX1_placeOf 0 = .ok (.iconst 0, 1) := by decide +kernel
theorem dX1_placeOf_1 : decode cX1_placeOf 1 = .ok (.istore_n 2, 1) := by decide +kernel
theorem dX1_placeOf_2 : decode cX1_placeOf 2 = .ok (.iload_n 2, 1) := by decide +kernel
theorem dX1_placeOf_3 : decode cX1_placeOf 3 = .ok (.aload_n 0, 1) := by decide +kernel
theorem dX1_placeOf_4 : decode cX1_placeOf 4 = .ok (.getfield 21, 3) := by decide +kernel
theorem dX1_placeOf_7 : decode cX1_placeOf 7 = .ok (.if_icmp .ge 21, 3) := by decide +kernel
theorem dX1_placeOf_10 : decode cX1_placeOf 10 = .ok (.aload_n 0, 1) := by decide +kernel
theorem dX1_placeOf_11 : decode cX1_placeOf 11 = .ok (.getfield 9, 3) := by decide +kernel
theorem dX1_placeOf_14 : decode cX1_placeOf 14 = .ok (.iload_n 2, 1) := by decide +kernel
theorem dX1_placeOf_15 : decode cX1_placeOf 15 = .ok (.iaload, 1) := by decide +kernel
theorem dX1_placeOf_16 : decode cX1_placeOf 16 = .ok (.iload_n 1, 1) := by decide +kernel
theorem dX1_placeOf_17 : decode cX1_placeOf 17 = .ok (.if_icmp .ne 5, 3) := by decide +kernel
theorem dX1_placeOf_20 : decode cX1_placeOf 20 = .ok (.iload_n 2, 1) := by decide +kernel
theorem dX1_placeOf_21 : decode cX1_placeOf 21 = .ok (.ireturn, 1) := by decide +kernel
theorem dX1_placeOf_22 : decode cX1_placeOf 22 = .ok (.iinc 2 1, 3) := by decide +kernel
theorem dX1_placeOf_25 : decode cX1_placeOf 25 = .ok (.goto (-23), 3) := by decide +kernel
theorem dX1_placeOf_28 : decode cX1_placeOf 28 = .ok (.iconst (-1), 1) := by decide +kernel
theorem dX1_placeOf_29 : decode cX1_placeOf 29 = .ok (.ireturn, 1) := by decide +kernel
theorem dX1_takeOut_0 : decode cX1_takeOut 0 = .ok (.iload_n 1, 1) := by decide +kernel
theorem dX1_takeOut_1 : decode cX1_takeOut 1 = .ok (.iconst 1, 1) := by decide +kernel
theorem dX1_takeOut_2 : decode cX1_takeOut 2 = .ok (.iadd, 1) := by decide +kernel
theorem dX1_takeOut_3 : decode cX1_takeOut 3 = .ok (.istore_n 2, 1) := by decide +kernel
theorem dX1_takeOut_4 : decode cX1_takeOut 4 = .ok (.iload_n 2, 1) := by decide +kernel
theorem dX1_takeOut_5 : decode cX1_takeOut 5 = .ok (.aload_n 0, 1) := by decide +kernel
theorem dX1_takeOut_6 : decode cX1_takeOut 6 = .ok (.getfield 21, 3) := by decide +kernel
theorem dX1_takeOut_9 : decode cX1_takeOut 9 = .ok (.if_icmp .ge 23, 3) := by decide +kernel
theorem dX1_takeOut_12 : decode cX1_takeOut 12 = .ok (.aload_n 0, 1) := by decide +kernel
theorem dX1_takeOut_13 : decode cX1_takeOut 13 = .ok (.getfield 9, 3) := by decide +kernel
theorem dX1_takeOut_16 : decode cX1_takeOut 16 = .ok (.iload_n 2, 1) := by decide +kernel
theorem dX1_takeOut_17 : decode cX1_takeOut 17 = .ok (.iconst 1, 1) := by decide +kernel
theorem dX1_takeOut_18 : decode cX1_takeOut 18 = .ok (.isub, 1) := by decide +kernel
theorem dX1_takeOut_19 : decode cX1_takeOut 19 = .ok (.aload_n 0, 1) := by decide +kernel
theorem dX1_takeOut_20 : decode cX1_takeOut 20 = .ok (.getfield 9, 3) := by decide +kernel
theorem dX1_takeOut_23 : decode cX1_takeOut 23 = .ok (.iload_n 2, 1) := by decide +kernel
theorem dX1_takeOut_24 : decode cX1_takeOut 24 = .ok (.iaload, 1) := by decide +kernel
theorem dX1_takeOut_25 : decode cX1_takeOut 25 = .ok (.iastore, 1) := by decide +kernel
theorem dX1_takeOut_26 : decode cX1_takeOut 26 = .ok (.iinc 2 1, 3) := by decide +kernel
theorem dX1_takeOut_29 : decode cX1_takeOut 29 = .ok (.goto (-25), 3) := by decide +kernel
theorem dX1_takeOut_32 : decode cX1_takeOut 32 = .ok (.aload_n 0, 1) := by decide +kernel
theorem dX1_takeOut_33 : decode cX1_takeOut 33 = .ok (.dup, 1) := by decide +kernel
theorem dX1_takeOut_34 : decode cX1_takeOut 34 = .ok (.getfield 21, 3) := by decide +kernel
theorem dX1_takeOut_37 : decode cX1_takeOut 37 = .ok (.iconst 1, 1) := by decide +kernel
theorem dX1_takeOut_38 : decode cX1_takeOut 38 = .ok (.isub, 1) := by decide +kernel
theorem dX1_takeOut_39 : decode cX1_takeOut 39 = .ok (.putfield 21, 3) := by decide +kernel
theorem dX1_takeOut_42 : decode cX1_takeOut 42 = .ok (.iload_n 1, 1) := by decide +kernel
theorem dX1_takeOut_43 : decode cX1_takeOut 43 = .ok (.ifCond .ne 8, 3) := by decide +kernel
theorem dX1_takeOut_46 : decode cX1_takeOut 46 = .ok (.aload_n 0, 1) := by decide +kernel
theorem dX1_takeOut_47 : decode cX1_takeOut 47 = .ok (.iconst 0, 1) := by decide +kernel
theorem dX1_takeOut_48 : decode cX1_takeOut 48 = .ok (.putfield 28, 3) := by decide +kernel
theorem dX1_takeOut_51 : decode cX1_takeOut 51 = .ok (.return_, 1) := by decide +kernel
theorem dX1_haveOnly_0 : decode cX1_haveOnly 0 = .ok (.aload_n 0, 1) := by decide +kernel
theorem dX1_haveOnly_1 : decode cX1_haveOnly 1 = .ok (.iconst 0, 1) := by decide +kernel
theorem dX1_haveOnly_2 : decode cX1_haveOnly 2 = .ok (.putfield 21, 3) := by decide +kernel
theorem dX1_haveOnly_5 : decode cX1_haveOnly 5 = .ok (.aload_n 0, 1) := by decide +kernel
theorem dX1_haveOnly_6 : decode cX1_haveOnly 6 = .ok (.iconst 0, 1) := by decide +kernel
theorem dX1_haveOnly_7 : decode cX1_haveOnly 7 = .ok (.putfield 28, 3) := by decide +kernel
theorem dX1_haveOnly_10 : decode cX1_haveOnly 10 = .ok (.iload_n 1, 1) := by decide +kernel
theorem dX1_haveOnly_11 : decode cX1_haveOnly 11 = .ok (.iconst (-1), 1) := by decide +kernel
theorem dX1_haveOnly_12 : decode cX1_haveOnly 12 = .ok (.if_icmp .eq 15, 3) := by decide +kernel
theorem dX1_haveOnly_15 : decode cX1_haveOnly 15 = .ok (.aload_n 0, 1) := by decide +kernel
theorem dX1_haveOnly_16 : decode cX1_haveOnly 16 = .ok (.getfield 9, 3) := by decide +kernel
theorem dX1_haveOnly_19 : decode cX1_haveOnly 19 = .ok (.iconst 0, 1) := by decide +kernel
theorem dX1_haveOnly_20 : decode cX1_haveOnly 20 = .ok (.iload_n 1, 1) := by decide +kernel
theorem dX1_haveOnly_21 : decode cX1_haveOnly 21 = .ok (.iastore, 1) := by decide +kernel
theorem dX1_haveOnly_22 : decode cX1_haveOnly 22 = .ok (.aload_n 0, 1) := by decide +kernel
theorem dX1_haveOnly_23 : decode cX1_haveOnly 23 = .ok (.iconst 1, 1) := by decide +kernel
theorem dX1_haveOnly_24 : decode cX1_haveOnly 24 = .ok (.putfield 21, 3) := by decide +kernel
theorem dX1_haveOnly_27 : decode cX1_haveOnly 27 = .ok (.return_, 1) := by decide +kernel
theorem dX1_spansUpwardsToFirst_0 : decode cX1_spansUpwardsToFirst 0 = .ok (.aload_n 0, 1) := by decide +kernel
theorem dX1_spansUpwardsToFirst_1 : decode cX1_spansUpwardsToFirst 1 = .ok (.getfield 9, 3) := by decide +kernel
theorem dX1_spansUpwardsToFirst_4 : decode cX1_spansUpwardsToFirst 4 = .ok (.iconst 0, 1) := by decide +kernel
theorem dX1_spansUpwardsToFirst_5 : decode cX1_spansUpwardsToFirst 5 = .ok (.iaload, 1) := by decide +kernel
theorem dX1_spansUpwardsToFirst_6 : decode cX1_spansUpwardsToFirst 6 = .ok (.aload_n 0, 1) := by decide +kernel
theorem dX1_spansUpwardsToFirst_7 : decode cX1_spansUpwardsToFirst 7 = .ok (.getfield 25, 3) := by decide +kernel
theorem dX1_spansUpwardsToFirst_10 : decode cX1_spansUpwardsToFirst 10 = .ok (.isub, 1) := by decide +kernel
theorem dX1_spansUpwardsToFirst_11 : decode cX1_spansUpwardsToFirst 11 = .ok (.bipush 24, 2) := by decide +kernel
theorem dX1_spansUpwardsToFirst_13 : decode cX1_spansUpwardsToFirst 13 = .ok (.iadd, 1) := by decide +kernel
theorem dX1_spansUpwardsToFirst_14 : decode cX1_spansUpwardsToFirst 14 = .ok (.bipush 24, 2) := by decide +kernel
theorem dX1_spansUpwardsToFirst_16 : decode cX1_spansUpwardsToFirst 16 = .ok (.irem, 1) := by decide +kernel
theorem dX1_spansUpwardsToFirst_17 : decode cX1_spansUpwardsToFirst 17 = .ok (.ireturn, 1) := by decide +kernel
set_option maxRecDepth 20000 in
theorem ggX1_hoursToFirst_X1_spansUpwardsToFirst : GoodIn wsX1_hoursToFirst wsX1_spansUpwardsToFirst := goodIn_r _ [10, 11, 12, 13, 14, 15, 16, 17, 18] (by decide +kernel) (by decide +kernel)
set_option maxRecDepth 20000 in
theorem gX1_hoursToFirst_X1_spansUpwardsToFirst : GoodIn wsX1_hoursToFirst (wsV RX1 37 RX1 yX1_spansUpwardsToFirst wsX1_spansUpwardsToFirst) := goodIn_app (goodIn_of _ (by decide +kernel)) ggX1_hoursToFirst_X1_spansUpwardsToFirst
theorem dX1_hoursToFirst_0 : decode cX1_hoursToFirst 0 = .ok (.aload_n 0, 1) := by decide +kernel
theorem dX1_hoursToFirst_1 : decode cX1_hoursToFirst 1 = .ok (.getfield 21, 3) := by decide +kernel
theorem dX1_hoursToFirst_4 : decode cX1_hoursToFirst 4 = .ok (.ifCond .ne 5, 3) := by decide +kernel
theorem dX1_hoursToFirst_7 : decode cX1_hoursToFirst 7 = .ok (.iconst (-1), 1) := by decide +kernel
theorem dX1_hoursToFirst_8 : decode cX1_hoursToFirst 8 = .ok (.ireturn, 1) := by decide +kernel
theorem dX1_hoursToFirst_9 : decode cX1_hoursToFirst 9 = .ok (.aload_n 0, 1) := by decide +kernel
theorem dX1_hoursToFirst_10 : decode cX1_hoursToFirst 10 = .ok (.invokevirtual 37, 3) := by decide +kernel
theorem dX1_hoursToFirst_13 : decode cX1_hoursToFirst 13 = .ok (.istore_n 1, 1) := by decide +kernel
theorem dX1_hoursToFirst_14 : decode cX1_hoursToFirst 14 = .ok (.iload_n 1, 1) := by decide +kernel
theorem dX1_hoursToFirst_15 : decode cX1_hoursToFirst 15 = .ok (.bipush 24, 2) := by decide +kernel
theorem dX1_hoursToFirst_17 : decode cX1_hoursToFirst 17 = .ok (.iload_n 1, 1) := by decide +kernel
theorem dX1_hoursToFirst_18 : decode cX1_hoursToFirst 18 = .ok (.isub, 1) := by decide +kernel
theorem dX1_hoursToFirst_19 : decode cX1_hoursToFirst 19 = .ok (.invokestatic 41, 3) := by decide +kernel
theorem dX1_hoursToFirst_22 : decode cX1_hoursToFirst 22 = .ok (.istore_n 2, 1) := by decide +kernel
theorem dX1_hoursToFirst_23 : decode cX1_hoursToFirst 23 = .ok (.iload_n 2, 1) := by decide +kernel
theorem dX1_hoursToFirst_24 : decode cX1_hoursToFirst 24 = .ok (.iconst 4, 1) := by decide +kernel
theorem dX1_hoursToFirst_25 : decode cX1_hoursToFirst 25 = .ok (.iadd, 1) := by decide +kernel
theorem dX1_hoursToFirst_26 : decode cX1_hoursToFirst 26 = .ok (.iconst 1, 1) := by decide +kernel
theorem dX1_hoursToFirst_27 : decode cX1_hoursToFirst 27 = .ok (.isub, 1) := by decide +kernel
theorem dX1_hoursToFirst_28 : decode cX1_hoursToFirst 28 = .ok (.iconst 4, 1) := by decide +kernel
theorem dX1_hoursToFirst_29 : decode cX1_hoursToFirst 29 = .ok (.idiv, 1) := by decide +kernel
theorem dX1_hoursToFirst_30 : decode cX1_hoursToFirst 30 = .ok (.ireturn, 1) := by decide +kernel
set_option maxRecDepth 20000 in
theorem ggX1_goToFirst_X1_spansUpwardsToFirst : GoodIn wsX1_goToFirst wsX1_spansUpwardsToFirst := goodIn_r _ [10, 11, 5, 12, 13, 14, 15, 16, 17] (by decide +kernel) (by decide +kernel)
set_option maxRecDepth 20000 in
theorem gX1_goToFirst_X1_spansUpwardsToFirst : GoodIn wsX1_goToFirst (wsV RX1 37 RX1 yX1_spansUpwardsToFirst wsX1_spansUpwardsToFirst) := goodIn_app (goodIn_of _ (by decide +kernel)) ggX1_goToFirst_X1_spansUpwardsToFirst
theorem dX1_goToFirst_0 : decode cX1_goToFirst 0 = .ok (.aload_n 0, 1) := by decide +kernel
theorem dX1_goToFirst_1 : decode cX1_goToFirst 1 = .ok (.invokevirtual 37, 3) := by decide +kernel
theorem dX1_goToFirst_4 : decode cX1_goToFirst 4 = .ok (.istore_n 1, 1) := by decide +kernel
theorem dX1_goToFirst_5 : decode cX1_goToFirst 5 = .ok (.bipush 24, 2) := by decide +kernel
theorem dX1_goToFirst_7 : decode cX1_goToFirst 7 = .ok (.iload_n 1, 1) := by decide +kernel
theorem dX1_goToFirst_8 : decode cX1_goToFirst 8 = .ok (.isub, 1) := by decide +kernel
theorem dX1_goToFirst_9 : decode cX1_goToFirst 9 = .ok (.istore_n 2, 1) := by decide +kernel
theorem dX1_goToFirst_10 : decode cX1_goToFirst 10 = .ok (.iload_n 1, 1) := by decide +kernel
theorem dX1_goToFirst_11 : decode cX1_goToFirst 11 = .ok (.iload_n 2, 1) := by decide +kernel
theorem dX1_goToFirst_12 : decode cX1_goToFirst 12 = .ok (.if_icmp .gt 11, 3) := by decide +kernel
theorem dX1_goToFirst_15 : decode cX1_goToFirst 15 = .ok (.iload_n 1, 1) := by decide +kernel
theorem dX1_goToFirst_16 : decode cX1_goToFirst 16 = .ok (.iconst 4, 1) := by decide +kernel
theorem dX1_goToFirst_17 : decode cX1_goToFirst 17 = .ok (.invokestatic 41, 3) := by decide +kernel
theorem dX1_goToFirst_20 : decode cX1_goToFirst 20 = .ok (.goto 9, 3) := by decide +kernel
theorem dX1_goToFirst_23 : decode cX1_goToFirst 23 = .ok (.iload_n 2, 1) := by decide +kernel
theorem dX1_goToFirst_24 : decode cX1_goToFirst 24 = .ok (.iconst 4, 1) := by decide +kernel
theorem dX1_goToFirst_25 : decode cX1_goToFirst 25 = .ok (.invokestatic 41, 3) := by decide +kernel
theorem dX1_goToFirst_28 : decode cX1_goToFirst 28 = .ok (.ineg, 1) := by decide +kernel
theorem dX1_goToFirst_29 : decode cX1_goToFirst 29 = .ok (.istore_n 3, 1) := by decide +kernel
theorem dX1_goToFirst_30 : decode cX1_goToFirst 30 = .ok (.aload_n 0, 1) := by decide +kernel
theorem dX1_goToFirst_31 : decode cX1_goToFirst 31 = .ok (.aload_n 0, 1) := by decide +kernel
theorem dX1_goToFirst_32 : decode cX1_goToFirst 32 = .ok (.getfield 25, 3) := by decide +kernel
theorem dX1_goToFirst_35 : decode cX1_goToFirst 35 = .ok (.iload_n 3, 1) := by decide +kernel
theorem dX1_goToFirst_36 : decode cX1_goToFirst 36 = .ok (.iadd, 1) := by decide +kernel
theorem dX1_goToFirst_37 : decode cX1_goToFirst 37 = .ok (.bipush 24, 2) := by decide +kernel
theorem dX1_goToFirst_39 : decode cX1_goToFirst 39 = .ok (.iadd, 1) := by decide +kernel
theorem dX1_goToFirst_40 : decode cX1_goToFirst 40 = .ok (.bipush 24, 2) := by decide +kernel
theorem dX1_goToFirst_42 : decode cX1_goToFirst 42 = .ok (.irem, 1) := by decide +kernel
theorem dX1_goToFirst_43 : decode cX1_goToFirst 43 = .ok (.putfield 25, 3) := by decide +kernel
theorem dX1_goToFirst_46 : decode cX1_goToFirst 46 = .ok (.return_, 1) := by decide +kernel
set_option maxRecDepth 20000 in
theorem ggX2_init_X4_init : GoodIn wsX2_init wsX4_init := goodIn_r _ [17, 18, 2, 3, 19, 20, 21, 29, 30] (by decide +kernel) (by decide +kernel)
set_option maxRecDepth 20000 in
theorem gX2_init_X4_init_n11 : GoodIn wsX2_init (wsX4_init) := ggX2_init_X4_init
set_option maxRecDepth 20000 in
theorem ggX2_init_X1_init : GoodIn wsX2_init wsX1_init := goodIn_r _ [23, 24, 2, 3, 19, 25, 37, 38, 39, 40, 41, 42] (by decide +kernel) (by decide +kernel)
set_option maxRecDepth 20000 in
theorem gX2_init_X1_init_n20 : GoodIn wsX2_init (wsX1_init) := ggX2_init_X1_init
set_option maxRecDepth 20000 in
theorem ggX2_init_X0_init : GoodIn wsX2_init wsX0_init := goodIn_r _ [27, 28, 2, 3] (by decide +kernel) (by decide +kernel)
set_option maxRecDepth 20000 in
theorem gX2_init_X0_init_n31 : GoodIn wsX2_init (wsX0_init) := ggX2_init_X0_init
theorem dX2_init_0 : decode cX2_init 0 = .ok (.aload_n 0, 1) := by decide +kernel
theorem dX2_init_1 : decode cX2_init 1 = .ok (.invokespecial 3, 3) := by decide +kernel
theorem dX2_init_4 : decode cX2_init 4 = .ok (.aload_n 0, 1) := by decide +kernel
theorem dX2_init_5 : decode cX2_init 5 = .ok (.new 9, 3) := by decide +kernel
theorem dX2_init_8 : decode cX2_init 8 = .ok (.dup, 1) := by decide +kernel
theorem dX2_init_9 : decode cX2_init 9 = .ok (.invokespecial 11, 3) := by decide +kernel
theorem dX2_init_12 : decode cX2_init 12 = .ok (.putfield 12, 3) := by decide +kernel
theorem dX2_init_15 : decode cX2_init 15 = .ok (.aload_n 0, 1) := by decide +kernel
theorem dX2_init_16 : decode cX2_init 16 = .ok (.new 18, 3) := by decide +kernel
theorem dX2_init_19 : decode cX2_init 19 = .ok (.dup, 1) := by decide +kernel
theorem dX2_init_20 : decode cX2_init 20 = .ok (.invokespecial 20, 3) := by decide +kernel
theorem dX2_init_23 : decode cX2_init 23 = .ok (.putfield 21, 3) := by decide +kernel
theorem dX2_init_26 : decode cX2_init 26 = .ok (.aload_n 0, 1) := by decide +kernel
theorem dX2_init_27 : decode cX2_init 27 = .ok (.bipush 6, 2) := by decide +kernel
theorem dX2_init_29 : decode cX2_init 29 = .ok (.anewarray 25, 3) := by decide +kernel
theorem dX2_init_32 : decode cX2_init 32 = .ok (.putfield 27, 3) := by decide +kernel
theorem dX2_init_35 : decode cX2_init 35 = .ok (.iconst 0, 1) := by decide +kernel
theorem dX2_init_36 : decode cX2_init 36 = .ok (.istore_n 1, 1) := by decide +kernel
theorem dX2_init_37 : decode cX2_init 37 = .ok (.iload_n 1, 1) := by decide +kernel
theorem dX2_init_38 : decode cX2_init 38 = .ok (.bipush 6, 2) := by decide +kernel
theorem dX2_init_40 : decode cX2_init 40 = .ok (.if_icmp .ge 22, 3) := by decide +kernel
theorem dX2_init_43 : decode cX2_init 43 = .ok (.aload_n 0, 1) := by decide +kernel
theorem dX2_init_44 : decode cX2_init 44 = .ok (.getfield 27, 3) := by decide +kernel
theorem dX2_init_47 : decode cX2_init 47 = .ok (.iload_n 1, 1) := by decide +kernel
theorem dX2_init_48 : decode cX2_init 48 = .ok (.new 25, 3) := by decide +kernel
theorem dX2_init_51 : decode cX2_init 51 = .ok (.dup, 1) := by decide +kernel
theorem dX2_init_52 : decode cX2_init 52 = .ok (.invokespecial 31, 3) := by decide +kernel
theorem dX2_init_55 : decode cX2_init 55 = .ok (.aastore, 1) := by decide +kernel
theorem dX2_init_56 : decode cX2_init 56 = .ok (.iinc 1 1, 3) := by decide +kernel
theorem dX2_init_59 : decode cX2_init 59 = .ok (.goto (-22), 3) := by decide +kernel
theorem dX2_init_62 : decode cX2_init 62 = .ok (.return_, 1) := by decide +kernel
set_option maxRecDepth 20000 in
theorem ggX2_copyFrom_X4_copyFrom : GoodIn wsX2_copyFrom wsX4_copyFrom := goodIn_r _ [10, 11, 12, 13, 14, 15, 16, 44, 45] (by decide +kernel) (by decide +kernel)
set_option maxRecDepth 20000 in
theorem gX2_copyFrom_X4_copyFrom_n32 : GoodIn wsX2_copyFrom (wsX4_copyFrom) := ggX2_copyFrom_X4_copyFrom
set_option maxRecDepth 20000 in
theorem ggX2_copyFrom_X1_copyFrom : GoodIn wsX2_copyFrom wsX1_copyFrom := goodIn_r _ [20, 21, 22, 13, 14, 15, 23, 24, 25, 26, 27, 46, 47, 48, 49, 50, 51] (by decide +kernel) (by decide +kernel)
set_option maxRecDepth 20000 in
theorem gX2_copyFrom_X1_copyFrom_n36 : GoodIn wsX2_copyFrom (wsX1_copyFrom) := ggX2_copyFrom_X1_copyFrom
set_option maxRecDepth 20000 in
theorem ggX2_copyFrom_X0_copyFrom : GoodIn wsX2_copyFrom wsX0_copyFrom := goodIn_r _ [31, 32, 33, 34, 35, 36, 37, 52, 53, 54, 55, 56, 57] (by decide +kernel) (by decide +kernel)
set_option maxRecDepth 20000 in
theorem gX2_copyFrom_X0_copyFrom_n43 : GoodIn wsX2_copyFrom (wsX0_copyFrom) := ggX2_copyFrom_X0_copyFrom
theorem dX2_copyFrom_0 : decode cX2_copyFrom 0 = .ok (.aload_n 0, 1) := by decide +kernel
theorem dX2_copyFrom_1 : decode cX2_copyFrom 1 = .ok (.getfield 12, 3) := by decide +kernel
theorem dX2_copyFrom_4 : decode cX2_copyFrom 4 = .ok (.aload_n 1, 1) := by decide +kernel
theorem dX2_copyFrom_5 : decode cX2_copyFrom 5 = .ok (.getfield 12, 3) := by decide +kernel
theorem dX2_copyFrom_8 : decode cX2_copyFrom 8 = .ok (.invokevirtual 32, 3) := by decide +kernel
theorem dX2_copyFrom_11 : decode cX2_copyFrom 11 = .ok (.aload_n 0, 1) := by decide +kernel
theorem dX2_copyFrom_12 : decode cX2_copyFrom 12 = .ok (.getfield 21, 3) := by decide +kernel
theorem dX2_copyFrom_15 : decode cX2_copyFrom 15 = .ok (.aload_n 1, 1) := by decide +kernel
theorem dX2_copyFrom_16 : decode cX2_copyFrom 16 = .ok (.getfield 21, 3) := by decide +kernel
theorem dX2_copyFrom_19 : decode cX2_copyFrom 19 = .ok (.invokevirtual 36, 3) := by decide +kernel
theorem dX2_copyFrom_22 : decode cX2_copyFrom 22 = .ok (.iconst 0, 1) := by decide +kernel
theorem dX2_copyFrom_23 : decode cX2_copyFrom 23 = .ok (.istore_n 2, 1) := by decide +kernel
theorem dX2_copyFrom_24 : decode cX2_copyFrom 24 = .ok (.iload_n 2, 1) := by decide +kernel
theorem dX2_copyFrom_25 : decode cX2_copyFrom 25 = .ok (.aload_n 1, 1) := by decide +kernel
theorem dX2_copyFrom_26 : decode cX2_copyFrom 26 = .ok (.getfield 39, 3) := by decide +kernel
theorem dX2_copyFrom_29 : decode cX2_copyFrom 29 = .ok (.if_icmp .ge 24, 3) := by decide +kernel
theorem dX2_copyFrom_32 : decode cX2_copyFrom 32 = .ok (.aload_n 0, 1) := by decide +kernel
theorem dX2_copyFrom_33 : decode cX2_copyFrom 33 = .ok (.getfield 27, 3) := by decide +kernel
theorem dX2_copyFrom_36 : decode cX2_copyFrom 36 = .ok (.iload_n 2, 1) := by decide +kernel
theorem dX2_copyFrom_37 : decode cX2_copyFrom 37 = .ok (.aaload, 1) := by decide +kernel
theorem dX2_copyFrom_38 : decode cX2_copyFrom 38 = .ok (.aload_n 1, 1) := by decide +kernel
theorem dX2_copyFrom_39 : decode cX2_copyFrom 39 = .ok (.getfield 27, 3) := by decide +kernel
theorem dX2_copyFrom_42 : decode cX2_copyFrom 42 = .ok (.iload_n 2, 1) := by decide +kernel
theorem dX2_copyFrom_43 : decode cX2_copyFrom 43 = .ok (.aaload, 1) := by decide +kernel
theorem dX2_copyFrom_44 : decode cX2_copyFrom 44 = .ok (.invokevirtual 43, 3) := by decide +kernel
theorem dX2_copyFrom_47 : decode cX2_copyFrom 47 = .ok (.iinc 2 1, 3) := by decide +kernel
theorem dX2_copyFrom_50 : decode cX2_copyFrom 50 = .ok (.goto (-26), 3) := by decide +kernel
theorem dX2_copyFrom_53 : decode cX2_copyFrom 53 = .ok (.aload_n 0, 1) := by decide +kernel
theorem dX2_copyFrom_54 : decode cX2_copyFrom 54 = .ok (.aload_n 1, 1) := by decide +kernel
theorem dX2_copyFrom_55 : decode cX2_copyFrom 55 = .ok (.getfield 39, 3) := by decide +kernel
theorem dX2_copyFrom_58 : decode cX2_copyFrom 58 = .ok (.putfield 39, 3) := by decide +kernel
theorem dX2_copyFrom_61 : decode cX2_copyFrom 61 = .ok (.aload_n 0, 1) := by decide +kernel
theorem dX2_copyFrom_62 : decode cX2_copyFrom 62 = .ok (.aload_n 1, 1) := by decide +kernel
theorem dX2_copyFrom_63 : decode cX2_copyFrom 63 = .ok (.getfield 46, 3) := by decide +kernel
theorem dX2_copyFrom_66 : decode cX2_copyFrom 66 = .ok (.putfield 46, 3) := by decide +kernel
theorem dX2_copyFrom_69 : decode cX2_copyFrom 69 = .ok (.aload_n 0, 1) := by decide +kernel
theorem dX2_copyFrom_70 : decode cX2_copyFrom 70 = .ok (.aload_n 1, 1) := by decide +kernel
theorem dX2_copyFrom_71 : decode cX2_copyFrom 71 = .ok (.getfield 49, 3) := by decide +kernel
theorem dX2_copyFrom_74 : decode cX2_copyFrom 74 = .ok (.putfield 49, 3) := by decide +kernel
theorem dX2_copyFrom_77 : decode cX2_copyFrom 77 = .ok (.return_, 1) := by decide +kernel
set_option maxRecDepth 20000 in
theorem ggX2_letGoBy_X2_letHourGoBy : GoodIn wsX2_letGoBy wsX2_letHourGoBy := goodIn_r _ [5, 6, 7, 8, 9, 10, 11, 12, 13, 14, 15, 16, 17, 18, 19, 20, 21, 22, 23, 24, 25, 26, 27, 28, 29, 30, 4, 31, 32, 33, 34, 35, 36, 37, 38, 39, 40, 41, 42, 43, 44, 45, 46, 47, 48, 49, 50, 51, 52, 53, 54, 55, 56, 57, 58, 59, 60, 61, 62, 63, 64, 65, 66, 67, 68, 69, 70, 71, 72, 73, 74, 75, 76, 77, 78, 79, 80, 81, 82, 83, 84, 85, 86, 87, 88, 89, 90, 91, 92, 93, 94, 95, 96, 97, 98, 99, 100, 101, 102, 103, 104] (by decide +kernel) (by decide +kernel)
set_option maxRecDepth 20000 in
theorem gX2_letGoBy_X2_letHourGoBy : GoodIn wsX2_letGoBy (wsV RX2 52 RX2 yX2_letHourGoBy wsX2_letHourGoBy) := goodIn_app (goodIn_of _ (by decide +kernel)) ggX2_letGoBy_X2_letHourGoBy
theorem dX2_letGoBy_0 : decode cX2_letGoBy 0 = .ok (.iconst 0, 1) := by decide +kernel
theorem dX2_letGoBy_1 : decode cX2_letGoBy 1 = .ok (.istore_n 3, 1) := by decide +kernel
theorem dX2_letGoBy_2 : decode cX2_letGoBy 2 = .ok (.iload_n 3, 1) := by decide +kernel
theorem dX2_letGoBy_3 : decode cX2_letGoBy 3 = .ok (.iload_n 1, 1) := by decide +kernel
theorem dX2_letGoBy_4 : decode cX2_letGoBy 4 = .ok (.if_icmp .ge 14, 3) := by decide +kernel
theorem dX2_letGoBy_7 : decode cX2_letGoBy 7 = .ok (.aload_n 0, 1) := by decide +kernel
theorem dX2_letGoBy_8 : decode cX2_letGoBy 8 = .ok (.aload_n 2, 1) := by decide +kernel
theorem dX2_letGoBy_9 : decode cX2_letGoBy 9 = .ok (.invokevirtual 52, 3) := by decide +kernel
theorem dX2_letGoBy_12 : decode cX2_letGoBy 12 = .ok (.iinc 3 1, 3) := by decide +kernel
theorem dX2_letGoBy_15 : decode cX2_letGoBy 15 = .ok (.goto (-13), 3) := by decide +kernel
theorem dX2_letGoBy_18 : decode cX2_letGoBy 18 = .ok (.return_, 1) := by decide +kernel
set_option maxRecDepth 20000 in
theorem ggX2_letHourGoBy_X5_isNightAt : GoodIn wsX2_letHourGoBy wsX5_isNightAt := goodIn_r _ [7] (by decide +kernel) (by decide +kernel)
set_option maxRecDepth 20000 in
theorem gX2_letHourGoBy_X5_isNightAt_n56 : GoodIn wsX2_letHourGoBy (wsX5_isNightAt) := ggX2_letHourGoBy_X5_isNightAt
set_option maxRecDepth 20000 in
theorem ggX2_letHourGoBy_X4_freeze : GoodIn wsX2_letHourGoBy wsX4_freeze := goodIn_r _ [11, 12, 13, 14, 15, 16, 87, 88] (by decide +kernel) (by decide +kernel)
set_option maxRecDepth 20000 in
theorem gX2_letHourGoBy_X4_freeze_n66 : GoodIn wsX2_letHourGoBy (wsX4_freeze) := ggX2_letHourGoBy_X4_freeze
set_option maxRecDepth 20000 in
theorem ggX2_letHourGoBy_X4_thaw : GoodIn wsX2_letHourGoBy wsX4_thaw := goodIn_r _ [19, 12, 20, 21, 15, 22, 87, 88] (by decide +kernel) (by decide +kernel)
set_option maxRecDepth 20000 in
theorem gX2_letHourGoBy_X4_thaw_n70 : GoodIn wsX2_letHourGoBy (wsX4_thaw) := ggX2_letHourGoBy_X4_thaw
set_option maxRecDepth 20000 in
theorem ggX2_letHourGoBy_X2_letSwanFly : GoodIn wsX2_letHourGoBy wsX2_letSwanFly := goodIn_r _ [27, 2, 28, 9, 29, 30, 31, 32, 33, 34, 13, 14, 15, 16, 77, 78, 79, 80, 81, 82, 87, 88] (by decide +kernel) (by decide +kernel)
set_option maxRecDepth 20000 in
theorem gX2_letHourGoBy_X2_letSwanFly : GoodIn wsX2_letHourGoBy (wsV RX2 76 RX2 yX2_letSwanFly wsX2_letSwanFly) := goodIn_app (goodIn_of _ (by decide +kernel)) ggX2_letHourGoBy_X2_letSwanFly
set_option maxRecDepth 20000 in
theorem ggX2_letHourGoBy_X3_fare : GoodIn wsX2_letHourGoBy wsX3_fare := goodIn_r _ [38, 39, 40, 83, 84, 85, 86] (by decide +kernel) (by decide +kernel)
set_option maxRecDepth 20000 in
theorem gX2_letHourGoBy_X3_fare_n79 : GoodIn wsX2_letHourGoBy (wsX3_fare) := ggX2_letHourGoBy_X3_fare
set_option maxRecDepth 20000 in
theorem ggX2_letHourGoBy_X2_drive : GoodIn wsX2_letHourGoBy wsX2_drive := goodIn_r _ [44, 2, 45, 28, 9, 29, 30, 31, 32, 33, 34, 13, 14, 15, 16, 89, 90, 91, 92, 93, 94, 77, 78, 79, 80, 81, 82, 87, 88] (by decide +kernel) (by decide +kernel)
set_option maxRecDepth 20000 in
theorem gX2_letHourGoBy_X2_drive : GoodIn wsX2_letHourGoBy (wsV RX2 83 RX2 yX2_drive wsX2_drive) := goodIn_app (goodIn_of _ (by decide +kernel)) ggX2_letHourGoBy_X2_drive
set_option maxRecDepth 20000 in
theorem ggX2_letHourGoBy_X2_letGangWork : GoodIn wsX2_letHourGoBy wsX2_letGangWork := goodIn_r _ [49, 50, 45, 51, 52, 53, 54, 55, 14, 15, 16, 56, 57, 58, 59, 60, 61, 62, 63, 64, 26, 65, 2, 28, 9, 29, 30, 31, 66, 67, 68, 20, 21, 22, 69, 70, 71, 72, 73, 74, 75, 76, 77, 78, 79, 80, 81, 82, 95, 96, 97, 98, 99, 100, 87, 88] (by decide +kernel) (by decide +kernel)
set_option maxRecDepth 20000 in
theorem gX2_letHourGoBy_X2_letGangWork : GoodIn wsX2_letHourGoBy (wsV RX2 87 RX2 yX2_letGangWork wsX2_letGangWork) := goodIn_app (goodIn_of _ (by decide +kernel)) ggX2_letHourGoBy_X2_letGangWork
theorem dX2_letHourGoBy_0 : decode cX2_letHourGoBy 0 = .ok (.aload_n 0, 1) := by decide +kernel
theorem dX2_letHourGoBy_1 : decode cX2_letHourGoBy 1 = .ok (.getfield 46, 3) := by decide +kernel
theorem dX2_letHourGoBy_4 : decode cX2_letHourGoBy 4 = .ok (.invokestatic 56, 3) := by decide +kernel
theorem dX2_letHourGoBy_7 : decode cX2_letHourGoBy 7 = .ok (.istore_n 2, 1) := by decide +kernel
theorem dX2_letHourGoBy_8 : decode cX2_letHourGoBy 8 = .ok (.iload_n 2, 1) := by decide +kernel
theorem dX2_letHourGoBy_9 : decode cX2_letHourGoBy 9 = .ok (.ifCond .eq 25, 3) := by decide +kernel
theorem dX2_letHourGoBy_12 : decode cX2_letHourGoBy 12 = .ok (.aload_n 0, 1) := by decide +kernel
theorem dX2_letHourGoBy_13 : decode cX2_letHourGoBy 13 = .ok (.getfield 12, 3) := by decide +kernel
theorem dX2_letHourGoBy_16 : decode cX2_letHourGoBy 16 = .ok (.aload_n 1, 1) := by decide +kernel
theorem dX2_letHourGoBy_17 : decode cX2_letHourGoBy 17 = .ok (.getfield 60, 3) := by decide +kernel
theorem dX2_letHourGoBy_20 : decode cX2_letHourGoBy 20 = .ok (.aload_n 0, 1) := by decide +kernel
theorem dX2_letHourGoBy_21 : decode cX2_letHourGoBy 21 = .ok (.getfield 46, 3) := by decide +kernel
theorem dX2_letHourGoBy_24 : decode cX2_letHourGoBy 24 = .ok (.bipush 8, 2) := by decide +kernel
theorem dX2_letHourGoBy_26 : decode cX2_letHourGoBy 26 = .ok (.irem, 1) := by decide +kernel
theorem dX2_letHourGoBy_27 : decode cX2_letHourGoBy 27 = .ok (.iaload, 1) := by decide +kernel
theorem dX2_letHourGoBy_28 : decode cX2_letHourGoBy 28 = .ok (.invokevirtual 66, 3) := by decide +kernel
theorem dX2_letHourGoBy_31 : decode cX2_letHourGoBy 31 = .ok (.goto 10, 3) := by decide +kernel
theorem dX2_letHourGoBy_34 : decode cX2_letHourGoBy 34 = .ok (.aload_n 0, 1) := by decide +kernel
theorem dX2_letHourGoBy_35 : decode cX2_letHourGoBy 35 = .ok (.getfield 12, 3) := by decide +kernel
theorem dX2_letHourGoBy_38 : decode cX2_letHourGoBy 38 = .ok (.invokevirtual 70, 3) := by decide +kernel
theorem dX2_letHourGoBy_41 : decode cX2_letHourGoBy 41 = .ok (.aload_n 0, 1) := by decide +kernel
theorem dX2_letHourGoBy_42 : decode cX2_letHourGoBy 42 = .ok (.aload_n 1, 1) := by decide +kernel
theorem dX2_letHourGoBy_43 : decode cX2_letHourGoBy 43 = .ok (.getfield 73, 3) := by decide +kernel
theorem dX2_letHourGoBy_46 : decode cX2_letHourGoBy 46 = .ok (.aload_n 0, 1) := by decide +kernel
theorem dX2_letHourGoBy_47 : decode cX2_letHourGoBy 47 = .ok (.getfield 46, 3) := by decide +kernel
theorem dX2_letHourGoBy_50 : decode cX2_letHourGoBy 50 = .ok (.bipush 12, 2) := by decide +kernel
theorem dX2_letHourGoBy_52 : decode cX2_letHourGoBy 52 = .ok (.irem, 1) := by decide +kernel
theorem dX2_letHourGoBy_53 : decode cX2_letHourGoBy 53 = .ok (.iaload, 1) := by decide +kernel
theorem dX2_letHourGoBy_54 : decode cX2_letHourGoBy 54 = .ok (.invokevirtual 76, 3) := by decide +kernel
theorem dX2_letHourGoBy_57 : decode cX2_letHourGoBy 57 = .ok (.aload_n 1, 1) := by decide +kernel
theorem dX2_letHourGoBy_58 : decode cX2_letHourGoBy 58 = .ok (.iload_n 2, 1) := by decide +kernel
theorem dX2_letHourGoBy_59 : decode cX2_letHourGoBy 59 = .ok (.invokevirtual 79, 3) := by decide +kernel
theorem dX2_letHourGoBy_62 : decode cX2_letHourGoBy 62 = .ok (.istore_n 3, 1) := by decide +kernel
theorem dX2_letHourGoBy_63 : decode cX2_letHourGoBy 63 = .ok (.iconst 0, 1) := by decide +kernel
theorem dX2_letHourGoBy_64 : decode cX2_letHourGoBy 64 = .ok (.istore 4, 2) := by decide +kernel
theorem dX2_letHourGoBy_66 : decode cX2_letHourGoBy 66 = .ok (.iload 4, 2) := by decide +kernel
theorem dX2_letHourGoBy_68 : decode cX2_letHourGoBy 68 = .ok (.aload_n 0, 1) := by decide +kernel
theorem dX2_letHourGoBy_69 : decode cX2_letHourGoBy 69 = .ok (.getfield 39, 3) := by decide +kernel
theorem dX2_letHourGoBy_72 : decode cX2_letHourGoBy 72 = .ok (.if_icmp .ge 21, 3) := by decide +kernel
theorem dX2_letHourGoBy_75 : decode cX2_letHourGoBy 75 = .ok (.aload_n 0, 1) := by decide +kernel
theorem dX2_letHourGoBy_76 : decode cX2_letHourGoBy 76 = .ok (.aload_n 0, 1) := by decide +kernel
theorem dX2_letHourGoBy_77 : decode cX2_letHourGoBy 77 = .ok (.getfield 27, 3) := by decide +kernel
theorem dX2_letHourGoBy_80 : decode cX2_letHourGoBy 80 = .ok (.iload 4, 2) := by decide +kernel
theorem dX2_letHourGoBy_82 : decode cX2_letHourGoBy 82 = .ok (.aaload, 1) := by decide +kernel
theorem dX2_letHourGoBy_83 : decode cX2_letHourGoBy 83 = .ok (.iload_n 3, 1) := by decide +kernel
theorem dX2_letHourGoBy_84 : decode cX2_letHourGoBy 84 = .ok (.invokevirtual 83, 3) := by decide +kernel
theorem dX2_letHourGoBy_87 : decode cX2_letHourGoBy 87 = .ok (.iinc 4 1, 3) := by decide +kernel
theorem dX2_letHourGoBy_90 : decode cX2_letHourGoBy 90 = .ok (.goto (-24), 3) := by decide +kernel
theorem dX2_letHourGoBy_93 : decode cX2_letHourGoBy 93 = .ok (.aload_n 0, 1) := by decide +kernel
theorem dX2_letHourGoBy_94 : decode cX2_letHourGoBy 94 = .ok (.invokevirtual 87, 3) := by decide +kernel
theorem dX2_letHourGoBy_97 : decode cX2_letHourGoBy 97 = .ok (.aload_n 0, 1) := by decide +kernel
theorem dX2_letHourGoBy_98 : decode cX2_letHourGoBy 98 = .ok (.dup, 1) := by decide +kernel
theorem dX2_letHourGoBy_99 : decode cX2_letHourGoBy 99 = .ok (.getfield 46, 3) := by decide +kernel
theorem dX2_letHourGoBy_102 : decode cX2_letHourGoBy 102 = .ok (.iconst 1, 1) := by decide +kernel
theorem dX2_letHourGoBy_103 : decode cX2_letHourGoBy 103 = .ok (.iadd, 1) := by decide +kernel
theorem dX2_letHourGoBy_104 : decode cX2_letHourGoBy 104 = .ok (.putfield 46, 3) := by decide +kernel
theorem dX2_letHourGoBy_107 : decode cX2_letHourGoBy 107 = .ok (.return_, 1) := by decide +kernel
set_option maxRecDepth 20000 in
theorem ggX2_letSwanFly_X4_isDown : GoodIn wsX2_letSwanFly wsX4_isDown := goodIn_r _ [5, 6, 20, 21] (by decide +kernel) (by decide +kernel)
set_option maxRecDepth 20000 in
theorem gX2_letSwanFly_X4_isDown_n90 : GoodIn wsX2_letSwanFly (wsX4_isDown) := ggX2_letSwanFly_X4_isDown
set_option maxRecDepth 20000 in
theorem ggX2_letSwanFly_X4_wear : GoodIn wsX2_letSwanFly wsX4_wear := goodIn_r _ [9, 6, 10, 11, 12, 13, 20, 21] (by decide +kernel) (by decide +kernel)
set_option maxRecDepth 20000 in
theorem gX2_letSwanFly_X4_wear_n93 : GoodIn wsX2_letSwanFly (wsX4_wear) := ggX2_letSwanFly_X4_wear
theorem dX2_letSwanFly_0 : decode cX2_letSwanFly 0 = .ok (.iload_n 1, 1) := by decide +kernel
theorem dX2_letSwanFly_1 : decode cX2_letSwanFly 1 = .ok (.iconst (-1), 1) := by decide +kernel
theorem dX2_letSwanFly_2 : decode cX2_letSwanFly 2 = .ok (.if_icmp .eq 24, 3) := by decide +kernel
theorem dX2_letSwanFly_5 : decode cX2_letSwanFly 5 = .ok (.aload_n 0, 1) := by decide +kernel
theorem dX2_letSwanFly_6 : decode cX2_letSwanFly 6 = .ok (.getfield 12, 3) := by decide +kernel
theorem dX2_letSwanFly_9 : decode cX2_letSwanFly 9 = .ok (.iload_n 1, 1) := by decide +kernel
theorem dX2_letSwanFly_10 : decode cX2_letSwanFly 10 = .ok (.invokevirtual 90, 3) := by decide +kernel
theorem dX2_letSwanFly_13 : decode cX2_letSwanFly 13 = .ok (.ifCond .ne 13, 3) := by decide +kernel
theorem dX2_letSwanFly_16 : decode cX2_letSwanFly 16 = .ok (.aload_n 0, 1) := by decide +kernel
theorem dX2_letSwanFly_17 : decode cX2_letSwanFly 17 = .ok (.getfield 12, 3) := by decide +kernel
theorem dX2_letSwanFly_20 : decode cX2_letSwanFly 20 = .ok (.iload_n 1, 1) := by decide +kernel
theorem dX2_letSwanFly_21 : decode cX2_letSwanFly 21 = .ok (.bipush 25, 2) := by decide +kernel
theorem dX2_letSwanFly_23 : decode cX2_letSwanFly 23 = .ok (.invokevirtual 93, 3) := by decide +kernel
theorem dX2_letSwanFly_26 : decode cX2_letSwanFly 26 = .ok (.return_, 1) := by decide +kernel
set_option maxRecDepth 20000 in
theorem ggX2_drive_X4_isDown : GoodIn wsX2_drive wsX4_isDown := goodIn_r _ [6, 7, 27, 28] (by decide +kernel) (by decide +kernel)
set_option maxRecDepth 20000 in
theorem gX2_drive_X4_isDown_n90 : GoodIn wsX2_drive (wsX4_isDown) := ggX2_drive_X4_isDown
set_option maxRecDepth 20000 in
theorem ggX2_drive_X4_wear : GoodIn wsX2_drive wsX4_wear := goodIn_r _ [10, 7, 11, 12, 13, 14, 27, 28] (by decide +kernel) (by decide +kernel)
set_option maxRecDepth 20000 in
theorem gX2_drive_X4_wear_n93 : GoodIn wsX2_drive (wsX4_wear) := ggX2_drive_X4_wear
theorem dX2_drive_0 : decode cX2_drive 0 = .ok (.aload_n 1, 1) := by decide +kernel
theorem dX2_drive_1 : decode cX2_drive 1 = .ok (.getfield 97, 3) := by decide +kernel
theorem dX2_drive_4 : decode cX2_drive 4 = .ok (.ifCond .ne 4, 3) := by decide +kernel
theorem dX2_drive_7 : decode cX2_drive 7 = .ok (.return_, 1) := by decide +kernel
theorem dX2_drive_8 : decode cX2_drive 8 = .ok (.iconst 0, 1) := by decide +kernel
theorem dX2_drive_9 : decode cX2_drive 9 = .ok (.istore_n 3, 1) := by decide +kernel
theorem dX2_drive_10 : decode cX2_drive 10 = .ok (.iload_n 3, 1) := by decide +kernel
theorem dX2_drive_11 : decode cX2_drive 11 = .ok (.iconst 3, 1) := by decide +kernel
theorem dX2_drive_12 : decode cX2_drive 12 = .ok (.if_icmp .ge 144, 3) := by decide +kernel
theorem dX2_drive_15 : decode cX2_drive 15 = .ok (.aload_n 1, 1) := by decide +kernel
theorem dX2_drive_16 : decode cX2_drive 16 = .ok (.getfield 101, 3) := by decide +kernel
theorem dX2_drive_19 : decode cX2_drive 19 = .ok (.iconst 1, 1) := by decide +kernel
theorem dX2_drive_20 : decode cX2_drive 20 = .ok (.iadd, 1) := by decide +kernel
theorem dX2_drive_21 : decode cX2_drive 21 = .ok (.bipush 24, 2) := by decide +kernel
theorem dX2_drive_23 : decode cX2_drive 23 = .ok (.irem, 1) := by decide +kernel
theorem dX2_drive_24 : decode cX2_drive 24 = .ok (.istore 4, 2) := by decide +kernel
theorem dX2_drive_26 : decode cX2_drive 26 = .ok (.aload_n 0, 1) := by decide +kernel
theorem dX2_drive_27 : decode cX2_drive 27 = .ok (.getfield 12, 3) := by decide +kernel
theorem dX2_drive_30 : decode cX2_drive 30 = .ok (.iload 4, 2) := by decide +kernel
theorem dX2_drive_32 : decode cX2_drive 32 = .ok (.invokevirtual 90, 3) := by decide +kernel
theorem dX2_drive_35 : decode cX2_drive 35 = .ok (.ifCond .eq 14, 3) := by decide +kernel
theorem dX2_drive_38 : decode cX2_drive 38 = .ok (.aload_n 1, 1) := by decide +kernel
theorem dX2_drive_39 : decode cX2_drive 39 = .ok (.dup, 1) := by decide +kernel
theorem dX2_drive_40 : decode cX2_drive 40 = .ok (.getfield 104, 3) := by decide +kernel
theorem dX2_drive_43 : decode cX2_drive 43 = .ok (.iconst 1, 1) := by decide +kernel
theorem dX2_drive_44 : decode cX2_drive 44 = .ok (.iadd, 1) := by decide +kernel
theorem dX2_drive_45 : decode cX2_drive 45 = .ok (.putfield 104, 3) := by decide +kernel
theorem dX2_drive_48 : decode cX2_drive 48 = .ok (.return_, 1) := by decide +kernel
theorem dX2_drive_49 : decode cX2_drive 49 = .ok (.aload_n 1, 1) := by decide +kernel
theorem dX2_drive_50 : decode cX2_drive 50 = .ok (.iload 4, 2) := by decide +kernel
theorem dX2_drive_52 : decode cX2_drive 52 = .ok (.putfield 101, 3) := by decide +kernel
theorem dX2_drive_55 : decode cX2_drive 55 = .ok (.aload_n 1, 1) := by decide +kernel
theorem dX2_drive_56 : decode cX2_drive 56 = .ok (.dup, 1) := by decide +kernel
theorem dX2_drive_57 : decode cX2_drive 57 = .ok (.getfield 107, 3) := by decide +kernel
theorem dX2_drive_60 : decode cX2_drive 60 = .ok (.iconst 1, 1) := by decide +kernel
theorem dX2_drive_61 : decode cX2_drive 61 = .ok (.iadd, 1) := by decide +kernel
theorem dX2_drive_62 : decode cX2_drive 62 = .ok (.putfield 107, 3) := by decide +kernel
theorem dX2_drive_65 : decode cX2_drive 65 = .ok (.aload_n 1, 1) := by decide +kernel
theorem dX2_drive_66 : decode cX2_drive 66 = .ok (.dup, 1) := by decide +kernel
theorem dX2_drive_67 : decode cX2_drive 67 = .ok (.getfield 110, 3) := by decide +kernel
theorem dX2_drive_70 : decode cX2_drive 70 = .ok (.iload_n 2, 1) := by decide +kernel
theorem dX2_drive_71 : decode cX2_drive 71 = .ok (.iadd, 1) := by decide +kernel
theorem dX2_drive_72 : decode cX2_drive 72 = .ok (.putfield 110, 3) := by decide +kernel
theorem dX2_drive_75 : decode cX2_drive 75 = .ok (.aload_n 0, 1) := by decide +kernel
theorem dX2_drive_76 : decode cX2_drive 76 = .ok (.dup, 1) := by decide +kernel
theorem dX2_drive_77 : decode cX2_drive 77 = .ok (.getfield 49, 3) := by decide +kernel
theorem dX2_drive_80 : decode cX2_drive 80 = .ok (.iload_n 2, 1) := by decide +kernel
theorem dX2_drive_81 : decode cX2_drive 81 = .ok (.iadd, 1) := by decide +kernel
theorem dX2_drive_82 : decode cX2_drive 82 = .ok (.putfield 49, 3) := by decide +kernel
theorem dX2_drive_85 : decode cX2_drive 85 = .ok (.aload_n 1, 1) := by decide +kernel
theorem dX2_drive_86 : decode cX2_drive 86 = .ok (.getfield 113, 3) := by decide +kernel
theorem dX2_drive_89 : decode cX2_drive 89 = .ok (.ifCond .eq 14, 3) := by decide +kernel
theorem dX2_drive_92 : decode cX2_drive 92 = .ok (.aload_n 0, 1) := by decide +kernel
theorem dX2_drive_93 : decode cX2_drive 93 = .ok (.getfield 12, 3) := by decide +kernel
theorem dX2_drive_96 : decode cX2_drive 96 = .ok (.getfield 116, 3) := by decide +kernel
theorem dX2_drive_99 : decode cX2_drive 99 = .ok (.iload 4, 2) := by decide +kernel
theorem dX2_drive_101 : decode cX2_drive 101 = .ok (.iconst 0, 1) := by decide +kernel
theorem dX2_drive_102 : decode cX2_drive 102 = .ok (.iastore, 1) := by decide +kernel
theorem dX2_drive_103 : decode cX2_drive 103 = .ok (.aload_n 0, 1) := by decide +kernel
theorem dX2_drive_104 : decode cX2_drive 104 = .ok (.getfield 12, 3) := by decide +kernel
theorem dX2_drive_107 : decode cX2_drive 107 = .ok (.iload 4, 2) := by decide +kernel
theorem dX2_drive_109 : decode cX2_drive 109 = .ok (.aload_n 1, 1) := by decide +kernel
theorem dX2_drive_110 : decode cX2_drive 110 = .ok (.getfield 113, 3) := by decide +kernel
theorem dX2_drive_113 : decode cX2_drive 113 = .ok (.ifCond .eq 7, 3) := by decide +kernel
theorem dX2_drive_116 : decode cX2_drive 116 = .ok (.iconst 2, 1) := by decide +kernel
theorem dX2_drive_117 : decode cX2_drive 117 = .ok (.goto 17, 3) := by decide +kernel
theorem dX2_drive_120 : decode cX2_drive 120 = .ok (.iconst 1, 1) := by decide +kernel
theorem dX2_drive_121 : decode cX2_drive 121 = .ok (.aload_n 0, 1) := by decide +kernel
theorem dX2_drive_122 : decode cX2_drive 122 = .ok (.getfield 12, 3) := by decide +kernel
theorem dX2_drive_125 : decode cX2_drive 125 = .ok (.getfield 116, 3) := by decide +kernel
theorem dX2_drive_128 : decode cX2_drive 128 = .ok (.iload 4, 2) := by decide +kernel
theorem dX2_drive_130 : decode cX2_drive 130 = .ok (.iaload, 1) := by decide +kernel
theorem dX2_drive_131 : decode cX2_drive 131 = .ok (.iconst 2, 1) := by decide +kernel
theorem dX2_drive_132 : decode cX2_drive 132 = .ok (.idiv, 1) := by decide +kernel
theorem dX2_drive_133 : decode cX2_drive 133 = .ok (.iadd, 1) := by decide +kernel
theorem dX2_drive_134 : decode cX2_drive 134 = .ok (.invokevirtual 93, 3) := by decide +kernel
theorem dX2_drive_137 : decode cX2_drive 137 = .ok (.aload_n 0, 1) := by decide +kernel
theorem dX2_drive_138 : decode cX2_drive 138 = .ok (.getfield 12, 3) := by decide +kernel
theorem dX2_drive_141 : decode cX2_drive 141 = .ok (.iload 4, 2) := by decide +kernel
theorem dX2_drive_143 : decode cX2_drive 143 = .ok (.invokevirtual 90, 3) := by decide +kernel
theorem dX2_drive_146 : decode cX2_drive 146 = .ok (.ifCond .eq 4, 3) := by decide +kernel
theorem dX2_drive_149 : decode cX2_drive 149 = .ok (.return_, 1) := by decide +kernel
theorem dX2_drive_150 : decode cX2_drive 150 = .ok (.iinc 3 1, 3) := by decide +kernel
theorem dX2_drive_153 : decode cX2_drive 153 = .ok (.goto (-143), 3) := by decide +kernel
theorem dX2_drive_156 : decode cX2_drive 156 = .ok (.return_, 1) := by decide +kernel
set_option maxRecDepth 20000 in
theorem ggX2_letGangWork_X1_goToFirst : GoodIn wsX2_letGangWork wsX1_goToFirst := goodIn_r _ [6, 7, 8, 9, 10, 11, 12, 13, 14, 4, 15, 16, 48, 49, 50, 51, 52, 53] (by decide +kernel) (by decide +kernel)
set_option maxRecDepth 20000 in
theorem gX2_letGangWork_X1_goToFirst_n122 : GoodIn wsX2_letGangWork (wsX1_goToFirst) := ggX2_letGangWork_X1_goToFirst
set_option maxRecDepth 20000 in
theorem ggX2_letGangWork_X2_isOrderDoneByWorkAt : GoodIn wsX2_letGangWork wsX2_isOrderDoneByWorkAt := goodIn_r _ [21, 22, 1, 23, 24, 25, 26, 27, 28, 29, 30, 31, 32, 9, 33, 34, 35, 36, 42, 43, 44, 45, 46, 47, 54, 55, 48, 49, 50, 51, 52, 53] (by decide +kernel) (by decide +kernel)
set_option maxRecDepth 20000 in
theorem gX2_letGangWork_X2_isOrderDoneByWorkAt : GoodIn wsX2_letGangWork (wsV RX2 135 RX2 yX2_isOrderDoneByWorkAt wsX2_isOrderDoneByWorkAt) := goodIn_app (goodIn_of _ (by decide +kernel)) ggX2_letGangWork_X2_isOrderDoneByWorkAt
set_option maxRecDepth 20000 in
theorem ggX2_letGangWork_X1_takeOut : GoodIn wsX2_letGangWork wsX1_takeOut := goodIn_r _ [39, 40, 16, 41, 48, 49, 50, 51, 52, 53] (by decide +kernel) (by decide +kernel)
set_option maxRecDepth 20000 in
theorem gX2_letGangWork_X1_takeOut_n138 : GoodIn wsX2_letGangWork (wsX1_takeOut) := ggX2_letGangWork_X1_takeOut
theorem dX2_letGangWork_0 : decode cX2_letGangWork 0 = .ok (.aload_n 0, 1) := by decide +kernel
theorem dX2_letGangWork_1 : decode cX2_letGangWork 1 = .ok (.getfield 21, 3) := by decide +kernel
theorem dX2_letGangWork_4 : decode cX2_letGangWork 4 = .ok (.getfield 119, 3) := by decide +kernel
theorem dX2_letGangWork_7 : decode cX2_letGangWork 7 = .ok (.ifCond .ne 4, 3) := by decide +kernel
theorem dX2_letGangWork_10 : decode cX2_letGangWork 10 = .ok (.return_, 1) := by decide +kernel
theorem dX2_letGangWork_11 : decode cX2_letGangWork 11 = .ok (.aload_n 0, 1) := by decide +kernel
theorem dX2_letGangWork_12 : decode cX2_letGangWork 12 = .ok (.getfield 21, 3) := by decide +kernel
theorem dX2_letGangWork_15 : decode cX2_letGangWork 15 = .ok (.invokevirtual 122, 3) := by decide +kernel
theorem dX2_letGangWork_18 : decode cX2_letGangWork 18 = .ok (.aload_n 0, 1) := by decide +kernel
theorem dX2_letGangWork_19 : decode cX2_letGangWork 19 = .ok (.getfield 21, 3) := by decide +kernel
theorem dX2_letGangWork_22 : decode cX2_letGangWork 22 = .ok (.getfield 125, 3) := by decide +kernel
theorem dX2_letGangWork_25 : decode cX2_letGangWork 25 = .ok (.aload_n 0, 1) := by decide +kernel
theorem dX2_letGangWork_26 : decode cX2_letGangWork 26 = .ok (.getfield 21, 3) := by decide +kernel
theorem dX2_letGangWork_29 : decode cX2_letGangWork 29 = .ok (.getfield 126, 3) := by decide +kernel
theorem dX2_letGangWork_32 : decode cX2_letGangWork 32 = .ok (.iconst 0, 1) := by decide +kernel
theorem dX2_letGangWork_33 : decode cX2_letGangWork 33 = .ok (.iaload, 1) := by decide +kernel
theorem dX2_letGangWork_34 : decode cX2_letGangWork 34 = .ok (.if_icmp .eq 4, 3) := by decide +kernel
theorem dX2_letGangWork_37 : decode cX2_letGangWork 37 = .ok (.return_, 1) := by decide +kernel
theorem dX2_letGangWork_38 : decode cX2_letGangWork 38 = .ok (.aload_n 0, 1) := by decide +kernel
theorem dX2_letGangWork_39 : decode cX2_letGangWork 39 = .ok (.dup, 1) := by decide +kernel
theorem dX2_letGangWork_40 : decode cX2_letGangWork 40 = .ok (.getfield 49, 3) := by decide +kernel
theorem dX2_letGangWork_43 : decode cX2_letGangWork 43 = .ok (.iconst 2, 1) := by decide +kernel
theorem dX2_letGangWork_44 : decode cX2_letGangWork 44 = .ok (.isub, 1) := by decide +kernel
theorem dX2_letGangWork_45 : decode cX2_letGangWork 45 = .ok (.putfield 49, 3) := by decide +kernel
theorem dX2_letGangWork_48 : decode cX2_letGangWork 48 = .ok (.aload_n 0, 1) := by decide +kernel
theorem dX2_letGangWork_49 : decode cX2_letGangWork 49 = .ok (.getfield 21, 3) := by decide +kernel
theorem dX2_letGangWork_52 : decode cX2_letGangWork 52 = .ok (.dup, 1) := by decide +kernel
theorem dX2_letGangWork_53 : decode cX2_letGangWork 53 = .ok (.getfield 129, 3) := by decide +kernel
theorem dX2_letGangWork_56 : decode cX2_letGangWork 56 = .ok (.iconst 1, 1) := by decide +kernel
theorem dX2_letGangWork_57 : decode cX2_letGangWork 57 = .ok (.iadd, 1) := by decide +kernel
theorem dX2_letGangWork_58 : decode cX2_letGangWork 58 = .ok (.putfield 129, 3) := by decide +kernel
theorem dX2_letGangWork_61 : decode cX2_letGangWork 61 = .ok (.aload_n 0, 1) := by decide +kernel
theorem dX2_letGangWork_62 : decode cX2_letGangWork 62 = .ok (.getfield 21, 3) := by decide +kernel
theorem dX2_letGangWork_65 : decode cX2_letGangWork 65 = .ok (.dup, 1) := by decide +kernel
theorem dX2_letGangWork_66 : decode cX2_letGangWork 66 = .ok (.getfield 132, 3) := by decide +kernel
theorem dX2_letGangWork_69 : decode cX2_letGangWork 69 = .ok (.iconst 1, 1) := by decide +kernel
theorem dX2_letGangWork_70 : decode cX2_letGangWork 70 = .ok (.iadd, 1) := by decide +kernel
theorem dX2_letGangWork_71 : decode cX2_letGangWork 71 = .ok (.putfield 132, 3) := by decide +kernel
theorem dX2_letGangWork_74 : decode cX2_letGangWork 74 = .ok (.aload_n 0, 1) := by decide +kernel
theorem dX2_letGangWork_75 : decode cX2_letGangWork 75 = .ok (.aload_n 0, 1) := by decide +kernel
theorem dX2_letGangWork_76 : decode cX2_letGangWork 76 = .ok (.getfield 21, 3) := by decide +kernel
theorem dX2_letGangWork_79 : decode cX2_letGangWork 79 = .ok (.getfield 125, 3) := by decide +kernel
theorem dX2_letGangWork_82 : decode cX2_letGangWork 82 = .ok (.invokevirtual 135, 3) := by decide +kernel
theorem dX2_letGangWork_85 : decode cX2_letGangWork 85 = .ok (.ifCond .eq 11, 3) := by decide +kernel
theorem dX2_letGangWork_88 : decode cX2_letGangWork 88 = .ok (.aload_n 0, 1) := by decide +kernel
theorem dX2_letGangWork_89 : decode cX2_letGangWork 89 = .ok (.getfield 21, 3) := by decide +kernel
theorem dX2_letGangWork_92 : decode cX2_letGangWork 92 = .ok (.iconst 0, 1) := by decide +kernel
theorem dX2_letGangWork_93 : decode cX2_letGangWork 93 = .ok (.invokevirtual 138, 3) := by decide +kernel
theorem dX2_letGangWork_96 : decode cX2_letGangWork 96 = .ok (.return_, 1) := by decide +kernel
set_option maxRecDepth 20000 in
theorem ggX2_isOrderDoneByWorkAt_X4_isDown : GoodIn wsX2_isOrderDoneByWorkAt wsX4_isDown := goodIn_r _ [6, 7, 24, 25] (by decide +kernel) (by decide +kernel)
set_option maxRecDepth 20000 in
theorem gX2_isOrderDoneByWorkAt_X4_isDown_n90 : GoodIn wsX2_isOrderDoneByWorkAt (wsX4_isDown) := ggX2_isOrderDoneByWorkAt_X4_isDown
set_option maxRecDepth 20000 in
theorem ggX2_isOrderDoneByWorkAt_X4_mend : GoodIn wsX2_isOrderDoneByWorkAt wsX4_mend := goodIn_r _ [10, 7, 11, 12, 13, 14, 24, 25] (by decide +kernel) (by decide +kernel)
set_option maxRecDepth 20000 in
theorem gX2_isOrderDoneByWorkAt_X4_mend_n141 : GoodIn wsX2_isOrderDoneByWorkAt (wsX4_mend) := ggX2_isOrderDoneByWorkAt_X4_mend
set_option maxRecDepth 20000 in
theorem ggX2_isOrderDoneByWorkAt_X4_putUp : GoodIn wsX2_isOrderDoneByWorkAt wsX4_putUp := goodIn_r _ [17, 7, 24, 25] (by decide +kernel) (by decide +kernel)
set_option maxRecDepth 20000 in
theorem gX2_isOrderDoneByWorkAt_X4_putUp_n147 : GoodIn wsX2_isOrderDoneByWorkAt (wsX4_putUp) := ggX2_isOrderDoneByWorkAt_X4_putUp
theorem dX2_isOrderDoneByWorkAt_0 : decode cX2_isOrderDoneByWorkAt 0 = .ok (.aload_n 0, 1) := by decide +kernel
theorem dX2_isOrderDoneByWorkAt_1 : decode cX2_isOrderDoneByWorkAt 1 = .ok (.getfield 12, 3) := by decide +kernel
theorem dX2_isOrderDoneByWorkAt_4 : decode cX2_isOrderDoneByWorkAt 4 = .ok (.iload_n 1, 1) := by decide +kernel
theorem dX2_isOrderDoneByWorkAt_5 : decode cX2_isOrderDoneByWorkAt 5 = .ok (.invokevirtual 90, 3) := by decide +kernel
theorem dX2_isOrderDoneByWorkAt_8 : decode cX2_isOrderDoneByWorkAt 8 = .ok (.ifCond .ne 33, 3) := by decide +kernel
theorem dX2_isOrderDoneByWorkAt_11 : decode cX2_isOrderDoneByWorkAt 11 = .ok (.aload_n 0, 1) := by decide +kernel
theorem dX2_isOrderDoneByWorkAt_12 : decode cX2_isOrderDoneByWorkAt 12 = .ok (.getfield 12, 3) := by decide +kernel
theorem dX2_isOrderDoneByWorkAt_15 : decode cX2_isOrderDoneByWorkAt 15 = .ok (.iload_n 1, 1) := by decide +kernel
theorem dX2_isOrderDoneByWorkAt_16 : decode cX2_isOrderDoneByWorkAt 16 = .ok (.bipush 30, 2) := by decide +kernel
theorem dX2_isOrderDoneByWorkAt_18 : decode cX2_isOrderDoneByWorkAt 18 = .ok (.invokevirtual 141, 3) := by decide +kernel
theorem dX2_isOrderDoneByWorkAt_21 : decode cX2_isOrderDoneByWorkAt 21 = .ok (.aload_n 0, 1) := by decide +kernel
theorem dX2_isOrderDoneByWorkAt_22 : decode cX2_isOrderDoneByWorkAt 22 = .ok (.getfield 12, 3) := by decide +kernel
theorem dX2_isOrderDoneByWorkAt_25 : decode cX2_isOrderDoneByWorkAt 25 = .ok (.getfield 144, 3) := by decide +kernel
theorem dX2_isOrderDoneByWorkAt_28 : decode cX2_isOrderDoneByWorkAt 28 = .ok (.iload_n 1, 1) := by decide +kernel
theorem dX2_isOrderDoneByWorkAt_29 : decode cX2_isOrderDoneByWorkAt 29 = .ok (.iaload, 1) := by decide +kernel
theorem dX2_isOrderDoneByWorkAt_30 : decode cX2_isOrderDoneByWorkAt 30 = .ok (.bipush 30, 2) := by decide +kernel
theorem dX2_isOrderDoneByWorkAt_32 : decode cX2_isOrderDoneByWorkAt 32 = .ok (.if_icmp .ge 7, 3) := by decide +kernel
theorem dX2_isOrderDoneByWorkAt_35 : decode cX2_isOrderDoneByWorkAt 35 = .ok (.iconst 1, 1) := by decide +kernel
theorem dX2_isOrderDoneByWorkAt_36 : decode cX2_isOrderDoneByWorkAt 36 = .ok (.goto 4, 3) := by decide +kernel
theorem dX2_isOrderDoneByWorkAt_39 : decode cX2_isOrderDoneByWorkAt 39 = .ok (.iconst 0, 1) := by decide +kernel
theorem dX2_isOrderDoneByWorkAt_40 : decode cX2_isOrderDoneByWorkAt 40 = .ok (.ireturn, 1) := by decide +kernel
theorem dX2_isOrderDoneByWorkAt_41 : decode cX2_isOrderDoneByWorkAt 41 = .ok (.aload_n 0, 1) := by decide +kernel
theorem dX2_isOrderDoneByWorkAt_42 : decode cX2_isOrderDoneByWorkAt 42 = .ok (.getfield 21, 3) := by decide +kernel
theorem dX2_isOrderDoneByWorkAt_45 : decode cX2_isOrderDoneByWorkAt 45 = .ok (.getfield 129, 3) := by decide +kernel
theorem dX2_isOrderDoneByWorkAt_48 : decode cX2_isOrderDoneByWorkAt 48 = .ok (.iconst 2, 1) := by decide +kernel
theorem dX2_isOrderDoneByWorkAt_49 : decode cX2_isOrderDoneByWorkAt 49 = .ok (.if_icmp .ge 5, 3) := by decide +kernel
theorem dX2_isOrderDoneByWorkAt_52 : decode cX2_isOrderDoneByWorkAt 52 = .ok (.iconst 0, 1) := by decide +kernel
theorem dX2_isOrderDoneByWorkAt_53 : decode cX2_isOrderDoneByWorkAt 53 = .ok (.ireturn, 1) := by decide +kernel
theorem dX2_isOrderDoneByWorkAt_54 : decode cX2_isOrderDoneByWorkAt 54 = .ok (.aload_n 0, 1) := by decide +kernel
theorem dX2_isOrderDoneByWorkAt_55 : decode cX2_isOrderDoneByWorkAt 55 = .ok (.getfield 12, 3) := by decide +kernel
theorem dX2_isOrderDoneByWorkAt_58 : decode cX2_isOrderDoneByWorkAt 58 = .ok (.iload_n 1, 1) := by decide +kernel
theorem dX2_isOrderDoneByWorkAt_59 : decode cX2_isOrderDoneByWorkAt 59 = .ok (.invokevirtual 147, 3) := by decide +kernel
theorem dX2_isOrderDoneByWorkAt_62 : decode cX2_isOrderDoneByWorkAt 62 = .ok (.aload_n 0, 1) := by decide +kernel
theorem dX2_isOrderDoneByWorkAt_63 : decode cX2_isOrderDoneByWorkAt 63 = .ok (.getfield 21, 3) := by decide +kernel
theorem dX2_isOrderDoneByWorkAt_66 : decode cX2_isOrderDoneByWorkAt 66 = .ok (.dup, 1) := by decide +kernel
theorem dX2_isOrderDoneByWorkAt_67 : decode cX2_isOrderDoneByWorkAt 67 = .ok (.getfield 150, 3) := by decide +kernel
theorem dX2_isOrderDoneByWorkAt_70 : decode cX2_isOrderDoneByWorkAt 70 = .ok (.iconst 1, 1) := by decide +kernel
theorem dX2_isOrderDoneByWorkAt_71 : decode cX2_isOrderDoneByWorkAt 71 = .ok (.iadd, 1) := by decide +kernel
theorem dX2_isOrderDoneByWorkAt_72 : decode cX2_isOrderDoneByWorkAt 72 = .ok (.putfield 150, 3) := by decide +kernel
theorem dX2_isOrderDoneByWorkAt_75 : decode cX2_isOrderDoneByWorkAt 75 = .ok (.iconst 1, 1) := by decide +kernel
theorem dX2_isOrderDoneByWorkAt_76 : decode cX2_isOrderDoneByWorkAt 76 = .ok (.ireturn, 1) := by decide +kernel
set_option maxRecDepth 20000 in
theorem ggX2_tally_X5_isNightAt : GoodIn wsX2_tally wsX5_isNightAt := goodIn_r _ [7] (by decide +kernel) (by decide +kernel)
set_option maxRecDepth 20000 in
theorem gX2_tally_X5_isNightAt_n56 : GoodIn wsX2_tally (wsX5_isNightAt) := ggX2_tally_X5_isNightAt
set_option maxRecDepth 20000 in
theorem ggX2_tally_X5_oneIf : GoodIn wsX2_tally wsX5_oneIf := goodIn_r _ [9] (by decide +kernel) (by decide +kernel)
set_option maxRecDepth 20000 in
theorem gX2_tally_X5_oneIf_n153 : GoodIn wsX2_tally (wsX5_oneIf) := ggX2_tally_X5_oneIf
set_option maxRecDepth 20000 in
theorem ggX2_tally_X2_busesRunning : GoodIn wsX2_tally wsX2_busesRunning := goodIn_r _ [14, 3, 15, 8, 6, 9, 36, 37, 38, 39, 40, 41, 42, 43, 44, 45, 46, 47] (by decide +kernel) (by decide +kernel)
set_option maxRecDepth 20000 in
theorem gX2_tally_X2_busesRunning : GoodIn wsX2_tally (wsV RX2 156 RX2 yX2_busesRunning wsX2_busesRunning) := goodIn_app (goodIn_of _ (by decide +kernel)) ggX2_tally_X2_busesRunning
set_option maxRecDepth 20000 in
theorem ggX2_tally_X4_spansDown : GoodIn wsX2_tally wsX4_spansDown := goodIn_r _ [19, 20, 21, 22, 17, 23, 24, 8, 6, 9, 48, 49] (by decide +kernel) (by decide +kernel)
set_option maxRecDepth 20000 in
theorem gX2_tally_X4_spansDown_n160 : GoodIn wsX2_tally (wsX4_spansDown) := ggX2_tally_X4_spansDown
set_option maxRecDepth 20000 in
theorem ggX2_tally_X4_wornInAll : GoodIn wsX2_tally wsX4_wornInAll := goodIn_r _ [27, 24, 48, 49] (by decide +kernel) (by decide +kernel)
set_option maxRecDepth 20000 in
theorem gX2_tally_X4_wornInAll_n163 : GoodIn wsX2_tally (wsX4_wornInAll) := ggX2_tally_X4_wornInAll
set_option maxRecDepth 20000 in
theorem ggX2_tally_X4_frostInAll : GoodIn wsX2_tally wsX4_frostInAll := goodIn_r _ [30, 31, 48, 49] (by decide +kernel) (by decide +kernel)
set_option maxRecDepth 20000 in
theorem gX2_tally_X4_frostInAll_n166 : GoodIn wsX2_tally (wsX4_frostInAll) := ggX2_tally_X4_frostInAll
set_option maxRecDepth 20000 in
theorem ggX2_tally_X2_hoursStuckInAll : GoodIn wsX2_tally wsX2_hoursStuckInAll := goodIn_r _ [35, 3, 15, 36, 37, 38, 39, 40, 41, 42, 43, 44, 45, 46, 47] (by decide +kernel) (by decide +kernel)
set_option maxRecDepth 20000 in
theorem gX2_tally_X2_hoursStuckInAll : GoodIn wsX2_tally (wsV RX2 169 RX2 yX2_hoursStuckInAll wsX2_hoursStuckInAll) := goodIn_app (goodIn_of _ (by decide +kernel)) ggX2_tally_X2_hoursStuckInAll
theorem dX2_tally_0 : decode cX2_tally 0 = .ok (.iload_n 1, 1) := by decide +kernel
theorem dX2_tally_1 : decode cX2_tally 1 = .ok (.tableswitch 102 0 7 #[47, 52, 63, 68, 73, 78, 86, 94], 47) := by decide +kernel
theorem dX2_tally_48 : decode cX2_tally 48 = .ok (.aload_n 0, 1) := by decide +kernel
theorem dX2_tally_49 : decode cX2_tally 49 = .ok (.getfield 46, 3) := by decide +kernel
theorem dX2_tally_52 : decode cX2_tally 52 = .ok (.ireturn, 1) := by decide +kernel
theorem dX2_tally_53 : decode cX2_tally 53 = .ok (.aload_n 0, 1) := by decide +kernel
theorem dX2_tally_54 : decode cX2_tally 54 = .ok (.getfield 46, 3) := by decide +kernel
theorem dX2_tally_57 : decode cX2_tally 57 = .ok (.invokestatic 56, 3) := by decide +kernel
theorem dX2_tally_60 : decode cX2_tally 60 = .ok (.invokestatic 153, 3) := by decide +kernel
theorem dX2_tally_63 : decode cX2_tally 63 = .ok (.ireturn, 1) := by decide +kernel
theorem dX2_tally_64 : decode cX2_tally 64 = .ok (.aload_n 0, 1) := by decide +kernel
theorem dX2_tally_65 : decode cX2_tally 65 = .ok (.getfield 49, 3) := by decide +kernel
theorem dX2_tally_68 : decode cX2_tally 68 = .ok (.ireturn, 1) := by decide +kernel
theorem dX2_tally_69 : decode cX2_tally 69 = .ok (.aload_n 0, 1) := by decide +kernel
theorem dX2_tally_70 : decode cX2_tally 70 = .ok (.getfield 39, 3) := by decide +kernel
theorem dX2_tally_73 : decode cX2_tally 73 = .ok (.ireturn, 1) := by decide +kernel
theorem dX2_tally_74 : decode cX2_tally 74 = .ok (.aload_n 0, 1) := by decide +kernel
theorem dX2_tally_75 : decode cX2_tally 75 = .ok (.invokevirtual 156, 3) := by decide +kernel
theorem dX2_tally_78 : decode cX2_tally 78 = .ok (.ireturn, 1) := by decide +kernel
theorem dX2_tally_79 : decode cX2_tally 79 = .ok (.aload_n 0, 1) := by decide +kernel
theorem dX2_tally_80 : decode cX2_tally 80 = .ok (.getfield 12, 3) := by decide +kernel
theorem dX2_tally_83 : decode cX2_tally 83 = .ok (.invokevirtual 160, 3) := by decide +kernel
theorem dX2_tally_86 : decode cX2_tally 86 = .ok (.ireturn, 1) := by decide +kernel
theorem dX2_tally_87 : decode cX2_tally 87 = .ok (.aload_n 0, 1) := by decide +kernel
theorem dX2_tally_88 : decode cX2_tally 88 = .ok (.getfield 12, 3) := by decide +kernel
theorem dX2_tally_91 : decode cX2_tally 91 = .ok (.invokevirtual 163, 3) := by decide +kernel
theorem dX2_tally_94 : decode cX2_tally 94 = .ok (.ireturn, 1) := by decide +kernel
theorem dX2_tally_95 : decode cX2_tally 95 = .ok (.aload_n 0, 1) := by decide +kernel
theorem dX2_tally_96 : decode cX2_tally 96 = .ok (.getfield 12, 3) := by decide +kernel
theorem dX2_tally_99 : decode cX2_tally 99 = .ok (.invokevirtual 166, 3) := by decide +kernel
theorem dX2_tally_102 : decode cX2_tally 102 = .ok (.ireturn, 1) := by decide +kernel
theorem dX2_tally_103 : decode cX2_tally 103 = .ok (.aload_n 0, 1) := by decide +kernel
theorem dX2_tally_104 : decode cX2_tally 104 = .ok (.invokevirtual 169, 3) := by decide +kernel
theorem dX2_tally_107 : decode cX2_tally 107 = .ok (.ireturn, 1) := by decide +kernel
set_option maxRecDepth 20000 in
theorem ggX2_busesAt_X5_oneIf : GoodIn wsX2_busesAt wsX5_oneIf := goodIn_r _ [5] (by decide +kernel) (by decide +kernel)
set_option maxRecDepth 20000 in
theorem gX2_busesAt_X5_oneIf_n153 : GoodIn wsX2_busesAt (wsX5_oneIf) := ggX2_busesAt_X5_oneIf
theorem dX2_busesAt_0 : decode cX2_busesAt 0 = .ok (.iconst 0, 1) := by decide +kernel
theorem dX2_busesAt_1 : decode cX2_busesAt 1 = .ok (.istore_n 2, 1) := by decide +kernel
theorem dX2_busesAt_2 : decode cX2_busesAt 2 = .ok (.iconst 0, 1) := by decide +kernel
theorem dX2_busesAt_3 : decode cX2_busesAt 3 = .ok (.istore_n 3, 1) := by decide +kernel
theorem dX2_busesAt_4 : decode cX2_busesAt 4 = .ok (.iload_n 3, 1) := by decide +kernel
theorem dX2_busesAt_5 : decode cX2_busesAt 5 = .ok (.aload_n 0, 1) := by decide +kernel
theorem dX2_busesAt_6 : decode cX2_busesAt 6 = .ok (.getfield 39, 3) := by decide +kernel
theorem dX2_busesAt_9 : decode cX2_busesAt 9 = .ok (.if_icmp .ge 33, 3) := by decide +kernel
theorem dX2_busesAt_12 : decode cX2_busesAt 12 = .ok (.iload_n 2, 1) := by decide +kernel
theorem dX2_busesAt_13 : decode cX2_busesAt 13 = .ok (.aload_n 0, 1) := by decide +kernel
theorem dX2_busesAt_14 : decode cX2_busesAt 14 = .ok (.getfield 27, 3) := by decide +kernel
theorem dX2_busesAt_17 : decode cX2_busesAt 17 = .ok (.iload_n 3, 1) := by decide +kernel
theorem dX2_busesAt_18 : decode cX2_busesAt 18 = .ok (.aaload, 1) := by decide +kernel
theorem dX2_busesAt_19 : decode cX2_busesAt 19 = .ok (.getfield 101, 3) := by decide +kernel
theorem dX2_busesAt_22 : decode cX2_busesAt 22 = .ok (.iload_n 1, 1) := by decide +kernel
theorem dX2_busesAt_23 : decode cX2_busesAt 23 = .ok (.if_icmp .ne 7, 3) := by decide +kernel
theorem dX2_busesAt_26 : decode cX2_busesAt 26 = .ok (.iconst 1, 1) := by decide +kernel
theorem dX2_busesAt_27 : decode cX2_busesAt 27 = .ok (.goto 4, 3) := by decide +kernel
theorem dX2_busesAt_30 : decode cX2_busesAt 30 = .ok (.iconst 0, 1) := by decide +kernel
theorem dX2_busesAt_31 : decode cX2_busesAt 31 = .ok (.invokestatic 153, 3) := by decide +kernel
theorem dX2_busesAt_34 : decode cX2_busesAt 34 = .ok (.iadd, 1) := by decide +kernel
theorem dX2_busesAt_35 : decode cX2_busesAt 35 = .ok (.istore_n 2, 1) := by decide +kernel
theorem dX2_busesAt_36 : decode cX2_busesAt 36 = .ok (.iinc 3 1, 3) := by decide +kernel
theorem dX2_busesAt_39 : decode cX2_busesAt 39 = .ok (.goto (-35), 3) := by decide +kernel
theorem dX2_busesAt_42 : decode cX2_busesAt 42 = .ok (.iload_n 2, 1) := by decide +kernel
theorem dX2_busesAt_43 : decode cX2_busesAt 43 = .ok (.ireturn, 1) := by decide +kernel
set_option maxRecDepth 20000 in
theorem ggX2_busesRunning_X5_oneIf : GoodIn wsX2_busesRunning wsX5_oneIf := goodIn_r _ [5] (by decide +kernel) (by decide +kernel)
set_option maxRecDepth 20000 in
theorem gX2_busesRunning_X5_oneIf_n153 : GoodIn wsX2_busesRunning (wsX5_oneIf) := ggX2_busesRunning_X5_oneIf
theorem dX2_busesRunning_0 : decode cX2_busesRunning 0 = .ok (.iconst 0, 1) := by decide +kernel
theorem dX2_busesRunning_1 : decode cX2_busesRunning 1 = .ok (.istore_n 1, 1) := by decide +kernel
theorem dX2_busesRunning_2 : decode cX2_busesRunning 2 = .ok (.iconst 0, 1) := by decide +kernel
theorem dX2_busesRunning_3 : decode cX2_busesRunning 3 = .ok (.istore_n 2, 1) := by decide +kernel
theorem dX2_busesRunning_4 : decode cX2_busesRunning 4 = .ok (.iload_n 2, 1) := by decide +kernel
theorem dX2_busesRunning_5 : decode cX2_busesRunning 5 = .ok (.aload_n 0, 1) := by decide +kernel
theorem dX2_busesRunning_6 : decode cX2_busesRunning 6 = .ok (.getfield 39, 3) := by decide +kernel
theorem dX2_busesRunning_9 : decode cX2_busesRunning 9 = .ok (.if_icmp .ge 24, 3) := by decide +kernel
theorem dX2_busesRunning_12 : decode cX2_busesRunning 12 = .ok (.iload_n 1, 1) := by decide +kernel
theorem dX2_busesRunning_13 : decode cX2_busesRunning 13 = .ok (.aload_n 0, 1) := by decide +kernel
theorem dX2_busesRunning_14 : decode cX2_busesRunning 14 = .ok (.getfield 27, 3) := by decide +kernel
theorem dX2_busesRunning_17 : decode cX2_busesRunning 17 = .ok (.iload_n 2, 1) := by decide +kernel
theorem dX2_busesRunning_18 : decode cX2_busesRunning 18 = .ok (.aaload, 1) := by decide +kernel
theorem dX2_busesRunning_19 : decode cX2_busesRunning 19 = .ok (.getfield 97, 3) := by decide +kernel
theorem dX2_busesRunning_22 : decode cX2_busesRunning 22 = .ok (.invokestatic 153, 3) := by decide +kernel
theorem dX2_busesRunning_25 : decode cX2_busesRunning 25 = .ok (.iadd, 1) := by decide +kernel
theorem dX2_busesRunning_26 : decode cX2_busesRunning 26 = .ok (.istore_n 1, 1) := by decide +kernel
theorem dX2_busesRunning_27 : decode cX2_busesRunning 27 = .ok (.iinc 2 1, 3) := by decide +kernel
theorem dX2_busesRunning_30 : decode cX2_busesRunning 30 = .ok (.goto (-26), 3) := by decide +kernel
theorem dX2_busesRunning_33 : decode cX2_busesRunning 33 = .ok (.iload_n 1, 1) := by decide +kernel
theorem dX2_busesRunning_34 : decode cX2_busesRunning 34 = .ok (.ireturn, 1) := by decide +kernel
theorem dX2_hoursStuckInAll_0 : decode cX2_hoursStuckInAll 0 = .ok (.iconst 0, 1) := by decide +kernel
theorem dX2_hoursStuckInAll_1 : decode cX2_hoursStuckInAll 1 = .ok (.istore_n 1, 1) := by decide +kernel
theorem dX2_hoursStuckInAll_2 : decode cX2_hoursStuckInAll 2 = .ok (.iconst 0, 1) := by decide +kernel
theorem dX2_hoursStuckInAll_3 : decode cX2_hoursStuckInAll 3 = .ok (.istore_n 2, 1) := by decide +kernel
theorem dX2_hoursStuckInAll_4 : decode cX2_hoursStuckInAll 4 = .ok (.iload_n 2, 1) := by decide +kernel
theorem dX2_hoursStuckInAll_5 : decode cX2_hoursStuckInAll 5 = .ok (.aload_n 0, 1) := by decide +kernel
theorem dX2_hoursStuckInAll_6 : decode cX2_hoursStuckInAll 6 = .ok (.getfield 39, 3) := by decide +kernel
theorem dX2_hoursStuckInAll_9 : decode cX2_hoursStuckInAll 9 = .ok (.if_icmp .ge 21, 3) := by decide +kernel
theorem dX2_hoursStuckInAll_12 : decode cX2_hoursStuckInAll 12 = .ok (.iload_n 1, 1) := by decide +kernel
theorem dX2_hoursStuckInAll_13 : decode cX2_hoursStuckInAll 13 = .ok (.aload_n 0, 1) := by decide +kernel
theorem dX2_hoursStuckInAll_14 : decode cX2_hoursStuckInAll 14 = .ok (.getfield 27, 3) := by decide +kernel
theorem dX2_hoursStuckInAll_17 : decode cX2_hoursStuckInAll 17 = .ok (.iload_n 2, 1) := by decide +kernel
theorem dX2_hoursStuckInAll_18 : decode cX2_hoursStuckInAll 18 = .ok (.aaload, 1) := by decide +kernel
theorem dX2_hoursStuckInAll_19 : decode cX2_hoursStuckInAll 19 = .ok (.getfield 104, 3) := by decide +kernel
theorem dX2_hoursStuckInAll_22 : decode cX2_hoursStuckInAll 22 = .ok (.iadd, 1) := by decide +kernel
theorem dX2_hoursStuckInAll_23 : decode cX2_hoursStuckInAll 23 = .ok (.istore_n 1, 1) := by decide +kernel
theorem dX2_hoursStuckInAll_24 : decode cX2_hoursStuckInAll 24 = .ok (.iinc 2 1, 3) := by decide +kernel
theorem dX2_hoursStuckInAll_27 : decode cX2_hoursStuckInAll 27 = .ok (.goto (-23), 3) := by decide +kernel
theorem dX2_hoursStuckInAll_30 : decode cX2_hoursStuckInAll 30 = .ok (.iload_n 1, 1) := by decide +kernel
theorem dX2_hoursStuckInAll_31 : decode cX2_hoursStuckInAll 31 = .ok (.ireturn, 1) := by decide +kernel
theorem dX3_init_0 : decode cX3_init 0 = .ok (.aload_n 0, 1) := by decide +kernel
theorem dX3_init_1 : decode cX3_init 1 = .ok (.invokespecial 3, 3) := by decide +kernel
theorem dX3_init_4 : decode cX3_init 4 = .ok (.aload_n 0, 1) := by decide +kernel
theorem dX3_init_5 : decode cX3_init 5 = .ok (.bipush 8, 2) := by decide +kernel
theorem dX3_init_7 : decode cX3_init 7 = .ok (.newarray .int, 2) := by decide +kernel
theorem dX3_init_9 : decode cX3_init 9 = .ok (.putfield 9, 3) := by decide +kernel
theorem dX3_init_12 : decode cX3_init 12 = .ok (.aload_n 0, 1) := by decide +kernel
theorem dX3_init_13 : decode cX3_init 13 = .ok (.bipush 12, 2) := by decide +kernel
theorem dX3_init_15 : decode cX3_init 15 = .ok (.newarray .int, 2) := by decide +kernel
theorem dX3_init_17 : decode cX3_init 17 = .ok (.putfield 15, 3) := by decide +kernel
theorem dX3_init_20 : decode cX3_init 20 = .ok (.aload_n 0, 1) := by decide +kernel
theorem dX3_init_21 : decode cX3_init 21 = .ok (.iconst 2, 1) := by decide +kernel
theorem dX3_init_22 : decode cX3_init 22 = .ok (.putfield 18, 3) := by decide +kernel
theorem dX3_init_25 : decode cX3_init 25 = .ok (.aload_n 0, 1) := by decide +kernel
theorem dX3_init_26 : decode cX3_init 26 = .ok (.iconst 3, 1) := by decide +kernel
theorem dX3_init_27 : decode cX3_init 27 = .ok (.putfield 22, 3) := by decide +kernel
theorem dX3_init_30 : decode cX3_init 30 = .ok (.iconst 0, 1) := by decide +kernel
theorem dX3_init_31 : decode cX3_init 31 = .ok (.istore_n 1, 1) := by decide +kernel
theorem dX3_init_32 : decode cX3_init 32 = .ok (.iload_n 1, 1) := by decide +kernel
theorem dX3_init_33 : decode cX3_init 33 = .ok (.bipush 12, 2) := by decide +kernel
theorem dX3_init_35 : decode cX3_init 35 = .ok (.if_icmp .ge 16, 3) := by decide +kernel
theorem dX3_init_38 : decode cX3_init 38 = .ok (.aload_n 0, 1) := by decide +kernel
theorem dX3_init_39 : decode cX3_init 39 = .ok (.getfield 15, 3) := by decide +kernel
theorem dX3_init_42 : decode cX3_init 42 = .ok (.iload_n 1, 1) := by decide +kernel
theorem dX3_init_43 : decode cX3_init 43 = .ok (.iconst (-1), 1) := by decide +kernel
theorem dX3_init_44 : decode cX3_init 44 = .ok (.iastore, 1) := by decide +kernel
theorem dX3_init_45 : decode cX3_init 45 = .ok (.iinc 1 1, 3) := by decide +kernel
theorem dX3_init_48 : decode cX3_init 48 = .ok (.goto (-16), 3) := by decide +kernel
theorem dX3_init_51 : decode cX3_init 51 = .ok (.return_, 1) := by decide +kernel
theorem dX3_fare_0 : decode cX3_fare 0 = .ok (.iload_n 1, 1) := by decide +kernel
theorem dX3_fare_1 : decode cX3_fare 1 = .ok (.ifCond .eq 10, 3) := by decide +kernel
theorem dX3_fare_4 : decode cX3_fare 4 = .ok (.aload_n 0, 1) := by decide +kernel
theorem dX3_fare_5 : decode cX3_fare 5 = .ok (.getfield 22, 3) := by decide +kernel
theorem dX3_fare_8 : decode cX3_fare 8 = .ok (.goto 7, 3) := by decide +kernel
theorem dX3_fare_11 : decode cX3_fare 11 = .ok (.aload_n 0, 1) := by decide +kernel
theorem dX3_fare_12 : decode cX3_fare 12 = .ok (.getfield 18, 3) := by decide +kernel
theorem dX3_fare_15 : decode cX3_fare 15 = .ok (.ireturn, 1) := by decide +kernel
theorem dX4_init_0 : decode cX4_init 0 = .ok (.aload_n 0, 1) := by decide +kernel
theorem dX4_init_1 : decode cX4_init 1 = .ok (.invokespecial 3, 3) := by decide +kernel
theorem dX4_init_4 : decode cX4_init 4 = .ok (.aload_n 0, 1) := by decide +kernel
theorem dX4_init_5 : decode cX4_init 5 = .ok (.bipush 24, 2) := by decide +kernel
theorem dX4_init_7 : decode cX4_init 7 = .ok (.newarray .int, 2) := by decide +kernel
theorem dX4_init_9 : decode cX4_init 9 = .ok (.putfield 9, 3) := by decide +kernel
theorem dX4_init_12 : decode cX4_init 12 = .ok (.aload_n 0, 1) := by decide +kernel
theorem dX4_init_13 : decode cX4_init 13 = .ok (.bipush 24, 2) := by decide +kernel
theorem dX4_init_15 : decode cX4_init 15 = .ok (.newarray .int, 2) := by decide +kernel
theorem dX4_init_17 : decode cX4_init 17 = .ok (.putfield 15, 3) := by decide +kernel
theorem dX4_init_20 : decode cX4_init 20 = .ok (.return_, 1) := by decide +kernel
theorem dX4_copyFrom_0 : decode cX4_copyFrom 0 = .ok (.aload_n 1, 1) := by decide +kernel
theorem dX4_copyFrom_1 : decode cX4_copyFrom 1 = .ok (.getfield 9, 3) := by decide +kernel
theorem dX4_copyFrom_4 : decode cX4_copyFrom 4 = .ok (.iconst 0, 1) := by decide +kernel
theorem dX4_copyFrom_5 : decode cX4_copyFrom 5 = .ok (.aload_n 0, 1) := by decide +kernel
theorem dX4_copyFrom_6 : decode cX4_copyFrom 6 = .ok (.getfield 9, 3) := by decide +kernel
theorem dX4_copyFrom_9 : decode cX4_copyFrom 9 = .ok (.iconst 0, 1) := by decide +kernel
theorem dX4_copyFrom_10 : decode cX4_copyFrom 10 = .ok (.bipush 24, 2) := by decide +kernel
theorem dX4_copyFrom_12 : decode cX4_copyFrom 12 = .ok (.invokestatic 18, 3) := by decide +kernel
theorem dX4_copyFrom_15 : decode cX4_copyFrom 15 = .ok (.aload_n 1, 1) := by decide +kernel
theorem dX4_copyFrom_16 : decode cX4_copyFrom 16 = .ok (.getfield 15, 3) := by decide +kernel
theorem dX4_copyFrom_19 : decode cX4_copyFrom 19 = .ok (.iconst 0, 1) := by decide +kernel
theorem dX4_copyFrom_20 : decode cX4_copyFrom 20 = .ok (.aload_n 0, 1) := by decide +kernel
theorem dX4_copyFrom_21 : decode cX4_copyFrom 21 = .ok (.getfield 15, 3) := by decide +kernel
theorem dX4_copyFrom_24 : decode cX4_copyFrom 24 = .ok (.iconst 0, 1) := by decide +kernel
theorem dX4_copyFrom_25 : decode cX4_copyFrom 25 = .ok (.bipush 24, 2) := by decide +kernel
theorem dX4_copyFrom_27 : decode cX4_copyFrom 27 = .ok (.invokestatic 18, 3) := by decide +kernel
theorem dX4_copyFrom_30 : decode cX4_copyFrom 30 = .ok (.return_, 1) := by decide +kernel
theorem dX4_isDown_0 : decode cX4_isDown 0 = .ok (.aload_n 0, 1) := by decide +kernel
theorem dX4_isDown_1 : decode cX4_isDown 1 = .ok (.getfield 9, 3) := by decide +kernel
theorem dX4_isDown_4 : decode cX4_isDown 4 = .ok (.iload_n 1, 1) := by decide +kernel
theorem dX4_isDown_5 : decode cX4_isDown 5 = .ok (.iaload, 1) := by decide +kernel
theorem dX4_isDown_6 : decode cX4_isDown 6 = .ok (.bipush 100, 2) := by decide +kernel
theorem dX4_isDown_8 : decode cX4_isDown 8 = .ok (.if_icmp .lt 7, 3) := by decide +kernel
theorem dX4_isDown_11 : decode cX4_isDown 11 = .ok (.iconst 1, 1) := by decide +kernel
theorem dX4_isDown_12 : decode cX4_isDown 12 = .ok (.goto 4, 3) := by decide +kernel
theorem dX4_isDown_15 : decode cX4_isDown 15 = .ok (.iconst 0, 1) := by decide +kernel
theorem dX4_isDown_16 : decode cX4_isDown 16 = .ok (.ireturn, 1) := by decide +kernel
theorem dX4_putUp_0 : decode cX4_putUp 0 = .ok (.aload_n 0, 1) := by decide +kernel
theorem dX4_putUp_1 : decode cX4_putUp 1 = .ok (.getfield 9, 3) := by decide +kernel
theorem dX4_putUp_4 : decode cX4_putUp 4 = .ok (.iload_n 1, 1) := by decide +kernel
theorem dX4_putUp_5 : decode cX4_putUp 5 = .ok (.bipush 50, 2) := by decide +kernel
theorem dX4_putUp_7 : decode cX4_putUp 7 = .ok (.iastore, 1) := by decide +kernel
theorem dX4_putUp_8 : decode cX4_putUp 8 = .ok (.return_, 1) := by decide +kernel
theorem dX4_wear_0 : decode cX4_wear 0 = .ok (.aload_n 0, 1) := by decide +kernel
theorem dX4_wear_1 : decode cX4_wear 1 = .ok (.getfield 9, 3) := by decide +kernel
theorem dX4_wear_4 : decode cX4_wear 4 = .ok (.iload_n 1, 1) := by decide +kernel
theorem dX4_wear_5 : decode cX4_wear 5 = .ok (.bipush 100, 2) := by decide +kernel
theorem dX4_wear_7 : decode cX4_wear 7 = .ok (.aload_n 0, 1) := by decide +kernel
theorem dX4_wear_8 : decode cX4_wear 8 = .ok (.getfield 9, 3) := by decide +kernel
theorem dX4_wear_11 : decode cX4_wear 11 = .ok (.iload_n 1, 1) := by decide +kernel
theorem dX4_wear_12 : decode cX4_wear 12 = .ok (.iaload, 1) := by decide +kernel
theorem dX4_wear_13 : decode cX4_wear 13 = .ok (.iload_n 2, 1) := by decide +kernel
theorem dX4_wear_14 : decode cX4_wear 14 = .ok (.iadd, 1) := by decide +kernel
theorem dX4_wear_15 : decode cX4_wear 15 = .ok (.invokestatic 24, 3) := by decide +kernel
theorem dX4_wear_18 : decode cX4_wear 18 = .ok (.iastore, 1) := by decide +kernel
theorem dX4_wear_19 : decode cX4_wear 19 = .ok (.return_, 1) := by decide +kernel
theorem dX4_mend_0 : decode cX4_mend 0 = .ok (.aload_n 0, 1) := by decide +kernel
theorem dX4_mend_1 : decode cX4_mend 1 = .ok (.getfield 9, 3) := by decide +kernel
theorem dX4_mend_4 : decode cX4_mend 4 = .ok (.iload_n 1, 1) := by decide +kernel
theorem dX4_mend_5 : decode cX4_mend 5 = .ok (.iconst 0, 1) := by decide +kernel
theorem dX4_mend_6 : decode cX4_mend 6 = .ok (.aload_n 0, 1) := by decide +kernel
theorem dX4_mend_7 : decode cX4_mend 7 = .ok (.getfield 9, 3) := by decide +kernel
theorem dX4_mend_10 : decode cX4_mend 10 = .ok (.iload_n 1, 1) := by decide +kernel
theorem dX4_mend_11 : decode cX4_mend 11 = .ok (.iaload, 1) := by decide +kernel
theorem dX4_mend_12 : decode cX4_mend 12 = .ok (.iload_n 2, 1) := by decide +kernel
theorem dX4_mend_13 : decode cX4_mend 13 = .ok (.isub, 1) := by decide +kernel
theorem dX4_mend_14 : decode cX4_mend 14 = .ok (.invokestatic 30, 3) := by decide +kernel
theorem dX4_mend_17 : decode cX4_mend 17 = .ok (.iastore, 1) := by decide +kernel
theorem dX4_mend_18 : decode cX4_mend 18 = .ok (.return_, 1) := by decide +kernel
theorem dX4_freeze_0 : decode cX4_freeze 0 = .ok (.iconst 0, 1) := by decide +kernel
theorem dX4_freeze_1 : decode cX4_freeze 1 = .ok (.istore_n 2, 1) := by decide +kernel
theorem dX4_freeze_2 : decode cX4_freeze 2 = .ok (.iload_n 2, 1) := by decide +kernel
theorem dX4_freeze_3 : decode cX4_freeze 3 = .ok (.bipush 24, 2) := by decide +kernel
theorem dX4_freeze_5 : decode cX4_freeze 5 = .ok (.if_icmp .ge 28, 3) := by decide +kernel
theorem dX4_freeze_8 : decode cX4_freeze 8 = .ok (.aload_n 0, 1) := by decide +kernel
theorem dX4_freeze_9 : decode cX4_freeze 9 = .ok (.getfield 15, 3) := by decide +kernel
theorem dX4_freeze_12 : decode cX4_freeze 12 = .ok (.iload_n 2, 1) := by decide +kernel
theorem dX4_freeze_13 : decode cX4_freeze 13 = .ok (.bipush 9, 2) := by decide +kernel
theorem dX4_freeze_15 : decode cX4_freeze 15 = .ok (.aload_n 0, 1) := by decide +kernel
theorem dX4_freeze_16 : decode cX4_freeze 16 = .ok (.getfield 15, 3) := by decide +kernel
theorem dX4_freeze_19 : decode cX4_freeze 19 = .ok (.iload_n 2, 1) := by decide +kernel
theorem dX4_freeze_20 : decode cX4_freeze 20 = .ok (.iaload, 1) := by decide +kernel
theorem dX4_freeze_21 : decode cX4_freeze 21 = .ok (.iload_n 1, 1) := by decide +kernel
theorem dX4_freeze_22 : decode cX4_freeze 22 = .ok (.iadd, 1) := by decide +kernel
theorem dX4_freeze_23 : decode cX4_freeze 23 = .ok (.invokestatic 24, 3) := by decide +kernel
theorem dX4_freeze_26 : decode cX4_freeze 26 = .ok (.iastore, 1) := by decide +kernel
theorem dX4_freeze_27 : decode cX4_freeze 27 = .ok (.iinc 2 1, 3) := by decide +kernel
theorem dX4_freeze_30 : decode cX4_freeze 30 = .ok (.goto (-28), 3) := by decide +kernel
theorem dX4_freeze_33 : decode cX4_freeze 33 = .ok (.return_, 1) := by decide +kernel
theorem dX4_thaw_0 : decode cX4_thaw 0 = .ok (.iconst 0, 1) := by decide +kernel
theorem dX4_thaw_1 : decode cX4_thaw 1 = .ok (.istore_n 1, 1) := by decide +kernel
theorem dX4_thaw_2 : decode cX4_thaw 2 = .ok (.iload_n 1, 1) := by decide +kernel
theorem dX4_thaw_3 : decode cX4_thaw 3 = .ok (.bipush 24, 2) := by decide +kernel
theorem dX4_thaw_5 : decode cX4_thaw 5 = .ok (.if_icmp .ge 27, 3) := by decide +kernel
theorem dX4_thaw_8 : decode cX4_thaw 8 = .ok (.aload_n 0, 1) := by decide +kernel
theorem dX4_thaw_9 : decode cX4_thaw 9 = .ok (.getfield 15, 3) := by decide +kernel
theorem dX4_thaw_12 : decode cX4_thaw 12 = .ok (.iload_n 1, 1) := by decide +kernel
theorem dX4_thaw_13 : decode cX4_thaw 13 = .ok (.iconst 0, 1) := by decide +kernel
theorem dX4_thaw_14 : decode cX4_thaw 14 = .ok (.aload_n 0, 1) := by decide +kernel
theorem dX4_thaw_15 : decode cX4_thaw 15 = .ok (.getfield 15, 3) := by decide +kernel
theorem dX4_thaw_18 : decode cX4_thaw 18 = .ok (.iload_n 1, 1) := by decide +kernel
theorem dX4_thaw_19 : decode cX4_thaw 19 = .ok (.iaload, 1) := by decide +kernel
theorem dX4_thaw_20 : decode cX4_thaw 20 = .ok (.iconst 2, 1) := by decide +kernel
theorem dX4_thaw_21 : decode cX4_thaw 21 = .ok (.isub, 1) := by decide +kernel
theorem dX4_thaw_22 : decode cX4_thaw 22 = .ok (.invokestatic 30, 3) := by decide +kernel
theorem dX4_thaw_25 : decode cX4_thaw 25 = .ok (.iastore, 1) := by decide +kernel
theorem dX4_thaw_26 : decode cX4_thaw 26 = .ok (.iinc 1 1, 3) := by decide +kernel
theorem dX4_thaw_29 : decode cX4_thaw 29 = .ok (.goto (-27), 3) := by decide +kernel
theorem dX4_thaw_32 : decode cX4_thaw 32 = .ok (.return_, 1) := by decide +kernel
set_option maxRecDepth 20000 in
theorem ggX4_spansUpBehind_X4_isDown : GoodIn wsX4_spansUpBehind wsX4_isDown := goodIn_r _ [5, 6, 7, 8] (by decide +kernel) (by decide +kernel)
set_option maxRecDepth 20000 in
theorem gX4_spansUpBehind_X4_isDown : GoodIn wsX4_spansUpBehind (wsV RX4 33 RX4 yX4_isDown wsX4_isDown) := goodIn_app (goodIn_of _ (by decide +kernel)) ggX4_spansUpBehind_X4_isDown
theorem dX4_spansUpBehind_0 : decode cX4_spansUpBehind 0 = .ok (.iconst 0, 1) := by decide +kernel
theorem dX4_spansUpBehind_1 : decode cX4_spansUpBehind 1 = .ok (.istore_n 2, 1) := by decide +kernel
theorem dX4_spansUpBehind_2 : decode cX4_spansUpBehind 2 = .ok (.iload_n 2, 1) := by decide +kernel
theorem dX4_spansUpBehind_3 : decode cX4_spansUpBehind 3 = .ok (.bipush 24, 2) := by decide +kernel
theorem dX4_spansUpBehind_5 : decode cX4_spansUpBehind 5 = .ok (.if_icmp .ge 24, 3) := by decide +kernel
theorem dX4_spansUpBehind_8 : decode cX4_spansUpBehind 8 = .ok (.aload_n 0, 1) := by decide +kernel
theorem dX4_spansUpBehind_9 : decode cX4_spansUpBehind 9 = .ok (.iload_n 1, 1) := by decide +kernel
theorem dX4_spansUpBehind_10 : decode cX4_spansUpBehind 10 = .ok (.iload_n 2, 1) := by decide +kernel
theorem dX4_spansUpBehind_11 : decode cX4_spansUpBehind 11 = .ok (.iadd, 1) := by decide +kernel
theorem dX4_spansUpBehind_12 : decode cX4_spansUpBehind 12 = .ok (.iconst 1, 1) := by decide +kernel
theorem dX4_spansUpBehind_13 : decode cX4_spansUpBehind 13 = .ok (.iadd, 1) := by decide +kernel
theorem dX4_spansUpBehind_14 : decode cX4_spansUpBehind 14 = .ok (.bipush 24, 2) := by decide +kernel
theorem dX4_spansUpBehind_16 : decode cX4_spansUpBehind 16 = .ok (.irem, 1) := by decide +kernel
theorem dX4_spansUpBehind_17 : decode cX4_spansUpBehind 17 = .ok (.invokevirtual 33, 3) := by decide +kernel
theorem dX4_spansUpBehind_20 : decode cX4_spansUpBehind 20 = .ok (.ifCond .ne 9, 3) := by decide +kernel
theorem dX4_spansUpBehind_23 : decode cX4_spansUpBehind 23 = .ok (.iinc 2 1, 3) := by decide +kernel
theorem dX4_spansUpBehind_26 : decode cX4_spansUpBehind 26 = .ok (.goto (-24), 3) := by decide +kernel
theorem dX4_spansUpBehind_29 : decode cX4_spansUpBehind 29 = .ok (.iload_n 2, 1) := by decide +kernel
theorem dX4_spansUpBehind_30 : decode cX4_spansUpBehind 30 = .ok (.ireturn, 1) := by decide +kernel
set_option maxRecDepth 20000 in
theorem ggX4_spansDown_X4_isDown : GoodIn wsX4_spansDown wsX4_isDown := goodIn_r _ [5, 6, 10, 11] (by decide +kernel) (by decide +kernel)
set_option maxRecDepth 20000 in
theorem gX4_spansDown_X4_isDown : GoodIn wsX4_spansDown (wsV RX4 33 RX4 yX4_isDown wsX4_isDown) := goodIn_app (goodIn_of _ (by decide +kernel)) ggX4_spansDown_X4_isDown
set_option maxRecDepth 20000 in
theorem ggX4_spansDown_X5_oneIf : GoodIn wsX4_spansDown wsX5_oneIf := goodIn_r _ [9] (by decide +kernel) (by decide +kernel)
set_option maxRecDepth 20000 in
theorem gX4_spansDown_X5_oneIf_n37 : GoodIn wsX4_spansDown (wsX5_oneIf) := ggX4_spansDown_X5_oneIf
theorem dX4_spansDown_0 : decode cX4_spansDown 0 = .ok (.iconst 0, 1) := by decide +kernel
theorem dX4_spansDown_1 : decode cX4_spansDown 1 = .ok (.istore_n 1, 1) := by decide +kernel
theorem dX4_spansDown_2 : decode cX4_spansDown 2 = .ok (.iconst 0, 1) := by decide +kernel
theorem dX4_spansDown_3 : decode cX4_spansDown 3 = .ok (.istore_n 2, 1) := by decide +kernel
theorem dX4_spansDown_4 : decode cX4_spansDown 4 = .ok (.iload_n 2, 1) := by decide +kernel
theorem dX4_spansDown_5 : decode cX4_spansDown 5 = .ok (.bipush 24, 2) := by decide +kernel
theorem dX4_spansDown_7 : decode cX4_spansDown 7 = .ok (.if_icmp .ge 20, 3) := by decide +kernel
theorem dX4_spansDown_10 : decode cX4_spansDown 10 = .ok (.iload_n 1, 1) := by decide +kernel
theorem dX4_spansDown_11 : decode cX4_spansDown 11 = .ok (.aload_n 0, 1) := by decide +kernel
theorem dX4_spansDown_12 : decode cX4_spansDown 12 = .ok (.iload_n 2, 1) := by decide +kernel
theorem dX4_spansDown_13 : decode cX4_spansDown 13 = .ok (.invokevirtual 33, 3) := by decide +kernel
theorem dX4_spansDown_16 : decode cX4_spansDown 16 = .ok (.invokestatic 37, 3) := by decide +kernel
theorem dX4_spansDown_19 : decode cX4_spansDown 19 = .ok (.iadd, 1) := by decide +kernel
theorem dX4_spansDown_20 : decode cX4_spansDown 20 = .ok (.istore_n 1, 1) := by decide +kernel
theorem dX4_spansDown_21 : decode cX4_spansDown 21 = .ok (.iinc 2 1, 3) := by decide +kernel
theorem dX4_spansDown_24 : decode cX4_spansDown 24 = .ok (.goto (-20), 3) := by decide +kernel
theorem dX4_spansDown_27 : decode cX4_spansDown 27 = .ok (.iload_n 1, 1) := by decide +kernel
theorem dX4_spansDown_28 : decode cX4_spansDown 28 = .ok (.ireturn, 1) := by decide +kernel
theorem dX4_wornInAll_0 : decode cX4_wornInAll 0 = .ok (.iconst 0, 1) := by decide +kernel
theorem dX4_wornInAll_1 : decode cX4_wornInAll 1 = .ok (.istore_n 1, 1) := by decide +kernel
theorem dX4_wornInAll_2 : decode cX4_wornInAll 2 = .ok (.iconst 0, 1) := by decide +kernel
theorem dX4_wornInAll_3 : decode cX4_wornInAll 3 = .ok (.istore_n 2, 1) := by decide +kernel
theorem dX4_wornInAll_4 : decode cX4_wornInAll 4 = .ok (.iload_n 2, 1) := by decide +kernel
theorem dX4_wornInAll_5 : decode cX4_wornInAll 5 = .ok (.bipush 24, 2) := by decide +kernel
theorem dX4_wornInAll_7 : decode cX4_wornInAll 7 = .ok (.if_icmp .ge 18, 3) := by decide +kernel
theorem dX4_wornInAll_10 : decode cX4_wornInAll 10 = .ok (.iload_n 1, 1) := by decide +kernel
theorem dX4_wornInAll_11 : decode cX4_wornInAll 11 = .ok (.aload_n 0, 1) := by decide +kernel
theorem dX4_wornInAll_12 : decode cX4_wornInAll 12 = .ok (.getfield 9, 3) := by decide +kernel
theorem dX4_wornInAll_15 : decode cX4_wornInAll 15 = .ok (.iload_n 2, 1) := by decide +kernel
theorem dX4_wornInAll_16 : decode cX4_wornInAll 16 = .ok (.iaload, 1) := by decide +kernel
theorem dX4_wornInAll_17 : decode cX4_wornInAll 17 = .ok (.iadd, 1) := by decide +kernel
theorem dX4_wornInAll_18 : decode cX4_wornInAll 18 = .ok (.istore_n 1, 1) := by decide +kernel
theorem dX4_wornInAll_19 : decode cX4_wornInAll 19 = .ok (.iinc 2 1, 3) := by decide +kernel
theorem dX4_wornInAll_22 : decode cX4_wornInAll 22 = .ok (.goto (-18), 3) := by decide +kernel
theorem dX4_wornInAll_25 : decode cX4_wornInAll 25 = .ok (.iload_n 1, 1) := by decide +kernel
theorem dX4_wornInAll_26 : decode cX4_wornInAll 26 = .ok (.ireturn, 1) := by decide +kernel
theorem dX4_frostInAll_0 : decode cX4_frostInAll 0 = .ok (.iconst 0, 1) := by decide +kernel
theorem dX4_frostInAll_1 : decode cX4_frostInAll 1 = .ok (.istore_n 1, 1) := by decide +kernel
theorem dX4_frostInAll_2 : decode cX4_frostInAll 2 = .ok (.iconst 0, 1) := by decide +kernel
theorem dX4_frostInAll_3 : decode cX4_frostInAll 3 = .ok (.istore_n 2, 1) := by decide +kernel
theorem dX4_frostInAll_4 : decode cX4_frostInAll 4 = .ok (.iload_n 2, 1) := by decide +kernel
theorem dX4_frostInAll_5 : decode cX4_frostInAll 5 = .ok (.bipush 24, 2) := by decide +kernel
theorem dX4_frostInAll_7 : decode cX4_frostInAll 7 = .ok (.if_icmp .ge 18, 3) := by decide +kernel
theorem dX4_frostInAll_10 : decode cX4_frostInAll 10 = .ok (.iload_n 1, 1) := by decide +kernel
theorem dX4_frostInAll_11 : decode cX4_frostInAll 11 = .ok (.aload_n 0, 1) := by decide +kernel
theorem dX4_frostInAll_12 : decode cX4_frostInAll 12 = .ok (.getfield 15, 3) := by decide +kernel
theorem dX4_frostInAll_15 : decode cX4_frostInAll 15 = .ok (.iload_n 2, 1) := by decide +kernel
theorem dX4_frostInAll_16 : decode cX4_frostInAll 16 = .ok (.iaload, 1) := by decide +kernel
theorem dX4_frostInAll_17 : decode cX4_frostInAll 17 = .ok (.iadd, 1) := by decide +kernel
theorem dX4_frostInAll_18 : decode cX4_frostInAll 18 = .ok (.istore_n 1, 1) := by decide +kernel
theorem dX4_frostInAll_19 : decode cX4_frostInAll 19 = .ok (.iinc 2 1, 3) := by decide +kernel
theorem dX4_frostInAll_22 : decode cX4_frostInAll 22 = .ok (.goto (-18), 3) := by decide +kernel
theorem dX4_frostInAll_25 : decode cX4_frostInAll 25 = .ok (.iload_n 1, 1) := by decide +kernel
theorem dX4_frostInAll_26 : decode cX4_frostInAll 26 = .ok (.ireturn, 1) := by decide +kernel
set_option maxRecDepth 20000 in
theorem ggX5_init_X3_init : GoodIn wsX5_init wsX3_init := goodIn_r _ [14, 15, 2, 3, 16, 17, 18, 19, 20, 48, 49, 50, 51] (by decide +kernel) (by decide +kernel)
set_option maxRecDepth 20000 in
theorem gX5_init_X3_init_n9 : GoodIn wsX5_init (wsX3_init) := ggX5_init_X3_init
set_option maxRecDepth 20000 in
theorem ggX5_init_X2_init : GoodIn wsX5_init wsX2_init := goodIn_r _ [22, 23, 2, 3, 24, 25, 26, 27, 28, 29, 30, 31, 32, 33, 34, 35, 36, 37, 38, 16, 39, 40, 41, 42, 43, 44, 45, 46, 47, 61, 62, 55, 56, 57, 58, 59, 60, 63, 64, 65, 66, 67, 68, 69, 70, 71, 72, 73, 74] (by decide +kernel) (by decide +kernel)
set_option maxRecDepth 20000 in
theorem gX5_init_X2_init_n18 : GoodIn wsX5_init (wsX2_init) := ggX5_init_X2_init
theorem dX5_init_0 : decode cX5_init 0 = .ok (.aload_n 0, 1) := by decide +kernel
theorem dX5_init_1 : decode cX5_init 1 = .ok (.invokespecial 1, 3) := by decide +kernel
theorem dX5_init_4 : decode cX5_init 4 = .ok (.aload_n 0, 1) := by decide +kernel
theorem dX5_init_5 : decode cX5_init 5 = .ok (.new 7, 3) := by decide +kernel
theorem dX5_init_8 : decode cX5_init 8 = .ok (.dup, 1) := by decide +kernel
theorem dX5_init_9 : decode cX5_init 9 = .ok (.invokespecial 9, 3) := by decide +kernel
theorem dX5_init_12 : decode cX5_init 12 = .ok (.putfield 10, 3) := by decide +kernel
theorem dX5_init_15 : decode cX5_init 15 = .ok (.aload_n 0, 1) := by decide +kernel
theorem dX5_init_16 : decode cX5_init 16 = .ok (.new 16, 3) := by decide +kernel
theorem dX5_init_19 : decode cX5_init 19 = .ok (.dup, 1) := by decide +kernel
theorem dX5_init_20 : decode cX5_init 20 = .ok (.invokespecial 18, 3) := by decide +kernel
theorem dX5_init_23 : decode cX5_init 23 = .ok (.putfield 19, 3) := by decide +kernel
theorem dX5_init_26 : decode cX5_init 26 = .ok (.aload_n 0, 1) := by decide +kernel
theorem dX5_init_27 : decode cX5_init 27 = .ok (.new 16, 3) := by decide +kernel
theorem dX5_init_30 : decode cX5_init 30 = .ok (.dup, 1) := by decide +kernel
theorem dX5_init_31 : decode cX5_init 31 = .ok (.invokespecial 18, 3) := by decide +kernel
theorem dX5_init_34 : decode cX5_init 34 = .ok (.putfield 23, 3) := by decide +kernel
theorem dX5_init_37 : decode cX5_init 37 = .ok (.return_, 1) := by decide +kernel
theorem dX5_setCold_0 : decode cX5_setCold 0 = .ok (.iload_n 1, 1) := by decide +kernel
theorem dX5_setCold_1 : decode cX5_setCold 1 = .ok (.ifCond .lt 9, 3) := by decide +kernel
theorem dX5_setCold_4 : decode cX5_setCold 4 = .ok (.iload_n 1, 1) := by decide +kernel
theorem dX5_setCold_5 : decode cX5_setCold 5 = .ok (.bipush 8, 2) := by decide +kernel
theorem dX5_setCold_7 : decode cX5_setCold 7 = .ok (.if_icmp .lt 13, 3) := by decide +kernel
theorem dX5_setCold_10 : decode cX5_setCold 10 = .ok (.new 26, 3) := by decide +kernel
theorem dX5_setCold_13 : decode cX5_setCold 13 = .ok (.dup, 1) := by decide +kernel
theorem dX5_setCold_14 : decode cX5_setCold 14 = .ok (.ldc 28, 2) := by decide +kernel
theorem dX5_setCold_16 : decode cX5_setCold 16 = .ok (.invokespecial 30, 3) := by decide +kernel
theorem dX5_setCold_19 : decode cX5_setCold 19 = .ok (.athrow, 1) := by decide +kernel
theorem dX5_setCold_20 : decode cX5_setCold 20 = .ok (.iload_n 2, 1) := by decide +kernel
theorem dX5_setCold_21 : decode cX5_setCold 21 = .ok (.ifCond .lt 8, 3) := by decide +kernel
theorem dX5_setCold_24 : decode cX5_setCold 24 = .ok (.iload_n 2, 1) := by decide +kernel
theorem dX5_setCold_25 : decode cX5_setCold 25 = .ok (.iconst 3, 1) := by decide +kernel
theorem dX5_setCold_26 : decode cX5_setCold 26 = .ok (.if_icmp .le 13, 3) := by decide +kernel
theorem dX5_setCold_29 : decode cX5_setCold 29 = .ok (.new 33, 3) := by decide +kernel
theorem dX5_setCold_32 : decode cX5_setCold 32 = .ok (.dup, 1) := by decide +kernel
theorem dX5_setCold_33 : decode cX5_setCold 33 = .ok (.ldc 35, 2) := by decide +kernel
theorem dX5_setCold_35 : decode cX5_setCold 35 = .ok (.invokespecial 37, 3) := by decide +kernel
theorem dX5_setCold_38 : decode cX5_setCold 38 = .ok (.athrow, 1) := by decide +kernel
theorem dX5_setCold_39 : decode cX5_setCold 39 = .ok (.aload_n 0, 1) := by decide +kernel
theorem dX5_setCold_40 : decode cX5_setCold 40 = .ok (.getfield 10, 3) := by decide +kernel
theorem dX5_setCold_43 : decode cX5_setCold 43 = .ok (.getfield 38, 3) := by decide +kernel
theorem dX5_setCold_46 : decode cX5_setCold 46 = .ok (.iload_n 1, 1) := by decide +kernel
theorem dX5_setCold_47 : decode cX5_setCold 47 = .ok (.iaload, 1) := by decide +kernel
theorem dX5_setCold_48 : decode cX5_setCold 48 = .ok (.istore_n 3, 1) := by decide +kernel
theorem dX5_setCold_49 : decode cX5_setCold 49 = .ok (.aload_n 0, 1) := by decide +kernel
theorem dX5_setCold_50 : decode cX5_setCold 50 = .ok (.getfield 10, 3) := by decide +kernel
theorem dX5_setCold_53 : decode cX5_setCold 53 = .ok (.getfield 38, 3) := by decide +kernel
theorem dX5_setCold_56 : decode cX5_setCold 56 = .ok (.iload_n 1, 1) := by decide +kernel
theorem dX5_setCold_57 : decode cX5_setCold 57 = .ok (.iload_n 2, 1) := by decide +kernel
theorem dX5_setCold_58 : decode cX5_setCold 58 = .ok (.iastore, 1) := by decide +kernel
theorem dX5_setCold_59 : decode cX5_setCold 59 = .ok (.iload_n 3, 1) := by decide +kernel
theorem dX5_setCold_60 : decode cX5_setCold 60 = .ok (.ireturn, 1) := by decide +kernel
theorem dX5_setSwan_0 : decode cX5_setSwan 0 = .ok (.iload_n 1, 1) := by decide +kernel
theorem dX5_setSwan_1 : decode cX5_setSwan 1 = .ok (.ifCond .lt 9, 3) := by decide +kernel
theorem dX5_setSwan_4 : decode cX5_setSwan 4 = .ok (.iload_n 1, 1) := by decide +kernel
theorem dX5_setSwan_5 : decode cX5_setSwan 5 = .ok (.bipush 12, 2) := by decide +kernel
theorem dX5_setSwan_7 : decode cX5_setSwan 7 = .ok (.if_icmp .lt 13, 3) := by decide +kernel
theorem dX5_setSwan_10 : decode cX5_setSwan 10 = .ok (.new 26, 3) := by decide +kernel
theorem dX5_setSwan_13 : decode cX5_setSwan 13 = .ok (.dup, 1) := by decide +kernel
theorem dX5_setSwan_14 : decode cX5_setSwan 14 = .ok (.ldc 42, 2) := by decide +kernel
theorem dX5_setSwan_16 : decode cX5_setSwan 16 = .ok (.invokespecial 30, 3) := by decide +kernel
theorem dX5_setSwan_19 : decode cX5_setSwan 19 = .ok (.athrow, 1) := by decide +kernel
theorem dX5_setSwan_20 : decode cX5_setSwan 20 = .ok (.iload_n 2, 1) := by decide +kernel
theorem dX5_setSwan_21 : decode cX5_setSwan 21 = .ok (.iconst (-1), 1) := by decide +kernel
theorem dX5_setSwan_22 : decode cX5_setSwan 22 = .ok (.if_icmp .lt 9, 3) := by decide +kernel
theorem dX5_setSwan_25 : decode cX5_setSwan 25 = .ok (.iload_n 2, 1) := by decide +kernel
theorem dX5_setSwan_26 : decode cX5_setSwan 26 = .ok (.bipush 24, 2) := by decide +kernel
theorem dX5_setSwan_28 : decode cX5_setSwan 28 = .ok (.if_icmp .lt 13, 3) := by decide +kernel
theorem dX5_setSwan_31 : decode cX5_setSwan 31 = .ok (.new 33, 3) := by decide +kernel
theorem dX5_setSwan_34 : decode cX5_setSwan 34 = .ok (.dup, 1) := by decide +kernel
theorem dX5_setSwan_35 : decode cX5_setSwan 35 = .ok (.ldc 44, 2) := by decide +kernel
theorem dX5_setSwan_37 : decode cX5_setSwan 37 = .ok (.invokespecial 37, 3) := by decide +kernel
theorem dX5_setSwan_40 : decode cX5_setSwan 40 = .ok (.athrow, 1) := by decide +kernel
theorem dX5_setSwan_41 : decode cX5_setSwan 41 = .ok (.aload_n 0, 1) := by decide +kernel
theorem dX5_setSwan_42 : decode cX5_setSwan 42 = .ok (.getfield 10, 3) := by decide +kernel
theorem dX5_setSwan_45 : decode cX5_setSwan 45 = .ok (.getfield 46, 3) := by decide +kernel
theorem dX5_setSwan_48 : decode cX5_setSwan 48 = .ok (.iload_n 1, 1) := by decide +kernel
theorem dX5_setSwan_49 : decode cX5_setSwan 49 = .ok (.iaload, 1) := by decide +kernel
theorem dX5_setSwan_50 : decode cX5_setSwan 50 = .ok (.istore_n 3, 1) := by decide +kernel
theorem dX5_setSwan_51 : decode cX5_setSwan 51 = .ok (.aload_n 0, 1) := by decide +kernel
theorem dX5_setSwan_52 : decode cX5_setSwan 52 = .ok (.getfield 10, 3) := by decide +kernel
theorem dX5_setSwan_55 : decode cX5_setSwan 55 = .ok (.getfield 46, 3) := by decide +kernel
theorem dX5_setSwan_58 : decode cX5_setSwan 58 = .ok (.iload_n 1, 1) := by decide +kernel
theorem dX5_setSwan_59 : decode cX5_setSwan 59 = .ok (.iload_n 2, 1) := by decide +kernel
theorem dX5_setSwan_60 : decode cX5_setSwan 60 = .ok (.iastore, 1) := by decide +kernel
theorem dX5_setSwan_61 : decode cX5_setSwan 61 = .ok (.iload_n 3, 1) := by decide +kernel
theorem dX5_setSwan_62 : decode cX5_setSwan 62 = .ok (.ireturn, 1) := by decide +kernel
set_option maxRecDepth 20000 in
theorem ggX5_setFare_X3_fare : GoodIn wsX5_setFare wsX3_fare := goodIn_r _ [7, 8, 9, 13, 14, 15, 16] (by decide +kernel) (by decide +kernel)
set_option maxRecDepth 20000 in
theorem gX5_setFare_X3_fare_n51 : GoodIn wsX5_setFare (wsX3_fare) := ggX5_setFare_X3_fare
theorem dX5_setFare_0 : decode cX5_setFare 0 = .ok (.iload_n 2, 1) := by decide +kernel
theorem dX5_setFare_1 : decode cX5_setFare 1 = .ok (.ifCond .lt 9, 3) := by decide +kernel
theorem dX5_setFare_4 : decode cX5_setFare 4 = .ok (.iload_n 2, 1) := by decide +kernel
theorem dX5_setFare_5 : decode cX5_setFare 5 = .ok (.bipush 9, 2) := by decide +kernel
theorem dX5_setFare_7 : decode cX5_setFare 7 = .ok (.if_icmp .le 13, 3) := by decide +kernel
theorem dX5_setFare_10 : decode cX5_setFare 10 = .ok (.new 33, 3) := by decide +kernel
theorem dX5_setFare_13 : decode cX5_setFare 13 = .ok (.dup, 1) := by decide +kernel
theorem dX5_setFare_14 : decode cX5_setFare 14 = .ok (.ldc 49, 2) := by decide +kernel
theorem dX5_setFare_16 : decode cX5_setFare 16 = .ok (.invokespecial 37, 3) := by decide +kernel
theorem dX5_setFare_19 : decode cX5_setFare 19 = .ok (.athrow, 1) := by decide +kernel
theorem dX5_setFare_20 : decode cX5_setFare 20 = .ok (.aload_n 0, 1) := by decide +kernel
theorem dX5_setFare_21 : decode cX5_setFare 21 = .ok (.getfield 10, 3) := by decide +kernel
theorem dX5_setFare_24 : decode cX5_setFare 24 = .ok (.iload_n 1, 1) := by decide +kernel
theorem dX5_setFare_25 : decode cX5_setFare 25 = .ok (.invokevirtual 51, 3) := by decide +kernel
theorem dX5_setFare_28 : decode cX5_setFare 28 = .ok (.istore_n 3, 1) := by decide +kernel
theorem dX5_setFare_29 : decode cX5_setFare 29 = .ok (.iload_n 1, 1) := by decide +kernel
theorem dX5_setFare_30 : decode cX5_setFare 30 = .ok (.ifCond .eq 14, 3) := by decide +kernel
theorem dX5_setFare_33 : decode cX5_setFare 33 = .ok (.aload_n 0, 1) := by decide +kernel
theorem dX5_setFare_34 : decode cX5_setFare 34 = .ok (.getfield 10, 3) := by decide +kernel
theorem dX5_setFare_37 : decode cX5_setFare 37 = .ok (.iload_n 2, 1) := by decide +kernel
theorem dX5_setFare_38 : decode cX5_setFare 38 = .ok (.putfield 55, 3) := by decide +kernel
theorem dX5_setFare_41 : decode cX5_setFare 41 = .ok (.goto 11, 3) := by decide +kernel
theorem dX5_setFare_44 : decode cX5_setFare 44 = .ok (.aload_n 0, 1) := by decide +kernel
theorem dX5_setFare_45 : decode cX5_setFare 45 = .ok (.getfield 10, 3) := by decide +kernel
theorem dX5_setFare_48 : decode cX5_setFare 48 = .ok (.iload_n 2, 1) := by decide +kernel
theorem dX5_setFare_49 : decode cX5_setFare 49 = .ok (.putfield 59, 3) := by decide +kernel
theorem dX5_setFare_52 : decode cX5_setFare 52 = .ok (.iload_n 3, 1) := by decide +kernel
theorem dX5_setFare_53 : decode cX5_setFare 53 = .ok (.ireturn, 1) := by decide +kernel
set_option maxRecDepth 20000 in
theorem ggX5_bus_X5_checkSpan : GoodIn wsX5_bus wsX5_checkSpan := goodIn_ca (goodIn_r _ [7, 8, 9] (by decide +kernel) (by decide +kernel)) (goodIn_sub (fun _ h => List.mem_cons_of_mem _ (List.mem_append_right _ h)) (by decide +kernel))
set_option maxRecDepth 20000 in
theorem gX5_bus_X5_checkSpan : GoodIn wsX5_bus (va_wsS RX5 62 yX5_checkSpan wsX5_checkSpan) := goodIn_app (goodIn_of _ (by decide +kernel)) ggX5_bus_X5_checkSpan
set_option maxRecDepth 20000 in
theorem ggX5_bus_X0_come : GoodIn wsX5_bus wsX0_come := goodIn_r _ [13, 14, 15, 16, 26, 27, 28, 29, 30, 31] (by decide +kernel) (by decide +kernel)
set_option maxRecDepth 20000 in
theorem gX5_bus_X0_come_n78 : GoodIn wsX5_bus (wsX0_come) := ggX5_bus_X0_come
theorem dX5_bus_0 : decode cX5_bus 0 = .ok (.iload_n 1, 1) := by decide +kernel
theorem dX5_bus_1 : decode cX5_bus 1 = .ok (.invokestatic 62, 3) := by decide +kernel
theorem dX5_bus_4 : decode cX5_bus 4 = .ok (.aload_n 0, 1) := by decide +kernel
theorem dX5_bus_5 : decode cX5_bus 5 = .ok (.getfield 19, 3) := by decide +kernel
theorem dX5_bus_8 : decode cX5_bus 8 = .ok (.getfield 66, 3) := by decide +kernel
theorem dX5_bus_11 : decode cX5_bus 11 = .ok (.bipush 6, 2) := by decide +kernel
theorem dX5_bus_13 : decode cX5_bus 13 = .ok (.if_icmp .lt 13, 3) := by decide +kernel
theorem dX5_bus_16 : decode cX5_bus 16 = .ok (.new 69, 3) := by decide +kernel
theorem dX5_bus_19 : decode cX5_bus 19 = .ok (.dup, 1) := by decide +kernel
theorem dX5_bus_20 : decode cX5_bus 20 = .ok (.ldc 71, 2) := by decide +kernel
theorem dX5_bus_22 : decode cX5_bus 22 = .ok (.invokespecial 73, 3) := by decide +kernel
theorem dX5_bus_25 : decode cX5_bus 25 = .ok (.athrow, 1) := by decide +kernel
theorem dX5_bus_26 : decode cX5_bus 26 = .ok (.aload_n 0, 1) := by decide +kernel
theorem dX5_bus_27 : decode cX5_bus 27 = .ok (.getfield 19, 3) := by decide +kernel
theorem dX5_bus_30 : decode cX5_bus 30 = .ok (.getfield 66, 3) := by decide +kernel
theorem dX5_bus_33 : decode cX5_bus 33 = .ok (.istore_n 3, 1) := by decide +kernel
theorem dX5_bus_34 : decode cX5_bus 34 = .ok (.aload_n 0, 1) := by decide +kernel
theorem dX5_bus_35 : decode cX5_bus 35 = .ok (.getfield 19, 3) := by decide +kernel
theorem dX5_bus_38 : decode cX5_bus 38 = .ok (.getfield 74, 3) := by decide +kernel
theorem dX5_bus_41 : decode cX5_bus 41 = .ok (.iload_n 3, 1) := by decide +kernel
theorem dX5_bus_42 : decode cX5_bus 42 = .ok (.aaload, 1) := by decide +kernel
theorem dX5_bus_43 : decode cX5_bus 43 = .ok (.iload_n 1, 1) := by decide +kernel
theorem dX5_bus_44 : decode cX5_bus 44 = .ok (.iload_n 2, 1) := by decide +kernel
theorem dX5_bus_45 : decode cX5_bus 45 = .ok (.invokevirtual 78, 3) := by decide +kernel
theorem dX5_bus_48 : decode cX5_bus 48 = .ok (.aload_n 0, 1) := by decide +kernel
theorem dX5_bus_49 : decode cX5_bus 49 = .ok (.getfield 19, 3) := by decide +kernel
theorem dX5_bus_52 : decode cX5_bus 52 = .ok (.dup, 1) := by decide +kernel
theorem dX5_bus_53 : decode cX5_bus 53 = .ok (.getfield 66, 3) := by decide +kernel
theorem dX5_bus_56 : decode cX5_bus 56 = .ok (.iconst 1, 1) := by decide +kernel
theorem dX5_bus_57 : decode cX5_bus 57 = .ok (.iadd, 1) := by decide +kernel
theorem dX5_bus_58 : decode cX5_bus 58 = .ok (.putfield 66, 3) := by decide +kernel
theorem dX5_bus_61 : decode cX5_bus 61 = .ok (.iload_n 3, 1) := by decide +kernel
theorem dX5_bus_62 : decode cX5_bus 62 = .ok (.ireturn, 1) := by decide +kernel
set_option maxRecDepth 20000 in
theorem ggX5_fit_X5_checkBus : GoodIn wsX5_fit wsX5_checkBus := goodIn_ca (goodIn_r _ [8, 9, 10, 3, 11, 12, 13, 14, 15, 16, 17, 18, 19] (by decide +kernel) (by decide +kernel)) (goodIn_sub (fun _ h => List.mem_cons_of_mem _ (List.mem_append_right _ h)) (by decide +kernel))
set_option maxRecDepth 20000 in
theorem gX5_fit_X5_checkBus : GoodIn wsX5_fit (wsV RX5 84 RX5 yX5_checkBus wsX5_checkBus) := goodIn_app (goodIn_of _ (by decide +kernel)) ggX5_fit_X5_checkBus
theorem dX5_fit_0 : decode cX5_fit 0 = .ok (.aload_n 0, 1) := by decide +kernel
theorem dX5_fit_1 : decode cX5_fit 1 = .ok (.iload_n 1, 1) := by decide +kernel
theorem dX5_fit_2 : decode cX5_fit 2 = .ok (.invokevirtual 84, 3) := by decide +kernel
theorem dX5_fit_5 : decode cX5_fit 5 = .ok (.aload_n 0, 1) := by decide +kernel
theorem dX5_fit_6 : decode cX5_fit 6 = .ok (.iload_n 2, 1) := by decide +kernel
theorem dX5_fit_7 : decode cX5_fit 7 = .ok (.invokevirtual 84, 3) := by decide +kernel
theorem dX5_fit_10 : decode cX5_fit 10 = .ok (.aload_n 0, 1) := by decide +kernel
theorem dX5_fit_11 : decode cX5_fit 11 = .ok (.getfield 19, 3) := by decide +kernel
theorem dX5_fit_14 : decode cX5_fit 14 = .ok (.getfield 74, 3) := by decide +kernel
theorem dX5_fit_17 : decode cX5_fit 17 = .ok (.iload_n 1, 1) := by decide +kernel
theorem dX5_fit_18 : decode cX5_fit 18 = .ok (.aaload, 1) := by decide +kernel
theorem dX5_fit_19 : decode cX5_fit 19 = .ok (.astore_n 3, 1) := by decide +kernel
theorem dX5_fit_20 : decode cX5_fit 20 = .ok (.aload_n 0, 1) := by decide +kernel
theorem dX5_fit_21 : decode cX5_fit 21 = .ok (.getfield 19, 3) := by decide +kernel
theorem dX5_fit_24 : decode cX5_fit 24 = .ok (.getfield 74, 3) := by decide +kernel
theorem dX5_fit_27 : decode cX5_fit 27 = .ok (.iload_n 2, 1) := by decide +kernel
theorem dX5_fit_28 : decode cX5_fit 28 = .ok (.aaload, 1) := by decide +kernel
theorem dX5_fit_29 : decode cX5_fit 29 = .ok (.astore 4, 2) := by decide +kernel
theorem dX5_fit_31 : decode cX5_fit 31 = .ok (.aload_n 3, 1) := by decide +kernel
theorem dX5_fit_32 : decode cX5_fit 32 = .ok (.getfield 87, 3) := by decide +kernel
theorem dX5_fit_35 : decode cX5_fit 35 = .ok (.ifCond .eq 11, 3) := by decide +kernel
theorem dX5_fit_38 : decode cX5_fit 38 = .ok (.aload 4, 2) := by decide +kernel
theorem dX5_fit_40 : decode cX5_fit 40 = .ok (.getfield 87, 3) := by decide +kernel
theorem dX5_fit_43 : decode cX5_fit 43 = .ok (.ifCond .eq 13, 3) := by decide +kernel
theorem dX5_fit_46 : decode cX5_fit 46 = .ok (.new 69, 3) := by decide +kernel
theorem dX5_fit_49 : decode cX5_fit 49 = .ok (.dup, 1) := by decide +kernel
theorem dX5_fit_50 : decode cX5_fit 50 = .ok (.ldc 91, 2) := by decide +kernel
theorem dX5_fit_52 : decode cX5_fit 52 = .ok (.invokespecial 73, 3) := by decide +kernel
theorem dX5_fit_55 : decode cX5_fit 55 = .ok (.athrow, 1) := by decide +kernel
theorem dX5_fit_56 : decode cX5_fit 56 = .ok (.aload_n 3, 1) := by decide +kernel
theorem dX5_fit_57 : decode cX5_fit 57 = .ok (.iconst 0, 1) := by decide +kernel
theorem dX5_fit_58 : decode cX5_fit 58 = .ok (.putfield 87, 3) := by decide +kernel
theorem dX5_fit_61 : decode cX5_fit 61 = .ok (.aload 4, 2) := by decide +kernel
theorem dX5_fit_63 : decode cX5_fit 63 = .ok (.iconst 1, 1) := by decide +kernel
theorem dX5_fit_64 : decode cX5_fit 64 = .ok (.putfield 87, 3) := by decide +kernel
theorem dX5_fit_67 : decode cX5_fit 67 = .ok (.aload 4, 2) := by decide +kernel
theorem dX5_fit_69 : decode cX5_fit 69 = .ok (.getfield 93, 3) := by decide +kernel
theorem dX5_fit_72 : decode cX5_fit 72 = .ok (.ireturn, 1) := by decide +kernel
set_option maxRecDepth 20000 in
theorem ggX5_park_X5_checkBus : GoodIn wsX5_park wsX5_checkBus := goodIn_ca (goodIn_r _ [6, 7, 8, 1, 9, 10, 11, 12, 13, 14, 15, 16, 17] (by decide +kernel) (by decide +kernel)) (goodIn_sub (fun _ h => List.mem_cons_of_mem _ (List.mem_append_right _ h)) (by decide +kernel))
set_option maxRecDepth 20000 in
theorem gX5_park_X5_checkBus : GoodIn wsX5_park (wsV RX5 84 RX5 yX5_checkBus wsX5_checkBus) := goodIn_app (goodIn_of _ (by decide +kernel)) ggX5_park_X5_checkBus
theorem dX5_park_0 : decode cX5_park 0 = .ok (.aload_n 0, 1) := by decide +kernel
theorem dX5_park_1 : decode cX5_park 1 = .ok (.iload_n 1, 1) := by decide +kernel
theorem dX5_park_2 : decode cX5_park 2 = .ok (.invokevirtual 84, 3) := by decide +kernel
theorem dX5_park_5 : decode cX5_park 5 = .ok (.aload_n 0, 1) := by decide +kernel
theorem dX5_park_6 : decode cX5_park 6 = .ok (.getfield 19, 3) := by decide +kernel
theorem dX5_park_9 : decode cX5_park 9 = .ok (.getfield 74, 3) := by decide +kernel
theorem dX5_park_12 : decode cX5_park 12 = .ok (.iload_n 1, 1) := by decide +kernel
theorem dX5_park_13 : decode cX5_park 13 = .ok (.aaload, 1) := by decide +kernel
theorem dX5_park_14 : decode cX5_park 14 = .ok (.astore_n 2, 1) := by decide +kernel
theorem dX5_park_15 : decode cX5_park 15 = .ok (.aload_n 2, 1) := by decide +kernel
theorem dX5_park_16 : decode cX5_park 16 = .ok (.aload_n 2, 1) := by decide +kernel
theorem dX5_park_17 : decode cX5_park 17 = .ok (.getfield 96, 3) := by decide +kernel
theorem dX5_park_20 : decode cX5_park 20 = .ok (.ifCond .ne 7, 3) := by decide +kernel
theorem dX5_park_23 : decode cX5_park 23 = .ok (.iconst 1, 1) := by decide +kernel
theorem dX5_park_24 : decode cX5_park 24 = .ok (.goto 4, 3) := by decide +kernel
theorem dX5_park_27 : decode cX5_park 27 = .ok (.iconst 0, 1) := by decide +kernel
theorem dX5_park_28 : decode cX5_park 28 = .ok (.putfield 96, 3) := by decide +kernel
theorem dX5_park_31 : decode cX5_park 31 = .ok (.aload_n 2, 1) := by decide +kernel
theorem dX5_park_32 : decode cX5_park 32 = .ok (.getfield 96, 3) := by decide +kernel
theorem dX5_park_35 : decode cX5_park 35 = .ok (.ireturn, 1) := by decide +kernel
set_option maxRecDepth 20000 in
theorem ggX5_told_X5_checkBus : GoodIn wsX5_told wsX5_checkBus := goodIn_ca (goodIn_r _ [6, 7, 8, 1, 24, 25, 26, 27, 28, 29, 30, 31, 32] (by decide +kernel) (by decide +kernel)) (goodIn_sub (fun _ h => List.mem_cons_of_mem _ (List.mem_append_right _ h)) (by decide +kernel))
set_option maxRecDepth 20000 in
theorem gX5_told_X5_checkBus : GoodIn wsX5_told (wsV RX5 84 RX5 yX5_checkBus wsX5_checkBus) := goodIn_app (goodIn_of _ (by decide +kernel)) ggX5_told_X5_checkBus
set_option maxRecDepth 20000 in
theorem ggX5_told_X5_checkWhat : GoodIn wsX5_told wsX5_checkWhat := goodIn_ca (goodIn_r _ [11, 7, 8] (by decide +kernel) (by decide +kernel)) (goodIn_sub (fun _ h => List.mem_cons_of_mem _ (List.mem_append_right _ h)) (by decide +kernel))
set_option maxRecDepth 20000 in
theorem gX5_told_X5_checkWhat : GoodIn wsX5_told (va_wsS RX5 99 yX5_checkWhat wsX5_checkWhat) := goodIn_app (goodIn_of _ (by decide +kernel)) ggX5_told_X5_checkWhat
set_option maxRecDepth 20000 in
theorem ggX5_told_X5_oneIf : GoodIn wsX5_told wsX5_oneIf := goodIn_r _ [14] (by decide +kernel) (by decide +kernel)
set_option maxRecDepth 20000 in
theorem gX5_told_X5_oneIf : GoodIn wsX5_told (va_wsS RX5 103 yX5_oneIf wsX5_oneIf) := goodIn_app (goodIn_of _ (by decide +kernel)) ggX5_told_X5_oneIf
set_option maxRecDepth 20000 in
theorem ggX5_told_X4_spansUpBehind : GoodIn wsX5_told wsX4_spansUpBehind := goodIn_r _ [18, 19, 20, 21, 16, 22, 23, 39, 40] (by decide +kernel) (by decide +kernel)
set_option maxRecDepth 20000 in
theorem gX5_told_X4_spansUpBehind_n119 : GoodIn wsX5_told (wsX4_spansUpBehind) := ggX5_told_X4_spansUpBehind
theorem dX5_told_0 : decode cX5_told 0 = .ok (.aload_n 0, 1) := by decide +kernel
theorem dX5_told_1 : decode cX5_told 1 = .ok (.iload_n 1, 1) := by decide +kernel
theorem dX5_told_2 : decode cX5_told 2 = .ok (.invokevirtual 84, 3) := by decide +kernel
theorem dX5_told_5 : decode cX5_told 5 = .ok (.iload_n 2, 1) := by decide +kernel
theorem dX5_told_6 : decode cX5_told 6 = .ok (.bipush 7, 2) := by decide +kernel
theorem dX5_told_8 : decode cX5_told 8 = .ok (.invokestatic 99, 3) := by decide +kernel
theorem dX5_told_11 : decode cX5_told 11 = .ok (.aload_n 0, 1) := by decide +kernel
theorem dX5_told_12 : decode cX5_told 12 = .ok (.getfield 19, 3) := by decide +kernel
theorem dX5_told_15 : decode cX5_told 15 = .ok (.getfield 74, 3) := by decide +kernel
theorem dX5_told_18 : decode cX5_told 18 = .ok (.iload_n 1, 1) := by decide +kernel
theorem dX5_told_19 : decode cX5_told 19 = .ok (.aaload, 1) := by decide +kernel
theorem dX5_told_20 : decode cX5_told 20 = .ok (.astore_n 3, 1) := by decide +kernel
theorem dX5_told_21 : decode cX5_told 21 = .ok (.iload_n 2, 1) := by decide +kernel
theorem dX5_told_22 : decode cX5_told 22 = .ok (.tableswitch 74 0 5 #[38, 43, 51, 59, 64, 69], 38) := by decide +kernel
theorem dX5_told_60 : decode cX5_told 60 = .ok (.aload_n 3, 1) := by decide +kernel
theorem dX5_told_61 : decode cX5_told 61 = .ok (.getfield 93, 3) := by decide +kernel
theorem dX5_told_64 : decode cX5_told 64 = .ok (.ireturn, 1) := by decide +kernel
theorem dX5_told_65 : decode cX5_told 65 = .ok (.aload_n 3, 1) := by decide +kernel
theorem dX5_told_66 : decode cX5_told 66 = .ok (.getfield 87, 3) := by decide +kernel
theorem dX5_told_69 : decode cX5_told 69 = .ok (.invokestatic 103, 3) := by decide +kernel
theorem dX5_told_72 : decode cX5_told 72 = .ok (.ireturn, 1) := by decide +kernel
theorem dX5_told_73 : decode cX5_told 73 = .ok (.aload_n 3, 1) := by decide +kernel
theorem dX5_told_74 : decode cX5_told 74 = .ok (.getfield 96, 3) := by decide +kernel
theorem dX5_told_77 : decode cX5_told 77 = .ok (.invokestatic 103, 3) := by decide +kernel
theorem dX5_told_80 : decode cX5_told 80 = .ok (.ireturn, 1) := by decide +kernel
theorem dX5_told_81 : decode cX5_told 81 = .ok (.aload_n 3, 1) := by decide +kernel
theorem dX5_told_82 : decode cX5_told 82 = .ok (.getfield 106, 3) := by decide +kernel
theorem dX5_told_85 : decode cX5_told 85 = .ok (.ireturn, 1) := by decide +kernel
theorem dX5_told_86 : decode cX5_told 86 = .ok (.aload_n 3, 1) := by decide +kernel
theorem dX5_told_87 : decode cX5_told 87 = .ok (.getfield 109, 3) := by decide +kernel
theorem dX5_told_90 : decode cX5_told 90 = .ok (.ireturn, 1) := by decide +kernel
theorem dX5_told_91 : decode cX5_told 91 = .ok (.aload_n 3, 1) := by decide +kernel
theorem dX5_told_92 : decode cX5_told 92 = .ok (.getfield 112, 3) := by decide +kernel
theorem dX5_told_95 : decode cX5_told 95 = .ok (.ireturn, 1) := by decide +kernel
theorem dX5_told_96 : decode cX5_told 96 = .ok (.aload_n 0, 1) := by decide +kernel
theorem dX5_told_97 : decode cX5_told 97 = .ok (.getfield 19, 3) := by decide +kernel
theorem dX5_told_100 : decode cX5_told 100 = .ok (.getfield 115, 3) := by decide +kernel
theorem dX5_told_103 : decode cX5_told 103 = .ok (.aload_n 3, 1) := by decide +kernel
theorem dX5_told_104 : decode cX5_told 104 = .ok (.getfield 93, 3) := by decide +kernel
theorem dX5_told_107 : decode cX5_told 107 = .ok (.invokevirtual 119, 3) := by decide +kernel
theorem dX5_told_110 : decode cX5_told 110 = .ok (.ireturn, 1) := by decide +kernel
set_option maxRecDepth 20000 in
theorem ggX5_span_X5_checkSpan : GoodIn wsX5_span wsX5_checkSpan := goodIn_ca (goodIn_r _ [5, 6, 7] (by decide +kernel) (by decide +kernel)) (goodIn_sub (fun _ h => List.mem_cons_of_mem _ (List.mem_append_right _ h)) (by decide +kernel))
set_option maxRecDepth 20000 in
theorem gX5_span_X5_checkSpan : GoodIn wsX5_span (va_wsS RX5 62 yX5_checkSpan wsX5_checkSpan) := goodIn_app (goodIn_of _ (by decide +kernel)) ggX5_span_X5_checkSpan
set_option maxRecDepth 20000 in
theorem ggX5_span_X5_checkWhat : GoodIn wsX5_span wsX5_checkWhat := goodIn_ca (goodIn_r _ [10, 6, 7] (by decide +kernel) (by decide +kernel)) (goodIn_sub (fun _ h => List.mem_cons_of_mem _ (List.mem_append_right _ h)) (by decide +kernel))
set_option maxRecDepth 20000 in
theorem gX5_span_X5_checkWhat : GoodIn wsX5_span (va_wsS RX5 99 yX5_checkWhat wsX5_checkWhat) := goodIn_app (goodIn_of _ (by decide +kernel)) ggX5_span_X5_checkWhat
set_option maxRecDepth 20000 in
theorem ggX5_span_X4_isDown : GoodIn wsX5_span wsX4_isDown := goodIn_r _ [14, 15, 40, 41] (by decide +kernel) (by decide +kernel)
set_option maxRecDepth 20000 in
theorem gX5_span_X4_isDown_n131 : GoodIn wsX5_span (wsX4_isDown) := ggX5_span_X4_isDown
set_option maxRecDepth 20000 in
theorem ggX5_span_X5_oneIf : GoodIn wsX5_span wsX5_oneIf := goodIn_r _ [18] (by decide +kernel) (by decide +kernel)
set_option maxRecDepth 20000 in
theorem gX5_span_X5_oneIf : GoodIn wsX5_span (va_wsS RX5 103 yX5_oneIf wsX5_oneIf) := goodIn_app (goodIn_of _ (by decide +kernel)) ggX5_span_X5_oneIf
set_option maxRecDepth 20000 in
theorem ggX5_span_X2_busesAt : GoodIn wsX5_span wsX2_busesAt := goodIn_r _ [22, 23, 24, 17, 4, 18, 34, 35, 36, 37, 38, 39, 42, 43, 44, 45, 46, 47] (by decide +kernel) (by decide +kernel)
set_option maxRecDepth 20000 in
theorem gX5_span_X2_busesAt_n135 : GoodIn wsX5_span (wsX2_busesAt) := ggX5_span_X2_busesAt
set_option maxRecDepth 20000 in
theorem ggX5_span_X1_placeOf : GoodIn wsX5_span wsX1_placeOf := goodIn_r _ [28, 29, 30, 48, 49, 50, 51, 52, 53] (by decide +kernel) (by decide +kernel)
set_option maxRecDepth 20000 in
theorem gX5_span_X1_placeOf_n142 : GoodIn wsX5_span (wsX1_placeOf) := ggX5_span_X1_placeOf
theorem dX5_span_0 : decode cX5_span 0 = .ok (.iload_n 1, 1) := by decide +kernel
theorem dX5_span_1 : decode cX5_span 1 = .ok (.invokestatic 62, 3) := by decide +kernel
theorem dX5_span_4 : decode cX5_span 4 = .ok (.iload_n 2, 1) := by decide +kernel
theorem dX5_span_5 : decode cX5_span 5 = .ok (.iconst 5, 1) := by decide +kernel
theorem dX5_span_6 : decode cX5_span 6 = .ok (.invokestatic 99, 3) := by decide +kernel
theorem dX5_span_9 : decode cX5_span 9 = .ok (.iload_n 2, 1) := by decide +kernel
theorem dX5_span_10 : decode cX5_span 10 = .ok (.tableswitch 80 0 3 #[30, 43, 56, 71], 30) := by decide +kernel
theorem dX5_span_40 : decode cX5_span 40 = .ok (.aload_n 0, 1) := by decide +kernel
theorem dX5_span_41 : decode cX5_span 41 = .ok (.getfield 19, 3) := by decide +kernel
theorem dX5_span_44 : decode cX5_span 44 = .ok (.getfield 115, 3) := by decide +kernel
theorem dX5_span_47 : decode cX5_span 47 = .ok (.getfield 125, 3) := by decide +kernel
theorem dX5_span_50 : decode cX5_span 50 = .ok (.iload_n 1, 1) := by decide +kernel
theorem dX5_span_51 : decode cX5_span 51 = .ok (.iaload, 1) := by decide +kernel
theorem dX5_span_52 : decode cX5_span 52 = .ok (.ireturn, 1) := by decide +kernel
theorem dX5_span_53 : decode cX5_span 53 = .ok (.aload_n 0, 1) := by decide +kernel
theorem dX5_span_54 : decode cX5_span 54 = .ok (.getfield 19, 3) := by decide +kernel
theorem dX5_span_57 : decode cX5_span 57 = .ok (.getfield 115, 3) := by decide +kernel
theorem dX5_span_60 : decode cX5_span 60 = .ok (.getfield 128, 3) := by decide +kernel
theorem dX5_span_63 : decode cX5_span 63 = .ok (.iload_n 1, 1) := by decide +kernel
theorem dX5_span_64 : decode cX5_span 64 = .ok (.iaload, 1) := by decide +kernel
theorem dX5_span_65 : decode cX5_span 65 = .ok (.ireturn, 1) := by decide +kernel
theorem dX5_span_66 : decode cX5_span 66 = .ok (.aload_n 0, 1) := by decide +kernel
theorem dX5_span_67 : decode cX5_span 67 = .ok (.getfield 19, 3) := by decide +kernel
theorem dX5_span_70 : decode cX5_span 70 = .ok (.getfield 115, 3) := by decide +kernel
theorem dX5_span_73 : decode cX5_span 73 = .ok (.iload_n 1, 1) := by decide +kernel
theorem dX5_span_74 : decode cX5_span 74 = .ok (.invokevirtual 131, 3) := by decide +kernel
theorem dX5_span_77 : decode cX5_span 77 = .ok (.invokestatic 103, 3) := by decide +kernel
theorem dX5_span_80 : decode cX5_span 80 = .ok (.ireturn, 1) := by decide +kernel
theorem dX5_span_81 : decode cX5_span 81 = .ok (.aload_n 0, 1) := by decide +kernel
theorem dX5_span_82 : decode cX5_span 82 = .ok (.getfield 19, 3) := by decide +kernel
theorem dX5_span_85 : decode cX5_span 85 = .ok (.iload_n 1, 1) := by decide +kernel
theorem dX5_span_86 : decode cX5_span 86 = .ok (.invokevirtual 135, 3) := by decide +kernel
theorem dX5_span_89 : decode cX5_span 89 = .ok (.ireturn, 1) := by decide +kernel
theorem dX5_span_90 : decode cX5_span 90 = .ok (.aload_n 0, 1) := by decide +kernel
theorem dX5_span_91 : decode cX5_span 91 = .ok (.getfield 19, 3) := by decide +kernel
theorem dX5_span_94 : decode cX5_span 94 = .ok (.getfield 138, 3) := by decide +kernel
theorem dX5_span_97 : decode cX5_span 97 = .ok (.iload_n 1, 1) := by decide +kernel
theorem dX5_span_98 : decode cX5_span 98 = .ok (.invokevirtual 142, 3) := by decide +kernel
theorem dX5_span_101 : decode cX5_span 101 = .ok (.ireturn, 1) := by decide +kernel
set_option maxRecDepth 20000 in
theorem ggX5_order_X5_checkSpan : GoodIn wsX5_order wsX5_checkSpan := goodIn_ca (goodIn_r _ [7, 8, 9] (by decide +kernel) (by decide +kernel)) (goodIn_sub (fun _ h => List.mem_cons_of_mem _ (List.mem_append_right _ h)) (by decide +kernel))
set_option maxRecDepth 20000 in
theorem gX5_order_X5_checkSpan : GoodIn wsX5_order (va_wsS RX5 62 yX5_checkSpan wsX5_checkSpan) := goodIn_app (goodIn_of _ (by decide +kernel)) ggX5_order_X5_checkSpan
set_option maxRecDepth 20000 in
theorem ggX5_order_X1_placeOf : GoodIn wsX5_order wsX1_placeOf := goodIn_r _ [13, 14, 15, 25, 26, 27, 28, 29, 30] (by decide +kernel) (by decide +kernel)
set_option maxRecDepth 20000 in
theorem gX5_order_X1_placeOf_n142 : GoodIn wsX5_order (wsX1_placeOf) := ggX5_order_X1_placeOf
theorem dX5_order_0 : decode cX5_order 0 = .ok (.iload_n 1, 1) := by decide +kernel
theorem dX5_order_1 : decode cX5_order 1 = .ok (.invokestatic 62, 3) := by decide +kernel
theorem dX5_order_4 : decode cX5_order 4 = .ok (.aload_n 0, 1) := by decide +kernel
theorem dX5_order_5 : decode cX5_order 5 = .ok (.getfield 19, 3) := by decide +kernel
theorem dX5_order_8 : decode cX5_order 8 = .ok (.getfield 138, 3) := by decide +kernel
theorem dX5_order_11 : decode cX5_order 11 = .ok (.getfield 147, 3) := by decide +kernel
theorem dX5_order_14 : decode cX5_order 14 = .ok (.bipush 6, 2) := by decide +kernel
theorem dX5_order_16 : decode cX5_order 16 = .ok (.if_icmp .lt 13, 3) := by decide +kernel
theorem dX5_order_19 : decode cX5_order 19 = .ok (.new 69, 3) := by decide +kernel
theorem dX5_order_22 : decode cX5_order 22 = .ok (.dup, 1) := by decide +kernel
theorem dX5_order_23 : decode cX5_order 23 = .ok (.ldc 150, 2) := by decide +kernel
theorem dX5_order_25 : decode cX5_order 25 = .ok (.invokespecial 73, 3) := by decide +kernel
theorem dX5_order_28 : decode cX5_order 28 = .ok (.athrow, 1) := by decide +kernel
theorem dX5_order_29 : decode cX5_order 29 = .ok (.aload_n 0, 1) := by decide +kernel
theorem dX5_order_30 : decode cX5_order 30 = .ok (.getfield 19, 3) := by decide +kernel
theorem dX5_order_33 : decode cX5_order 33 = .ok (.getfield 138, 3) := by decide +kernel
theorem dX5_order_36 : decode cX5_order 36 = .ok (.iload_n 1, 1) := by decide +kernel
theorem dX5_order_37 : decode cX5_order 37 = .ok (.invokevirtual 142, 3) := by decide +kernel
theorem dX5_order_40 : decode cX5_order 40 = .ok (.iconst (-1), 1) := by decide +kernel
theorem dX5_order_41 : decode cX5_order 41 = .ok (.if_icmp .eq 13, 3) := by decide +kernel
theorem dX5_order_44 : decode cX5_order 44 = .ok (.new 69, 3) := by decide +kernel
theorem dX5_order_47 : decode cX5_order 47 = .ok (.dup, 1) := by decide +kernel
theorem dX5_order_48 : decode cX5_order 48 = .ok (.ldc 152, 2) := by decide +kernel
theorem dX5_order_50 : decode cX5_order 50 = .ok (.invokespecial 73, 3) := by decide +kernel
theorem dX5_order_53 : decode cX5_order 53 = .ok (.athrow, 1) := by decide +kernel
theorem dX5_order_54 : decode cX5_order 54 = .ok (.aload_n 0, 1) := by decide +kernel
theorem dX5_order_55 : decode cX5_order 55 = .ok (.getfield 19, 3) := by decide +kernel
theorem dX5_order_58 : decode cX5_order 58 = .ok (.getfield 138, 3) := by decide +kernel
theorem dX5_order_61 : decode cX5_order 61 = .ok (.getfield 154, 3) := by decide +kernel
theorem dX5_order_64 : decode cX5_order 64 = .ok (.aload_n 0, 1) := by decide +kernel
theorem dX5_order_65 : decode cX5_order 65 = .ok (.getfield 19, 3) := by decide +kernel
theorem dX5_order_68 : decode cX5_order 68 = .ok (.getfield 138, 3) := by decide +kernel
theorem dX5_order_71 : decode cX5_order 71 = .ok (.getfield 147, 3) := by decide +kernel
theorem dX5_order_74 : decode cX5_order 74 = .ok (.iload_n 1, 1) := by decide +kernel
theorem dX5_order_75 : decode cX5_order 75 = .ok (.iastore, 1) := by decide +kernel
theorem dX5_order_76 : decode cX5_order 76 = .ok (.aload_n 0, 1) := by decide +kernel
theorem dX5_order_77 : decode cX5_order 77 = .ok (.getfield 19, 3) := by decide +kernel
theorem dX5_order_80 : decode cX5_order 80 = .ok (.getfield 138, 3) := by decide +kernel
theorem dX5_order_83 : decode cX5_order 83 = .ok (.dup, 1) := by decide +kernel
theorem dX5_order_84 : decode cX5_order 84 = .ok (.getfield 147, 3) := by decide +kernel
theorem dX5_order_87 : decode cX5_order 87 = .ok (.iconst 1, 1) := by decide +kernel
theorem dX5_order_88 : decode cX5_order 88 = .ok (.iadd, 1) := by decide +kernel
theorem dX5_order_89 : decode cX5_order 89 = .ok (.putfield 147, 3) := by decide +kernel
theorem dX5_order_92 : decode cX5_order 92 = .ok (.aload_n 0, 1) := by decide +kernel
theorem dX5_order_93 : decode cX5_order 93 = .ok (.getfield 19, 3) := by decide +kernel
theorem dX5_order_96 : decode cX5_order 96 = .ok (.getfield 138, 3) := by decide +kernel
theorem dX5_order_99 : decode cX5_order 99 = .ok (.getfield 147, 3) := by decide +kernel
theorem dX5_order_102 : decode cX5_order 102 = .ok (.ireturn, 1) := by decide +kernel
set_option maxRecDepth 20000 in
theorem ggX5_cancel_X5_checkSpan : GoodIn wsX5_cancel wsX5_checkSpan := goodIn_ca (goodIn_r _ [7, 8, 9] (by decide +kernel) (by decide +kernel)) (goodIn_sub (fun _ h => List.mem_cons_of_mem _ (List.mem_append_right _ h)) (by decide +kernel))
set_option maxRecDepth 20000 in
theorem gX5_cancel_X5_checkSpan : GoodIn wsX5_cancel (va_wsS RX5 62 yX5_checkSpan wsX5_checkSpan) := goodIn_app (goodIn_of _ (by decide +kernel)) ggX5_cancel_X5_checkSpan
set_option maxRecDepth 20000 in
theorem ggX5_cancel_X1_placeOf : GoodIn wsX5_cancel wsX1_placeOf := goodIn_r _ [13, 14, 15, 29, 30, 31, 32, 33, 34] (by decide +kernel) (by decide +kernel)
set_option maxRecDepth 20000 in
theorem gX5_cancel_X1_placeOf_n142 : GoodIn wsX5_cancel (wsX1_placeOf) := ggX5_cancel_X1_placeOf
set_option maxRecDepth 20000 in
theorem ggX5_cancel_X1_takeOut : GoodIn wsX5_cancel wsX1_takeOut := goodIn_r _ [18, 14, 15, 19, 29, 30, 31, 32, 33, 34] (by decide +kernel) (by decide +kernel)
set_option maxRecDepth 20000 in
theorem gX5_cancel_X1_takeOut_n159 : GoodIn wsX5_cancel (wsX1_takeOut) := ggX5_cancel_X1_takeOut
theorem dX5_cancel_0 : decode cX5_cancel 0 = .ok (.iload_n 1, 1) := by decide +kernel
theorem dX5_cancel_1 : decode cX5_cancel 1 = .ok (.invokestatic 62, 3) := by decide +kernel
theorem dX5_cancel_4 : decode cX5_cancel 4 = .ok (.aload_n 0, 1) := by decide +kernel
theorem dX5_cancel_5 : decode cX5_cancel 5 = .ok (.getfield 19, 3) := by decide +kernel
theorem dX5_cancel_8 : decode cX5_cancel 8 = .ok (.getfield 138, 3) := by decide +kernel
theorem dX5_cancel_11 : decode cX5_cancel 11 = .ok (.iload_n 1, 1) := by decide +kernel
theorem dX5_cancel_12 : decode cX5_cancel 12 = .ok (.invokevirtual 142, 3) := by decide +kernel
theorem dX5_cancel_15 : decode cX5_cancel 15 = .ok (.istore_n 2, 1) := by decide +kernel
theorem dX5_cancel_16 : decode cX5_cancel 16 = .ok (.iload_n 2, 1) := by decide +kernel
theorem dX5_cancel_17 : decode cX5_cancel 17 = .ok (.iconst (-1), 1) := by decide +kernel
theorem dX5_cancel_18 : decode cX5_cancel 18 = .ok (.if_icmp .ne 13, 3) := by decide +kernel
theorem dX5_cancel_21 : decode cX5_cancel 21 = .ok (.new 69, 3) := by decide +kernel
theorem dX5_cancel_24 : decode cX5_cancel 24 = .ok (.dup, 1) := by decide +kernel
theorem dX5_cancel_25 : decode cX5_cancel 25 = .ok (.ldc 157, 2) := by decide +kernel
theorem dX5_cancel_27 : decode cX5_cancel 27 = .ok (.invokespecial 73, 3) := by decide +kernel
theorem dX5_cancel_30 : decode cX5_cancel 30 = .ok (.athrow, 1) := by decide +kernel
theorem dX5_cancel_31 : decode cX5_cancel 31 = .ok (.aload_n 0, 1) := by decide +kernel
theorem dX5_cancel_32 : decode cX5_cancel 32 = .ok (.getfield 19, 3) := by decide +kernel
theorem dX5_cancel_35 : decode cX5_cancel 35 = .ok (.getfield 138, 3) := by decide +kernel
theorem dX5_cancel_38 : decode cX5_cancel 38 = .ok (.iload_n 2, 1) := by decide +kernel
theorem dX5_cancel_39 : decode cX5_cancel 39 = .ok (.invokevirtual 159, 3) := by decide +kernel
theorem dX5_cancel_42 : decode cX5_cancel 42 = .ok (.iload_n 2, 1) := by decide +kernel
theorem dX5_cancel_43 : decode cX5_cancel 43 = .ok (.ireturn, 1) := by decide +kernel
set_option maxRecDepth 20000 in
theorem ggX5_gang_X5_checkWhat : GoodIn wsX5_gang wsX5_checkWhat := goodIn_ca (goodIn_r _ [5, 6, 7] (by decide +kernel) (by decide +kernel)) (goodIn_sub (fun _ h => List.mem_cons_of_mem _ (List.mem_append_right _ h)) (by decide +kernel))
set_option maxRecDepth 20000 in
theorem gX5_gang_X5_checkWhat : GoodIn wsX5_gang (va_wsS RX5 99 yX5_checkWhat wsX5_checkWhat) := goodIn_app (goodIn_of _ (by decide +kernel)) ggX5_gang_X5_checkWhat
set_option maxRecDepth 20000 in
theorem ggX5_gang_X1_hoursToFirst : GoodIn wsX5_gang wsX1_hoursToFirst := goodIn_r _ [11, 12, 13, 14, 15, 16, 17, 18, 19, 9, 20, 21, 22, 32, 33, 34, 35, 36, 37] (by decide +kernel) (by decide +kernel)
set_option maxRecDepth 20000 in
theorem gX5_gang_X1_hoursToFirst_n172 : GoodIn wsX5_gang (wsX1_hoursToFirst) := ggX5_gang_X1_hoursToFirst
theorem dX5_gang_0 : decode cX5_gang 0 = .ok (.iload_n 1, 1) := by decide +kernel
theorem dX5_gang_1 : decode cX5_gang 1 = .ok (.bipush 7, 2) := by decide +kernel
theorem dX5_gang_3 : decode cX5_gang 3 = .ok (.invokestatic 99, 3) := by decide +kernel
theorem dX5_gang_6 : decode cX5_gang 6 = .ok (.aload_n 0, 1) := by decide +kernel
theorem dX5_gang_7 : decode cX5_gang 7 = .ok (.getfield 19, 3) := by decide +kernel
theorem dX5_gang_10 : decode cX5_gang 10 = .ok (.getfield 138, 3) := by decide +kernel
theorem dX5_gang_13 : decode cX5_gang 13 = .ok (.astore_n 2, 1) := by decide +kernel
theorem dX5_gang_14 : decode cX5_gang 14 = .ok (.iload_n 1, 1) := by decide +kernel
theorem dX5_gang_15 : decode cX5_gang 15 = .ok (.tableswitch 80 0 5 #[37, 42, 60, 65, 70, 75], 37) := by decide +kernel
theorem dX5_gang_52 : decode cX5_gang 52 = .ok (.aload_n 2, 1) := by decide +kernel
theorem dX5_gang_53 : decode cX5_gang 53 = .ok (.getfield 162, 3) := by decide +kernel
theorem dX5_gang_56 : decode cX5_gang 56 = .ok (.ireturn, 1) := by decide +kernel
theorem dX5_gang_57 : decode cX5_gang 57 = .ok (.aload_n 2, 1) := by decide +kernel
theorem dX5_gang_58 : decode cX5_gang 58 = .ok (.getfield 147, 3) := by decide +kernel
theorem dX5_gang_61 : decode cX5_gang 61 = .ok (.ifCond .le 12, 3) := by decide +kernel
theorem dX5_gang_64 : decode cX5_gang 64 = .ok (.aload_n 2, 1) := by decide +kernel
theorem dX5_gang_65 : decode cX5_gang 65 = .ok (.getfield 154, 3) := by decide +kernel
theorem dX5_gang_68 : decode cX5_gang 68 = .ok (.iconst 0, 1) := by decide +kernel
theorem dX5_gang_69 : decode cX5_gang 69 = .ok (.iaload, 1) := by decide +kernel
theorem dX5_gang_70 : decode cX5_gang 70 = .ok (.goto 4, 3) := by decide +kernel
theorem dX5_gang_73 : decode cX5_gang 73 = .ok (.iconst (-1), 1) := by decide +kernel
theorem dX5_gang_74 : decode cX5_gang 74 = .ok (.ireturn, 1) := by decide +kernel
theorem dX5_gang_75 : decode cX5_gang 75 = .ok (.aload_n 2, 1) := by decide +kernel
theorem dX5_gang_76 : decode cX5_gang 76 = .ok (.getfield 147, 3) := by decide +kernel
theorem dX5_gang_79 : decode cX5_gang 79 = .ok (.ireturn, 1) := by decide +kernel
theorem dX5_gang_80 : decode cX5_gang 80 = .ok (.aload_n 2, 1) := by decide +kernel
theorem dX5_gang_81 : decode cX5_gang 81 = .ok (.getfield 163, 3) := by decide +kernel
theorem dX5_gang_84 : decode cX5_gang 84 = .ok (.ireturn, 1) := by decide +kernel
theorem dX5_gang_85 : decode cX5_gang 85 = .ok (.aload_n 2, 1) := by decide +kernel
theorem dX5_gang_86 : decode cX5_gang 86 = .ok (.getfield 166, 3) := by decide +kernel
theorem dX5_gang_89 : decode cX5_gang 89 = .ok (.ireturn, 1) := by decide +kernel
theorem dX5_gang_90 : decode cX5_gang 90 = .ok (.aload_n 2, 1) := by decide +kernel
theorem dX5_gang_91 : decode cX5_gang 91 = .ok (.getfield 169, 3) := by decide +kernel
theorem dX5_gang_94 : decode cX5_gang 94 = .ok (.ireturn, 1) := by decide +kernel
theorem dX5_gang_95 : decode cX5_gang 95 = .ok (.aload_n 2, 1) := by decide +kernel
theorem dX5_gang_96 : decode cX5_gang 96 = .ok (.invokevirtual 172, 3) := by decide +kernel
theorem dX5_gang_99 : decode cX5_gang 99 = .ok (.ireturn, 1) := by decide +kernel
set_option maxRecDepth 20000 in
theorem ggX5_count_X5_checkWhat : GoodIn wsX5_count wsX5_checkWhat := goodIn_ca (goodIn_r _ [5, 6, 7] (by decide +kernel) (by decide +kernel)) (goodIn_sub (fun _ h => List.mem_cons_of_mem _ (List.mem_append_right _ h)) (by decide +kernel))
set_option maxRecDepth 20000 in
theorem gX5_count_X5_checkWhat : GoodIn wsX5_count (va_wsS RX5 99 yX5_checkWhat wsX5_checkWhat) := goodIn_app (goodIn_of _ (by decide +kernel)) ggX5_count_X5_checkWhat
set_option maxRecDepth 20000 in
theorem ggX5_count_X2_tally : GoodIn wsX5_count wsX2_tally := goodIn_r _ [11, 12, 13, 14, 15, 16, 4, 17, 18, 19, 20, 21, 22, 9, 23, 24, 25, 26, 27, 28, 29, 30, 31, 32, 33, 34, 35, 36, 37, 38, 39, 40, 41, 42, 43, 44, 48, 49, 50, 51, 52, 53, 54, 55, 56, 57, 58, 59, 60, 61] (by decide +kernel) (by decide +kernel)
set_option maxRecDepth 20000 in
theorem gX5_count_X2_tally_n176 : GoodIn wsX5_count (wsX2_tally) := ggX5_count_X2_tally
theorem dX5_count_0 : decode cX5_count 0 = .ok (.iload_n 1, 1) := by decide +kernel
theorem dX5_count_1 : decode cX5_count 1 = .ok (.bipush 9, 2) := by decide +kernel
theorem dX5_count_3 : decode cX5_count 3 = .ok (.invokestatic 99, 3) := by decide +kernel
theorem dX5_count_6 : decode cX5_count 6 = .ok (.aload_n 0, 1) := by decide +kernel
theorem dX5_count_7 : decode cX5_count 7 = .ok (.getfield 19, 3) := by decide +kernel
theorem dX5_count_10 : decode cX5_count 10 = .ok (.iload_n 1, 1) := by decide +kernel
theorem dX5_count_11 : decode cX5_count 11 = .ok (.invokevirtual 176, 3) := by decide +kernel
theorem dX5_count_14 : decode cX5_count 14 = .ok (.ireturn, 1) := by decide +kernel
set_option maxRecDepth 20000 in
theorem ggX5_pass_X5_checkHours : GoodIn wsX5_pass wsX5_checkHours := goodIn_ca (goodIn_r _ [6, 7, 8] (by decide +kernel) (by decide +kernel)) (goodIn_sub (fun _ h => List.mem_cons_of_mem _ (List.mem_append_right _ h)) (by decide +kernel))
set_option maxRecDepth 20000 in
theorem gX5_pass_X5_checkHours : GoodIn wsX5_pass (va_wsS RX5 179 yX5_checkHours wsX5_checkHours) := goodIn_app (goodIn_of _ (by decide +kernel)) ggX5_pass_X5_checkHours
set_option maxRecDepth 20000 in
theorem ggX5_pass_X2_letGoBy : GoodIn wsX5_pass wsX2_letGoBy := goodIn_r _ [12, 13, 14, 15, 10, 16, 17, 18, 19, 20, 21, 5, 22, 23, 24, 25, 26, 27, 28, 29, 30, 31, 32, 33, 34, 35, 36, 37, 38, 39, 40, 41, 42, 43, 44, 45, 46, 47, 48, 49, 50, 51, 52, 53, 54, 55, 56, 57, 58, 59, 60, 61, 62, 63, 64, 65, 66, 67, 68, 69, 70, 71, 72, 73, 74, 75, 76, 77, 78, 79, 80, 81, 82, 83, 84, 85, 86, 87, 88, 89, 90, 94, 95, 96, 97, 98, 99, 100, 101, 102, 103, 104, 105, 106, 107, 108, 109, 110, 111, 112, 113, 114, 115, 116, 117] (by decide +kernel) (by decide +kernel)
set_option maxRecDepth 20000 in
theorem gX5_pass_X2_letGoBy_n185 : GoodIn wsX5_pass (wsX2_letGoBy) := ggX5_pass_X2_letGoBy
theorem dX5_pass_0 : decode cX5_pass 0 = .ok (.iload_n 1, 1) := by decide +kernel
theorem dX5_pass_1 : decode cX5_pass 1 = .ok (.bipush 72, 2) := by decide +kernel
theorem dX5_pass_3 : decode cX5_pass 3 = .ok (.invokestatic 179, 3) := by decide +kernel
theorem dX5_pass_6 : decode cX5_pass 6 = .ok (.aload_n 0, 1) := by decide +kernel
theorem dX5_pass_7 : decode cX5_pass 7 = .ok (.getfield 19, 3) := by decide +kernel
theorem dX5_pass_10 : decode cX5_pass 10 = .ok (.getfield 182, 3) := by decide +kernel
theorem dX5_pass_13 : decode cX5_pass 13 = .ok (.istore_n 2, 1) := by decide +kernel
theorem dX5_pass_14 : decode cX5_pass 14 = .ok (.aload_n 0, 1) := by decide +kernel
theorem dX5_pass_15 : decode cX5_pass 15 = .ok (.getfield 19, 3) := by decide +kernel
theorem dX5_pass_18 : decode cX5_pass 18 = .ok (.iload_n 1, 1) := by decide +kernel
theorem dX5_pass_19 : decode cX5_pass 19 = .ok (.aload_n 0, 1) := by decide +kernel
theorem dX5_pass_20 : decode cX5_pass 20 = .ok (.getfield 10, 3) := by decide +kernel
theorem dX5_pass_23 : decode cX5_pass 23 = .ok (.invokevirtual 185, 3) := by decide +kernel
theorem dX5_pass_26 : decode cX5_pass 26 = .ok (.aload_n 0, 1) := by decide +kernel
theorem dX5_pass_27 : decode cX5_pass 27 = .ok (.getfield 19, 3) := by decide +kernel
theorem dX5_pass_30 : decode cX5_pass 30 = .ok (.getfield 182, 3) := by decide +kernel
theorem dX5_pass_33 : decode cX5_pass 33 = .ok (.iload_n 2, 1) := by decide +kernel
theorem dX5_pass_34 : decode cX5_pass 34 = .ok (.isub, 1) := by decide +kernel
theorem dX5_pass_35 : decode cX5_pass 35 = .ok (.ireturn, 1) := by decide +kernel
set_option maxRecDepth 20000 in
theorem ggX5_falls_X5_checkSpan : GoodIn wsX5_falls wsX5_checkSpan := goodIn_ca (goodIn_r _ [7, 8, 9] (by decide +kernel) (by decide +kernel)) (goodIn_sub (fun _ h => List.mem_cons_of_mem _ (List.mem_append_right _ h)) (by decide +kernel))
set_option maxRecDepth 20000 in
theorem gX5_falls_X5_checkSpan : GoodIn wsX5_falls (va_wsS RX5 62 yX5_checkSpan wsX5_checkSpan) := goodIn_app (goodIn_of _ (by decide +kernel)) ggX5_falls_X5_checkSpan
set_option maxRecDepth 20000 in
theorem ggX5_falls_X2_copyFrom : GoodIn wsX5_falls wsX2_copyFrom := goodIn_r _ [13, 14, 15, 16, 17, 18, 19, 20, 21, 22, 23, 24, 25, 26, 27, 28, 29, 30, 31, 32, 33, 34, 35, 36, 37, 38, 39, 40, 41, 42, 43, 44, 45, 46, 47, 48, 49, 50, 121, 122, 123, 124, 125, 126, 127, 128, 129, 130, 131, 132, 133, 134, 135, 136, 137, 138, 139, 140] (by decide +kernel) (by decide +kernel)
set_option maxRecDepth 20000 in
theorem gX5_falls_X2_copyFrom_n189 : GoodIn wsX5_falls (wsX2_copyFrom) := ggX5_falls_X2_copyFrom
set_option maxRecDepth 20000 in
theorem ggX5_falls_X4_isDown : GoodIn wsX5_falls wsX4_isDown := goodIn_r _ [53, 24, 127, 128] (by decide +kernel) (by decide +kernel)
set_option maxRecDepth 20000 in
theorem gX5_falls_X4_isDown_n131 : GoodIn wsX5_falls (wsX4_isDown) := ggX5_falls_X4_isDown
set_option maxRecDepth 20000 in
theorem ggX5_falls_X2_letGoBy : GoodIn wsX5_falls wsX2_letGoBy := goodIn_r _ [56, 57, 58, 59, 11, 60, 18, 14, 16, 17, 61, 6, 62, 63, 21, 64, 65, 29, 66, 67, 68, 69, 70, 71, 72, 73, 74, 75, 76, 77, 78, 79, 51, 52, 53, 24, 80, 81, 82, 83, 84, 85, 86, 87, 88, 89, 90, 91, 92, 19, 93, 94, 95, 96, 15, 97, 31, 98, 99, 100, 37, 101, 102, 103, 104, 34, 105, 106, 107, 108, 109, 110, 111, 112, 113, 114, 115, 116, 117, 36, 38, 121, 122, 123, 124, 125, 126, 141, 142, 143, 144, 127, 128, 135, 136, 137, 138, 139, 140, 129, 130, 131, 132, 133, 134] (by decide +kernel) (by decide +kernel)
set_option maxRecDepth 20000 in
theorem gX5_falls_X2_letGoBy_n185 : GoodIn wsX5_falls (wsX2_letGoBy) := ggX5_falls_X2_letGoBy
theorem dX5_falls_0 : decode cX5_falls 0 = .ok (.iload_n 1, 1) := by decide +kernel
theorem dX5_falls_1 : decode cX5_falls 1 = .ok (.invokestatic 62, 3) := by decide +kernel
theorem dX5_falls_4 : decode cX5_falls 4 = .ok (.aload_n 0, 1) := by decide +kernel
theorem dX5_falls_5 : decode cX5_falls 5 = .ok (.getfield 23, 3) := by decide +kernel
theorem dX5_falls_8 : decode cX5_falls 8 = .ok (.aload_n 0, 1) := by decide +kernel
theorem dX5_falls_9 : decode cX5_falls 9 = .ok (.getfield 19, 3) := by decide +kernel
theorem dX5_falls_12 : decode cX5_falls 12 = .ok (.invokevirtual 189, 3) := by decide +kernel
theorem dX5_falls_15 : decode cX5_falls 15 = .ok (.iconst 0, 1) := by decide +kernel
theorem dX5_falls_16 : decode cX5_falls 16 = .ok (.istore_n 2, 1) := by decide +kernel
theorem dX5_falls_17 : decode cX5_falls 17 = .ok (.iload_n 2, 1) := by decide +kernel
theorem dX5_falls_18 : decode cX5_falls 18 = .ok (.bipush 96, 2) := by decide +kernel
theorem dX5_falls_20 : decode cX5_falls 20 = .ok (.if_icmp .gt 37, 3) := by decide +kernel
theorem dX5_falls_23 : decode cX5_falls 23 = .ok (.aload_n 0, 1) := by decide +kernel
theorem dX5_falls_24 : decode cX5_falls 24 = .ok (.getfield 23, 3) := by decide +kernel
theorem dX5_falls_27 : decode cX5_falls 27 = .ok (.getfield 115, 3) := by decide +kernel
theorem dX5_falls_30 : decode cX5_falls 30 = .ok (.iload_n 1, 1) := by decide +kernel
theorem dX5_falls_31 : decode cX5_falls 31 = .ok (.invokevirtual 131, 3) := by decide +kernel
theorem dX5_falls_34 : decode cX5_falls 34 = .ok (.ifCond .eq 5, 3) := by decide +kernel
theorem dX5_falls_37 : decode cX5_falls 37 = .ok (.iload_n 2, 1) := by decide +kernel
theorem dX5_falls_38 : decode cX5_falls 38 = .ok (.ireturn, 1) := by decide +kernel
theorem dX5_falls_39 : decode cX5_falls 39 = .ok (.aload_n 0, 1) := by decide +kernel
theorem dX5_falls_40 : decode cX5_falls 40 = .ok (.getfield 23, 3) := by decide +kernel
theorem dX5_falls_43 : decode cX5_falls 43 = .ok (.iconst 1, 1) := by decide +kernel
theorem dX5_falls_44 : decode cX5_falls 44 = .ok (.aload_n 0, 1) := by decide +kernel
theorem dX5_falls_45 : decode cX5_falls 45 = .ok (.getfield 10, 3) := by decide +kernel
theorem dX5_falls_48 : decode cX5_falls 48 = .ok (.invokevirtual 185, 3) := by decide +kernel
theorem dX5_falls_51 : decode cX5_falls 51 = .ok (.iinc 2 1, 3) := by decide +kernel
theorem dX5_falls_54 : decode cX5_falls 54 = .ok (.goto (-37), 3) := by decide +kernel
theorem dX5_falls_57 : decode cX5_falls 57 = .ok (.iconst (-1), 1) := by decide +kernel
theorem dX5_falls_58 : decode cX5_falls 58 = .ok (.ireturn, 1) := by decide +kernel
set_option maxRecDepth 20000 in
theorem ggX5_foresee_X5_checkHours : GoodIn wsX5_foresee wsX5_checkHours := goodIn_ca (goodIn_r _ [9, 10, 11] (by decide +kernel) (by decide +kernel)) (goodIn_sub (fun _ h => List.mem_cons_of_mem _ (List.mem_append_right _ h)) (by decide +kernel))
set_option maxRecDepth 20000 in
theorem gX5_foresee_X5_checkHours : GoodIn wsX5_foresee (va_wsS RX5 179 yX5_checkHours wsX5_checkHours) := goodIn_app (goodIn_of _ (by decide +kernel)) ggX5_foresee_X5_checkHours
set_option maxRecDepth 20000 in
theorem ggX5_foresee_X2_copyFrom : GoodIn wsX5_foresee wsX2_copyFrom := goodIn_r _ [15, 16, 17, 18, 19, 20, 21, 22, 23, 24, 25, 26, 27, 28, 29, 30, 31, 32, 33, 34, 35, 36, 37, 38, 39, 40, 41, 42, 43, 44, 45, 46, 47, 48, 49, 50, 51, 52, 146, 147, 148, 149, 150, 151, 152, 153, 154, 155, 156, 157, 158, 159, 160, 161, 162, 163, 164, 165] (by decide +kernel) (by decide +kernel)
set_option maxRecDepth 20000 in
theorem gX5_foresee_X2_copyFrom_n189 : GoodIn wsX5_foresee (wsX2_copyFrom) := ggX5_foresee_X2_copyFrom
set_option maxRecDepth 20000 in
theorem ggX5_foresee_X2_letGoBy : GoodIn wsX5_foresee wsX2_letGoBy := goodIn_r _ [55, 56, 57, 58, 13, 59, 20, 16, 18, 19, 60, 8, 61, 62, 23, 63, 64, 31, 65, 66, 67, 68, 69, 70, 71, 72, 73, 74, 75, 76, 77, 78, 79, 80, 81, 26, 82, 83, 84, 85, 86, 87, 88, 89, 90, 91, 92, 93, 94, 21, 95, 96, 97, 98, 17, 99, 33, 100, 101, 102, 39, 103, 104, 105, 106, 36, 107, 108, 109, 110, 111, 112, 113, 114, 115, 116, 117, 118, 119, 38, 40, 146, 147, 148, 149, 150, 151, 166, 167, 168, 169, 152, 153, 160, 161, 162, 163, 164, 165, 154, 155, 156, 157, 158, 159] (by decide +kernel) (by decide +kernel)
set_option maxRecDepth 20000 in
theorem gX5_foresee_X2_letGoBy_n185 : GoodIn wsX5_foresee (wsX2_letGoBy) := ggX5_foresee_X2_letGoBy
set_option maxRecDepth 20000 in
theorem ggX5_foresee_X2_tally : GoodIn wsX5_foresee wsX2_tally := goodIn_r _ [122, 20, 21, 18, 16, 60, 8, 61, 123, 124, 125, 126, 127, 13, 128, 19, 129, 23, 130, 131, 132, 79, 80, 81, 26, 133, 134, 135, 136, 137, 138, 31, 139, 140, 141, 142, 146, 147, 148, 149, 150, 151, 160, 161, 162, 163, 164, 165, 152, 153] (by decide +kernel) (by decide +kernel)
set_option maxRecDepth 20000 in
theorem gX5_foresee_X2_tally_n176 : GoodIn wsX5_foresee (wsX2_tally) := ggX5_foresee_X2_tally
theorem dX5_foresee_0 : decode cX5_foresee 0 = .ok (.iload_n 1, 1) := by decide +kernel
theorem dX5_foresee_1 : decode cX5_foresee 1 = .ok (.bipush 72, 2) := by decide +kernel
theorem dX5_foresee_3 : decode cX5_foresee 3 = .ok (.invokestatic 179, 3) := by decide +kernel
theorem dX5_foresee_6 : decode cX5_foresee 6 = .ok (.iload_n 2, 1) := by decide +kernel
theorem dX5_foresee_7 : decode cX5_foresee 7 = .ok (.iconst 2, 1) := by decide +kernel
theorem dX5_foresee_8 : decode cX5_foresee 8 = .ok (.if_icmp .eq 24, 3) := by decide +kernel
theorem dX5_foresee_11 : decode cX5_foresee 11 = .ok (.iload_n 2, 1) := by decide +kernel
theorem dX5_foresee_12 : decode cX5_foresee 12 = .ok (.iconst 5, 1) := by decide +kernel
theorem dX5_foresee_13 : decode cX5_foresee 13 = .ok (.if_icmp .lt 9, 3) := by decide +kernel
theorem dX5_foresee_16 : decode cX5_foresee 16 = .ok (.iload_n 2, 1) := by decide +kernel
theorem dX5_foresee_17 : decode cX5_foresee 17 = .ok (.bipush 9, 2) := by decide +kernel
theorem dX5_foresee_19 : decode cX5_foresee 19 = .ok (.if_icmp .lt 13, 3) := by decide +kernel
theorem dX5_foresee_22 : decode cX5_foresee 22 = .ok (.new 26, 3) := by decide +kernel
theorem dX5_foresee_25 : decode cX5_foresee 25 = .ok (.dup, 1) := by decide +kernel
theorem dX5_foresee_26 : decode cX5_foresee 26 = .ok (.ldc 193, 2) := by decide +kernel
theorem dX5_foresee_28 : decode cX5_foresee 28 = .ok (.invokespecial 30, 3) := by decide +kernel
theorem dX5_foresee_31 : decode cX5_foresee 31 = .ok (.athrow, 1) := by decide +kernel
theorem dX5_foresee_32 : decode cX5_foresee 32 = .ok (.aload_n 0, 1) := by decide +kernel
theorem dX5_foresee_33 : decode cX5_foresee 33 = .ok (.getfield 23, 3) := by decide +kernel
theorem dX5_foresee_36 : decode cX5_foresee 36 = .ok (.aload_n 0, 1) := by decide +kernel
theorem dX5_foresee_37 : decode cX5_foresee 37 = .ok (.getfield 19, 3) := by decide +kernel
theorem dX5_foresee_40 : decode cX5_foresee 40 = .ok (.invokevirtual 189, 3) := by decide +kernel
theorem dX5_foresee_43 : decode cX5_foresee 43 = .ok (.aload_n 0, 1) := by decide +kernel
theorem dX5_foresee_44 : decode cX5_foresee 44 = .ok (.getfield 23, 3) := by decide +kernel
theorem dX5_foresee_47 : decode cX5_foresee 47 = .ok (.iload_n 1, 1) := by decide +kernel
theorem dX5_foresee_48 : decode cX5_foresee 48 = .ok (.aload_n 0, 1) := by decide +kernel
theorem dX5_foresee_49 : decode cX5_foresee 49 = .ok (.getfield 10, 3) := by decide +kernel
theorem dX5_foresee_52 : decode cX5_foresee 52 = .ok (.invokevirtual 185, 3) := by decide +kernel
theorem dX5_foresee_55 : decode cX5_foresee 55 = .ok (.aload_n 0, 1) := by decide +kernel
theorem dX5_foresee_56 : decode cX5_foresee 56 = .ok (.getfield 23, 3) := by decide +kernel
theorem dX5_foresee_59 : decode cX5_foresee 59 = .ok (.iload_n 2, 1) := by decide +kernel
theorem dX5_foresee_60 : decode cX5_foresee 60 = .ok (.invokevirtual 176, 3) := by decide +kernel
theorem dX5_foresee_63 : decode cX5_foresee 63 = .ok (.ireturn, 1) := by decide +kernel
set_option maxRecDepth 20000 in
theorem ggX5_advise_X5_checkHours : GoodIn wsX5_advise wsX5_checkHours := goodIn_ca (goodIn_r _ [4, 5, 6] (by decide +kernel) (by decide +kernel)) (goodIn_sub (fun _ h => List.mem_cons_of_mem _ (List.mem_append_right _ h)) (by decide +kernel))
set_option maxRecDepth 20000 in
theorem gX5_advise_X5_checkHours : GoodIn wsX5_advise (va_wsS RX5 179 yX5_checkHours wsX5_checkHours) := goodIn_app (goodIn_of _ (by decide +kernel)) ggX5_advise_X5_checkHours
set_option maxRecDepth 20000 in
theorem ggX5_advise_X5_coinsWithOnlyOrder : GoodIn wsX5_advise wsX5_coinsWithOnlyOrder := goodIn_r _ [10, 11, 12, 13, 14, 15, 16, 17, 18, 19, 20, 21, 22, 23, 24, 25, 26, 27, 28, 29, 30, 31, 32, 33, 34, 35, 36, 37, 38, 39, 40, 41, 42, 43, 44, 45, 46, 47, 48, 49, 50, 51, 52, 53, 54, 55, 56, 57, 58, 59, 60, 61, 62, 63, 64, 65, 3, 66, 67, 68, 69, 70, 71, 72, 73, 74, 75, 76, 77, 78, 79, 80, 81, 82, 83, 84, 85, 86, 87, 88, 89, 90, 91, 92, 93, 94, 95, 96, 97, 98, 99, 100, 101, 102, 103, 104, 105, 106, 107, 108, 109, 110, 111, 112, 113, 114, 115, 116, 117, 118, 119, 120, 121, 122, 123, 124, 125, 126, 127, 128, 129, 130, 131, 132, 133, 134, 135, 136, 137, 138, 139, 140, 141, 142, 143, 144, 145, 146, 147, 148, 149, 150, 151] (by decide +kernel) (by decide +kernel)
set_option maxRecDepth 20000 in
theorem gX5_advise_X5_coinsWithOnlyOrder : GoodIn wsX5_advise (wsV RX5 195 RX5 yX5_coinsWithOnlyOrder wsX5_coinsWithOnlyOrder) := goodIn_app (goodIn_of _ (by decide +kernel)) ggX5_advise_X5_coinsWithOnlyOrder
theorem dX5_advise_0 : decode cX5_advise 0 = .ok (.iload_n 1, 1) := by decide +kernel
theorem dX5_advise_1 : decode cX5_advise 1 = .ok (.bipush 48, 2) := by decide +kernel
theorem dX5_advise_3 : decode cX5_advise 3 = .ok (.invokestatic 179, 3) := by decide +kernel
theorem dX5_advise_6 : decode cX5_advise 6 = .ok (.iconst (-1), 1) := by decide +kernel
theorem dX5_advise_7 : decode cX5_advise 7 = .ok (.istore_n 2, 1) := by decide +kernel
theorem dX5_advise_8 : decode cX5_advise 8 = .ok (.aload_n 0, 1) := by decide +kernel
theorem dX5_advise_9 : decode cX5_advise 9 = .ok (.iconst (-1), 1) := by decide +kernel
theorem dX5_advise_10 : decode cX5_advise 10 = .ok (.iload_n 1, 1) := by decide +kernel
theorem dX5_advise_11 : decode cX5_advise 11 = .ok (.invokevirtual 195, 3) := by decide +kernel
theorem dX5_advise_14 : decode cX5_advise 14 = .ok (.istore_n 3, 1) := by decide +kernel
theorem dX5_advise_15 : decode cX5_advise 15 = .ok (.iconst 0, 1) := by decide +kernel
theorem dX5_advise_16 : decode cX5_advise 16 = .ok (.istore 4, 2) := by decide +kernel
theorem dX5_advise_18 : decode cX5_advise 18 = .ok (.iload 4, 2) := by decide +kernel
theorem dX5_advise_20 : decode cX5_advise 20 = .ok (.bipush 24, 2) := by decide +kernel
theorem dX5_advise_22 : decode cX5_advise 22 = .ok (.if_icmp .ge 30, 3) := by decide +kernel
theorem dX5_advise_25 : decode cX5_advise 25 = .ok (.aload_n 0, 1) := by decide +kernel
theorem dX5_advise_26 : decode cX5_advise 26 = .ok (.iload 4, 2) := by decide +kernel
theorem dX5_advise_28 : decode cX5_advise 28 = .ok (.iload_n 1, 1) := by decide +kernel
theorem dX5_advise_29 : decode cX5_advise 29 = .ok (.invokevirtual 195, 3) := by decide +kernel
theorem dX5_advise_32 : decode cX5_advise 32 = .ok (.istore 5, 2) := by decide +kernel
theorem dX5_advise_34 : decode cX5_advise 34 = .ok (.iload 5, 2) := by decide +kernel
theorem dX5_advise_36 : decode cX5_advise 36 = .ok (.iload_n 3, 1) := by decide +kernel
theorem dX5_advise_37 : decode cX5_advise 37 = .ok (.if_icmp .le 9, 3) := by decide +kernel
theorem dX5_advise_40 : decode cX5_advise 40 = .ok (.iload 5, 2) := by decide +kernel
theorem dX5_advise_42 : decode cX5_advise 42 = .ok (.istore_n 3, 1) := by decide +kernel
theorem dX5_advise_43 : decode cX5_advise 43 = .ok (.iload 4, 2) := by decide +kernel
theorem dX5_advise_45 : decode cX5_advise 45 = .ok (.istore_n 2, 1) := by decide +kernel
theorem dX5_advise_46 : decode cX5_advise 46 = .ok (.iinc 4 1, 3) := by decide +kernel
theorem dX5_advise_49 : decode cX5_advise 49 = .ok (.goto (-31), 3) := by decide +kernel
theorem dX5_advise_52 : decode cX5_advise 52 = .ok (.iload_n 2, 1) := by decide +kernel
theorem dX5_advise_53 : decode cX5_advise 53 = .ok (.ireturn, 1) := by decide +kernel
set_option maxRecDepth 20000 in
theorem ggX5_mean_X4_wornInAll : GoodIn wsX5_mean wsX4_wornInAll := goodIn_r _ [6, 7, 17, 18] (by decide +kernel) (by decide +kernel)
set_option maxRecDepth 20000 in
theorem gX5_mean_X4_wornInAll_n199 : GoodIn wsX5_mean (wsX4_wornInAll) := ggX5_mean_X4_wornInAll
theorem dX5_mean_0 : decode cX5_mean 0 = .ok (.aload_n 0, 1) := by decide +kernel
theorem dX5_mean_1 : decode cX5_mean 1 = .ok (.getfield 19, 3) := by decide +kernel
theorem dX5_mean_4 : decode cX5_mean 4 = .ok (.getfield 115, 3) := by decide +kernel
theorem dX5_mean_7 : decode cX5_mean 7 = .ok (.invokevirtual 199, 3) := by decide +kernel
theorem dX5_mean_10 : decode cX5_mean 10 = .ok (.i2d, 1) := by decide +kernel
theorem dX5_mean_11 : decode cX5_mean 11 = .ok (.ldc2_w 202, 3) := by decide +kernel
theorem dX5_mean_14 : decode cX5_mean 14 = .ok (.ddiv, 1) := by decide +kernel
theorem dX5_mean_15 : decode cX5_mean 15 = .ok (.dreturn, 1) := by decide +kernel
set_option maxRecDepth 20000 in
theorem ggX5_digest_X5_count : GoodIn wsX5_digest wsX5_count := goodIn_ca (goodIn_r _ [8, 3, 9, 10, 7, 11, 12, 13, 14, 15, 16, 17, 18, 19, 20, 21, 22, 23, 24, 25, 26, 27, 28, 29, 30, 31, 32, 33, 34, 35, 36, 37, 38, 39, 40, 41, 42, 43, 44, 45, 46, 47, 48, 49, 50, 100, 101, 102, 103, 104, 105, 106, 107, 108, 109, 110, 111, 112, 113, 114, 115, 116] (by decide +kernel) (by decide +kernel)) (goodIn_sub (fun _ h => List.mem_cons_of_mem _ (List.mem_append_right _ h)) (by decide +kernel))
set_option maxRecDepth 20000 in
theorem gX5_digest_X5_count : GoodIn wsX5_digest (wsV RX5 208 RX5 yX5_count wsX5_count) := goodIn_app (goodIn_of _ (by decide +kernel)) ggX5_digest_X5_count
set_option maxRecDepth 20000 in
theorem ggX5_digest_X5_digestOfTables : GoodIn wsX5_digest wsX5_digestOfTables := goodIn_r _ [54, 2, 55, 100, 101, 102, 117, 118, 119, 120] (by decide +kernel) (by decide +kernel)
set_option maxRecDepth 20000 in
theorem gX5_digest_X5_digestOfTables : GoodIn wsX5_digest (wsV RX5 211 RX5 yX5_digestOfTables wsX5_digestOfTables) := goodIn_app (goodIn_of _ (by decide +kernel)) ggX5_digest_X5_digestOfTables
set_option maxRecDepth 20000 in
theorem ggX5_digest_X5_gang : GoodIn wsX5_digest wsX5_gang := goodIn_ca (goodIn_r _ [59, 3, 9, 10, 7, 11, 12, 13, 60, 61, 62, 63, 64, 65, 66, 67, 68, 69, 70, 71, 72, 73, 74, 100, 101, 102, 103, 104, 105, 106, 107, 108, 121, 122, 123, 124, 125, 126] (by decide +kernel) (by decide +kernel)) (goodIn_sub (fun _ h => List.mem_cons_of_mem _ (List.mem_append_right _ h)) (by decide +kernel))
set_option maxRecDepth 20000 in
theorem gX5_digest_X5_gang : GoodIn wsX5_digest (wsV RX5 215 RX5 yX5_gang wsX5_gang) := goodIn_app (goodIn_of _ (by decide +kernel)) ggX5_digest_X5_gang
set_option maxRecDepth 20000 in
theorem ggX5_digest_X5_span : GoodIn wsX5_digest wsX5_span := goodIn_ca (goodIn_r _ [78, 3, 79, 80, 7, 81, 12, 13, 9, 10, 11, 36, 32, 37, 38, 39, 82, 24, 25, 83, 15, 84, 85, 20, 30, 86, 61, 87, 88, 64, 73, 100, 101, 102, 103, 104, 105, 106, 107, 108, 115, 116, 109, 110, 111, 112, 113, 114, 121, 122, 123, 124, 125, 126] (by decide +kernel) (by decide +kernel)) (goodIn_sub (fun _ h => List.mem_cons_of_mem _ (List.mem_append_right _ h)) (by decide +kernel))
set_option maxRecDepth 20000 in
theorem gX5_digest_X5_span : GoodIn wsX5_digest (wsV RX5 217 RX5 yX5_span wsX5_span) := goodIn_app (goodIn_of _ (by decide +kernel)) ggX5_digest_X5_span
set_option maxRecDepth 20000 in
theorem ggX5_digest_X5_told : GoodIn wsX5_digest wsX5_told := goodIn_ca (goodIn_r _ [92, 3, 93, 94, 95, 7, 96, 12, 13, 9, 10, 11, 82, 24, 25, 97, 32, 98, 99, 35, 36, 37, 38, 39, 100, 101, 102, 103, 104, 105, 106, 107, 108, 109, 110, 111, 112, 113, 114, 115, 116] (by decide +kernel) (by decide +kernel)) (goodIn_sub (fun _ h => List.mem_cons_of_mem _ (List.mem_append_right _ h)) (by decide +kernel))
set_option maxRecDepth 20000 in
theorem gX5_digest_X5_told : GoodIn wsX5_digest (wsV RX5 220 RX5 yX5_told wsX5_told) := goodIn_app (goodIn_of _ (by decide +kernel)) ggX5_digest_X5_told
theorem dX5_digest_0 : decode cX5_digest 0 = .ok (.ldc2_w 204, 3) := by decide +kernel
theorem dX5_digest_3 : decode cX5_digest 3 = .ok (.lstore_n 1, 1) := by decide +kernel
theorem dX5_digest_4 : decode cX5_digest 4 = .ok (.iconst 0, 1) := by decide +kernel
theorem dX5_digest_5 : decode cX5_digest 5 = .ok (.istore_n 3, 1) := by decide +kernel
theorem dX5_digest_6 : decode cX5_digest 6 = .ok (.iload_n 3, 1) := by decide +kernel
theorem dX5_digest_7 : decode cX5_digest 7 = .ok (.bipush 9, 2) := by decide +kernel
theorem dX5_digest_9 : decode cX5_digest 9 = .ok (.if_icmp .ge 22, 3) := by decide +kernel
theorem dX5_digest_12 : decode cX5_digest 12 = .ok (.lload_n 1, 1) := by decide +kernel
theorem dX5_digest_13 : decode cX5_digest 13 = .ok (.ldc2_w 206, 3) := by decide +kernel
theorem dX5_digest_16 : decode cX5_digest 16 = .ok (.lmul, 1) := by decide +kernel
theorem dX5_digest_17 : decode cX5_digest 17 = .ok (.aload_n 0, 1) := by decide +kernel
theorem dX5_digest_18 : decode cX5_digest 18 = .ok (.iload_n 3, 1) := by decide +kernel
theorem dX5_digest_19 : decode cX5_digest 19 = .ok (.invokevirtual 208, 3) := by decide +kernel
theorem dX5_digest_22 : decode cX5_digest 22 = .ok (.i2l, 1) := by decide +kernel
theorem dX5_digest_23 : decode cX5_digest 23 = .ok (.ladd, 1) := by decide +kernel
theorem dX5_digest_24 : decode cX5_digest 24 = .ok (.lstore_n 1, 1) := by decide +kernel
theorem dX5_digest_25 : decode cX5_digest 25 = .ok (.iinc 3 1, 3) := by decide +kernel
theorem dX5_digest_28 : decode cX5_digest 28 = .ok (.goto (-22), 3) := by decide +kernel
theorem dX5_digest_31 : decode cX5_digest 31 = .ok (.aload_n 0, 1) := by decide +kernel
theorem dX5_digest_32 : decode cX5_digest 32 = .ok (.lload_n 1, 1) := by decide +kernel
theorem dX5_digest_33 : decode cX5_digest 33 = .ok (.invokevirtual 211, 3) := by decide +kernel
theorem dX5_digest_36 : decode cX5_digest 36 = .ok (.lstore_n 1, 1) := by decide +kernel
theorem dX5_digest_37 : decode cX5_digest 37 = .ok (.iconst 0, 1) := by decide +kernel
theorem dX5_digest_38 : decode cX5_digest 38 = .ok (.istore_n 3, 1) := by decide +kernel
theorem dX5_digest_39 : decode cX5_digest 39 = .ok (.iload_n 3, 1) := by decide +kernel
theorem dX5_digest_40 : decode cX5_digest 40 = .ok (.bipush 7, 2) := by decide +kernel
theorem dX5_digest_42 : decode cX5_digest 42 = .ok (.if_icmp .ge 22, 3) := by decide +kernel
theorem dX5_digest_45 : decode cX5_digest 45 = .ok (.lload_n 1, 1) := by decide +kernel
theorem dX5_digest_46 : decode cX5_digest 46 = .ok (.ldc2_w 206, 3) := by decide +kernel
theorem dX5_digest_49 : decode cX5_digest 49 = .ok (.lmul, 1) := by decide +kernel
theorem dX5_digest_50 : decode cX5_digest 50 = .ok (.aload_n 0, 1) := by decide +kernel
theorem dX5_digest_51 : decode cX5_digest 51 = .ok (.iload_n 3, 1) := by decide +kernel
theorem dX5_digest_52 : decode cX5_digest 52 = .ok (.invokevirtual 215, 3) := by decide +kernel
theorem dX5_digest_55 : decode cX5_digest 55 = .ok (.i2l, 1) := by decide +kernel
theorem dX5_digest_56 : decode cX5_digest 56 = .ok (.ladd, 1) := by decide +kernel
theorem dX5_digest_57 : decode cX5_digest 57 = .ok (.lstore_n 1, 1) := by decide +kernel
theorem dX5_digest_58 : decode cX5_digest 58 = .ok (.iinc 3 1, 3) := by decide +kernel
theorem dX5_digest_61 : decode cX5_digest 61 = .ok (.goto (-22), 3) := by decide +kernel
theorem dX5_digest_64 : decode cX5_digest 64 = .ok (.iconst 0, 1) := by decide +kernel
theorem dX5_digest_65 : decode cX5_digest 65 = .ok (.istore_n 3, 1) := by decide +kernel
theorem dX5_digest_66 : decode cX5_digest 66 = .ok (.iload_n 3, 1) := by decide +kernel
theorem dX5_digest_67 : decode cX5_digest 67 = .ok (.bipush 24, 2) := by decide +kernel
theorem dX5_digest_69 : decode cX5_digest 69 = .ok (.if_icmp .ge 39, 3) := by decide +kernel
theorem dX5_digest_72 : decode cX5_digest 72 = .ok (.iconst 0, 1) := by decide +kernel
theorem dX5_digest_73 : decode cX5_digest 73 = .ok (.istore 4, 2) := by decide +kernel
theorem dX5_digest_75 : decode cX5_digest 75 = .ok (.iload 4, 2) := by decide +kernel
theorem dX5_digest_77 : decode cX5_digest 77 = .ok (.iconst 5, 1) := by decide +kernel
theorem dX5_digest_78 : decode cX5_digest 78 = .ok (.if_icmp .ge 24, 3) := by decide +kernel
theorem dX5_digest_81 : decode cX5_digest 81 = .ok (.lload_n 1, 1) := by decide +kernel
theorem dX5_digest_82 : decode cX5_digest 82 = .ok (.ldc2_w 206, 3) := by decide +kernel
theorem dX5_digest_85 : decode cX5_digest 85 = .ok (.lmul, 1) := by decide +kernel
theorem dX5_digest_86 : decode cX5_digest 86 = .ok (.aload_n 0, 1) := by decide +kernel
theorem dX5_digest_87 : decode cX5_digest 87 = .ok (.iload_n 3, 1) := by decide +kernel
theorem dX5_digest_88 : decode cX5_digest 88 = .ok (.iload 4, 2) := by decide +kernel
theorem dX5_digest_90 : decode cX5_digest 90 = .ok (.invokevirtual 217, 3) := by decide +kernel
theorem dX5_digest_93 : decode cX5_digest 93 = .ok (.i2l, 1) := by decide +kernel
theorem dX5_digest_94 : decode cX5_digest 94 = .ok (.ladd, 1) := by decide +kernel
theorem dX5_digest_95 : decode cX5_digest 95 = .ok (.lstore_n 1, 1) := by decide +kernel
theorem dX5_digest_96 : decode cX5_digest 96 = .ok (.iinc 4 1, 3) := by decide +kernel
theorem dX5_digest_99 : decode cX5_digest 99 = .ok (.goto (-24), 3) := by decide +kernel
theorem dX5_digest_102 : decode cX5_digest 102 = .ok (.iinc 3 1, 3) := by decide +kernel
theorem dX5_digest_105 : decode cX5_digest 105 = .ok (.goto (-39), 3) := by decide +kernel
theorem dX5_digest_108 : decode cX5_digest 108 = .ok (.iconst 0, 1) := by decide +kernel
theorem dX5_digest_109 : decode cX5_digest 109 = .ok (.istore_n 3, 1) := by decide +kernel
theorem dX5_digest_110 : decode cX5_digest 110 = .ok (.iload_n 3, 1) := by decide +kernel
theorem dX5_digest_111 : decode cX5_digest 111 = .ok (.aload_n 0, 1) := by decide +kernel
theorem dX5_digest_112 : decode cX5_digest 112 = .ok (.getfield 19, 3) := by decide +kernel
theorem dX5_digest_115 : decode cX5_digest 115 = .ok (.getfield 66, 3) := by decide +kernel
theorem dX5_digest_118 : decode cX5_digest 118 = .ok (.if_icmp .ge 40, 3) := by decide +kernel
theorem dX5_digest_121 : decode cX5_digest 121 = .ok (.iconst 0, 1) := by decide +kernel
theorem dX5_digest_122 : decode cX5_digest 122 = .ok (.istore 4, 2) := by decide +kernel
theorem dX5_digest_124 : decode cX5_digest 124 = .ok (.iload 4, 2) := by decide +kernel
theorem dX5_digest_126 : decode cX5_digest 126 = .ok (.bipush 7, 2) := by decide +kernel
theorem dX5_digest_128 : decode cX5_digest 128 = .ok (.if_icmp .ge 24, 3) := by decide +kernel
theorem dX5_digest_131 : decode cX5_digest 131 = .ok (.lload_n 1, 1) := by decide +kernel
theorem dX5_digest_132 : decode cX5_digest 132 = .ok (.ldc2_w 206, 3) := by decide +kernel
theorem dX5_digest_135 : decode cX5_digest 135 = .ok (.lmul, 1) := by decide +kernel
theorem dX5_digest_136 : decode cX5_digest 136 = .ok (.aload_n 0, 1) := by decide +kernel
theorem dX5_digest_137 : decode cX5_digest 137 = .ok (.iload_n 3, 1) := by decide +kernel
theorem dX5_digest_138 : decode cX5_digest 138 = .ok (.iload 4, 2) := by decide +kernel
theorem dX5_digest_140 : decode cX5_digest 140 = .ok (.invokevirtual 220, 3) := by decide +kernel
theorem dX5_digest_143 : decode cX5_digest 143 = .ok (.i2l, 1) := by decide +kernel
theorem dX5_digest_144 : decode cX5_digest 144 = .ok (.ladd, 1) := by decide +kernel
theorem dX5_digest_145 : decode cX5_digest 145 = .ok (.lstore_n 1, 1) := by decide +kernel
theorem dX5_digest_146 : decode cX5_digest 146 = .ok (.iinc 4 1, 3) := by decide +kernel
theorem dX5_digest_149 : decode cX5_digest 149 = .ok (.goto (-25), 3) := by decide +kernel
theorem dX5_digest_152 : decode cX5_digest 152 = .ok (.iinc 3 1, 3) := by decide +kernel
theorem dX5_digest_155 : decode cX5_digest 155 = .ok (.goto (-45), 3) := by decide +kernel
theorem dX5_digest_158 : decode cX5_digest 158 = .ok (.lload_n 1, 1) := by decide +kernel
theorem dX5_digest_159 : decode cX5_digest 159 = .ok (.lreturn, 1) := by decide +kernel
theorem dX5_digestOfTables_0 : decode cX5_digestOfTables 0 = .ok (.lload_n 1, 1) := by decide +kernel
theorem dX5_digestOfTables_1 : decode cX5_digestOfTables 1 = .ok (.lstore_n 3, 1) := by decide +kernel
theorem dX5_digestOfTables_2 : decode cX5_digestOfTables 2 = .ok (.iconst 0, 1) := by decide +kernel
theorem dX5_digestOfTables_3 : decode cX5_digestOfTables 3 = .ok (.istore 5, 2) := by decide +kernel
theorem dX5_digestOfTables_5 : decode cX5_digestOfTables 5 = .ok (.iload 5, 2) := by decide +kernel
theorem dX5_digestOfTables_7 : decode cX5_digestOfTables 7 = .ok (.bipush 8, 2) := by decide +kernel
theorem dX5_digestOfTables_9 : decode cX5_digestOfTables 9 = .ok (.if_icmp .ge 27, 3) := by decide +kernel
theorem dX5_digestOfTables_12 : decode cX5_digestOfTables 12 = .ok (.lload_n 3, 1) := by decide +kernel
theorem dX5_digestOfTables_13 : decode cX5_digestOfTables 13 = .ok (.ldc2_w 206, 3) := by decide +kernel
theorem dX5_digestOfTables_16 : decode cX5_digestOfTables 16 = .ok (.lmul, 1) := by decide +kernel
theorem dX5_digestOfTables_17 : decode cX5_digestOfTables 17 = .ok (.aload_n 0, 1) := by decide +kernel
theorem dX5_digestOfTables_18 : decode cX5_digestOfTables 18 = .ok (.getfield 10, 3) := by decide +kernel
theorem dX5_digestOfTables_21 : decode cX5_digestOfTables 21 = .ok (.getfield 38, 3) := by decide +kernel
theorem dX5_digestOfTables_24 : decode cX5_digestOfTables 24 = .ok (.iload 5, 2) := by decide +kernel
theorem dX5_digestOfTables_26 : decode cX5_digestOfTables 26 = .ok (.iaload, 1) := by decide +kernel
theorem dX5_digestOfTables_27 : decode cX5_digestOfTables 27 = .ok (.i2l, 1) := by decide +kernel
theorem dX5_digestOfTables_28 : decode cX5_digestOfTables 28 = .ok (.ladd, 1) := by decide +kernel
theorem dX5_digestOfTables_29 : decode cX5_digestOfTables 29 = .ok (.lstore_n 3, 1) := by decide +kernel
theorem dX5_digestOfTables_30 : decode cX5_digestOfTables 30 = .ok (.iinc 5 1, 3) := by decide +kernel
theorem dX5_digestOfTables_33 : decode cX5_digestOfTables 33 = .ok (.goto (-28), 3) := by decide +kernel
theorem dX5_digestOfTables_36 : decode cX5_digestOfTables 36 = .ok (.iconst 0, 1) := by decide +kernel
theorem dX5_digestOfTables_37 : decode cX5_digestOfTables 37 = .ok (.istore 5, 2) := by decide +kernel
theorem dX5_digestOfTables_39 : decode cX5_digestOfTables 39 = .ok (.iload 5, 2) := by decide +kernel
theorem dX5_digestOfTables_41 : decode cX5_digestOfTables 41 = .ok (.bipush 12, 2) := by decide +kernel
theorem dX5_digestOfTables_43 : decode cX5_digestOfTables 43 = .ok (.if_icmp .ge 27, 3) := by decide +kernel
theorem dX5_digestOfTables_46 : decode cX5_digestOfTables 46 = .ok (.lload_n 3, 1) := by decide +kernel
theorem dX5_digestOfTables_47 : decode cX5_digestOfTables 47 = .ok (.ldc2_w 206, 3) := by decide +kernel
theorem dX5_digestOfTables_50 : decode cX5_digestOfTables 50 = .ok (.lmul, 1) := by decide +kernel
theorem dX5_digestOfTables_51 : decode cX5_digestOfTables 51 = .ok (.aload_n 0, 1) := by decide +kernel
theorem dX5_digestOfTables_52 : decode cX5_digestOfTables 52 = .ok (.getfield 10, 3) := by decide +kernel
theorem dX5_digestOfTables_55 : decode cX5_digestOfTables 55 = .ok (.getfield 46, 3) := by decide +kernel
theorem dX5_digestOfTables_58 : decode cX5_digestOfTables 58 = .ok (.iload 5, 2) := by decide +kernel
theorem dX5_digestOfTables_60 : decode cX5_digestOfTables 60 = .ok (.iaload, 1) := by decide +kernel
theorem dX5_digestOfTables_61 : decode cX5_digestOfTables 61 = .ok (.i2l, 1) := by decide +kernel
theorem dX5_digestOfTables_62 : decode cX5_digestOfTables 62 = .ok (.ladd, 1) := by decide +kernel
theorem dX5_digestOfTables_63 : decode cX5_digestOfTables 63 = .ok (.lstore_n 3, 1) := by decide +kernel
theorem dX5_digestOfTables_64 : decode cX5_digestOfTables 64 = .ok (.iinc 5 1, 3) := by decide +kernel
theorem dX5_digestOfTables_67 : decode cX5_digestOfTables 67 = .ok (.goto (-28), 3) := by decide +kernel
theorem dX5_digestOfTables_70 : decode cX5_digestOfTables 70 = .ok (.lload_n 3, 1) := by decide +kernel
theorem dX5_digestOfTables_71 : decode cX5_digestOfTables 71 = .ok (.ldc2_w 206, 3) := by decide +kernel
theorem dX5_digestOfTables_74 : decode cX5_digestOfTables 74 = .ok (.lmul, 1) := by decide +kernel
theorem dX5_digestOfTables_75 : decode cX5_digestOfTables 75 = .ok (.aload_n 0, 1) := by decide +kernel
theorem dX5_digestOfTables_76 : decode cX5_digestOfTables 76 = .ok (.getfield 10, 3) := by decide +kernel
theorem dX5_digestOfTables_79 : decode cX5_digestOfTables 79 = .ok (.getfield 59, 3) := by decide +kernel
theorem dX5_digestOfTables_82 : decode cX5_digestOfTables 82 = .ok (.i2l, 1) := by decide +kernel
theorem dX5_digestOfTables_83 : decode cX5_digestOfTables 83 = .ok (.ladd, 1) := by decide +kernel
theorem dX5_digestOfTables_84 : decode cX5_digestOfTables 84 = .ok (.lstore_n 3, 1) := by decide +kernel
theorem dX5_digestOfTables_85 : decode cX5_digestOfTables 85 = .ok (.lload_n 3, 1) := by decide +kernel
theorem dX5_digestOfTables_86 : decode cX5_digestOfTables 86 = .ok (.ldc2_w 206, 3) := by decide +kernel
theorem dX5_digestOfTables_89 : decode cX5_digestOfTables 89 = .ok (.lmul, 1) := by decide +kernel
theorem dX5_digestOfTables_90 : decode cX5_digestOfTables 90 = .ok (.aload_n 0, 1) := by decide +kernel
theorem dX5_digestOfTables_91 : decode cX5_digestOfTables 91 = .ok (.getfield 10, 3) := by decide +kernel
theorem dX5_digestOfTables_94 : decode cX5_digestOfTables 94 = .ok (.getfield 55, 3) := by decide +kernel
theorem dX5_digestOfTables_97 : decode cX5_digestOfTables 97 = .ok (.i2l, 1) := by decide +kernel
theorem dX5_digestOfTables_98 : decode cX5_digestOfTables 98 = .ok (.ladd, 1) := by decide +kernel
theorem dX5_digestOfTables_99 : decode cX5_digestOfTables 99 = .ok (.lreturn, 1) := by decide +kernel
set_option maxRecDepth 20000 in
theorem ggX5_coinsWithOnlyOrder_X2_copyFrom : GoodIn wsX5_coinsWithOnlyOrder wsX2_copyFrom := goodIn_r _ [7, 8, 9, 10, 11, 12, 13, 14, 15, 16, 17, 18, 19, 20, 21, 22, 23, 24, 25, 26, 27, 28, 29, 30, 31, 32, 33, 34, 35, 36, 37, 38, 39, 40, 41, 42, 43, 44, 119, 120, 121, 122, 123, 124, 125, 126, 127, 128, 129, 130, 131, 132, 133, 134, 135, 136, 137, 138] (by decide +kernel) (by decide +kernel)
set_option maxRecDepth 20000 in
theorem gX5_coinsWithOnlyOrder_X2_copyFrom_n189 : GoodIn wsX5_coinsWithOnlyOrder (wsX2_copyFrom) := ggX5_coinsWithOnlyOrder_X2_copyFrom
set_option maxRecDepth 20000 in
theorem ggX5_coinsWithOnlyOrder_X1_haveOnly : GoodIn wsX5_coinsWithOnlyOrder wsX1_haveOnly := goodIn_r _ [47, 30, 32, 28, 127, 128, 129, 130, 131, 132] (by decide +kernel) (by decide +kernel)
set_option maxRecDepth 20000 in
theorem gX5_coinsWithOnlyOrder_X1_haveOnly_n223 : GoodIn wsX5_coinsWithOnlyOrder (wsX1_haveOnly) := ggX5_coinsWithOnlyOrder_X1_haveOnly
set_option maxRecDepth 20000 in
theorem ggX5_coinsWithOnlyOrder_X2_letGoBy : GoodIn wsX5_coinsWithOnlyOrder wsX2_letGoBy := goodIn_r _ [50, 51, 52, 53, 5, 54, 12, 8, 10, 11, 55, 56, 57, 58, 15, 59, 60, 23, 61, 62, 63, 64, 65, 66, 67, 68, 69, 70, 71, 72, 73, 74, 75, 76, 77, 18, 78, 79, 80, 81, 82, 83, 84, 85, 86, 87, 88, 89, 90, 13, 91, 92, 93, 94, 9, 95, 25, 96, 97, 98, 31, 99, 100, 101, 102, 28, 103, 104, 105, 106, 107, 108, 109, 110, 111, 112, 113, 114, 115, 30, 32, 119, 120, 121, 122, 123, 124, 139, 140, 141, 142, 125, 126, 133, 134, 135, 136, 137, 138, 127, 128, 129, 130, 131, 132] (by decide +kernel) (by decide +kernel)
set_option maxRecDepth 20000 in
theorem gX5_coinsWithOnlyOrder_X2_letGoBy_n185 : GoodIn wsX5_coinsWithOnlyOrder (wsX2_letGoBy) := ggX5_coinsWithOnlyOrder_X2_letGoBy
theorem dX5_coinsWithOnlyOrder_0 : decode cX5_coinsWithOnlyOrder 0 = .ok (.aload_n 0, 1) := by decide +kernel
theorem dX5_coinsWithOnlyOrder_1 : decode cX5_coinsWithOnlyOrder 1 = .ok (.getfield 23, 3) := by decide +kernel
theorem dX5_coinsWithOnlyOrder_4 : decode cX5_coinsWithOnlyOrder 4 = .ok (.aload_n 0, 1) := by decide +kernel
theorem dX5_coinsWithOnlyOrder_5 : decode cX5_coinsWithOnlyOrder 5 = .ok (.getfield 19, 3) := by decide +kernel
theorem dX5_coinsWithOnlyOrder_8 : decode cX5_coinsWithOnlyOrder 8 = .ok (.invokevirtual 189, 3) := by decide +kernel
theorem dX5_coinsWithOnlyOrder_11 : decode cX5_coinsWithOnlyOrder 11 = .ok (.aload_n 0, 1) := by decide +kernel
theorem dX5_coinsWithOnlyOrder_12 : decode cX5_coinsWithOnlyOrder 12 = .ok (.getfield 23, 3) := by decide +kernel
theorem dX5_coinsWithOnlyOrder_15 : decode cX5_coinsWithOnlyOrder 15 = .ok (.getfield 138, 3) := by decide +kernel
theorem dX5_coinsWithOnlyOrder_18 : decode cX5_coinsWithOnlyOrder 18 = .ok (.iload_n 1, 1) := by decide +kernel
theorem dX5_coinsWithOnlyOrder_19 : decode cX5_coinsWithOnlyOrder 19 = .ok (.invokevirtual 223, 3) := by decide +kernel
theorem dX5_coinsWithOnlyOrder_22 : decode cX5_coinsWithOnlyOrder 22 = .ok (.aload_n 0, 1) := by decide +kernel
theorem dX5_coinsWithOnlyOrder_23 : decode cX5_coinsWithOnlyOrder 23 = .ok (.getfield 23, 3) := by decide +kernel
theorem dX5_coinsWithOnlyOrder_26 : decode cX5_coinsWithOnlyOrder 26 = .ok (.iload_n 2, 1) := by decide +kernel
theorem dX5_coinsWithOnlyOrder_27 : decode cX5_coinsWithOnlyOrder 27 = .ok (.aload_n 0, 1) := by decide +kernel
theorem dX5_coinsWithOnlyOrder_28 : decode cX5_coinsWithOnlyOrder 28 = .ok (.getfield 10, 3) := by decide +kernel
theorem dX5_coinsWithOnlyOrder_31 : decode cX5_coinsWithOnlyOrder 31 = .ok (.invokevirtual 185, 3) := by decide +kernel
theorem dX5_coinsWithOnlyOrder_34 : decode cX5_coinsWithOnlyOrder 34 = .ok (.aload_n 0, 1) := by decide +kernel
theorem dX5_coinsWithOnlyOrder_35 : decode cX5_coinsWithOnlyOrder 35 = .ok (.getfield 23, 3) := by decide +kernel
theorem dX5_coinsWithOnlyOrder_38 : decode cX5_coinsWithOnlyOrder 38 = .ok (.getfield 182, 3) := by decide +kernel
theorem dX5_coinsWithOnlyOrder_41 : decode cX5_coinsWithOnlyOrder 41 = .ok (.ireturn, 1) := by decide +kernel
theorem dX5_checkBus_0 : decode cX5_checkBus 0 = .ok (.iload_n 1, 1) := by decide +kernel
theorem dX5_checkBus_1 : decode cX5_checkBus 1 = .ok (.ifCond .lt 14, 3) := by decide +kernel
theorem dX5_checkBus_4 : decode cX5_checkBus 4 = .ok (.iload_n 1, 1) := by decide +kernel
theorem dX5_checkBus_5 : decode cX5_checkBus 5 = .ok (.aload_n 0, 1) := by decide +kernel
theorem dX5_checkBus_6 : decode cX5_checkBus 6 = .ok (.getfield 19, 3) := by decide +kernel
theorem dX5_checkBus_9 : decode cX5_checkBus 9 = .ok (.getfield 66, 3) := by decide +kernel
theorem dX5_checkBus_12 : decode cX5_checkBus 12 = .ok (.if_icmp .lt 13, 3) := by decide +kernel
theorem dX5_checkBus_15 : decode cX5_checkBus 15 = .ok (.new 26, 3) := by decide +kernel
theorem dX5_checkBus_18 : decode cX5_checkBus 18 = .ok (.dup, 1) := by decide +kernel
theorem dX5_checkBus_19 : decode cX5_checkBus 19 = .ok (.ldc 226, 2) := by decide +kernel
theorem dX5_checkBus_21 : decode cX5_checkBus 21 = .ok (.invokespecial 30, 3) := by decide +kernel
theorem dX5_checkBus_24 : decode cX5_checkBus 24 = .ok (.athrow, 1) := by decide +kernel
theorem dX5_checkBus_25 : decode cX5_checkBus 25 = .ok (.return_, 1) := by decide +kernel
theorem dX5_checkSpan_0 : decode cX5_checkSpan 0 = .ok (.iload_n 0, 1) := by decide +kernel
theorem dX5_checkSpan_1 : decode cX5_checkSpan 1 = .ok (.ifCond .lt 9, 3) := by decide +kernel
theorem dX5_checkSpan_4 : decode cX5_checkSpan 4 = .ok (.iload_n 0, 1) := by decide +kernel
theorem dX5_checkSpan_5 : decode cX5_checkSpan 5 = .ok (.bipush 24, 2) := by decide +kernel
theorem dX5_checkSpan_7 : decode cX5_checkSpan 7 = .ok (.if_icmp .lt 13, 3) := by decide +kernel
theorem dX5_checkSpan_10 : decode cX5_checkSpan 10 = .ok (.new 26, 3) := by decide +kernel
theorem dX5_checkSpan_13 : decode cX5_checkSpan 13 = .ok (.dup, 1) := by decide +kernel
theorem dX5_checkSpan_14 : decode cX5_checkSpan 14 = .ok (.ldc 228, 2) := by decide +kernel
theorem dX5_checkSpan_16 : decode cX5_checkSpan 16 = .ok (.invokespecial 30, 3) := by decide +kernel
theorem dX5_checkSpan_19 : decode cX5_checkSpan 19 = .ok (.athrow, 1) := by decide +kernel
theorem dX5_checkSpan_20 : decode cX5_checkSpan 20 = .ok (.return_, 1) := by decide +kernel
theorem dX5_checkWhat_0 : decode cX5_checkWhat 0 = .ok (.iload_n 0, 1) := by decide +kernel
theorem dX5_checkWhat_1 : decode cX5_checkWhat 1 = .ok (.ifCond .lt 8, 3) := by decide +kernel
theorem dX5_checkWhat_4 : decode cX5_checkWhat 4 = .ok (.iload_n 0, 1) := by decide +kernel
theorem dX5_checkWhat_5 : decode cX5_checkWhat 5 = .ok (.iload_n 1, 1) := by decide +kernel
theorem dX5_checkWhat_6 : decode cX5_checkWhat 6 = .ok (.if_icmp .lt 13, 3) := by decide +kernel
theorem dX5_checkWhat_9 : decode cX5_checkWhat 9 = .ok (.new 26, 3) := by decide +kernel
theorem dX5_checkWhat_12 : decode cX5_checkWhat 12 = .ok (.dup, 1) := by decide +kernel
theorem dX5_checkWhat_13 : decode cX5_checkWhat 13 = .ok (.ldc 230, 2) := by decide +kernel
theorem dX5_checkWhat_15 : decode cX5_checkWhat 15 = .ok (.invokespecial 30, 3) := by decide +kernel
theorem dX5_checkWhat_18 : decode cX5_checkWhat 18 = .ok (.athrow, 1) := by decide +kernel
theorem dX5_checkWhat_19 : decode cX5_checkWhat 19 = .ok (.return_, 1) := by decide +kernel
theorem dX5_checkHours_0 : decode cX5_checkHours 0 = .ok (.iload_n 0, 1) := by decide +kernel
theorem dX5_checkHours_1 : decode cX5_checkHours 1 = .ok (.iconst 1, 1) := by decide +kernel
theorem dX5_checkHours_2 : decode cX5_checkHours 2 = .ok (.if_icmp .lt 8, 3) := by decide +kernel
theorem dX5_checkHours_5 : decode cX5_checkHours 5 = .ok (.iload_n 0, 1) := by decide +kernel
theorem dX5_checkHours_6 : decode cX5_checkHours 6 = .ok (.iload_n 1, 1) := by decide +kernel
theorem dX5_checkHours_7 : decode cX5_checkHours 7 = .ok (.if_icmp .le 13, 3) := by decide +kernel
theorem dX5_checkHours_10 : decode cX5_checkHours 10 = .ok (.new 33, 3) := by decide +kernel
theorem dX5_checkHours_13 : decode cX5_checkHours 13 = .ok (.dup, 1) := by decide +kernel
theorem dX5_checkHours_14 : decode cX5_checkHours 14 = .ok (.ldc 232, 2) := by decide +kernel
theorem dX5_checkHours_16 : decode cX5_checkHours 16 = .ok (.invokespecial 37, 3) := by decide +kernel
theorem dX5_checkHours_19 : decode cX5_checkHours 19 = .ok (.athrow, 1) := by decide +kernel
theorem dX5_checkHours_20 : decode cX5_checkHours 20 = .ok (.return_, 1) := by decide +kernel
theorem dX5_oneIf_0 : decode cX5_oneIf 0 = .ok (.iload_n 0, 1) := by decide +kernel
theorem dX5_oneIf_1 : decode cX5_oneIf 1 = .ok (.ifCond .eq 7, 3) := by decide +kernel
theorem dX5_oneIf_4 : decode cX5_oneIf 4 = .ok (.iconst 1, 1) := by decide +kernel
theorem dX5_oneIf_5 : decode cX5_oneIf 5 = .ok (.goto 4, 3) := by decide +kernel
theorem dX5_oneIf_8 : decode cX5_oneIf 8 = .ok (.iconst 0, 1) := by decide +kernel
theorem dX5_oneIf_9 : decode cX5_oneIf 9 = .ok (.ireturn, 1) := by decide +kernel
theorem dX5_isNightAt_0 : decode cX5_isNightAt 0 = .ok (.iload_n 0, 1) := by decide +kernel
theorem dX5_isNightAt_1 : decode cX5_isNightAt 1 = .ok (.bipush 24, 2) := by decide +kernel
theorem dX5_isNightAt_3 : decode cX5_isNightAt 3 = .ok (.irem, 1) := by decide +kernel
theorem dX5_isNightAt_4 : decode cX5_isNightAt 4 = .ok (.istore_n 1, 1) := by decide +kernel
theorem dX5_isNightAt_5 : decode cX5_isNightAt 5 = .ok (.iload_n 1, 1) := by decide +kernel
theorem dX5_isNightAt_6 : decode cX5_isNightAt 6 = .ok (.iconst 5, 1) := by decide +kernel
theorem dX5_isNightAt_7 : decode cX5_isNightAt 7 = .ok (.if_icmp .le 9, 3) := by decide +kernel
theorem dX5_isNightAt_10 : decode cX5_isNightAt 10 = .ok (.iload_n 1, 1) := by decide +kernel
theorem dX5_isNightAt_11 : decode cX5_isNightAt 11 = .ok (.bipush 20, 2) := by decide +kernel
theorem dX5_isNightAt_13 : decode cX5_isNightAt 13 = .ok (.if_icmp .lt 7, 3) := by decide +kernel
theorem dX5_isNightAt_16 : decode cX5_isNightAt 16 = .ok (.iconst 1, 1) := by decide +kernel
theorem dX5_isNightAt_17 : decode cX5_isNightAt 17 = .ok (.goto 4, 3) := by decide +kernel
theorem dX5_isNightAt_20 : decode cX5_isNightAt 20 = .ok (.iconst 0, 1) := by decide +kernel
theorem dX5_isNightAt_21 : decode cX5_isNightAt 21 = .ok (.ireturn, 1) := by decide +kernel
theorem dJ9_max_7cf53_0 : decode cJ9_max_7cf53 0 = .ok (.iload_n 0, 1) := by decide +kernel
theorem dJ9_max_7cf53_1 : decode cJ9_max_7cf53 1 = .ok (.iload_n 1, 1) := by decide +kernel
theorem dJ9_max_7cf53_2 : decode cJ9_max_7cf53 2 = .ok (.if_icmp .lt 7, 3) := by decide +kernel
theorem dJ9_max_7cf53_5 : decode cJ9_max_7cf53 5 = .ok (.iload_n 0, 1) := by decide +kernel
theorem dJ9_max_7cf53_6 : decode cJ9_max_7cf53 6 = .ok (.goto 4, 3) := by decide +kernel
theorem dJ9_max_7cf53_9 : decode cJ9_max_7cf53 9 = .ok (.iload_n 1, 1) := by decide +kernel
theorem dJ9_max_7cf53_10 : decode cJ9_max_7cf53 10 = .ok (.ireturn, 1) := by decide +kernel
theorem dJ9_min_7cf53_0 : decode cJ9_min_7cf53 0 = .ok (.iload_n 0, 1) := by decide +kernel
theorem dJ9_min_7cf53_1 : decode cJ9_min_7cf53 1 = .ok (.iload_n 1, 1) := by decide +kernel
theorem dJ9_min_7cf53_2 : decode cJ9_min_7cf53 2 = .ok (.if_icmp .gt 7, 3) := by decide +kernel
theorem dJ9_min_7cf53_5 : decode cJ9_min_7cf53 5 = .ok (.iload_n 0, 1) := by decide +kernel
theorem dJ9_min_7cf53_6 : decode cJ9_min_7cf53 6 = .ok (.goto 4, 3) := by decide +kernel
theorem dJ9_min_7cf53_9 : decode cJ9_min_7cf53 9 = .ok (.iload_n 1, 1) := by decide +kernel
theorem dJ9_min_7cf53_10 : decode cJ9_min_7cf53 10 = .ok (.ireturn, 1) := by decide +kernel
end
section
def nw_all : List Cond := [.methodLinkNest "TrolleyGang" 9 ⟨"TrolleyGang$Tables", "<init>", "()V"⟩ "TrolleyGang", .fieldLinkNest "TrolleyGang" 38 "TrolleyGang$Tables" "colds" "[I" "TrolleyGang", .fieldLinkNest "TrolleyGang$Ring" 60 "TrolleyGang$Tables" "colds" "[I" "TrolleyGang", .fieldLinkNest "TrolleyGang" 46 "TrolleyGang$Tables" "swans" "[I" "TrolleyGang", .fieldLinkNest "TrolleyGang$Ring" 73 "TrolleyGang$Tables" "swans" "[I" "TrolleyGang", .fieldLinkNest "TrolleyGang" 59 "TrolleyGang$Tables" "fareByDay" "I" "TrolleyGang", .fieldLinkNest "TrolleyGang" 55 "TrolleyGang$Tables" "fareByNight" "I" "TrolleyGang", .methodLinkNest "TrolleyGang" 18 ⟨"TrolleyGang$Ring", "<init>", "()V"⟩ "TrolleyGang", .methodLinkNest "TrolleyGang$Ring" 11 ⟨"TrolleyGang$Wires", "<init>", "()V"⟩ "TrolleyGang", .fieldLinkNest "TrolleyGang$Ring" 144 "TrolleyGang$Wires" "worn" "[I" "TrolleyGang", .fieldLinkNest "TrolleyGang" 125 "TrolleyGang$Wires" "worn" "[I" "TrolleyGang", .fieldLinkNest "TrolleyGang$Ring" 116 "TrolleyGang$Wires" "frost" "[I" "TrolleyGang", .fieldLinkNest "TrolleyGang" 128 "TrolleyGang$Wires" "frost" "[I" "TrolleyGang", .methodLinkNest "TrolleyGang$Ring" 20 ⟨"TrolleyGang$Gang", "<init>", "()V"⟩ "TrolleyGang", .fieldLinkNest "TrolleyGang$Ring" 126 "TrolleyGang$Gang" "orders" "[I" "TrolleyGang", .fieldLinkNest "TrolleyGang" 154 "TrolleyGang$Gang" "orders" "[I" "TrolleyGang", .fieldLinkNest "TrolleyGang$Ring" 119 "TrolleyGang$Gang" "orderCount" "I" "TrolleyGang", .fieldLinkNest "TrolleyGang" 147 "TrolleyGang$Gang" "orderCount" "I" "TrolleyGang", .fieldLinkNest "TrolleyGang$Ring" 125 "TrolleyGang$Gang" "at" "I" "TrolleyGang", .fieldLinkNest "TrolleyGang" 162 "TrolleyGang$Gang" "at" "I" "TrolleyGang", .fieldLinkNest "TrolleyGang$Ring" 129 "TrolleyGang$Gang" "worksAtFirst" "I" "TrolleyGang", .fieldLinkNest "TrolleyGang" 163 "TrolleyGang$Gang" "worksAtFirst" "I" "TrolleyGang", .fieldLinkNest "TrolleyGang$Ring" 132 "TrolleyGang$Gang" "worksInAll" "I" "TrolleyGang", .fieldLinkNest "TrolleyGang" 166 "TrolleyGang$Gang" "worksInAll" "I" "TrolleyGang", .fieldLinkNest "TrolleyGang$Ring" 150 "TrolleyGang$Gang" "putUpInAll" "I" "TrolleyGang", .fieldLinkNest "TrolleyGang" 169 "TrolleyGang$Gang" "putUpInAll" "I" "TrolleyGang", .methodLinkNest "TrolleyGang$Ring" 31 ⟨"TrolleyGang$Bus", "<init>", "()V"⟩ "TrolleyGang", .fieldLinkNest "TrolleyGang$Ring" 101 "TrolleyGang$Bus" "at" "I" "TrolleyGang", .fieldLinkNest "TrolleyGang" 93 "TrolleyGang$Bus" "at" "I" "TrolleyGang", .fieldLinkNest "TrolleyGang" 87 "TrolleyGang$Bus" "hasScraper" "Z" "TrolleyGang", .fieldLinkNest "TrolleyGang$Ring" 113 "TrolleyGang$Bus" "hasScraper" "Z" "TrolleyGang", .fieldLinkNest "TrolleyGang$Ring" 97 "TrolleyGang$Bus" "runs" "Z" "TrolleyGang", .fieldLinkNest "TrolleyGang" 96 "TrolleyGang$Bus" "runs" "Z" "TrolleyGang", .fieldLinkNest "TrolleyGang$Ring" 107 "TrolleyGang$Bus" "spansInAll" "I" "TrolleyGang", .fieldLinkNest "TrolleyGang" 106 "TrolleyGang$Bus" "spansInAll" "I" "TrolleyGang", .fieldLinkNest "TrolleyGang$Ring" 110 "TrolleyGang$Bus" "faresInAll" "I" "TrolleyGang", .fieldLinkNest "TrolleyGang" 109 "TrolleyGang$Bus" "faresInAll" "I" "TrolleyGang", .fieldLinkNest "TrolleyGang$Ring" 104 "TrolleyGang$Bus" "hoursStuck" "I" "TrolleyGang", .fieldLinkNest "TrolleyGang" 112 "TrolleyGang$Bus" "hoursStuck" "I" "TrolleyGang", .fieldLinkNest "TrolleyGang" 115 "TrolleyGang$Ring" "wires" "LTrolleyGang$Wires;" "TrolleyGang", .fieldLinkNest "TrolleyGang" 138 "TrolleyGang$Ring" "gang" "LTrolleyGang$Gang;" "TrolleyGang", .fieldLinkNest "TrolleyGang" 74 "TrolleyGang$Ring" "buses" "[LTrolleyGang$Bus;" "TrolleyGang", .fieldLinkNest "TrolleyGang" 66 "TrolleyGang$Ring" "busCount" "I" "TrolleyGang", .fieldLinkNest "TrolleyGang" 182 "TrolleyGang$Ring" "coins" "I" "TrolleyGang", .methodLinkNest "TrolleyGang" 199 ⟨"TrolleyGang$Wires", "wornInAll", "()I"⟩ "TrolleyGang", .methodLinkNest "TrolleyGang" 176 ⟨"TrolleyGang$Ring", "tally", "(I)I"⟩ "TrolleyGang", .methodLinkNest "TrolleyGang$Ring" 56 ⟨"TrolleyGang", "isNightAt", "(I)Z"⟩ "TrolleyGang", .methodLinkNest "TrolleyGang$Ring" 153 ⟨"TrolleyGang", "oneIf", "(Z)I"⟩ "TrolleyGang", .methodLinkNest "TrolleyGang$Ring" 160 ⟨"TrolleyGang$Wires", "spansDown", "()I"⟩ "TrolleyGang", .methodLinkNest "TrolleyGang$Wires" 37 ⟨"TrolleyGang", "oneIf", "(Z)I"⟩ "TrolleyGang", .methodLinkNest "TrolleyGang$Ring" 163 ⟨"TrolleyGang$Wires", "wornInAll", "()I"⟩ "TrolleyGang", .methodLinkNest "TrolleyGang$Ring" 166 ⟨"TrolleyGang$Wires", "frostInAll", "()I"⟩ "TrolleyGang", .methodLinkNest "TrolleyGang" 172 ⟨"TrolleyGang$Gang", "hoursToFirst", "()I"⟩ "TrolleyGang", .methodLinkNest "TrolleyGang" 131 ⟨"TrolleyGang$Wires", "isDown", "(I)Z"⟩ "TrolleyGang", .methodLinkNest "TrolleyGang" 135 ⟨"TrolleyGang$Ring", "busesAt", "(I)I"⟩ "TrolleyGang", .methodLinkNest "TrolleyGang" 142 ⟨"TrolleyGang$Gang", "placeOf", "(I)I"⟩ "TrolleyGang", .methodLinkNest "TrolleyGang" 119 ⟨"TrolleyGang$Wires", "spansUpBehind", "(I)I"⟩ "TrolleyGang", .methodLinkNest "TrolleyGang" 51 ⟨"TrolleyGang$Tables", "fare", "(Z)I"⟩ "TrolleyGang", .methodLinkNest "TrolleyGang" 78 ⟨"TrolleyGang$Bus", "come", "(IZ)V"⟩ "TrolleyGang", .methodLinkNest "TrolleyGang" 159 ⟨"TrolleyGang$Gang", "takeOut", "(I)V"⟩ "TrolleyGang", .methodLinkNest "TrolleyGang" 185 ⟨"TrolleyGang$Ring", "letGoBy", "(ILTrolleyGang$Tables;)V"⟩ "TrolleyGang", .methodLinkNest "TrolleyGang$Ring" 66 ⟨"TrolleyGang$Wires", "freeze", "(I)V"⟩ "TrolleyGang", .methodLinkNest "TrolleyGang$Ring" 70 ⟨"TrolleyGang$Wires", "thaw", "()V"⟩ "TrolleyGang", .methodLinkNest "TrolleyGang$Ring" 90 ⟨"TrolleyGang$Wires", "isDown", "(I)Z"⟩ "TrolleyGang", .methodLinkNest "TrolleyGang$Ring" 93 ⟨"TrolleyGang$Wires", "wear", "(II)V"⟩ "TrolleyGang", .methodLinkNest "TrolleyGang$Ring" 79 ⟨"TrolleyGang$Tables", "fare", "(Z)I"⟩ "TrolleyGang", .methodLinkNest "TrolleyGang$Ring" 122 ⟨"TrolleyGang$Gang", "goToFirst", "()V"⟩ "TrolleyGang", .methodLinkNest "TrolleyGang$Ring" 141 ⟨"TrolleyGang$Wires", "mend", "(II)V"⟩ "TrolleyGang", .methodLinkNest "TrolleyGang$Ring" 147 ⟨"TrolleyGang$Wires", "putUp", "(I)V"⟩ "TrolleyGang", .methodLinkNest "TrolleyGang$Ring" 138 ⟨"TrolleyGang$Gang", "takeOut", "(I)V"⟩ "TrolleyGang", .methodLinkNest "TrolleyGang" 189 ⟨"TrolleyGang$Ring", "copyFrom", "(LTrolleyGang$Ring;)V"⟩ "TrolleyGang", .methodLinkNest "TrolleyGang$Ring" 32 ⟨"TrolleyGang$Wires", "copyFrom", "(LTrolleyGang$Wires;)V"⟩ "TrolleyGang", .methodLinkNest "TrolleyGang$Ring" 36 ⟨"TrolleyGang$Gang", "copyFrom", "(LTrolleyGang$Gang;)V"⟩ "TrolleyGang", .methodLinkNest "TrolleyGang$Ring" 43 ⟨"TrolleyGang$Bus", "copyFrom", "(LTrolleyGang$Bus;)V"⟩ "TrolleyGang", .methodLinkNest "TrolleyGang" 223 ⟨"TrolleyGang$Gang", "haveOnly", "(I)V"⟩ "TrolleyGang"]
theorem nq_0 : (.methodLinkNest "TrolleyGang" 9 ⟨"TrolleyGang$Tables", "<init>", "()V"⟩ "TrolleyGang" : Cond) ∈ nw_all := List.mem_of_getElem? (i := 0) rfl
theorem nq_1 : (.fieldLinkNest "TrolleyGang" 38 "TrolleyGang$Tables" "colds" "[I" "TrolleyGang" : Cond) ∈ nw_all := List.mem_of_getElem? (i := 1) rfl
theorem nq_2 : (.fieldLinkNest "TrolleyGang$Ring" 60 "TrolleyGang$Tables" "colds" "[I" "TrolleyGang" : Cond) ∈ nw_all := List.mem_of_getElem? (i := 2) rfl
theorem nq_3 : (.fieldLinkNest "TrolleyGang" 46 "TrolleyGang$Tables" "swans" "[I" "TrolleyGang" : Cond) ∈ nw_all := List.mem_of_getElem? (i := 3) rfl
theorem nq_4 : (.fieldLinkNest "TrolleyGang$Ring" 73 "TrolleyGang$Tables" "swans" "[I" "TrolleyGang" : Cond) ∈ nw_all := List.mem_of_getElem? (i := 4) rfl
theorem nq_5 : (.fieldLinkNest "TrolleyGang" 59 "TrolleyGang$Tables" "fareByDay" "I" "TrolleyGang" : Cond) ∈ nw_all := List.mem_of_getElem? (i := 5) rfl
theorem nq_6 : (.fieldLinkNest "TrolleyGang" 55 "TrolleyGang$Tables" "fareByNight" "I" "TrolleyGang" : Cond) ∈ nw_all := List.mem_of_getElem? (i := 6) rfl
theorem nq_7 : (.methodLinkNest "TrolleyGang" 18 ⟨"TrolleyGang$Ring", "<init>", "()V"⟩ "TrolleyGang" : Cond) ∈ nw_all := List.mem_of_getElem? (i := 7) rfl
theorem nq_8 : (.methodLinkNest "TrolleyGang$Ring" 11 ⟨"TrolleyGang$Wires", "<init>", "()V"⟩ "TrolleyGang" : Cond) ∈ nw_all := List.mem_of_getElem? (i := 8) rfl
theorem nq_9 : (.fieldLinkNest "TrolleyGang$Ring" 144 "TrolleyGang$Wires" "worn" "[I" "TrolleyGang" : Cond) ∈ nw_all := List.mem_of_getElem? (i := 9) rfl
theorem nq_10 : (.fieldLinkNest "TrolleyGang" 125 "TrolleyGang$Wires" "worn" "[I" "TrolleyGang" : Cond) ∈ nw_all := List.mem_of_getElem? (i := 10) rfl
theorem nq_11 : (.fieldLinkNest "TrolleyGang$Ring" 116 "TrolleyGang$Wires" "frost" "[I" "TrolleyGang" : Cond) ∈ nw_all := List.mem_of_getElem? (i := 11) rfl
theorem nq_12 : (.fieldLinkNest "TrolleyGang" 128 "TrolleyGang$Wires" "frost" "[I" "TrolleyGang" : Cond) ∈ nw_all := List.mem_of_getElem? (i := 12) rfl
theorem nq_13 : (.methodLinkNest "TrolleyGang$Ring" 20 ⟨"TrolleyGang$Gang", "<init>", "()V"⟩ "TrolleyGang" : Cond) ∈ nw_all := List.mem_of_getElem? (i := 13) rfl
theorem nq_14 : (.fieldLinkNest "TrolleyGang$Ring" 126 "TrolleyGang$Gang" "orders" "[I" "TrolleyGang" : Cond) ∈ nw_all := List.mem_of_getElem? (i := 14) rfl
theorem nq_15 : (.fieldLinkNest "TrolleyGang" 154 "TrolleyGang$Gang" "orders" "[I" "TrolleyGang" : Cond) ∈ nw_all := List.mem_of_getElem? (i := 15) rfl
theorem nq_16 : (.fieldLinkNest "TrolleyGang$Ring" 119 "TrolleyGang$Gang" "orderCount" "I" "TrolleyGang" : Cond) ∈ nw_all := List.mem_of_getElem? (i := 16) rfl
theorem nq_17 : (.fieldLinkNest "TrolleyGang" 147 "TrolleyGang$Gang" "orderCount" "I" "TrolleyGang" : Cond) ∈ nw_all := List.mem_of_getElem? (i := 17) rfl
theorem nq_18 : (.fieldLinkNest "TrolleyGang$Ring" 125 "TrolleyGang$Gang" "at" "I" "TrolleyGang" : Cond) ∈ nw_all := List.mem_of_getElem? (i := 18) rfl
theorem nq_19 : (.fieldLinkNest "TrolleyGang" 162 "TrolleyGang$Gang" "at" "I" "TrolleyGang" : Cond) ∈ nw_all := List.mem_of_getElem? (i := 19) rfl
theorem nq_20 : (.fieldLinkNest "TrolleyGang$Ring" 129 "TrolleyGang$Gang" "worksAtFirst" "I" "TrolleyGang" : Cond) ∈ nw_all := List.mem_of_getElem? (i := 20) rfl
theorem nq_21 : (.fieldLinkNest "TrolleyGang" 163 "TrolleyGang$Gang" "worksAtFirst" "I" "TrolleyGang" : Cond) ∈ nw_all := List.mem_of_getElem? (i := 21) rfl
theorem nq_22 : (.fieldLinkNest "TrolleyGang$Ring" 132 "TrolleyGang$Gang" "worksInAll" "I" "TrolleyGang" : Cond) ∈ nw_all := List.mem_of_getElem? (i := 22) rfl
theorem nq_23 : (.fieldLinkNest "TrolleyGang" 166 "TrolleyGang$Gang" "worksInAll" "I" "TrolleyGang" : Cond) ∈ nw_all := List.mem_of_getElem? (i := 23) rfl
theorem nq_24 : (.fieldLinkNest "TrolleyGang$Ring" 150 "TrolleyGang$Gang" "putUpInAll" "I" "TrolleyGang" : Cond) ∈ nw_all := List.mem_of_getElem? (i := 24) rfl
theorem nq_25 : (.fieldLinkNest "TrolleyGang" 169 "TrolleyGang$Gang" "putUpInAll" "I" "TrolleyGang" : Cond) ∈ nw_all := List.mem_of_getElem? (i := 25) rfl
theorem nq_26 : (.methodLinkNest "TrolleyGang$Ring" 31 ⟨"TrolleyGang$Bus", "<init>", "()V"⟩ "TrolleyGang" : Cond) ∈ nw_all := List.mem_of_getElem? (i := 26) rfl
theorem nq_27 : (.fieldLinkNest "TrolleyGang$Ring" 101 "TrolleyGang$Bus" "at" "I" "TrolleyGang" : Cond) ∈ nw_all := List.mem_of_getElem? (i := 27) rfl
theorem nq_28 : (.fieldLinkNest "TrolleyGang" 93 "TrolleyGang$Bus" "at" "I" "TrolleyGang" : Cond) ∈ nw_all := List.mem_of_getElem? (i := 28) rfl
theorem nq_29 : (.fieldLinkNest "TrolleyGang" 87 "TrolleyGang$Bus" "hasScraper" "Z" "TrolleyGang" : Cond) ∈ nw_all := List.mem_of_getElem? (i := 29) rfl
theorem nq_30 : (.fieldLinkNest "TrolleyGang$Ring" 113 "TrolleyGang$Bus" "hasScraper" "Z" "TrolleyGang" : Cond) ∈ nw_all := List.mem_of_getElem? (i := 30) rfl
theorem nq_31 : (.fieldLinkNest "TrolleyGang$Ring" 97 "TrolleyGang$Bus" "runs" "Z" "TrolleyGang" : Cond) ∈ nw_all := List.mem_of_getElem? (i := 31) rfl
theorem nq_32 : (.fieldLinkNest "TrolleyGang" 96 "TrolleyGang$Bus" "runs" "Z" "TrolleyGang" : Cond) ∈ nw_all := List.mem_of_getElem? (i := 32) rfl
theorem nq_33 : (.fieldLinkNest "TrolleyGang$Ring" 107 "TrolleyGang$Bus" "spansInAll" "I" "TrolleyGang" : Cond) ∈ nw_all := List.mem_of_getElem? (i := 33) rfl
theorem nq_34 : (.fieldLinkNest "TrolleyGang" 106 "TrolleyGang$Bus" "spansInAll" "I" "TrolleyGang" : Cond) ∈ nw_all := List.mem_of_getElem? (i := 34) rfl
theorem nq_35 : (.fieldLinkNest "TrolleyGang$Ring" 110 "TrolleyGang$Bus" "faresInAll" "I" "TrolleyGang" : Cond) ∈ nw_all := List.mem_of_getElem? (i := 35) rfl
theorem nq_36 : (.fieldLinkNest "TrolleyGang" 109 "TrolleyGang$Bus" "faresInAll" "I" "TrolleyGang" : Cond) ∈ nw_all := List.mem_of_getElem? (i := 36) rfl
theorem nq_37 : (.fieldLinkNest "TrolleyGang$Ring" 104 "TrolleyGang$Bus" "hoursStuck" "I" "TrolleyGang" : Cond) ∈ nw_all := List.mem_of_getElem? (i := 37) rfl
theorem nq_38 : (.fieldLinkNest "TrolleyGang" 112 "TrolleyGang$Bus" "hoursStuck" "I" "TrolleyGang" : Cond) ∈ nw_all := List.mem_of_getElem? (i := 38) rfl
theorem nq_39 : (.fieldLinkNest "TrolleyGang" 115 "TrolleyGang$Ring" "wires" "LTrolleyGang$Wires;" "TrolleyGang" : Cond) ∈ nw_all := List.mem_of_getElem? (i := 39) rfl
theorem nq_40 : (.fieldLinkNest "TrolleyGang" 138 "TrolleyGang$Ring" "gang" "LTrolleyGang$Gang;" "TrolleyGang" : Cond) ∈ nw_all := List.mem_of_getElem? (i := 40) rfl
theorem nq_41 : (.fieldLinkNest "TrolleyGang" 74 "TrolleyGang$Ring" "buses" "[LTrolleyGang$Bus;" "TrolleyGang" : Cond) ∈ nw_all := List.mem_of_getElem? (i := 41) rfl
theorem nq_42 : (.fieldLinkNest "TrolleyGang" 66 "TrolleyGang$Ring" "busCount" "I" "TrolleyGang" : Cond) ∈ nw_all := List.mem_of_getElem? (i := 42) rfl
theorem nq_43 : (.fieldLinkNest "TrolleyGang" 182 "TrolleyGang$Ring" "coins" "I" "TrolleyGang" : Cond) ∈ nw_all := List.mem_of_getElem? (i := 43) rfl
theorem nq_44 : (.methodLinkNest "TrolleyGang" 199 ⟨"TrolleyGang$Wires", "wornInAll", "()I"⟩ "TrolleyGang" : Cond) ∈ nw_all := List.mem_of_getElem? (i := 44) rfl
theorem nq_45 : (.methodLinkNest "TrolleyGang" 176 ⟨"TrolleyGang$Ring", "tally", "(I)I"⟩ "TrolleyGang" : Cond) ∈ nw_all := List.mem_of_getElem? (i := 45) rfl
theorem nq_46 : (.methodLinkNest "TrolleyGang$Ring" 56 ⟨"TrolleyGang", "isNightAt", "(I)Z"⟩ "TrolleyGang" : Cond) ∈ nw_all := List.mem_of_getElem? (i := 46) rfl
theorem nq_47 : (.methodLinkNest "TrolleyGang$Ring" 153 ⟨"TrolleyGang", "oneIf", "(Z)I"⟩ "TrolleyGang" : Cond) ∈ nw_all := List.mem_of_getElem? (i := 47) rfl
theorem nq_48 : (.methodLinkNest "TrolleyGang$Ring" 160 ⟨"TrolleyGang$Wires", "spansDown", "()I"⟩ "TrolleyGang" : Cond) ∈ nw_all := List.mem_of_getElem? (i := 48) rfl
theorem nq_49 : (.methodLinkNest "TrolleyGang$Wires" 37 ⟨"TrolleyGang", "oneIf", "(Z)I"⟩ "TrolleyGang" : Cond) ∈ nw_all := List.mem_of_getElem? (i := 49) rfl
theorem nq_50 : (.methodLinkNest "TrolleyGang$Ring" 163 ⟨"TrolleyGang$Wires", "wornInAll", "()I"⟩ "TrolleyGang" : Cond) ∈ nw_all := List.mem_of_getElem? (i := 50) rfl
theorem nq_51 : (.methodLinkNest "TrolleyGang$Ring" 166 ⟨"TrolleyGang$Wires", "frostInAll", "()I"⟩ "TrolleyGang" : Cond) ∈ nw_all := List.mem_of_getElem? (i := 51) rfl
theorem nq_52 : (.methodLinkNest "TrolleyGang" 172 ⟨"TrolleyGang$Gang", "hoursToFirst", "()I"⟩ "TrolleyGang" : Cond) ∈ nw_all := List.mem_of_getElem? (i := 52) rfl
theorem nq_53 : (.methodLinkNest "TrolleyGang" 131 ⟨"TrolleyGang$Wires", "isDown", "(I)Z"⟩ "TrolleyGang" : Cond) ∈ nw_all := List.mem_of_getElem? (i := 53) rfl
theorem nq_54 : (.methodLinkNest "TrolleyGang" 135 ⟨"TrolleyGang$Ring", "busesAt", "(I)I"⟩ "TrolleyGang" : Cond) ∈ nw_all := List.mem_of_getElem? (i := 54) rfl
theorem nq_55 : (.methodLinkNest "TrolleyGang" 142 ⟨"TrolleyGang$Gang", "placeOf", "(I)I"⟩ "TrolleyGang" : Cond) ∈ nw_all := List.mem_of_getElem? (i := 55) rfl
theorem nq_56 : (.methodLinkNest "TrolleyGang" 119 ⟨"TrolleyGang$Wires", "spansUpBehind", "(I)I"⟩ "TrolleyGang" : Cond) ∈ nw_all := List.mem_of_getElem? (i := 56) rfl
theorem nq_57 : (.methodLinkNest "TrolleyGang" 51 ⟨"TrolleyGang$Tables", "fare", "(Z)I"⟩ "TrolleyGang" : Cond) ∈ nw_all := List.mem_of_getElem? (i := 57) rfl
theorem nq_58 : (.methodLinkNest "TrolleyGang" 78 ⟨"TrolleyGang$Bus", "come", "(IZ)V"⟩ "TrolleyGang" : Cond) ∈ nw_all := List.mem_of_getElem? (i := 58) rfl
theorem nq_59 : (.methodLinkNest "TrolleyGang" 159 ⟨"TrolleyGang$Gang", "takeOut", "(I)V"⟩ "TrolleyGang" : Cond) ∈ nw_all := List.mem_of_getElem? (i := 59) rfl
theorem nq_60 : (.methodLinkNest "TrolleyGang" 185 ⟨"TrolleyGang$Ring", "letGoBy", "(ILTrolleyGang$Tables;)V"⟩ "TrolleyGang" : Cond) ∈ nw_all := List.mem_of_getElem? (i := 60) rfl
theorem nq_61 : (.methodLinkNest "TrolleyGang$Ring" 66 ⟨"TrolleyGang$Wires", "freeze", "(I)V"⟩ "TrolleyGang" : Cond) ∈ nw_all := List.mem_of_getElem? (i := 61) rfl
theorem nq_62 : (.methodLinkNest "TrolleyGang$Ring" 70 ⟨"TrolleyGang$Wires", "thaw", "()V"⟩ "TrolleyGang" : Cond) ∈ nw_all := List.mem_of_getElem? (i := 62) rfl
theorem nq_63 : (.methodLinkNest "TrolleyGang$Ring" 90 ⟨"TrolleyGang$Wires", "isDown", "(I)Z"⟩ "TrolleyGang" : Cond) ∈ nw_all := List.mem_of_getElem? (i := 63) rfl
theorem nq_64 : (.methodLinkNest "TrolleyGang$Ring" 93 ⟨"TrolleyGang$Wires", "wear", "(II)V"⟩ "TrolleyGang" : Cond) ∈ nw_all := List.mem_of_getElem? (i := 64) rfl
theorem nq_65 : (.methodLinkNest "TrolleyGang$Ring" 79 ⟨"TrolleyGang$Tables", "fare", "(Z)I"⟩ "TrolleyGang" : Cond) ∈ nw_all := List.mem_of_getElem? (i := 65) rfl
theorem nq_66 : (.methodLinkNest "TrolleyGang$Ring" 122 ⟨"TrolleyGang$Gang", "goToFirst", "()V"⟩ "TrolleyGang" : Cond) ∈ nw_all := List.mem_of_getElem? (i := 66) rfl
theorem nq_67 : (.methodLinkNest "TrolleyGang$Ring" 141 ⟨"TrolleyGang$Wires", "mend", "(II)V"⟩ "TrolleyGang" : Cond) ∈ nw_all := List.mem_of_getElem? (i := 67) rfl
theorem nq_68 : (.methodLinkNest "TrolleyGang$Ring" 147 ⟨"TrolleyGang$Wires", "putUp", "(I)V"⟩ "TrolleyGang" : Cond) ∈ nw_all := List.mem_of_getElem? (i := 68) rfl
theorem nq_69 : (.methodLinkNest "TrolleyGang$Ring" 138 ⟨"TrolleyGang$Gang", "takeOut", "(I)V"⟩ "TrolleyGang" : Cond) ∈ nw_all := List.mem_of_getElem? (i := 69) rfl
theorem nq_70 : (.methodLinkNest "TrolleyGang" 189 ⟨"TrolleyGang$Ring", "copyFrom", "(LTrolleyGang$Ring;)V"⟩ "TrolleyGang" : Cond) ∈ nw_all := List.mem_of_getElem? (i := 70) rfl
theorem nq_71 : (.methodLinkNest "TrolleyGang$Ring" 32 ⟨"TrolleyGang$Wires", "copyFrom", "(LTrolleyGang$Wires;)V"⟩ "TrolleyGang" : Cond) ∈ nw_all := List.mem_of_getElem? (i := 71) rfl
theorem nq_72 : (.methodLinkNest "TrolleyGang$Ring" 36 ⟨"TrolleyGang$Gang", "copyFrom", "(LTrolleyGang$Gang;)V"⟩ "TrolleyGang" : Cond) ∈ nw_all := List.mem_of_getElem? (i := 72) rfl
theorem nq_73 : (.methodLinkNest "TrolleyGang$Ring" 43 ⟨"TrolleyGang$Bus", "copyFrom", "(LTrolleyGang$Bus;)V"⟩ "TrolleyGang" : Cond) ∈ nw_all := List.mem_of_getElem? (i := 73) rfl
theorem nq_74 : (.methodLinkNest "TrolleyGang" 223 ⟨"TrolleyGang$Gang", "haveOnly", "(I)V"⟩ "TrolleyGang" : Cond) ∈ nw_all := List.mem_of_getElem? (i := 74) rfl
def nw_is : Cond → Bool
  | .fieldLinkNest _ _ _ _ _ _ => true
  | .methodLinkNest _ _ _ _ => true
  | _ => false
theorem nw_all_is : nw_all.all nw_is = true := by decide +kernel
/-- the words of the nest mates' private members hold -/
def NW (U : State) : Prop := ∀ w ∈ nw_all, va_Nw w U
theorem NW.warm {s U : State} (hW : s.WarmedH U.vm) (h : NW s) : NW U := by
  intro w hw
  have h1 := List.all_eq_true.mp nw_all_is w hw
  have h2 := h w hw
  cases w <;> first
    | exact va_Nw.warmF hW h2
    | exact va_Nw.warmM hW h2
    | exact absurd h1 (by decide)
    | cases h1
theorem NW.same {s U : State} (hvm : s.vm = U.vm) (h : NW s) : NW U := by
  intro w hw
  have h1 := List.all_eq_true.mp nw_all_is w hw
  have h2 := h w hw
  cases w <;> first
    | exact va_Nw.same rfl hvm h2
    | exact absurd h1 (by decide)
    | cases h1
theorem NW.use {s : State} {args : Array Value} (h : NW s) {w : Cond} (hw : w ∈ nw_all) : w.before args s = true := by
  have h1 := List.all_eq_true.mp nw_all_is w hw
  have h2 := h w hw
  cases w <;> first
    | exact va_Nw.use rfl h2
    | exact absurd h1 (by decide)
    | cases h1
abbrev tysOf (cyI cyO cyL : ClassId) : List (ClassId × FieldType) := [(cyI, .int), (cyO, .object RX0), (cyL, .long)]
/-- what the tables say of the classes, the rows and the nest -/
def KK (D : va_G) (cyI cyO cyL : ClassId) (U : State) : Prop := va_K D vwCl (tysOf cyI cyO cyL) U ∧ NW U
theorem KK.warm {D : va_G} {cyI cyO cyL : ClassId} {s U : State} (hW : s.WarmedH U.vm) (h : KK D cyI cyO cyL s) : KK D cyI cyO cyL U := ⟨va_K.moved hW.alike h.1, h.2.warm hW⟩
/-- a method's start: the world W, the heap's size, the tables -/
def PP (D : va_G) (cyI cyO cyL : ClassId) (W : va_W) (sz : Nat) (U : State) : Prop := U.heap.size = sz ∧ va_P D vwCl W U.heap ∧ KK D cyI cyO cyL U ∧ va_D (fun _ => True) W
theorem PP_blind {D : va_G} {cyI cyO cyL : ClassId} {W : va_W} {sz : Nat} {As : List Value} : FrameBlind (va_Pc As (PP D cyI cyO cyL W sz)) := by
  intro a U g mk q
  obtain ⟨q0, q1, qP, qK, qD⟩ := q
  exact ⟨q0, q1, qP, ⟨va_K.moved (u := U) (U := U.calling g mk a) (Vm.Alike.refl U.vm) qK.1, NW.same (s := U) (U := U.calling g mk a) rfl qK.2⟩, qD⟩
/-- contracts: the world W becomes W', the answer is r -/
def cV (l : Launch) (y : MethodName) (wy : List Cond) (rm : Room) (D : va_G) (cyI cyO cyL : ClassId) (As : List Value) (W W' : va_W) : Prop :=
  ∀ sz : Nat, Met l y wy rm (va_Pc As (PP D cyI cyO cyL W sz)) (va_Qv (fun _ : Unit => True) (fun _ t => va_P D vwCl W' t.heap) (va_A W sz)) 0 0 (va_A W sz)
def cI (l : Launch) (y : MethodName) (wy : List Cond) (rm : Room) (D : va_G) (cyI cyO cyL : ClassId) (As : List Value) (W W' : va_W) (r : Int32) : Prop :=
  ∀ sz : Nat, Met l y wy rm (va_Pc As (PP D cyI cyO cyL W sz)) (va_Qi (fun (x : Int32) (_ : Unit) => x = r) (fun _ t => va_P D vwCl W' t.heap) (va_A W sz)) 0 0 (va_A W sz)
def cL (l : Launch) (y : MethodName) (wy : List Cond) (rm : Room) (D : va_G) (cyI cyO cyL : ClassId) (As : List Value) (W W' : va_W) (r : Int64) : Prop :=
  ∀ sz : Nat, Met l y wy rm (va_Pc As (PP D cyI cyO cyL W sz)) (va_Ql (fun (x : Int64) (_ : Unit) => x = r) (fun _ t => va_P D vwCl W' t.heap) (va_A W sz)) 0 0 (va_A W sz)
def cD (l : Launch) (y : MethodName) (wy : List Cond) (rm : Room) (D : va_G) (cyI cyO cyL : ClassId) (As : List Value) (W W' : va_W) (r : UInt64) : Prop :=
  ∀ sz : Nat, Met l y wy rm (va_Pc As (PP D cyI cyO cyL W sz)) (va_Qd (fun (x : UInt64) (_ : Unit) => x = r) (fun _ t => va_P D vwCl W' t.heap) (va_A W sz)) 0 0 (va_A W sz)
/-- cells of ws replaced, by their places -/
def rpl1 (ws : va_W) : List Nat → va_W → va_W
  | i :: is, q :: qs => rpl1 (ws.set i q) is qs
  | _, _ => ws
theorem rpl1_get : ∀ (is : List Nat) (W' ws : va_W) (k : Nat) (q : Nat × va_E), is.length = W'.length → (rpl1 ws is W')[k]? = some q → (∃ j : Nat, is[j]? = some k ∧ W'[j]? = some q) ∨ (k ∉ is ∧ ws[k]? = some q)
  | [], [], ws, k, q, _, h => Or.inr ⟨List.not_mem_nil, h⟩
  | i :: is, q0 :: W', ws, k, q, hl, h => by
    have hl' : is.length = W'.length := by simpa using hl
    rcases rpl1_get is W' (ws.set i q0) k q hl' h with ⟨j, h1, h2⟩ | ⟨h1, h2⟩
    · exact Or.inl ⟨j + 1, by simpa using h1, by simpa using h2⟩
    · by_cases hk : i = k
      · subst hk
        rw [List.getElem?_set] at h2
        refine Or.inl ⟨0, rfl, ?_⟩
        simp only [if_true] at h2
        split at h2
        · exact h2
        · cases h2
      · rw [List.getElem?_set_ne hk] at h2
        exact Or.inr ⟨fun h9 => (List.mem_cons.mp h9).elim (fun e => hk e.symm) h1, h2⟩
theorem rpl1_fst : ∀ (is : List Nat) (W' ws : va_W), (∀ (j i : Nat) (q : Nat × va_E), is[j]? = some i → W'[j]? = some q → ∃ r : Nat × va_E, ws[i]? = some r ∧ r.1 = q.1) → ∀ k : Nat, ((rpl1 ws is W')[k]?).map (fun q => q.1) = (ws[k]?).map (fun q => q.1)
  | [], W', _, _, _ => by cases W' <;> rfl
  | _ :: _, [], _, _, _ => rfl
  | i :: is, q0 :: W', ws, hj, k => by
    obtain ⟨r0, g1, g2⟩ := hj 0 i q0 rfl rfl
    have hset : ∀ z : Nat, ((ws.set i q0)[z]?).map (fun q => q.1) = (ws[z]?).map (fun q => q.1) := by
      intro z
      by_cases hz : i = z
      · subst hz
        have hlt : i < ws.length := (List.getElem?_eq_some_iff.mp g1).1
        rw [List.getElem?_set_self hlt, g1]
        exact congrArg some g2.symm
      · rw [List.getElem?_set_ne hz]
    have := rpl1_fst is W' (ws.set i q0) (fun j z q h1 h2 => by
      obtain ⟨r, e1, e2⟩ := hj (j + 1) z q (by simpa using h1) (by simpa using h2)
      have h3 := hset z
      rw [e1] at h3
      cases h4 : (ws.set i q0)[z]? with
      | none => rw [h4] at h3; cases h3
      | some r' =>
        rw [h4] at h3
        exact ⟨r', rfl, (Option.some.inj h3).trans e2⟩) k
    exact this.trans (hset k)
theorem va_D_fst {A : Nat → Prop} {ws ws1 : va_W} (h : ∀ k : Nat, (ws1[k]?).map (fun q => q.1) = (ws[k]?).map (fun q => q.1)) (hD : va_D A ws) : va_D A ws1 := by
  have key : ∀ (k : Nat) (q : Nat × va_E), ws1[k]? = some q → ∃ r : Nat × va_E, ws[k]? = some r ∧ r.1 = q.1 := by
    intro k q hq
    have h1 := h k
    rw [hq] at h1
    cases h4 : ws[k]? with
    | none => rw [h4] at h1; cases h1
    | some r => rw [h4] at h1; exact ⟨r, rfl, (Option.some.inj h1).symm⟩
  refine ⟨fun i j x y hi hj hxy => ?_, fun k q hk => ?_⟩
  · obtain ⟨r1, a1, b1⟩ := key i x hi
    obtain ⟨r2, a2, b2⟩ := key j y hj
    exact hD.1 i j r1 r2 a1 a2 (by rw [b1, b2, hxy])
  · obtain ⟨r, a1, b1⟩ := key k q hk
    have := hD.2 k r a1
    rw [b1] at this
    exact this
theorem at_places {is : List Nat} {ws w : va_W} (hs : is.map (fun i => ws[i]?) = w.map some) (k : Nat) (q : Nat × va_E) (hq : w[k]? = some q) : ∃ i, is[k]? = some i ∧ ws[i]? = some q := by
  have h1 : (is.map (fun i => ws[i]?))[k]? = some (some q) := by rw [hs, List.getElem?_map, hq]; rfl
  rw [List.getElem?_map] at h1
  cases hi : is[k]? with
  | none => rw [hi] at h1; cases h1
  | some i => rw [hi] at h1; exact ⟨i, rfl, Option.some.inj h1⟩
/-- behind a call: the callee's cells in their places, all else as it was -/
theorem call_post {A0 : Nat → Prop} {D : va_G} {cl : List vw_C} {ws W W' : va_W} {H H1 : Heap} (hP : va_P D cl ws H) (hD : va_D A0 ws) (isC : List Nat) (hC : isC.map (fun i => ws[i]?) = W.map some) (hf : W'.map (fun q => q.1) = W.map (fun q => q.1)) (hk : ∀ q : Nat, q < H.size → ¬ va_A W H.size q → H1[q]? = H[q]?) (hP1 : va_P D cl W' H1) : va_P D cl (rpl1 ws isC W') H1 ∧ va_D A0 (rpl1 ws isC W') := by
  have hlen : isC.length = W'.length := by
    have h1 := congrArg List.length hC
    have h2 := congrArg List.length hf
    simp only [List.length_map] at h1 h2
    omega
  refine ⟨fun k q hq => ?_, va_D_fst (rpl1_fst isC W' ws fun j i q h1 h2 => ?_) hD⟩
  · rcases rpl1_get isC W' ws k q hlen hq with ⟨j, h1, h2⟩ | ⟨h1, h2⟩
    · exact hP1 j q h2
    · have hl := (hP k q h2).lt
      refine (hP k q h2).kept (hk q.1 hl fun h => ?_)
      rcases h with ⟨k2, e, h⟩ | h
      · obtain ⟨j, h3, h4⟩ := at_places hC k2 (q.1, e) h
        have hij := hD.1 k j q (q.1, e) h2 h4 rfl
        subst hij
        exact h1 (List.mem_of_getElem? h3)
      · omega
  · have h3 : (W.map (fun q => q.1))[j]? = some q.1 := by rw [← hf, List.getElem?_map, h2]; rfl
    rw [List.getElem?_map] at h3
    cases h4 : W[j]? with
    | none => rw [h4] at h3; cases h3
    | some r =>
      rw [h4] at h3
      obtain ⟨i', e1, e2⟩ := at_places hC j r h4
      have : i' = i := Option.some.inj (e1.symm.trans h1)
      subst this
      exact ⟨r, e2, Option.some.inj h3⟩
/-- the same, where caller and callee share a tail of cells -/
theorem rpl1_app : ∀ (is : List Nat) (W' X pl : va_W), (∀ i ∈ is, i < X.length) → rpl1 (X ++ pl) is W' = rpl1 X is W' ++ pl
  | [], W', _, _, _ => by cases W' <;> rfl
  | _ :: _, [], _, _, _ => rfl
  | i :: is, q :: W', X, pl, h => by
    have hi : i < X.length := h i List.mem_cons_self
    show rpl1 ((X ++ pl).set i q) is W' = rpl1 (X.set i q) is W' ++ pl
    rw [List.set_append_left _ _ hi]
    exact rpl1_app is W' (X.set i q) pl (fun z hz => by rw [List.length_set]; exact h z (List.mem_cons_of_mem _ hz))
theorem rpl1_len : ∀ (is : List Nat) (W' X : va_W), (rpl1 X is W').length = X.length
  | [], W', _ => by cases W' <;> rfl
  | _ :: _, [], _ => rfl
  | i :: is, q :: W', X => by
    show (rpl1 (X.set i q) is W').length = X.length
    rw [rpl1_len is W' (X.set i q), List.length_set]
theorem call_postB {A0 : Nat → Prop} {D : va_G} {cl : List vw_C} {X cx cx' pl pl' : va_W} {H H1 : Heap} (hP : va_P D cl (X ++ pl) H) (hD : va_D A0 (X ++ pl)) (isC : List Nat) (hC : isC.map (fun i => X[i]?) = cx.map some) (hf : cx'.map (fun q => q.1) = cx.map (fun q => q.1)) (hfp : pl'.map (fun q => q.1) = pl.map (fun q => q.1)) (hk : ∀ q : Nat, q < H.size → ¬ va_A (cx ++ pl) H.size q → H1[q]? = H[q]?) (hP1 : va_P D cl (cx' ++ pl') H1) : va_P D cl (rpl1 X isC cx' ++ pl') H1 ∧ va_D A0 (rpl1 X isC cx' ++ pl') := by
  have hlen : isC.length = cx'.length := by
    have h1 := congrArg List.length hC
    have h2 := congrArg List.length hf
    simp only [List.length_map] at h1 h2
    omega
  have hXl := rpl1_len isC cx' X
  have hcl : cx'.length = cx.length := by simpa using congrArg List.length hf
  have hfst : ∀ k : Nat, ((rpl1 X isC cx')[k]?).map (fun q => q.1) = (X[k]?).map (fun q => q.1) := rpl1_fst isC cx' X fun j i q h1 h2 => by
    have h3 : (cx.map (fun q => q.1))[j]? = some q.1 := by rw [← hf, List.getElem?_map, h2]; rfl
    rw [List.getElem?_map] at h3
    cases h4 : cx[j]? with
    | none => rw [h4] at h3; cases h3
    | some r =>
      rw [h4] at h3
      obtain ⟨i', e1, e2⟩ := at_places hC j r h4
      have : i' = i := Option.some.inj (e1.symm.trans h1)
      subst this
      exact ⟨r, e2, Option.some.inj h3⟩
  refine ⟨fun k q hq => ?_, va_D_fst (fun k => ?_) hD⟩
  · by_cases hkl : k < X.length
    · rw [List.getElem?_append_left (by omega)] at hq
      rcases rpl1_get isC cx' X k q hlen hq with ⟨j, h1, h2⟩ | ⟨h1, h2⟩
      · refine hP1 j q ?_
        rw [List.getElem?_append_left (List.getElem?_eq_some_iff.mp h2).1]
        exact h2
      · have h2' : (X ++ pl)[k]? = some q := by rw [List.getElem?_append_left hkl]; exact h2
        have hl := (hP k q h2').lt
        refine (hP k q h2').kept (hk q.1 hl fun h => ?_)
        rcases h with ⟨k2, e, h⟩ | h
        · by_cases hk2 : k2 < cx.length
          · rw [List.getElem?_append_left hk2] at h
            obtain ⟨j, h3, h4⟩ := at_places hC k2 (q.1, e) h
            have h4' : (X ++ pl)[j]? = some (q.1, e) := by rw [List.getElem?_append_left (List.getElem?_eq_some_iff.mp h4).1]; exact h4
            have hij := hD.1 k j q (q.1, e) h2' h4' rfl
            subst hij
            exact h1 (List.mem_of_getElem? h3)
          · rw [List.getElem?_append_right (by omega)] at h
            have h4' : (X ++ pl)[X.length + (k2 - cx.length)]? = some (q.1, e) := by rw [List.getElem?_append_right (by omega)]; rw [show X.length + (k2 - cx.length) - X.length = k2 - cx.length by omega]; exact h
            have hij := hD.1 k _ q (q.1, e) h2' h4' rfl
            omega
        · omega
    · rw [List.getElem?_append_right (by omega), hXl] at hq
      refine hP1 (cx'.length + (k - X.length)) q ?_
      rw [List.getElem?_append_right (by omega), show cx'.length + (k - X.length) - cx'.length = k - X.length by omega]
      exact hq
  · by_cases hkl : k < X.length
    · rw [List.getElem?_append_left (by omega), List.getElem?_append_left hkl]
      exact hfst k
    · rw [List.getElem?_append_right (by omega), List.getElem?_append_right (by omega), hXl, ← List.getElem?_map, ← List.getElem?_map, hfp]
end
section
/-! rows over contracts that keep the cells' number: calls, arrays at vp_in, ends -/
theorem vp_lt {x : Int32} {n : Nat} (h : vp_in x n) : x.toNatClampNeg < n := Nat.not_le.mp fun q => h (Or.inr q)
theorem free_of {A : Nat → Prop} {W : va_W} {H0 H : Heap} {locs : List Loc} (hDc : va_D A W) (hS : va_S A H0 H locs) (hA : ∀ q, H0.size ≤ q → A q) : ∀ q, va_A W H.size q → A q := by
  intro q h
  rcases h with ⟨k, e, h⟩ | h
  · exact hDc.2 k (q, e) h
  · exact hA q (Nat.le_trans hS.1 h)
section MYR
variable {p : Program} {l : Launch} {e : Env} {R : Room} {s : State} {m : MethodId} {args : Array Value} {below : List Frame} {meth : Method} {c : Code} {H : Heap} {locs : List Loc} {cells slots : Nat} {Q : State → Prop}
variable {cc : ByteArray} {pc : Nat} {ls : Array Slot} {rest st0 : List Value} {D : va_G} {A : Nat → Prop} {a : Nat} {ws : va_W} {H0 : Heap} {cyI cyO cyL : ClassId} {ar : Array Value}
theorem lv_tope {x y : Int32} (e9 : x = y) (k : W p l e R s m args below meth c H locs cells slots Q (F0 m pc ls (.int y :: rest))) : W p l e R s m args below meth c H locs cells slots Q (F0 m pc ls (.int x :: rest)) := e9 ▸ k
theorem lv_topv {x y : Value} (e9 : x = y) (k : W p l e R s m args below meth c H locs cells slots Q (F0 m pc ls (y :: rest))) : W p l e R s m args below meth c H locs cells slots Q (F0 m pc ls (x :: rest)) := e9 ▸ k
/-- a loop, by a measure that falls -/
theorem wloop {σ : Type} (G : Nat → σ → Heap → List Loc → Array Slot → Prop)
    (step : ∀ (d : Nat) (x : σ) (H : Heap) (locs : List Loc) (ls : Array Slot), G d x H locs ls →
      (∀ (d' : Nat) (x' : σ) (H' : Heap) (locs' : List Loc) (ls' : Array Slot), d' < d → G d' x' H' locs' ls' → W p l e R s m args below meth c H' locs' cells slots Q (F0 m pc ls' st0)) →
      W p l e R s m args below meth c H locs cells slots Q (F0 m pc ls st0))
    (d : Nat) (x : σ) (H : Heap) (locs : List Loc) (ls : Array Slot) (h : G d x H locs ls) : W p l e R s m args below meth c H locs cells slots Q (F0 m pc ls st0) := by
  induction d using Nat.strongRecOn generalizing x H locs ls with
  | _ d ih => exact step d x H locs ls h fun d' x' H' locs' ls' hd h' => ih d' hd x' H' locs' ls' h'
/-- two roads that meet -/
theorem wjoin {σ : Type} {tgt : Nat} {ls0 : Array Slot} {st1 : σ → List Value} (G : σ → Heap → List Loc → Array Slot → Prop)
    (main : (∀ (x : σ) (H' : Heap) (locs' : List Loc) (ls' : Array Slot), G x H' locs' ls' → W p l e R s m args below meth c H' locs' cells slots Q (F0 m tgt ls' (st1 x))) → W p l e R s m args below meth c H locs cells slots Q (F0 m pc ls0 st0))
    (rest : ∀ (x : σ) (H' : Heap) (locs' : List Loc) (ls' : Array Slot), G x H' locs' ls' → W p l e R s m args below meth c H' locs' cells slots Q (F0 m tgt ls' (st1 x))) : W p l e R s m args below meth c H locs cells slots Q (F0 m pc ls0 st0) := main rest
theorem ret_v {W1 W2 : va_W} (hr : va_Run p l e R s m args below meth c H locs cells slots 0 0 (F0 m pc ls st0) rest (va_Qv (fun _ : Unit => True) (fun _ t => va_P D vwCl W2 t.heap) (va_A W1 H.size) ar) (va_A W1 H.size)) (hP : va_P D vwCl ws H) (hD : va_D A ws) (hS : va_S A H0 H locs) (hA : ∀ q, H0.size ≤ q → A q) (isC : List Nat) (hC : isC.map (fun i => ws[i]?) = W1.map some) (hf : W2.map (fun q => q.1) = W1.map (fun q => q.1))
    (kk : ∀ (H1 : Heap) (locs1 : List Loc), va_P D vwCl (rpl1 ws isC W2) H1 → va_D A (rpl1 ws isC W2) → va_S A H0 H1 locs1 → W p l e R s m args below meth c H1 locs1 cells slots Q (F0 m (pc + 3) ls rest)) : W p l e R s m args below meth c H locs cells slots Q (F0 m pc ls st0) := by
  have hF := va_free hD hS hA isC hC
  refine va_callv hr hS (fun q _ h => hF q h) hF (fun u t H1 locs ht hvm hw hB hz1 hk1 hS => ?_)
  rw [ht] at hB
  obtain ⟨a1, a2⟩ := call_post hP hD isC hC hf hk1 hB
  exact kk H1 locs a1 a2 hS
theorem ret_i {W1 W2 : va_W} {r : Int32} (hr : va_Run p l e R s m args below meth c H locs cells slots 0 0 (F0 m pc ls st0) rest (va_Qi (fun (x : Int32) (_ : Unit) => x = r) (fun _ t => va_P D vwCl W2 t.heap) (va_A W1 H.size) ar) (va_A W1 H.size)) (hP : va_P D vwCl ws H) (hD : va_D A ws) (hS : va_S A H0 H locs) (hA : ∀ q, H0.size ≤ q → A q) (isC : List Nat) (hC : isC.map (fun i => ws[i]?) = W1.map some) (hf : W2.map (fun q => q.1) = W1.map (fun q => q.1))
    (kk : ∀ (H1 : Heap) (locs1 : List Loc), va_P D vwCl (rpl1 ws isC W2) H1 → va_D A (rpl1 ws isC W2) → va_S A H0 H1 locs1 → W p l e R s m args below meth c H1 locs1 cells slots Q (F0 m (pc + 3) ls (.int r :: rest))) : W p l e R s m args below meth c H locs cells slots Q (F0 m pc ls st0) := by
  have hF := va_free hD hS hA isC hC
  refine va_calli hr hS (fun q _ h => hF q h) hF (fun r' u t H1 locs ht hvm hw hB hz1 hk1 hS => ?_)
  rw [ht] at hB
  subst hw
  obtain ⟨a1, a2⟩ := call_post hP hD isC hC hf hk1 hB
  exact kk H1 locs a1 a2 hS
theorem ret_l {W1 W2 : va_W} {r : Int64} (hr : va_Run p l e R s m args below meth c H locs cells slots 0 0 (F0 m pc ls st0) rest (va_Ql (fun (x : Int64) (_ : Unit) => x = r) (fun _ t => va_P D vwCl W2 t.heap) (va_A W1 H.size) ar) (va_A W1 H.size)) (hP : va_P D vwCl ws H) (hD : va_D A ws) (hS : va_S A H0 H locs) (hA : ∀ q, H0.size ≤ q → A q) (isC : List Nat) (hC : isC.map (fun i => ws[i]?) = W1.map some) (hf : W2.map (fun q => q.1) = W1.map (fun q => q.1))
    (kk : ∀ (H1 : Heap) (locs1 : List Loc), va_P D vwCl (rpl1 ws isC W2) H1 → va_D A (rpl1 ws isC W2) → va_S A H0 H1 locs1 → W p l e R s m args below meth c H1 locs1 cells slots Q (F0 m (pc + 3) ls (.long r :: rest))) : W p l e R s m args below meth c H locs cells slots Q (F0 m pc ls st0) := by
  have hF := va_free hD hS hA isC hC
  refine va_calll hr hS (fun q _ h => hF q h) hF (fun r' u t H1 locs ht hvm hw hB hz1 hk1 hS => ?_)
  rw [ht] at hB
  subst hw
  obtain ⟨a1, a2⟩ := call_post hP hD isC hC hf hk1 hB
  exact kk H1 locs a1 a2 hS
theorem ret_vB {X cx cx' pl pl' : va_W} (hr : va_Run p l e R s m args below meth c H locs cells slots 0 0 (F0 m pc ls st0) rest (va_Qv (fun _ : Unit => True) (fun _ t => va_P D vwCl (cx' ++ pl') t.heap) (va_A (cx ++ pl) H.size) ar) (va_A (cx ++ pl) H.size)) (hP : va_P D vwCl (X ++ pl) H) (hD : va_D A (X ++ pl)) (hS : va_S A H0 H locs) (hA : ∀ q, H0.size ≤ q → A q) (isC : List Nat) (hn : va_nd isC = true) (hC : isC.map (fun i => X[i]?) = cx.map some) (hf : cx'.map (fun q => q.1) = cx.map (fun q => q.1)) (hfp : pl'.map (fun q => q.1) = pl.map (fun q => q.1))
    (kk : ∀ (H1 : Heap) (locs1 : List Loc), va_P D vwCl (rpl1 X isC cx' ++ pl') H1 → va_D A (rpl1 X isC cx' ++ pl') → va_S A H0 H1 locs1 → W p l e R s m args below meth c H1 locs1 cells slots Q (F0 m (pc + 3) ls rest)) : W p l e R s m args below meth c H locs cells slots Q (F0 m pc ls st0) := by
  have hF := free_of (hD.part isC hn hC) hS hA
  refine va_callv hr hS (fun q _ h => hF q h) hF (fun u t H1 locs ht hvm hw hB hz1 hk1 hS => ?_)
  rw [ht] at hB
  obtain ⟨a1, a2⟩ := call_postB hP hD isC hC hf hfp hk1 hB
  exact kk H1 locs a1 a2 hS
theorem ret_iB {X cx cx' pl pl' : va_W} {r : Int32} (hr : va_Run p l e R s m args below meth c H locs cells slots 0 0 (F0 m pc ls st0) rest (va_Qi (fun (x : Int32) (_ : Unit) => x = r) (fun _ t => va_P D vwCl (cx' ++ pl') t.heap) (va_A (cx ++ pl) H.size) ar) (va_A (cx ++ pl) H.size)) (hP : va_P D vwCl (X ++ pl) H) (hD : va_D A (X ++ pl)) (hS : va_S A H0 H locs) (hA : ∀ q, H0.size ≤ q → A q) (isC : List Nat) (hn : va_nd isC = true) (hC : isC.map (fun i => X[i]?) = cx.map some) (hf : cx'.map (fun q => q.1) = cx.map (fun q => q.1)) (hfp : pl'.map (fun q => q.1) = pl.map (fun q => q.1))
    (kk : ∀ (H1 : Heap) (locs1 : List Loc), va_P D vwCl (rpl1 X isC cx' ++ pl') H1 → va_D A (rpl1 X isC cx' ++ pl') → va_S A H0 H1 locs1 → W p l e R s m args below meth c H1 locs1 cells slots Q (F0 m (pc + 3) ls (.int r :: rest))) : W p l e R s m args below meth c H locs cells slots Q (F0 m pc ls st0) := by
  have hF := free_of (hD.part isC hn hC) hS hA
  refine va_calli hr hS (fun q _ h => hF q h) hF (fun r' u t H1 locs ht hvm hw hB hz1 hk1 hS => ?_)
  rw [ht] at hB
  subst hw
  obtain ⟨a1, a2⟩ := call_postB hP hD isC hC hf hfp hk1 hB
  exact kk H1 locs a1 a2 hS
theorem end_v (hx : p.tables.exec = Jvm.exec) (hb : c.code = cc) (hr : meth.sig.returnType = none) (hlocks : meth.locks = false) {W2 : va_W} (hP : va_P D vwCl W2 H) (hS : va_S A s.heap H locs) (hdg : decode cc pc = .ok (.return_, 1)) : W p l e R s m args below meth c H locs cells slots (MQ below (va_Qv (fun _ : Unit => True) (fun _ t => va_P D vwCl W2 t.heap) A) args s cells slots A) (F0 m pc ls []) :=
  W.vret hx hb hr (fun t ht hW => ⟨⟨(), rfl, trivial, by show va_P D vwCl W2 t.heap; rw [ht]; exact hP⟩, hS.F ht⟩) hS.2.2 hdg hlocks
theorem end_i (hx : p.tables.exec = Jvm.exec) (hb : c.code = cc) (hr : meth.sig.returnType = some .int) (hlocks : meth.locks = false) {W2 : va_W} {v r : Int32} (hv : v = r) (hP : va_P D vwCl W2 H) (hS : va_S A s.heap H locs) (hdg : decode cc pc = .ok (.ireturn, 1)) : W p l e R s m args below meth c H locs cells slots (MQ below (va_Qi (fun (x : Int32) (_ : Unit) => x = r) (fun _ t => va_P D vwCl W2 t.heap) A) args s cells slots A) (F0 m pc ls [.int v]) :=
  W.iret hx hb hr (fun t ht hW => ⟨⟨v, (), rfl, hv, by show va_P D vwCl W2 t.heap; rw [ht]; exact hP⟩, hS.F ht⟩) hS.2.2 hdg hlocks
theorem nar01 {v : Int32} (h : v = 0 ∨ v = 1) : narrow .boolean (.int v) = .int v := by
  rcases h with rfl | rfl <;> rfl
theorem end_z (hx : p.tables.exec = Jvm.exec) (hb : c.code = cc) (hr : meth.sig.returnType = some .boolean) (hlocks : meth.locks = false) {W2 : va_W} {v r : Int32} (h01 : v = 0 ∨ v = 1) (hv : v = r) (hP : va_P D vwCl W2 H) (hS : va_S A s.heap H locs) (hdg : decode cc pc = .ok (.ireturn, 1)) : W p l e R s m args below meth c H locs cells slots (MQ below (va_Qi (fun (x : Int32) (_ : Unit) => x = r) (fun _ t => va_P D vwCl W2 t.heap) A) args s cells slots A) (F0 m pc ls [.int v]) :=
  W.zret hx hb hr (nar01 h01) (fun t ht hW => ⟨⟨v, (), rfl, hv, by show va_P D vwCl W2 t.heap; rw [ht]; exact hP⟩, hS.F ht⟩) hS.2.2 hdg hlocks
theorem end_l (hx : p.tables.exec = Jvm.exec) (hb : c.code = cc) (hr : meth.sig.returnType = some .long) (hlocks : meth.locks = false) {W2 : va_W} {v r : Int64} (hv : v = r) (hP : va_P D vwCl W2 H) (hS : va_S A s.heap H locs) (hdg : decode cc pc = .ok (.lreturn, 1)) : W p l e R s m args below meth c H locs cells slots (MQ below (va_Ql (fun (x : Int64) (_ : Unit) => x = r) (fun _ t => va_P D vwCl W2 t.heap) A) args s cells slots A) (F0 m pc ls [.long v]) :=
  W.lret hx hb hr (fun t ht hW => ⟨⟨v, (), rfl, hv, by show va_P D vwCl W2 t.heap; rw [ht]; exact hP⟩, hS.F ht⟩) hS.2.2 hdg hlocks
theorem end_d (hx : p.tables.exec = Jvm.exec) (hb : c.code = cc) (hr : meth.sig.returnType = some .double) (hlocks : meth.locks = false) {W2 : va_W} {v r : UInt64} (hv : v = r) (hP : va_P D vwCl W2 H) (hS : va_S A s.heap H locs) (hdg : decode cc pc = .ok (.dreturn, 1)) : W p l e R s m args below meth c H locs cells slots (MQ below (va_Qd (fun (x : UInt64) (_ : Unit) => x = r) (fun _ t => va_P D vwCl W2 t.heap) A) args s cells slots A) (F0 m pc ls [.double v]) :=
  W.dret hx hb hr (fun t ht hW => ⟨⟨v, (), rfl, hv, by show va_P D vwCl W2 t.heap; rw [ht]; exact hP⟩, hS.F ht⟩) hS.2.2 hdg hlocks
variable {y : MethodName} {bytes : ByteArray} {maxL nL n index : Nat} {ret : Option FieldType} {wy ws' Ts : List Cond} {rm : Room} {Qc : Array Value → State → Outcome → State → Prop} {free : Addr → Prop} {own host : String} {b : Addr} {As : List Value} {W1 : va_W}
theorem run_VN (S : CallFix p m c cc nL s args Ts own) (hM : Met l y wy rm (va_Pc (.ref b :: As) (PP D cyI cyO cyL W1 H.size)) Qc 0 0 free)
    (gg : GoodIn Ts wy) (hw : wy = Cond.code y bytes maxL ret :: ws') (hrc : rm.cells = 0) (hrs : rm.slots = 0) (hl : Cond.methodLinkNest own index y host ∈ nw_all) (hini : (Cond.initialized y.cls).before args s = true) (hin : (Cond.instanceMethod y).before args s = true)
    {q : vw_C} (hse : (Cond.selects q.1 y y).before args s = true) (hd : y.cls ≠ "java/lang/invoke/MethodHandle" ∧ y.cls ≠ "java/lang/invoke/VarHandle" ∧ (parseMethodDescriptor y.desc).map (fun d => d.parameters.length) = some n) (hR : rm.frames + 1 ≤ R.frames ∧ 8 + (maxL + 11) + rm.locals ≤ R.locals)
    (hKK : KK D cyI cyO cyL s) (hPc : va_P D vwCl W1 H) (hDc : va_D A W1) {q0 ci : Nat} {fs : List Value} (hc : vwCl[ci]? = some q) (he : W1[q0]? = some (b, .inr (ci, fs)))
    (hn : As.length = n) (hsize : ls.size = nL) (hst : st0 = As.reverse ++ .ref b :: rest) (hcat : (rest.map fun v => v.category).sum ≤ 8) (hdg : decode cc pc = .ok (.invokevirtual index, 3)) (hf : cells ≤ R.cells ∧ slots ≤ R.slots) :
    va_Run p l e R s m args below meth c H locs cells slots 0 0 (F0 m pc ls st0) rest (Qc (Value.ref b :: As).toArray) free :=
  va_runVN (C := q.1) S hM ⟨va_cnB n S.2.2.2.2 gg hw hrc hrs (hKK.2 _ hl) hini hd hR, hin, hse⟩ ⟨PP_blind, va_recv hKK.1 hPc hc he, fun U hU hW => ⟨rfl, by rw [hU], by rw [hU]; exact hPc, hKK.warm hW, hDc.weaken (fun _ _ _ _ => trivial)⟩⟩ rfl hn hsize hst (lv_room hcat) hdg hf
theorem run_V (S : CallFix p m c cc nL s args Ts own) (hM : Met l y wy rm (va_Pc (.ref b :: As) (PP D cyI cyO cyL W1 H.size)) Qc 0 0 free)
    (gg : GoodIn Ts wy) (hw : wy = Cond.code y bytes maxL ret :: ws') (hrc : rm.cells = 0) (hrs : rm.slots = 0) (hl : (Cond.methodLink own index y).before args s = true) (hini : (Cond.initialized y.cls).before args s = true) (hin : (Cond.instanceMethod y).before args s = true)
    {q : vw_C} (hse : (Cond.selects q.1 y y).before args s = true) (hd : y.cls ≠ "java/lang/invoke/MethodHandle" ∧ y.cls ≠ "java/lang/invoke/VarHandle" ∧ (parseMethodDescriptor y.desc).map (fun d => d.parameters.length) = some n) (hR : rm.frames + 1 ≤ R.frames ∧ 8 + (maxL + 11) + rm.locals ≤ R.locals)
    (hKK : KK D cyI cyO cyL s) (hPc : va_P D vwCl W1 H) (hDc : va_D A W1) {q0 ci : Nat} {fs : List Value} (hc : vwCl[ci]? = some q) (he : W1[q0]? = some (b, .inr (ci, fs)))
    (hn : As.length = n) (hsize : ls.size = nL) (hst : st0 = As.reverse ++ .ref b :: rest) (hcat : (rest.map fun v => v.category).sum ≤ 8) (hdg : decode cc pc = .ok (.invokevirtual index, 3)) (hf : cells ≤ R.cells ∧ slots ≤ R.slots) :
    va_Run p l e R s m args below meth c H locs cells slots 0 0 (F0 m pc ls st0) rest (Qc (Value.ref b :: As).toArray) free :=
  va_runV (C := q.1) S hM ⟨callB_of n S.2.2.2.2 gg hw hrc hrs hini hl hd hR, hin, hse⟩ ⟨PP_blind, va_recv hKK.1 hPc hc he, fun U hU hW => ⟨rfl, by rw [hU], by rw [hU]; exact hPc, hKK.warm hW, hDc.weaken (fun _ _ _ _ => trivial)⟩⟩ rfl hn hsize hst (lv_room hcat) hdg hf
theorem run_SN (S : CallFix p m c cc nL s args Ts own) (hM : Met l y wy rm (va_Pc As (PP D cyI cyO cyL W1 H.size)) Qc 0 0 free)
    (gg : GoodIn Ts wy) (hw : wy = Cond.code y bytes maxL ret :: ws') (hrc : rm.cells = 0) (hrs : rm.slots = 0) (hl : Cond.methodLinkNest own index y host ∈ nw_all) (hini : (Cond.initialized y.cls).before args s = true) (hsc : (Cond.static y).before args s = true)
    (hd : y.cls ≠ "java/lang/invoke/MethodHandle" ∧ y.cls ≠ "java/lang/invoke/VarHandle" ∧ (parseMethodDescriptor y.desc).map (fun d => d.parameters.length) = some n) (hR : rm.frames + 1 ≤ R.frames ∧ 8 + (maxL + 11) + rm.locals ≤ R.locals)
    (hKK : KK D cyI cyO cyL s) (hPc : va_P D vwCl W1 H) (hDc : va_D A W1)
    (hn : As.length = n) (hsize : ls.size = nL) (hst : st0 = As.reverse ++ rest) (hcat : (rest.map fun v => v.category).sum ≤ 8) (hdg : decode cc pc = .ok (.invokestatic index, 3)) (hf : cells ≤ R.cells ∧ slots ≤ R.slots) :
    va_Run p l e R s m args below meth c H locs cells slots 0 0 (F0 m pc ls st0) rest (Qc As.toArray) free :=
  va_runSN S hM ⟨va_cnB n S.2.2.2.2 gg hw hrc hrs (hKK.2 _ hl) hini hd hR, hsc, trivial⟩ ⟨PP_blind, fun U hU hW => ⟨rfl, by rw [hU], by rw [hU]; exact hPc, hKK.warm hW, hDc.weaken (fun _ _ _ _ => trivial)⟩⟩ rfl hn hsize hst (lv_room hcat) hdg hf
theorem run_S (S : CallFix p m c cc nL s args Ts own) (hM : Met l y wy rm (va_Pc As (PP D cyI cyO cyL W1 H.size)) Qc 0 0 free)
    (gg : GoodIn Ts wy) (hw : wy = Cond.code y bytes maxL ret :: ws') (hrc : rm.cells = 0) (hrs : rm.slots = 0) (hl : (Cond.methodLink own index y).before args s = true) (hini : (Cond.initialized y.cls).before args s = true) (hsc : (Cond.static y).before args s = true)
    (hd : y.cls ≠ "java/lang/invoke/MethodHandle" ∧ y.cls ≠ "java/lang/invoke/VarHandle" ∧ (parseMethodDescriptor y.desc).map (fun d => d.parameters.length) = some n) (hR : rm.frames + 1 ≤ R.frames ∧ 8 + (maxL + 11) + rm.locals ≤ R.locals)
    (hKK : KK D cyI cyO cyL s) (hPc : va_P D vwCl W1 H) (hDc : va_D A W1)
    (hn : As.length = n) (hsize : ls.size = nL) (hst : st0 = As.reverse ++ rest) (hcat : (rest.map fun v => v.category).sum ≤ 8) (hdg : decode cc pc = .ok (.invokestatic index, 3)) (hf : cells ≤ R.cells ∧ slots ≤ R.slots) :
    va_Run p l e R s m args below meth c H locs cells slots 0 0 (F0 m pc ls st0) rest (Qc As.toArray) free :=
  va_runS S hM ⟨callB_of n S.2.2.2.2 gg hw hrc hrs hini hl hd hR, hsc⟩ ⟨PP_blind, fun U hU hW => ⟨rfl, by rw [hU], by rw [hU]; exact hPc, hKK.warm hW, hDc.weaken (fun _ _ _ _ => trivial)⟩⟩ rfl hn hsize hst (lv_room hcat) hdg hf
/-! the buses: a pool of cells, by address and field -/
variable {index' : Nat} {X : va_W} {LB : List Nat} {B : Nat → Nat → Int32}
end MYR
def bE (B : Nat → Nat → Int32) : Nat → va_E := fun a => .inr (0, [.int (B a 0), .int (B a 1), .int (B a 2), .int (B a 3), .int (B a 4), .int (B a 5)])
def up2 (B : Nat → Nat → Int32) (b k : Nat) (v : Int32) : Nat → Nat → Int32 := fun a j => if j = k ∧ a = b then v else B a j
abbrev pB (LB : List Nat) (B : Nat → Nat → Int32) : va_W := va_pl LB (bE B)
theorem pB_fst {LB : List Nat} {B B' : Nat → Nat → Int32} : (pB LB B').map (fun q => q.1) = (pB LB B).map (fun q => q.1) := by
  simp [pB, va_pl]
theorem bE_up {B : Nat → Nat → Int32} {b k : Nat} (hk : k < 6) (v : Int32) (a : Nat) : va_up (bE B) b (.inr (0, ([.int (B b 0), .int (B b 1), .int (B b 2), .int (B b 3), .int (B b 4), .int (B b 5)] : List Value).set k (.int v))) a = bE (up2 B b k v) a := by
  by_cases h : a = b
  · subst h
    match k, hk with
    | 0, _ => simp [va_up, bE, up2]
    | 1, _ => simp [va_up, bE, up2]
    | 2, _ => simp [va_up, bE, up2]
    | 3, _ => simp [va_up, bE, up2]
    | 4, _ => simp [va_up, bE, up2]
    | 5, _ => simp [va_up, bE, up2]
  · simp [va_up, bE, up2, h]
theorem bE_at {B : Nat → Nat → Int32} {b k : Nat} (hk : k < 6) : ([.int (B b 0), .int (B b 1), .int (B b 2), .int (B b 3), .int (B b 4), .int (B b 5)] : List Value)[k]? = some (.int (B b k)) := by
  match k, hk with
  | 0, _ => rfl
  | 1, _ => rfl
  | 2, _ => rfl
  | 3, _ => rfl
  | 4, _ => rfl
  | 5, _ => rfl
section MYB
variable {p : Program} {l : Launch} {e : Env} {R : Room} {s : State} {m : MethodId} {args : Array Value} {below : List Frame} {meth : Method} {c : Code} {H : Heap} {locs : List Loc} {cells slots : Nat} {Q : State → Prop}
variable {cc : ByteArray} {pc : Nat} {ls : Array Slot} {rest st0 : List Value} {D : va_G} {A : Nat → Prop} {H0 : Heap} {cyI cyO cyL : ClassId} {own host ref : String} {index : Nat} {Ts : List Cond} {X : va_W} {LB : List Nat} {B : Nat → Nat → Int32} {b : Nat}
theorem bus_getN (hx : p.tables.exec = Jvm.exec) (hb : c.code = cc) (hts : ∀ w ∈ Ts, w.before args s = true) (hin : ∀ w ∈ wsX00, w ∈ Ts) (hown : s.vm.findClass own = some m.cls) (hKK : KK D cyI cyO cyL s) (hP : va_P D vwCl (X ++ pB LB B) H) (hL : b ∈ LB) (k : Nat) (hk : k < 6) (hlink : (Cond.fieldLinkNest own index ref (TX0 k).2.1 (TX0 k).2.2.1 host).before args s = true) (hsame : ∀ x, s.fieldFound? (TX0 k).1 (TX0 k).2.1 (TX0 k).2.2.1 = some x → s.fieldFound? ref (TX0 k).2.1 (TX0 k).2.2.1 = some x) (hdg : decode cc pc = .ok (.getfield index, 3))
    (kk : W p l e R s m args below meth c H locs cells slots Q (F0 m (pc + 3) ls (.int (B b k) :: rest))) : W p l e R s m args below meth c H locs cells slots Q (F0 m pc ls (.ref b :: rest)) := by
  obtain ⟨q0, hq⟩ := va_pl_get (X := X) (f := bE B) hL
  exact va_getN (C := RX0) (T := TX0) (N := 6) hx hb hts hin hown hKK.1 hP q0 hq rfl k hk hlink hsame (bE_at hk) hdg kk
theorem bus_get (hx : p.tables.exec = Jvm.exec) (hb : c.code = cc) (hts : ∀ w ∈ Ts, w.before args s = true) (hin : ∀ w ∈ wsX00, w ∈ Ts) (hown : s.vm.findClass own = some m.cls) (hKK : KK D cyI cyO cyL s) (hP : va_P D vwCl (X ++ pB LB B) H) (hL : b ∈ LB) (k : Nat) (hk : k < 6) (hlink : (Cond.fieldLink own index ref (TX0 k).2.1 (TX0 k).2.2.1).before args s = true) (hsame : ∀ x, s.fieldFound? (TX0 k).1 (TX0 k).2.1 (TX0 k).2.2.1 = some x → s.fieldFound? ref (TX0 k).2.1 (TX0 k).2.2.1 = some x) (hdg : decode cc pc = .ok (.getfield index, 3))
    (kk : W p l e R s m args below meth c H locs cells slots Q (F0 m (pc + 3) ls (.int (B b k) :: rest))) : W p l e R s m args below meth c H locs cells slots Q (F0 m pc ls (.ref b :: rest)) := by
  obtain ⟨q0, hq⟩ := va_pl_get (X := X) (f := bE B) hL
  exact va_get (C := RX0) (T := TX0) (N := 6) hx hb hts hin hown hKK.1 hP q0 hq rfl k hk hlink hsame (bE_at hk) hdg kk
theorem bus_putN (hx : p.tables.exec = Jvm.exec) (hb : c.code = cc) (hts : ∀ w ∈ Ts, w.before args s = true) (hin : ∀ w ∈ wsX00, w ∈ Ts) (hown : s.vm.findClass own = some m.cls) (hKK : KK D cyI cyO cyL s) (hP : va_P D vwCl (X ++ pB LB B) H) (hD : va_D A (X ++ pB LB B)) (hS : va_S A H0 H locs) (hL : b ∈ LB) (k : Nat) (hk : k < 6) (hlink : (Cond.fieldLinkNest own index ref (TX0 k).2.1 (TX0 k).2.2.1 host).before args s = true) (hsame : ∀ x, s.fieldFound? (TX0 k).1 (TX0 k).2.1 (TX0 k).2.2.1 = some x → s.fieldFound? ref (TX0 k).2.1 (TX0 k).2.2.1 = some x) (hfin : (TX0 k).2.2.2 = false) {ty : FieldType} {v : Int32} (hd : parseFieldDescriptor (TX0 k).2.2.1 = some ty) (hn : narrow ty (.int v) = .int v) (hfit : fits ty (.int v) = true) (hdg : decode cc pc = .ok (.putfield index, 3))
    (kk : ∀ (H1 : Heap) (locs1 : List Loc), va_P D vwCl (X ++ pB LB (up2 B b k v)) H1 → va_D A (X ++ pB LB (up2 B b k v)) → va_S A H0 H1 locs1 → W p l e R s m args below meth c H1 locs1 cells slots Q (F0 m (pc + 3) ls rest)) : W p l e R s m args below meth c H locs cells slots Q (F0 m pc ls (.int v :: .ref b :: rest)) := by
  obtain ⟨q0, hq⟩ := va_pl_get (X := X) (f := bE B) hL
  have e9 := (va_pl_set (e := .inr (0, ([.int (B b 0), .int (B b 1), .int (B b 2), .int (B b 3), .int (B b 4), .int (B b 5)] : List Value).set k (.int v))) hD hL hq).trans (congrArg (fun z => X ++ z) (va_pl_congr (bE_up hk v)))
  refine va_putN (C := RX0) (T := TX0) (N := 6) hx hb hts hin tyX0 tyX0_ok nmX0 hown hKK.1 hP hD hS q0 hq rfl k hk hlink hsame hfin hd hn hfit (by simpa using hk) hdg (fun H1 locs1 hP1 hD1 hS1 => ?_)
  rw [e9] at hP1 hD1
  exact kk H1 locs1 hP1 hD1 hS1
theorem bus_put (hx : p.tables.exec = Jvm.exec) (hb : c.code = cc) (hts : ∀ w ∈ Ts, w.before args s = true) (hin : ∀ w ∈ wsX00, w ∈ Ts) (hown : s.vm.findClass own = some m.cls) (hKK : KK D cyI cyO cyL s) (hP : va_P D vwCl (X ++ pB LB B) H) (hD : va_D A (X ++ pB LB B)) (hS : va_S A H0 H locs) (hL : b ∈ LB) (k : Nat) (hk : k < 6) (hlink : (Cond.fieldLink own index ref (TX0 k).2.1 (TX0 k).2.2.1).before args s = true) (hsame : ∀ x, s.fieldFound? (TX0 k).1 (TX0 k).2.1 (TX0 k).2.2.1 = some x → s.fieldFound? ref (TX0 k).2.1 (TX0 k).2.2.1 = some x) (hfin : (TX0 k).2.2.2 = false) {ty : FieldType} {v : Int32} (hd : parseFieldDescriptor (TX0 k).2.2.1 = some ty) (hn : narrow ty (.int v) = .int v) (hfit : fits ty (.int v) = true) (hdg : decode cc pc = .ok (.putfield index, 3))
    (kk : ∀ (H1 : Heap) (locs1 : List Loc), va_P D vwCl (X ++ pB LB (up2 B b k v)) H1 → va_D A (X ++ pB LB (up2 B b k v)) → va_S A H0 H1 locs1 → W p l e R s m args below meth c H1 locs1 cells slots Q (F0 m (pc + 3) ls rest)) : W p l e R s m args below meth c H locs cells slots Q (F0 m pc ls (.int v :: .ref b :: rest)) := by
  obtain ⟨q0, hq⟩ := va_pl_get (X := X) (f := bE B) hL
  have e9 := (va_pl_set (e := .inr (0, ([.int (B b 0), .int (B b 1), .int (B b 2), .int (B b 3), .int (B b 4), .int (B b 5)] : List Value).set k (.int v))) hD hL hq).trans (congrArg (fun z => X ++ z) (va_pl_congr (bE_up hk v)))
  refine va_put (C := RX0) (T := TX0) (N := 6) hx hb hts hin tyX0 tyX0_ok nmX0 hown hKK.1 hP hD hS q0 hq rfl k hk hlink hsame hfin hd hn hfit (by simpa using hk) hdg (fun H1 locs1 hP1 hD1 hS1 => ?_)
  rw [e9] at hP1 hD1
  exact kk H1 locs1 hP1 hD1 hS1
end MYB
end
section
/-! the worlds, and what each method of the class does to its numbers -/
abbrev cW (cyI : ClassId) (aW aw af : Nat) (w f : Nat → Int32) : va_W := [(aW, .inr (4, [.ref aw, .ref af])), (aw, .inl (cyI, 24, .inl w)), (af, .inl (cyI, 24, .inl f))]
abbrev cG (cyI : ClassId) (aG ao : Nat) (od g : Nat → Int32) : va_W := [(aG, .inr (1, [.ref ao, .int (g 0), .int (g 1), .int (g 2), .int (g 3), .int (g 4)])), (ao, .inl (cyI, 6, .inl od))]
abbrev cT (cyI : ClassId) (aT ac as_ : Nat) (cd sw : Nat → Int32) (fd fn : Int32) : va_W := [(aT, .inr (3, [.ref ac, .ref as_, .int fd, .int fn])), (ac, .inl (cyI, 8, .inl cd)), (as_, .inl (cyI, 12, .inl sw))]
abbrev cR (cyI cyO : ClassId) (aR aW aw af aG ao aB : Nat) (ab : Nat → Nat) (w f od g : Nat → Int32) (bc hr co : Int32) : va_W := [(aR, .inr (2, [.ref aW, .ref aG, .ref aB, .int bc, .int hr, .int co])), (aW, .inr (4, [.ref aw, .ref af])), (aw, .inl (cyI, 24, .inl w)), (af, .inl (cyI, 24, .inl f)), (aG, .inr (1, [.ref ao, .int (g 0), .int (g 1), .int (g 2), .int (g 3), .int (g 4)])), (ao, .inl (cyI, 6, .inl od)), (aB, .inl (cyO, 6, .inr (.inr (.inr (.inr (fun k => some (ab k)))))))]
abbrev cX (aX aT aN aA : Nat) : va_W := [(aX, .inr (5, [.ref aT, .ref aN, .ref aA]))]
abbrev cM (aM ac as_ an ah : Nat) (th bu fd fn : Int32) : va_W := [(aM, .inr (6, [.int th, .int bu, .int fd, .int fn, .ref ac, .ref as_, .ref an, .ref ah]))]
abbrev cA (cyI : ClassId) (a n : Nat) (f : Nat → Int32) : va_W := [(a, .inl (cyI, n, .inl f))]
abbrev mmin (x y : Int32) : Int32 := if y < x then y else x
abbrev mmax (x y : Int32) : Int32 := if x < y then y else x
abbrev ir (x y : Int32) : Int32 := x - x / y * y
theorem fit01 {v : Int32} (h : v = 0 ∨ v = 1) : fits .boolean (.int v) = true := by
  rcases h with rfl | rfl <;> rfl
theorem ir_nI {a N : Nat} (ha : a < 2 ^ 31) (h0 : 0 < N) (hN : N < 2 ^ 31) : ir (nI a) (nI N) = nI (a % N) := pk_rem ha h0 hN
theorem ir24 {a : Nat} (ha : a < 2 ^ 31) : ir (nI a) 24 = nI (a % 24) := ir_nI ha (by decide) (by decide)
theorem spu_in {s_ : Int32} {i : Nat} (hs : vp_in s_ 24) (hi : i < 24) : vp_in (ir (s_ + nI i + 1) 24) 24 := by
  obtain ⟨j, hj, rfl⟩ := vp_in_of hs (by omega)
  rw [nI_add, nI_1, ir24 (by omega)]
  exact vp_in_nI (Nat.mod_lt _ (by omega)) (by omega)
theorem nxt_in {x : Int32} (hs : vp_in x 24) : vp_in (ir (x + 1) 24) 24 := by
  obtain ⟨j, hj, rfl⟩ := vp_in_of hs (by omega)
  rw [nI_1, ir24 (by omega)]
  exact vp_in_nI (Nat.mod_lt _ (by omega)) (by omega)
def oneI (b : Int32) : Int32 := if b = 0 then 0 else 1
-- Wires
def dnI (w : Nat → Int32) (i : Int32) : Int32 := if w i.toNatClampNeg < 100 then 0 else 1
def wearS (w : Nat → Int32) (i by_ : Int32) : Nat → Int32 := upd w i.toNatClampNeg (mmin 100 (w i.toNatClampNeg + by_))
def mendS (w : Nat → Int32) (i by_ : Int32) : Nat → Int32 := upd w i.toNatClampNeg (mmax 0 (w i.toNatClampNeg - by_))
def putS (w : Nat → Int32) (i : Int32) : Nat → Int32 := upd w i.toNatClampNeg 50
def frzL (cold : Int32) : Nat → Nat → (Nat → Int32) → (Nat → Int32)
  | 0, _, f => f
  | d + 1, i, f => frzL cold d (i + 1) (upd f i (mmin 9 (f i + cold)))
def thwL : Nat → Nat → (Nat → Int32) → (Nat → Int32)
  | 0, _, f => f
  | d + 1, i, f => thwL d (i + 1) (upd f i (mmax 0 (f i - 2)))
def sumL (f : Nat → Int32) : Nat → Nat → Int32 → Int32
  | 0, _, a => a
  | d + 1, i, a => sumL f d (i + 1) (a + f i)
def spdL (w : Nat → Int32) : Nat → Nat → Int32 → Int32
  | 0, _, a => a
  | d + 1, i, a => spdL w d (i + 1) (a + oneI (dnI w (nI i)))
def spuL (w : Nat → Int32) (s : Int32) : Nat → Nat → Int32
  | 0, i => nI i
  | d + 1, i => if dnI w (ir (s + nI i + 1) 24) = 0 then spuL w s d (i + 1) else nI i
-- Gang: g 0 orders, 1 at, 2 works at the first, 3 works in all, 4 put up in all
def pofL (od : Nat → Int32) (x : Int32) : Nat → Nat → Int32
  | 0, _ => -1
  | d + 1, i => if od i = x then nI i else pofL od x d (i + 1)
def tkL : Nat → Nat → (Nat → Int32) → (Nat → Int32)
  | 0, _, od => od
  | d + 1, i, od => tkL d (i + 1) (upd od (i - 1) (od i))
def takeS (od g : Nat → Int32) (p n : Nat) : (Nat → Int32) × (Nat → Int32) := (tkL (n - (p + 1)) (p + 1) od, if nI p = 0 then upd (upd g 0 (g 0 - 1)) 2 0 else upd g 0 (g 0 - 1))
def haveS (od g : Nat → Int32) (x : Int32) : (Nat → Int32) × (Nat → Int32) := if x = -1 then (od, upd (upd g 0 0) 2 0) else (upd od 0 x, upd (upd (upd g 0 0) 2 0) 0 1)
def upS (od g : Nat → Int32) : Int32 := ir (od 0 - g 1 + 24) 24
def hrsS (od g : Nat → Int32) : Int32 := if g 0 = 0 then -1 else (mmin (upS od g) (24 - upS od g) + 4 - 1) / 4
def wayS (od g : Nat → Int32) : Int32 := if 24 - upS od g < upS od g then -(mmin (24 - upS od g) 4) else mmin (upS od g) 4
def goS (od g : Nat → Int32) : Nat → Int32 := upd g 1 (ir (g 1 + wayS od g + 24) 24)
def gcp (g g2 : Nat → Int32) : Nat → Int32 := upd (upd (upd (upd (upd g 0 (g2 0)) 1 (g2 1)) 2 (g2 2)) 3 (g2 3)) 4 (g2 4)
-- Bus: 0 at, 1 scraper, 2 runs, 3 spans, 4 fares, 5 stuck
def comeS (B : Nat → Nat → Int32) (b : Nat) (s_ c_ : Int32) : Nat → Nat → Int32 := up2 (up2 (up2 B b 0 s_) b 1 c_) b 2 1
def bcp (B : Nat → Nat → Int32) (b b2 : Nat) : Nat → Nat → Int32 := up2 (up2 (up2 (up2 (up2 (up2 B b 0 (B b2 0)) b 1 (B b2 1)) b 2 (B b2 2)) b 3 (B b2 3)) b 4 (B b2 4)) b 5 (B b2 5)
def fareS (i fd fn : Int32) : Int32 := if i = 0 then fd else fn
def ntI (h : Int32) : Int32 := if ir h 24 ≤ 5 then 1 else if ir h 24 < 20 then 0 else 1
-- Ring
def swanS (w : Nat → Int32) (s_ : Int32) : Nat → Int32 := if s_ = -1 then w else if dnI w s_ = 0 then wearS w s_ 25 else w
abbrev Q4 : Type := (Nat → Int32) × (Nat → Int32) × (Nat → Nat → Int32) × Int32
def nxS (B : Nat → Nat → Int32) (b : Nat) : Int32 := ir (B b 0 + 1) 24
def B1S (B : Nat → Nat → Int32) (b : Nat) (fare : Int32) : Nat → Nat → Int32 := up2 (up2 (up2 B b 0 (nxS B b)) b 3 (B b 3 + 1)) b 4 (B b 4 + fare)
def f1S (f : Nat → Int32) (B : Nat → Nat → Int32) (b : Nat) : Nat → Int32 := if B b 1 = 0 then f else upd f (nxS B b).toNatClampNeg 0
def w1S (w f : Nat → Int32) (B : Nat → Nat → Int32) (b : Nat) : Nat → Int32 := wearS w (nxS B b) (if B b 1 = 0 then 1 + f (nxS B b).toNatClampNeg / 2 else 2)
def drvL (b : Nat) (fare : Int32) : Nat → (Nat → Int32) → (Nat → Int32) → (Nat → Nat → Int32) → Int32 → Q4
  | 0, w, f, B, co => (w, f, B, co)
  | d + 1, w, f, B, co => if dnI w (nxS B b) = 0 then (if dnI (w1S w f B b) (nxS B b) = 0 then drvL b fare d (w1S w f B b) (f1S f B b) (B1S B b fare) (co + fare) else (w1S w f B b, f1S f B b, B1S B b fare, co + fare)) else (w, f, up2 B b 5 (B b 5 + 1), co)
def driveS (b : Nat) (fare : Int32) (w f : Nat → Int32) (B : Nat → Nat → Int32) (co : Int32) : Q4 := if B b 2 = 0 then (w, f, B, co) else drvL b fare 3 w f B co
def busL (ab : Nat → Nat) (fare : Int32) : Nat → Nat → (Nat → Int32) → (Nat → Int32) → (Nat → Nat → Int32) → Int32 → Q4
  | 0, _, w, f, B, co => (w, f, B, co)
  | d + 1, i, w, f, B, co => busL ab fare d (i + 1) (driveS (ab i) fare w f B co).1 (driveS (ab i) fare w f B co).2.1 (driveS (ab i) fare w f B co).2.2.1 (driveS (ab i) fare w f B co).2.2.2
def iodS (w g : Nat → Int32) (s_ : Int32) : Int32 × (Nat → Int32) × (Nat → Int32) :=
  if dnI w s_ = 0 then (if 30 ≤ mendS w s_ 30 s_.toNatClampNeg then 0 else 1, mendS w s_ 30, g) else if 2 ≤ g 2 then (1, putS w s_, upd g 4 (g 4 + 1)) else (0, w, g)
def g2S (od g : Nat → Int32) : Nat → Int32 := upd (upd (goS od g) 2 (goS od g 2 + 1)) 3 (goS od g 3 + 1)
/-- w, od, g, co behind the gang's work -/
def gwS (n : Nat) (w od g : Nat → Int32) (co : Int32) : (Nat → Int32) × (Nat → Int32) × (Nat → Int32) × Int32 :=
  if g 0 = 0 then (w, od, g, co) else if goS od g 1 = od 0 then
    (if (iodS w (g2S od g) (goS od g 1)).1 = 0 then ((iodS w (g2S od g) (goS od g 1)).2.1, od, (iodS w (g2S od g) (goS od g 1)).2.2, co - 2)
     else ((iodS w (g2S od g) (goS od g 1)).2.1, (takeS od (iodS w (g2S od g) (goS od g 1)).2.2 0 n).1, (takeS od (iodS w (g2S od g) (goS od g 1)).2.2 0 n).2, co - 2))
  else (w, od, goS od g, co)
theorem iod_g0 (w g : Nat → Int32) (s_ : Int32) : (iodS w g s_).2.2 0 = g 0 := by
  unfold iodS
  split
  · rfl
  · split <;> rfl
def baL (B : Nat → Nat → Int32) (ab : Nat → Nat) (x : Int32) : Nat → Nat → Int32 → Int32
  | 0, _, a => a
  | d + 1, i, a => baL B ab x d (i + 1) (a + if B (ab i) 0 = x then oneI 1 else oneI 0)
def brL (B : Nat → Nat → Int32) (ab : Nat → Nat) : Nat → Nat → Int32 → Int32
  | 0, _, a => a
  | d + 1, i, a => brL B ab d (i + 1) (a + oneI (B (ab i) 2))
def bsL (B : Nat → Nat → Int32) (ab : Nat → Nat) : Nat → Nat → Int32 → Int32
  | 0, _, a => a
  | d + 1, i, a => bsL B ab d (i + 1) (a + B (ab i) 5)
def OkB (B : Nat → Nat → Int32) : Prop := ∀ a, vp_in (B a 0) 24 ∧ (B a 1 = 0 ∨ B a 1 = 1) ∧ (B a 2 = 0 ∨ B a 2 = 1)
theorem OkB.up {B : Nat → Nat → Int32} (h : OkB B) {b k : Nat} {v : Int32} (hk : 3 ≤ k) : OkB (up2 B b k v) := by
  intro a
  have h0 : ¬ (0 = k ∧ a = b) := fun q => by omega
  have h1 : ¬ (1 = k ∧ a = b) := fun q => by omega
  have h2 : ¬ (2 = k ∧ a = b) := fun q => by omega
  simpa only [up2, if_neg h0, if_neg h1, if_neg h2] using h a
theorem OkB.up0 {B : Nat → Nat → Int32} (h : OkB B) {b : Nat} {v : Int32} (hv : vp_in v 24) : OkB (up2 B b 0 v) := by
  intro a
  refine ⟨?_, by simpa [up2] using (h a).2⟩
  unfold up2
  split
  · exact hv
  · exact (h a).1
theorem OkB.up1 {B : Nat → Nat → Int32} (h : OkB B) {b : Nat} {v : Int32} (hv : v = 0 ∨ v = 1) : OkB (up2 B b 1 v) := by
  intro a
  refine ⟨by simpa [up2] using (h a).1, ?_, by simpa [up2] using (h a).2.2⟩
  unfold up2
  split
  · exact hv
  · exact (h a).2.1
theorem OkB.up2_ {B : Nat → Nat → Int32} (h : OkB B) {b : Nat} {v : Int32} (hv : v = 0 ∨ v = 1) : OkB (up2 B b 2 v) := by
  intro a
  refine ⟨by simpa [up2] using (h a).1, by simpa [up2] using (h a).2.1, ?_⟩
  unfold up2
  split
  · exact hv
  · exact (h a).2.2
theorem OkB.nx {B : Nat → Nat → Int32} (h : OkB B) (b : Nat) : vp_in (nxS B b) 24 := nxt_in (h b).1
theorem OkB.b1 {B : Nat → Nat → Int32} (h : OkB B) (b : Nat) (fare : Int32) : OkB (B1S B b fare) := ((h.up0 (h.nx b)).up (by omega)).up (by omega)
theorem OkB.drvL {b : Nat} {fare : Int32} : ∀ (d : Nat) (w f : Nat → Int32) (B : Nat → Nat → Int32) (co : Int32), OkB B → OkB (drvL b fare d w f B co).2.2.1
  | 0, _, _, _, _, h => h
  | d + 1, w, f, B, co, h => by
    unfold _root_.Jvm.Pilot.@@N@@.drvL
    split
    · split
      · exact OkB.drvL d _ _ _ _ (h.b1 b fare)
      · exact h.b1 b fare
    · exact h.up (by omega)
theorem OkB.drive {B : Nat → Nat → Int32} (h : OkB B) (b : Nat) (fare : Int32) (w f : Nat → Int32) (co : Int32) : OkB (driveS b fare w f B co).2.2.1 := by
  unfold driveS
  split
  · exact h
  · exact OkB.drvL 3 w f B co h
theorem OkB.cp {B : Nat → Nat → Int32} (h : OkB B) (b b2 : Nat) : OkB (bcp B b b2) := by
  refine OkB.up (OkB.up (OkB.up (OkB.up2_ (OkB.up1 (OkB.up0 h ?_) ?_) ?_) ?_) ?_) ?_
  all_goals first | exact (h b2).1 | exact (h b2).2.1 | exact (h b2).2.2 | omega
def bcL (ab ab2 : Nat → Nat) : Nat → Nat → (Nat → Nat → Int32) → (Nat → Nat → Int32)
  | 0, _, B => B
  | d + 1, i, B => bcL ab ab2 d (i + 1) (bcp B (ab i) (ab2 i))
theorem go_dec : ∀ a, a < 24 → ∀ b, b < 24 → (0 ≤ (ir (nI a + (if 24 - ir (nI b - nI a + 24) 24 < ir (nI b - nI a + 24) 24 then -(mmin (24 - ir (nI b - nI a + 24) 24) 4) else mmin (ir (nI b - nI a + 24) 24) 4) + 24) 24).toInt ∧ (ir (nI a + (if 24 - ir (nI b - nI a + 24) 24 < ir (nI b - nI a + 24) 24 then -(mmin (24 - ir (nI b - nI a + 24) 24) 4) else mmin (ir (nI b - nI a + 24) 24) 4) + 24) 24).toInt < 24) := by decide +kernel
theorem go_in {od g : Nat → Int32} (h1 : vp_in (g 1) 24) (h0 : vp_in (od 0) 24) : vp_in (goS od g 1) 24 := by
  obtain ⟨a, ha, ea⟩ := vp_in_of h1 (by omega)
  obtain ⟨b, hb, eb⟩ := vp_in_of h0 (by omega)
  show vp_in (ir (g 1 + wayS od g + 24) 24) 24
  unfold wayS upS
  rw [ea, eb]
  exact vp_in_iff.mpr (go_dec a ha b hb)
end
section
/-! an hour of the class -/
def OkR (od g : Nat → Int32) (B : Nat → Nat → Int32) (hr : Int32) : Prop := (∃ m : Nat, m ≤ 6 ∧ g 0 = nI m) ∧ vp_in (g 1) 24 ∧ (∀ k, vp_in (od k) 24) ∧ OkB B ∧ ∃ h : Nat, h < 2 ^ 30 ∧ hr = nI h
theorem ir_in8 {hr : Int32} (h : ∃ n : Nat, n < 2 ^ 30 ∧ hr = nI n) : vp_in (ir hr 8) 8 := by
  obtain ⟨n, hn, rfl⟩ := h
  rw [show ir (nI n) 8 = nI (n % 8) from ir_nI (by omega) (by decide) (by decide)]
  exact vp_in_nI (Nat.mod_lt _ (by omega)) (by omega)
theorem ir_in12 {hr : Int32} (h : ∃ n : Nat, n < 2 ^ 30 ∧ hr = nI n) : vp_in (ir hr 12) 12 := by
  obtain ⟨n, hn, rfl⟩ := h
  rw [show ir (nI n) 12 = nI (n % 12) from ir_nI (by omega) (by decide) (by decide)]
  exact vp_in_nI (Nat.mod_lt _ (by omega)) (by omega)
/-- w, f, od, g, B, co, hr -/
abbrev RS : Type := (Nat → Int32) × (Nat → Int32) × (Nat → Int32) × (Nat → Int32) × (Nat → Nat → Int32) × Int32 × Int32
def frS (cd : Nat → Int32) (hr : Int32) (f : Nat → Int32) : Nat → Int32 := if ntI hr = 0 then thwL 24 0 f else frzL (cd (ir hr 8).toNatClampNeg) 24 0 f
def hourS (cd sw : Nat → Int32) (fd fn : Int32) (ab : Nat → Nat) (n : Nat) (w f od g : Nat → Int32) (B : Nat → Nat → Int32) (co hr : Int32) : RS :=
  let q := busL ab (fareS (ntI hr) fd fn) n 0 (swanS w (sw (ir hr 12).toNatClampNeg)) (frS cd hr f) B co
  let z := gwS (g 0).toNatClampNeg q.1 od g q.2.2.2
  (z.1, q.2.1, z.2.1, z.2.2.1, q.2.2.1, z.2.2.2, hr + 1)
end
section
/-! hours of the class, looks ahead, answers -/
theorem vp_lti {x : Int32} {N : Nat} (h : vp_in x N) (hN : N < 2 ^ 31) : x < nI N := by
  obtain ⟨j, hj, rfl⟩ := vp_in_of h hN
  exact nI_lt hj hN
theorem vp_ge0 {x : Int32} {N : Nat} (h : vp_in x N) : ¬ x < 0 := fun q => h (Or.inl q)
theorem vp_of {x : Int32} {N : Nat} (h0 : ¬ x < 0) (h1 : x < nI N) (hN : N < 2 ^ 31) : vp_in x N := by
  rw [vp_in_iff]
  rw [Int32.lt_iff_toInt_lt] at h0 h1
  rw [nI_toInt hN] at h1
  have e : (0 : Int32).toInt = 0 := rfl
  rw [e] at h0
  omega
theorem tkL_ok : ∀ (d i : Nat) (od : Nat → Int32), (∀ k, vp_in (od k) 24) → ∀ k, vp_in (tkL d i od k) 24
  | 0, _, _, h => h
  | d + 1, i, od, h => by
    unfold tkL
    refine tkL_ok d (i + 1) _ fun k => ?_
    unfold upd
    split
    · exact h i
    · exact h k
theorem iod_g (w g : Nat → Int32) (s_ : Int32) {k : Nat} (hk : k < 4) : (iodS w g s_).2.2 k = g k := by
  unfold iodS
  split
  · rfl
  · split
    · show upd g 4 (g 4 + 1) k = g k
      rw [upd, if_neg (by omega)]
    · rfl
theorem g2_1 (od g : Nat → Int32) : g2S od g 1 = goS od g 1 := rfl
theorem g2_0 (od g : Nat → Int32) : g2S od g 0 = g 0 := rfl
theorem gw_ok {m : Nat} {w od g : Nat → Int32} {co : Int32} (hm : m ≤ 6) (hg : g 0 = nI m) (ha : vp_in (g 1) 24) (ho : ∀ k, vp_in (od k) 24) : (∃ m' : Nat, m' ≤ 6 ∧ (gwS m w od g co).2.2.1 0 = nI m') ∧ vp_in ((gwS m w od g co).2.2.1 1) 24 ∧ ∀ k, vp_in ((gwS m w od g co).2.1 k) 24 := by
  have h1 : vp_in (goS od g 1) 24 := go_in ha (ho 0)
  unfold gwS
  split
  · exact ⟨⟨m, hm, hg⟩, ha, ho⟩
  · rename_i h0
    have hm0 : m ≠ 0 := fun e => h0 (by rw [hg, e]; rfl)
    split
    · split
      · refine ⟨⟨m, hm, ?_⟩, ?_, ho⟩
        · show (iodS w (g2S od g) (goS od g 1)).2.2 0 = _
          rw [iod_g _ _ _ (by omega), g2_0, hg]
        · show vp_in ((iodS w (g2S od g) (goS od g 1)).2.2 1) 24
          rw [iod_g _ _ _ (by omega), g2_1]
          exact h1
      · refine ⟨⟨m - 1, by omega, ?_⟩, ?_, ?_⟩
        · show (if nI 0 = 0 then upd (upd (iodS w (g2S od g) (goS od g 1)).2.2 0 ((iodS w (g2S od g) (goS od g 1)).2.2 0 - 1)) 2 0 else upd (iodS w (g2S od g) (goS od g 1)).2.2 0 ((iodS w (g2S od g) (goS od g 1)).2.2 0 - 1)) 0 = _
          rw [if_pos (show nI 0 = 0 from rfl)]
          show (iodS w (g2S od g) (goS od g 1)).2.2 0 - 1 = _
          rw [iod_g _ _ _ (by omega), g2_0, hg]
          exact pk_sub (a := m) (b := 1) (by omega)
        · show vp_in ((if nI 0 = 0 then upd (upd (iodS w (g2S od g) (goS od g 1)).2.2 0 ((iodS w (g2S od g) (goS od g 1)).2.2 0 - 1)) 2 0 else upd (iodS w (g2S od g) (goS od g 1)).2.2 0 ((iodS w (g2S od g) (goS od g 1)).2.2 0 - 1)) 1) 24
          rw [if_pos (show nI 0 = 0 from rfl)]
          show vp_in ((iodS w (g2S od g) (goS od g 1)).2.2 1) 24
          rw [iod_g _ _ _ (by omega), g2_1]
          exact h1
        · exact tkL_ok _ _ _ ho
    · exact ⟨⟨m, hm, hg⟩, h1, ho⟩
theorem busL_ok {ab : Nat → Nat} {fare : Int32} : ∀ (d i : Nat) (w f : Nat → Int32) (B : Nat → Nat → Int32) (co : Int32), OkB B → OkB (busL ab fare d i w f B co).2.2.1
  | 0, _, _, _, _, _, h => h
  | d + 1, i, w, f, B, co, h => by
    unfold busL
    exact busL_ok d (i + 1) _ _ _ _ (h.drive _ _ _ _ _)
def hourT (cd sw : Nat → Int32) (fd fn : Int32) (ab : Nat → Nat) (n : Nat) (q : RS) : RS := hourS cd sw fd fn ab n q.1 q.2.1 q.2.2.1 q.2.2.2.1 q.2.2.2.2.1 q.2.2.2.2.2.1 q.2.2.2.2.2.2
def hrsL (cd sw : Nat → Int32) (fd fn : Int32) (ab : Nat → Nat) (n : Nat) : Nat → RS → RS
  | 0, q => q
  | d + 1, q => hrsL cd sw fd fn ab n d (hourT cd sw fd fn ab n q)
/-- what holds of a ring's numbers; at most M hours -/
def OkQ (M : Nat) (q : RS) : Prop := OkR q.2.2.1 q.2.2.2.1 q.2.2.2.2.1 q.2.2.2.2.2.2 ∧ ∃ h : Nat, h ≤ M ∧ q.2.2.2.2.2.2 = nI h
theorem OkQ.hour {cd sw : Nat → Int32} {fd fn : Int32} {ab : Nat → Nat} {n M : Nat} {q : RS} (hM : M + 1 < 2 ^ 30) (h : OkQ M q) : OkQ (M + 1) (hourT cd sw fd fn ab n q) := by
  obtain ⟨⟨⟨m, hm, hg⟩, ha, ho, hB, -⟩, x, hx, hr⟩ := h
  have hh : (hourT cd sw fd fn ab n q).2.2.2.2.2.2 = nI (x + 1) := by
    show q.2.2.2.2.2.2 + 1 = _
    rw [hr, nI_1]
  have hc : (q.2.2.2.1 0).toNatClampNeg = m := by rw [hg, nI_clamp (by omega)]
  have hgw := gw_ok (w := (busL ab (fareS (ntI q.2.2.2.2.2.2) fd fn) n 0 (swanS q.1 (sw (ir q.2.2.2.2.2.2 12).toNatClampNeg)) (frS cd q.2.2.2.2.2.2 q.2.1) q.2.2.2.2.1 q.2.2.2.2.2.1).1) (co := (busL ab (fareS (ntI q.2.2.2.2.2.2) fd fn) n 0 (swanS q.1 (sw (ir q.2.2.2.2.2.2 12).toNatClampNeg)) (frS cd q.2.2.2.2.2.2 q.2.1) q.2.2.2.2.1 q.2.2.2.2.2.1).2.2.2) hm hg ha ho
  rw [← hc] at hgw
  exact ⟨⟨hgw.1, hgw.2.1, hgw.2.2, busL_ok _ _ _ _ _ _ hB, x + 1, by omega, hh⟩, x + 1, by omega, hh⟩
theorem OkQ.mono {M M' : Nat} {q : RS} (hM : M ≤ M') (h : OkQ M q) : OkQ M' q := ⟨h.1, h.2.imp fun _ z => ⟨Nat.le_trans z.1 hM, z.2⟩⟩
theorem OkQ.hrs {cd sw : Nat → Int32} {fd fn : Int32} {ab : Nat → Nat} {n : Nat} : ∀ (d M : Nat) (q : RS), M + d < 2 ^ 30 → OkQ M q → OkQ (M + d) (hrsL cd sw fd fn ab n d q)
  | 0, _, _, _, h => h
  | d + 1, M, q, hM, h => by
    have h2 := OkQ.hrs (cd := cd) (sw := sw) (fd := fd) (fn := fn) (ab := ab) (n := n) d (M + 1) (hourT cd sw fd fn ab n q) (by omega) (h.hour (by omega))
    rw [show M + (d + 1) = M + 1 + d by omega]
    exact h2
def tallyS (x : Int32) (n : Nat) (ab : Nat → Nat) (w f : Nat → Int32) (B : Nat → Nat → Int32) (bc hr co : Int32) : Int32 :=
  if x = 0 then hr else if x = 1 then oneI (ntI hr) else if x = 2 then co else if x = 3 then bc else if x = 4 then brL B ab n 0 0 else if x = 5 then spdL w 24 0 0 else if x = 6 then sumL w 24 0 0 else if x = 7 then sumL f 24 0 0 else bsL B ab n 0 0
theorem sw8 (x : Int32) : x = 0 ∨ x = 1 ∨ x = 2 ∨ x = 3 ∨ x = 4 ∨ x = 5 ∨ x = 6 ∨ x = 7 ∨ (x.toInt < 0 ∨ 7 < x.toInt) := by
  by_cases h : x.toInt < 0 ∨ 7 < x.toInt
  · simp only [h, or_true]
  · have e : x = nI x.toInt.toNat := by
      obtain ⟨j, hj, rfl⟩ := vp_in_of (x := x) (n := 8) (vp_in_iff.mpr (by omega)) (by omega)
      rw [nI_toInt (by omega)]; rfl
    have h8 : x.toInt.toNat < 8 := by omega
    generalize x.toInt.toNat = j at e h8
    subst e
    match j, h8 with
    | 0, _ => exact Or.inl rfl
    | 1, _ => exact Or.inr (Or.inl rfl)
    | 2, _ => exact Or.inr (Or.inr (Or.inl rfl))
    | 3, _ => exact Or.inr (Or.inr (Or.inr (Or.inl rfl)))
    | 4, _ => exact Or.inr (Or.inr (Or.inr (Or.inr (Or.inl rfl))))
    | 5, _ => exact Or.inr (Or.inr (Or.inr (Or.inr (Or.inr (Or.inl rfl)))))
    | 6, _ => exact Or.inr (Or.inr (Or.inr (Or.inr (Or.inr (Or.inr (Or.inl rfl))))))
    | 7, _ => exact Or.inr (Or.inr (Or.inr (Or.inr (Or.inr (Or.inr (Or.inr (Or.inl rfl)))))))
/-- a switch over 0 .. N - 1 -/
theorem swN (x : Int32) (N : Nat) (hN : N < 2 ^ 31) : (∃ j : Nat, j < N ∧ x = nI j) ∨ (x.toInt < 0 ∨ (N : Int) - 1 < x.toInt) := by
  by_cases h : x.toInt < 0 ∨ (N : Int) - 1 < x.toInt
  · exact Or.inr h
  · exact Or.inl (vp_in_of (vp_in_iff.mpr (by omega)) hN)
theorem sw4 (x : Int32) : x = 0 ∨ x = 1 ∨ x = 2 ∨ x = 3 ∨ (x.toInt < 0 ∨ 3 < x.toInt) := by
  rcases swN x 4 (by omega) with ⟨j, hj, rfl⟩ | h
  · match j, hj with
    | 0, _ => exact Or.inl rfl
    | 1, _ => exact Or.inr (Or.inl rfl)
    | 2, _ => exact Or.inr (Or.inr (Or.inl rfl))
    | 3, _ => exact Or.inr (Or.inr (Or.inr (Or.inl rfl)))
  · exact Or.inr (Or.inr (Or.inr (Or.inr (by omega))))
theorem sw6 (x : Int32) : x = 0 ∨ x = 1 ∨ x = 2 ∨ x = 3 ∨ x = 4 ∨ x = 5 ∨ (x.toInt < 0 ∨ 5 < x.toInt) := by
  rcases swN x 6 (by omega) with ⟨j, hj, rfl⟩ | h
  · match j, hj with
    | 0, _ => exact Or.inl rfl
    | 1, _ => exact Or.inr (Or.inl rfl)
    | 2, _ => exact Or.inr (Or.inr (Or.inl rfl))
    | 3, _ => exact Or.inr (Or.inr (Or.inr (Or.inl rfl)))
    | 4, _ => exact Or.inr (Or.inr (Or.inr (Or.inr (Or.inl rfl))))
    | 5, _ => exact Or.inr (Or.inr (Or.inr (Or.inr (Or.inr (Or.inl rfl)))))
  · exact Or.inr (Or.inr (Or.inr (Or.inr (Or.inr (Or.inr (by omega))))))
theorem nt8 {x : Int32} (h : x.toInt < 0 ∨ 7 < x.toInt) : ¬ x = 0 ∧ ¬ x = 1 ∧ ¬ x = 2 ∧ ¬ x = 3 ∧ ¬ x = 4 ∧ ¬ x = 5 ∧ ¬ x = 6 ∧ ¬ x = 7 := by
  refine ⟨?_, ?_, ?_, ?_, ?_, ?_, ?_, ?_⟩ <;> (rintro rfl; revert h; decide)
theorem nt4 {x : Int32} (h : x.toInt < 0 ∨ 3 < x.toInt) : ¬ x = 0 ∧ ¬ x = 1 ∧ ¬ x = 2 ∧ ¬ x = 3 := by
  refine ⟨?_, ?_, ?_, ?_⟩ <;> (rintro rfl; revert h; decide)
theorem nt6 {x : Int32} (h : x.toInt < 0 ∨ 5 < x.toInt) : ¬ x = 0 ∧ ¬ x = 1 ∧ ¬ x = 2 ∧ ¬ x = 3 ∧ ¬ x = 4 ∧ ¬ x = 5 := by
  refine ⟨?_, ?_, ?_, ?_, ?_, ?_⟩ <;> (rintro rfl; revert h; decide)
end
section
set_option maxHeartbeats 4000000 in
set_option maxRecDepth 100000 in
theorem c_X5_oneIf (l : Launch) (D : va_G) (cyI cyO cyL : ClassId) (b : Int32) : cI l yX5_oneIf wsX5_oneIf ({ frames := 0, cells := 0, slots := 0, locals := 0 }) D cyI cyO cyL [.int b] (([] : va_W)) (([] : va_W)) (oneI b) := by
  intro sz
  refine Met.ofW (cc := cX5_oneIf) (maxL := 1) (ret := (some .int)) (by decide) rfl ?_
  intro p e s m args below meth c s₁ B9 hml hv
  obtain ⟨rfl, hsz, hP, hKK, hD0⟩ := hv
  have hx := B9.exec
  have hb := B9.bytes
  have hrt := B9.returns
  have hts := atoms_spec (ws := wsX5_oneIf) B9.pre
  have hown : s.vm.findClass RX5 = some m.cls := findClass_of_methodNamed B9.named
  have hlocks := B9.notSynchronized
  have nw := fun {w : Cond} (h : w ∈ nw_all) => NW.use (args := ([.int b] : List Value).toArray) hKK.2 h
  subst hsz
  have hD := hD0.self (sz := s.heap.size)
  generalize hAe : va_A (([] : va_W)) s.heap.size = A at hD ⊢
  have hA : ∀ q : Nat, s.heap.size ≤ q → A q := fun q h => by rw [← hAe]; exact Or.inr h
  have hS : va_S A s.heap s.heap [] := va_S.rf
  have hl := lv_entry ([.int b]) (n := 1) (Nat.le_of_ble_eq_true rfl)
  rw [lg_entry_eq]
  generalize (lg_sl ([.int b]) ++ List.replicate (1 - (lg_sl ([.int b])).length) Slot.unset).toArray = ls at hl ⊢
  have hl : lv_has ls 1 [(0, .int b)] := hl
  refine lv_iload_n hx hb dX5_oneIf_0 rfl (lv_at hl 0 rfl) ?_
  refine lv_if_eq (tgt := 8) hx hb dX5_oneIf_1 (by decide) (fun h_1 => ?_) (fun h_1 => ?_)
  · skip
    refine lv_iconst (v := 0) hx hb dX5_oneIf_8 (by decide) ?_
    have e9 : oneI b = 0 := (by first | with_reducible rfl | (simp only [oneI, h_1, if_true, if_false, reduceIte, not_true_eq_false, not_false_eq_true]; done) | (simp [oneI, h_1]; done))
    exact end_i hx hb hrt hlocks (by rw [e9]) hP hS dX5_oneIf_9
  · skip
    refine lv_iconst (v := 1) hx hb dX5_oneIf_4 (by decide) ?_
    refine lv_goto (tgt := 9) hx hb dX5_oneIf_5 (by decide) ?_
    have e9 : oneI b = 1 := (by first | with_reducible rfl | (simp only [oneI, h_1, if_true, if_false, reduceIte, not_true_eq_false, not_false_eq_true]; done) | (simp [oneI, h_1]; done))
    exact end_i hx hb hrt hlocks (by rw [e9]) hP hS dX5_oneIf_9
set_option maxHeartbeats 4000000 in
set_option maxRecDepth 100000 in
theorem c_X4_isDown (l : Launch) (D : va_G) (cyI cyO cyL : ClassId) (aW : Nat) (aw : Nat) (af : Nat) (w : Nat → Int32) (f : Nat → Int32) (i : Int32) (hi : vp_in i 24) : cI l yX4_isDown wsX4_isDown ({ frames := 0, cells := 0, slots := 0, locals := 0 }) D cyI cyO cyL [.ref aW, .int i] (cW cyI aW aw af w f) (cW cyI aW aw af w f) (dnI w i) := by
  intro sz
  refine Met.ofW (cc := cX4_isDown) (maxL := 2) (ret := (some .boolean)) (by decide) rfl ?_
  intro p e s m args below meth c s₁ B9 hml hv
  obtain ⟨rfl, hsz, hP, hKK, hD0⟩ := hv
  have hx := B9.exec
  have hb := B9.bytes
  have hrt := B9.returns
  have hts := atoms_spec (ws := wsX4_isDown) B9.pre
  have hown : s.vm.findClass RX4 = some m.cls := findClass_of_methodNamed B9.named
  have hlocks := B9.notSynchronized
  have nw := fun {w : Cond} (h : w ∈ nw_all) => NW.use (args := ([.ref aW, .int i] : List Value).toArray) hKK.2 h
  have iX4 : ∀ w ∈ wsX40, w ∈ wsX4_isDown := fun _ h => List.mem_cons_of_mem _ (List.mem_append_right _ h)
  subst hsz
  have hD := hD0.self (sz := s.heap.size)
  generalize hAe : va_A (cW cyI aW aw af w f) s.heap.size = A at hD ⊢
  have hA : ∀ q : Nat, s.heap.size ≤ q → A q := fun q h => by rw [← hAe]; exact Or.inr h
  have hS : va_S A s.heap s.heap [] := va_S.rf
  have hl := lv_entry ([.ref aW, .int i]) (n := 2) (Nat.le_of_ble_eq_true rfl)
  rw [lg_entry_eq]
  generalize (lg_sl ([.ref aW, .int i]) ++ List.replicate (2 - (lg_sl ([.ref aW, .int i])).length) Slot.unset).toArray = ls at hl ⊢
  have hl : lv_has ls 2 [(0, .ref aW), (1, .int i)] := hl
  refine lv_aload_n hx hb dX4_isDown_0 rfl (lv_at hl 0 rfl) ?_
  refine va_get (D := D) (ci := 4) (v := .ref aw) (C := RX4) (T := TX4) (N := 2) hx hb hts iX4 hown hKK.1 hP 0 rfl rfl 0 (by decide) (hts (.fieldLink RX4 9 "TrolleyGang$Wires" "worn" "[I") (List.mem_of_getElem? (i := 1) rfl)) (fun _ h9 => h9) rfl dX4_isDown_1 ?_
  refine lv_iload_n hx hb dX4_isDown_4 rfl (lv_at hl 1 rfl) ?_
  refine va_iald hx hb hKK.1 hP 1 0 rfl rfl (hin := hi) dX4_isDown_5 ?_
  refine lv_bipush (v := 100) hx hb dX4_isDown_6 (by decide) ?_
  refine lv_icmp_lt (tgt := 15) hx hb dX4_isDown_8 (by decide) (fun h_1 => ?_) (fun h_1 => ?_)
  · skip
    refine lv_iconst (v := 0) hx hb dX4_isDown_15 (by decide) ?_
    have e9 : dnI w i = 0 := (by first | with_reducible rfl | (simp only [dnI, h_1, if_true, if_false, reduceIte, not_true_eq_false, not_false_eq_true]; done) | (simp [dnI, h_1]; done))
    exact end_z hx hb hrt hlocks (by decide) (by rw [e9]) hP hS dX4_isDown_16
  · skip
    refine lv_iconst (v := 1) hx hb dX4_isDown_11 (by decide) ?_
    refine lv_goto (tgt := 16) hx hb dX4_isDown_12 (by decide) ?_
    have e9 : dnI w i = 1 := (by first | with_reducible rfl | (simp only [dnI, h_1, if_true, if_false, reduceIte, not_true_eq_false, not_false_eq_true]; done) | (simp [dnI, h_1]; done))
    exact end_z hx hb hrt hlocks (by decide) (by rw [e9]) hP hS dX4_isDown_16
set_option maxHeartbeats 4000000 in
set_option maxRecDepth 100000 in
theorem c_X4_putUp (l : Launch) (D : va_G) (cyI cyO cyL : ClassId) (aW : Nat) (aw : Nat) (af : Nat) (w : Nat → Int32) (f : Nat → Int32) (i : Int32) (hi : vp_in i 24) : cV l yX4_putUp wsX4_putUp ({ frames := 0, cells := 0, slots := 0, locals := 0 }) D cyI cyO cyL [.ref aW, .int i] (cW cyI aW aw af w f) (cW cyI aW aw af (putS w i) f) := by
  intro sz
  refine Met.ofW (cc := cX4_putUp) (maxL := 2) (ret := none) (by decide) rfl ?_
  intro p e s m args below meth c s₁ B9 hml hv
  obtain ⟨rfl, hsz, hP, hKK, hD0⟩ := hv
  have hx := B9.exec
  have hb := B9.bytes
  have hrt := B9.returns
  have hts := atoms_spec (ws := wsX4_putUp) B9.pre
  have hown : s.vm.findClass RX4 = some m.cls := findClass_of_methodNamed B9.named
  have hlocks := B9.notSynchronized
  have nw := fun {w : Cond} (h : w ∈ nw_all) => NW.use (args := ([.ref aW, .int i] : List Value).toArray) hKK.2 h
  have iX4 : ∀ w ∈ wsX40, w ∈ wsX4_putUp := fun _ h => List.mem_cons_of_mem _ (List.mem_append_right _ h)
  subst hsz
  have hD := hD0.self (sz := s.heap.size)
  generalize hAe : va_A (cW cyI aW aw af w f) s.heap.size = A at hD ⊢
  have hA : ∀ q : Nat, s.heap.size ≤ q → A q := fun q h => by rw [← hAe]; exact Or.inr h
  have hS : va_S A s.heap s.heap [] := va_S.rf
  have hl := lv_entry ([.ref aW, .int i]) (n := 2) (Nat.le_of_ble_eq_true rfl)
  rw [lg_entry_eq]
  generalize (lg_sl ([.ref aW, .int i]) ++ List.replicate (2 - (lg_sl ([.ref aW, .int i])).length) Slot.unset).toArray = ls at hl ⊢
  have hl : lv_has ls 2 [(0, .ref aW), (1, .int i)] := hl
  refine lv_aload_n hx hb dX4_putUp_0 rfl (lv_at hl 0 rfl) ?_
  refine va_get (D := D) (ci := 4) (v := .ref aw) (C := RX4) (T := TX4) (N := 2) hx hb hts iX4 hown hKK.1 hP 0 rfl rfl 0 (by decide) (hts (.fieldLink RX4 9 "TrolleyGang$Wires" "worn" "[I") (List.mem_of_getElem? (i := 1) rfl)) (fun _ h9 => h9) rfl dX4_putUp_1 ?_
  refine lv_iload_n hx hb dX4_putUp_4 rfl (lv_at hl 1 rfl) ?_
  refine lv_bipush (v := 50) hx hb dX4_putUp_5 (by decide) ?_
  refine va_iast hx hb hKK.1 hP hD hS 1 0 rfl rfl (hin := hi) dX4_putUp_7 (fun H locs hP hD hS => ?_)
  have hP : va_P D vwCl (cW cyI aW aw af (upd w i.toNatClampNeg 50) f) H := hP
  have hD : va_D A (cW cyI aW aw af (upd w i.toNatClampNeg 50) f) := hD
  have e9 : putS w i = upd w i.toNatClampNeg 50 := (by rfl)
  exact end_v hx hb hrt hlocks (by rw [e9]; exact hP) hS dX4_putUp_8
set_option maxHeartbeats 4000000 in
set_option maxRecDepth 100000 in
theorem c_X4_wear (l : Launch) (D : va_G) (cyI cyO cyL : ClassId) (aW : Nat) (aw : Nat) (af : Nat) (w : Nat → Int32) (f : Nat → Int32) (i : Int32) (by_ : Int32) (hi : vp_in i 24) : cV l yX4_wear wsX4_wear ({ frames := 1, cells := 0, slots := 0, locals := 15 }) D cyI cyO cyL [.ref aW, .int i, .int by_] (cW cyI aW aw af w f) (cW cyI aW aw af (wearS w i by_) f) := by
  intro sz
  refine Met.ofW (cc := cX4_wear) (maxL := 3) (ret := none) (by decide) rfl ?_
  intro p e s m args below meth c s₁ B9 hml hv
  obtain ⟨rfl, hsz, hP, hKK, hD0⟩ := hv
  have hx := B9.exec
  have hb := B9.bytes
  have hrt := B9.returns
  have hts := atoms_spec (ws := wsX4_wear) B9.pre
  have hown : s.vm.findClass RX4 = some m.cls := findClass_of_methodNamed B9.named
  have hlocks := B9.notSynchronized
  have nw := fun {w : Cond} (h : w ∈ nw_all) => NW.use (args := ([.ref aW, .int i, .int by_] : List Value).toArray) hKK.2 h
  have iX4 : ∀ w ∈ wsX40, w ∈ wsX4_wear := fun _ h => List.mem_cons_of_mem _ (List.mem_append_right _ h)
  subst hsz
  have hD := hD0.self (sz := s.heap.size)
  generalize hAe : va_A (cW cyI aW aw af w f) s.heap.size = A at hD ⊢
  have hA : ∀ q : Nat, s.heap.size ≤ q → A q := fun q h => by rw [← hAe]; exact Or.inr h
  have hS : va_S A s.heap s.heap [] := va_S.rf
  have hl := lv_entry ([.ref aW, .int i, .int by_]) (n := 3) (Nat.le_of_ble_eq_true rfl)
  rw [lg_entry_eq]
  generalize (lg_sl ([.ref aW, .int i, .int by_]) ++ List.replicate (3 - (lg_sl ([.ref aW, .int i, .int by_])).length) Slot.unset).toArray = ls at hl ⊢
  have hl : lv_has ls 3 [(0, .ref aW), (1, .int i), (2, .int by_)] := hl
  refine lv_aload_n hx hb dX4_wear_0 rfl (lv_at hl 0 rfl) ?_
  refine va_get (D := D) (ci := 4) (v := .ref aw) (C := RX4) (T := TX4) (N := 2) hx hb hts iX4 hown hKK.1 hP 0 rfl rfl 0 (by decide) (hts (.fieldLink RX4 9 "TrolleyGang$Wires" "worn" "[I") (List.mem_of_getElem? (i := 1) rfl)) (fun _ h9 => h9) rfl dX4_wear_1 ?_
  refine lv_iload_n hx hb dX4_wear_4 rfl (lv_at hl 1 rfl) ?_
  refine lv_bipush (v := 100) hx hb dX4_wear_5 (by decide) ?_
  refine lv_aload_n hx hb dX4_wear_7 rfl (lv_at hl 0 rfl) ?_
  refine va_get (D := D) (ci := 4) (v := .ref aw) (C := RX4) (T := TX4) (N := 2) hx hb hts iX4 hown hKK.1 hP 0 rfl rfl 0 (by decide) (hts (.fieldLink RX4 9 "TrolleyGang$Wires" "worn" "[I") (List.mem_of_getElem? (i := 1) rfl)) (fun _ h9 => h9) rfl dX4_wear_8 ?_
  refine lv_iload_n hx hb dX4_wear_11 rfl (lv_at hl 1 rfl) ?_
  refine va_iald hx hb hKK.1 hP 1 0 rfl rfl (hin := hi) dX4_wear_12 ?_
  refine lv_iload_n hx hb dX4_wear_13 rfl (lv_at hl 2 rfl) ?_
  refine lv_iadd hx hb dX4_wear_14 ?_
  refine va_mmin hx hb (by rw [hml]; exact hl.1.symm) hown (hts (.methodLink RX4 24 Lib.Math.min.name) (List.mem_of_getElem? (i := 2) rfl)) (hts (.static Lib.Math.min.name) (List.mem_of_getElem? (i := 3) rfl)) (hts (.initialized "java/lang/Math") (List.mem_of_getElem? (i := 4) rfl)) (hts (.code Lib.Math.min.name Lib.Math.min.code 2 (some .int)) (List.mem_of_getElem? (i := 5) rfl)) (Nat.le_of_ble_eq_true rfl) (Nat.le_of_ble_eq_true rfl) (Nat.zero_le _) (Nat.zero_le _) dX4_wear_15 ?_
  refine lv_tope (y := mmin 100 ((w i.toNatClampNeg) + by_)) rfl ?_
  refine va_iast hx hb hKK.1 hP hD hS 1 0 rfl rfl (hin := hi) dX4_wear_18 (fun H locs hP hD hS => ?_)
  have hP : va_P D vwCl (cW cyI aW aw af (upd w i.toNatClampNeg (mmin 100 ((w i.toNatClampNeg) + by_))) f) H := hP
  have hD : va_D A (cW cyI aW aw af (upd w i.toNatClampNeg (mmin 100 ((w i.toNatClampNeg) + by_))) f) := hD
  have e9 : wearS w i by_ = upd w i.toNatClampNeg (mmin 100 ((w i.toNatClampNeg) + by_)) := (by rfl)
  exact end_v hx hb hrt hlocks (by rw [e9]; exact hP) hS dX4_wear_19
set_option maxHeartbeats 4000000 in
set_option maxRecDepth 100000 in
theorem c_X4_mend (l : Launch) (D : va_G) (cyI cyO cyL : ClassId) (aW : Nat) (aw : Nat) (af : Nat) (w : Nat → Int32) (f : Nat → Int32) (i : Int32) (by_ : Int32) (hi : vp_in i 24) : cV l yX4_mend wsX4_mend ({ frames := 1, cells := 0, slots := 0, locals := 15 }) D cyI cyO cyL [.ref aW, .int i, .int by_] (cW cyI aW aw af w f) (cW cyI aW aw af (mendS w i by_) f) := by
  intro sz
  refine Met.ofW (cc := cX4_mend) (maxL := 3) (ret := none) (by decide) rfl ?_
  intro p e s m args below meth c s₁ B9 hml hv
  obtain ⟨rfl, hsz, hP, hKK, hD0⟩ := hv
  have hx := B9.exec
  have hb := B9.bytes
  have hrt := B9.returns
  have hts := atoms_spec (ws := wsX4_mend) B9.pre
  have hown : s.vm.findClass RX4 = some m.cls := findClass_of_methodNamed B9.named
  have hlocks := B9.notSynchronized
  have nw := fun {w : Cond} (h : w ∈ nw_all) => NW.use (args := ([.ref aW, .int i, .int by_] : List Value).toArray) hKK.2 h
  have iX4 : ∀ w ∈ wsX40, w ∈ wsX4_mend := fun _ h => List.mem_cons_of_mem _ (List.mem_append_right _ h)
  subst hsz
  have hD := hD0.self (sz := s.heap.size)
  generalize hAe : va_A (cW cyI aW aw af w f) s.heap.size = A at hD ⊢
  have hA : ∀ q : Nat, s.heap.size ≤ q → A q := fun q h => by rw [← hAe]; exact Or.inr h
  have hS : va_S A s.heap s.heap [] := va_S.rf
  have hl := lv_entry ([.ref aW, .int i, .int by_]) (n := 3) (Nat.le_of_ble_eq_true rfl)
  rw [lg_entry_eq]
  generalize (lg_sl ([.ref aW, .int i, .int by_]) ++ List.replicate (3 - (lg_sl ([.ref aW, .int i, .int by_])).length) Slot.unset).toArray = ls at hl ⊢
  have hl : lv_has ls 3 [(0, .ref aW), (1, .int i), (2, .int by_)] := hl
  refine lv_aload_n hx hb dX4_mend_0 rfl (lv_at hl 0 rfl) ?_
  refine va_get (D := D) (ci := 4) (v := .ref aw) (C := RX4) (T := TX4) (N := 2) hx hb hts iX4 hown hKK.1 hP 0 rfl rfl 0 (by decide) (hts (.fieldLink RX4 9 "TrolleyGang$Wires" "worn" "[I") (List.mem_of_getElem? (i := 1) rfl)) (fun _ h9 => h9) rfl dX4_mend_1 ?_
  refine lv_iload_n hx hb dX4_mend_4 rfl (lv_at hl 1 rfl) ?_
  refine lv_iconst (v := 0) hx hb dX4_mend_5 (by decide) ?_
  refine lv_aload_n hx hb dX4_mend_6 rfl (lv_at hl 0 rfl) ?_
  refine va_get (D := D) (ci := 4) (v := .ref aw) (C := RX4) (T := TX4) (N := 2) hx hb hts iX4 hown hKK.1 hP 0 rfl rfl 0 (by decide) (hts (.fieldLink RX4 9 "TrolleyGang$Wires" "worn" "[I") (List.mem_of_getElem? (i := 1) rfl)) (fun _ h9 => h9) rfl dX4_mend_7 ?_
  refine lv_iload_n hx hb dX4_mend_10 rfl (lv_at hl 1 rfl) ?_
  refine va_iald hx hb hKK.1 hP 1 0 rfl rfl (hin := hi) dX4_mend_11 ?_
  refine lv_iload_n hx hb dX4_mend_12 rfl (lv_at hl 2 rfl) ?_
  refine lv_isub hx hb dX4_mend_13 ?_
  refine va_mmax hx hb (by rw [hml]; exact hl.1.symm) hown (hts (.methodLink RX4 30 Lib.Math.max.name) (List.mem_of_getElem? (i := 2) rfl)) (hts (.static Lib.Math.max.name) (List.mem_of_getElem? (i := 3) rfl)) (hts (.initialized "java/lang/Math") (List.mem_of_getElem? (i := 4) rfl)) (hts (.code Lib.Math.max.name Lib.Math.max.code 2 (some .int)) (List.mem_of_getElem? (i := 5) rfl)) (Nat.le_of_ble_eq_true rfl) (Nat.le_of_ble_eq_true rfl) (Nat.zero_le _) (Nat.zero_le _) dX4_mend_14 ?_
  refine lv_tope (y := mmax 0 ((w i.toNatClampNeg) - by_)) rfl ?_
  refine va_iast hx hb hKK.1 hP hD hS 1 0 rfl rfl (hin := hi) dX4_mend_17 (fun H locs hP hD hS => ?_)
  have hP : va_P D vwCl (cW cyI aW aw af (upd w i.toNatClampNeg (mmax 0 ((w i.toNatClampNeg) - by_))) f) H := hP
  have hD : va_D A (cW cyI aW aw af (upd w i.toNatClampNeg (mmax 0 ((w i.toNatClampNeg) - by_))) f) := hD
  have e9 : mendS w i by_ = upd w i.toNatClampNeg (mmax 0 ((w i.toNatClampNeg) - by_)) := (by rfl)
  exact end_v hx hb hrt hlocks (by rw [e9]; exact hP) hS dX4_mend_18
set_option maxHeartbeats 4000000 in
set_option maxRecDepth 100000 in
theorem c_X4_freeze (l : Launch) (D : va_G) (cyI cyO cyL : ClassId) (aW : Nat) (aw : Nat) (af : Nat) (w : Nat → Int32) (f : Nat → Int32) (cold : Int32) : cV l yX4_freeze wsX4_freeze ({ frames := 1, cells := 0, slots := 0, locals := 15 }) D cyI cyO cyL [.ref aW, .int cold] (cW cyI aW aw af w f) (cW cyI aW aw af w (frzL cold 24 0 f)) := by
  intro sz
  refine Met.ofW (cc := cX4_freeze) (maxL := 3) (ret := none) (by decide) rfl ?_
  intro p e s m args below meth c s₁ B9 hml hv
  obtain ⟨rfl, hsz, hP, hKK, hD0⟩ := hv
  have hx := B9.exec
  have hb := B9.bytes
  have hrt := B9.returns
  have hts := atoms_spec (ws := wsX4_freeze) B9.pre
  have hown : s.vm.findClass RX4 = some m.cls := findClass_of_methodNamed B9.named
  have hlocks := B9.notSynchronized
  have nw := fun {w : Cond} (h : w ∈ nw_all) => NW.use (args := ([.ref aW, .int cold] : List Value).toArray) hKK.2 h
  have iX4 : ∀ w ∈ wsX40, w ∈ wsX4_freeze := fun _ h => List.mem_cons_of_mem _ (List.mem_append_right _ h)
  subst hsz
  have hD := hD0.self (sz := s.heap.size)
  generalize hAe : va_A (cW cyI aW aw af w f) s.heap.size = A at hD ⊢
  have hA : ∀ q : Nat, s.heap.size ≤ q → A q := fun q h => by rw [← hAe]; exact Or.inr h
  have hS : va_S A s.heap s.heap [] := va_S.rf
  have hl := lv_entry ([.ref aW, .int cold]) (n := 3) (Nat.le_of_ble_eq_true rfl)
  rw [lg_entry_eq]
  generalize (lg_sl ([.ref aW, .int cold]) ++ List.replicate (3 - (lg_sl ([.ref aW, .int cold])).length) Slot.unset).toArray = ls at hl ⊢
  have hl : lv_has ls 3 [(0, .ref aW), (1, .int cold)] := hl
  refine lv_iconst (v := 0) hx hb dX4_freeze_0 (by decide) ?_
  refine lv_istore_n (lv' := [(2, .int 0), (0, .ref aW), (1, .int cold)]) hx hb dX4_freeze_1 rfl hl (by decide) rfl (fun ls hl => ?_)
  refine wloop (σ := (Nat) × (Nat → Int32)) (fun d9 x9 H9 L9 s9 => ((x9.1) + d9 = 24) ∧ (frzL cold 24 0 f = frzL cold d9 (x9.1) (x9.2)) ∧ (va_P D vwCl (cW cyI aW aw af w (x9.2)) H9) ∧ (va_D A (cW cyI aW aw af w (x9.2))) ∧ (va_S A s.heap H9 L9) ∧ (lv_has s9 3 [(2, .int (nI (x9.1))), (0, .ref aW), (1, .int cold)])) (fun d9 x9 H locs ls g9 ih => ?_) 24 (0, f) _ _ _ ⟨(by omega), rfl, hP, hD, hS, lv_sub hl [0, 1, 2] rfl⟩
  obtain ⟨i, f1⟩ := x9
  obtain ⟨hid, hsp, hP, hD, hS, hl⟩ := g9
  obtain ⟨d, rfl⟩ : ∃ z, z = d9 := ⟨_, rfl⟩
  have hid : i + d = 24 := hid
  have hsp : frzL cold 24 0 f = frzL cold d i f1 := hsp
  have hP : va_P D vwCl (cW cyI aW aw af w f1) H := hP
  have hD : va_D A (cW cyI aW aw af w f1) := hD
  have hl : lv_has ls 3 [(2, .int (nI i)), (0, .ref aW), (1, .int cold)] := hl
  refine lv_iload_n hx hb dX4_freeze_2 rfl (lv_at hl 0 rfl) ?_
  refine lv_bipush (v := 24) hx hb dX4_freeze_3 (by decide) ?_
  refine lv_icmp_ge (tgt := 33) hx hb dX4_freeze_5 (by decide) (fun h_1 => ?_) (fun h_1 => ?_)
  · skip
    obtain rfl : d = 0 := by have h9 := (nI_leI (a := 24) (b := i) (by omega) (by omega)).mp h_1; omega
    have hiN : i = 24 := by omega
    have e9 : frzL cold 24 0 f = f1 := (hsp.trans (by rfl))
    exact end_v hx hb hrt hlocks (by rw [e9]; exact hP) hS dX4_freeze_33
  · skip
    have hlt : i < 24 := by have h9 := mt (nI_leI (a := 24) (b := i) (by omega) (by omega)).mpr h_1; omega
    obtain ⟨d, rfl⟩ : ∃ k, d = k + 1 := ⟨d - 1, by omega⟩
    refine lv_aload_n hx hb dX4_freeze_8 rfl (lv_at hl 1 rfl) ?_
    refine va_get (D := D) (ci := 4) (v := .ref af) (C := RX4) (T := TX4) (N := 2) hx hb hts iX4 hown hKK.1 hP 0 rfl rfl 1 (by decide) (hts (.fieldLink RX4 15 "TrolleyGang$Wires" "frost" "[I") (List.mem_of_getElem? (i := 1) rfl)) (fun _ h9 => h9) rfl dX4_freeze_9 ?_
    refine lv_iload_n hx hb dX4_freeze_12 rfl (lv_at hl 0 rfl) ?_
    refine lv_bipush (v := 9) hx hb dX4_freeze_13 (by decide) ?_
    refine lv_aload_n hx hb dX4_freeze_15 rfl (lv_at hl 1 rfl) ?_
    refine va_get (D := D) (ci := 4) (v := .ref af) (C := RX4) (T := TX4) (N := 2) hx hb hts iX4 hown hKK.1 hP 0 rfl rfl 1 (by decide) (hts (.fieldLink RX4 15 "TrolleyGang$Wires" "frost" "[I") (List.mem_of_getElem? (i := 1) rfl)) (fun _ h9 => h9) rfl dX4_freeze_16 ?_
    refine lv_iload_n hx hb dX4_freeze_19 rfl (lv_at hl 0 rfl) ?_
    refine va_iald hx hb hKK.1 hP 2 0 rfl rfl (hin := (vp_in_nI hlt (by omega))) dX4_freeze_20 ?_
    refine lv_tope (y := f1 i) (by rw [nI_clamp (by omega)]) ?_
    refine lv_iload_n hx hb dX4_freeze_21 rfl (lv_at hl 2 rfl) ?_
    refine lv_iadd hx hb dX4_freeze_22 ?_
    refine va_mmin hx hb (by rw [hml]; exact hl.1.symm) hown (hts (.methodLink RX4 24 Lib.Math.min.name) (List.mem_of_getElem? (i := 2) rfl)) (hts (.static Lib.Math.min.name) (List.mem_of_getElem? (i := 3) rfl)) (hts (.initialized "java/lang/Math") (List.mem_of_getElem? (i := 4) rfl)) (hts (.code Lib.Math.min.name Lib.Math.min.code 2 (some .int)) (List.mem_of_getElem? (i := 5) rfl)) (Nat.le_of_ble_eq_true rfl) (Nat.le_of_ble_eq_true rfl) (Nat.zero_le _) (Nat.zero_le _) dX4_freeze_23 ?_
    refine lv_tope (y := mmin 9 ((f1 i) + cold)) rfl ?_
    refine va_iast hx hb hKK.1 hP hD hS 2 0 rfl rfl (hin := (vp_in_nI hlt (by omega))) dX4_freeze_26 (fun H locs hP hD hS => ?_)
    rw [nI_clamp (by omega)] at hP hD
    have hP : va_P D vwCl (cW cyI aW aw af w (upd f1 i (mmin 9 ((f1 i) + cold)))) H := hP
    have hD : va_D A (cW cyI aW aw af w (upd f1 i (mmin 9 ((f1 i) + cold)))) := hD
    refine lv_iinc (v := nI (i + 1)) (lv' := [(2, .int (nI (i + 1))), (0, .ref aW), (1, .int cold)]) hx hb dX4_freeze_27 hl (k := 0) rfl (nI_1 i) (by decide) rfl (fun ls hl => ?_)
    refine lv_goto (tgt := 2) hx hb dX4_freeze_30 (by decide) ?_
    exact ih d ((i + 1), (upd f1 i (mmin 9 ((f1 i) + cold)))) _ _ _ (by omega) ⟨(by omega), (hsp.trans (by rfl)), hP, hD, hS, lv_sub hl [0, 1, 2] rfl⟩
set_option maxHeartbeats 4000000 in
set_option maxRecDepth 100000 in
theorem c_X4_thaw (l : Launch) (D : va_G) (cyI cyO cyL : ClassId) (aW : Nat) (aw : Nat) (af : Nat) (w : Nat → Int32) (f : Nat → Int32) : cV l yX4_thaw wsX4_thaw ({ frames := 1, cells := 0, slots := 0, locals := 15 }) D cyI cyO cyL [.ref aW] (cW cyI aW aw af w f) (cW cyI aW aw af w (thwL 24 0 f)) := by
  intro sz
  refine Met.ofW (cc := cX4_thaw) (maxL := 2) (ret := none) (by decide) rfl ?_
  intro p e s m args below meth c s₁ B9 hml hv
  obtain ⟨rfl, hsz, hP, hKK, hD0⟩ := hv
  have hx := B9.exec
  have hb := B9.bytes
  have hrt := B9.returns
  have hts := atoms_spec (ws := wsX4_thaw) B9.pre
  have hown : s.vm.findClass RX4 = some m.cls := findClass_of_methodNamed B9.named
  have hlocks := B9.notSynchronized
  have nw := fun {w : Cond} (h : w ∈ nw_all) => NW.use (args := ([.ref aW] : List Value).toArray) hKK.2 h
  have iX4 : ∀ w ∈ wsX40, w ∈ wsX4_thaw := fun _ h => List.mem_cons_of_mem _ (List.mem_append_right _ h)
  subst hsz
  have hD := hD0.self (sz := s.heap.size)
  generalize hAe : va_A (cW cyI aW aw af w f) s.heap.size = A at hD ⊢
  have hA : ∀ q : Nat, s.heap.size ≤ q → A q := fun q h => by rw [← hAe]; exact Or.inr h
  have hS : va_S A s.heap s.heap [] := va_S.rf
  have hl := lv_entry ([.ref aW]) (n := 2) (Nat.le_of_ble_eq_true rfl)
  rw [lg_entry_eq]
  generalize (lg_sl ([.ref aW]) ++ List.replicate (2 - (lg_sl ([.ref aW])).length) Slot.unset).toArray = ls at hl ⊢
  have hl : lv_has ls 2 [(0, .ref aW)] := hl
  refine lv_iconst (v := 0) hx hb dX4_thaw_0 (by decide) ?_
  refine lv_istore_n (lv' := [(1, .int 0), (0, .ref aW)]) hx hb dX4_thaw_1 rfl hl (by decide) rfl (fun ls hl => ?_)
  refine wloop (σ := (Nat) × (Nat → Int32)) (fun d9 x9 H9 L9 s9 => ((x9.1) + d9 = 24) ∧ (thwL 24 0 f = thwL d9 (x9.1) (x9.2)) ∧ (va_P D vwCl (cW cyI aW aw af w (x9.2)) H9) ∧ (va_D A (cW cyI aW aw af w (x9.2))) ∧ (va_S A s.heap H9 L9) ∧ (lv_has s9 2 [(1, .int (nI (x9.1))), (0, .ref aW)])) (fun d9 x9 H locs ls g9 ih => ?_) 24 (0, f) _ _ _ ⟨(by omega), rfl, hP, hD, hS, lv_sub hl [0, 1] rfl⟩
  obtain ⟨i, f1⟩ := x9
  obtain ⟨hid, hsp, hP, hD, hS, hl⟩ := g9
  obtain ⟨d, rfl⟩ : ∃ z, z = d9 := ⟨_, rfl⟩
  have hid : i + d = 24 := hid
  have hsp : thwL 24 0 f = thwL d i f1 := hsp
  have hP : va_P D vwCl (cW cyI aW aw af w f1) H := hP
  have hD : va_D A (cW cyI aW aw af w f1) := hD
  have hl : lv_has ls 2 [(1, .int (nI i)), (0, .ref aW)] := hl
  refine lv_iload_n hx hb dX4_thaw_2 rfl (lv_at hl 0 rfl) ?_
  refine lv_bipush (v := 24) hx hb dX4_thaw_3 (by decide) ?_
  refine lv_icmp_ge (tgt := 32) hx hb dX4_thaw_5 (by decide) (fun h_1 => ?_) (fun h_1 => ?_)
  · skip
    obtain rfl : d = 0 := by have h9 := (nI_leI (a := 24) (b := i) (by omega) (by omega)).mp h_1; omega
    have hiN : i = 24 := by omega
    have e9 : thwL 24 0 f = f1 := (hsp.trans (by rfl))
    exact end_v hx hb hrt hlocks (by rw [e9]; exact hP) hS dX4_thaw_32
  · skip
    have hlt : i < 24 := by have h9 := mt (nI_leI (a := 24) (b := i) (by omega) (by omega)).mpr h_1; omega
    obtain ⟨d, rfl⟩ : ∃ k, d = k + 1 := ⟨d - 1, by omega⟩
    refine lv_aload_n hx hb dX4_thaw_8 rfl (lv_at hl 1 rfl) ?_
    refine va_get (D := D) (ci := 4) (v := .ref af) (C := RX4) (T := TX4) (N := 2) hx hb hts iX4 hown hKK.1 hP 0 rfl rfl 1 (by decide) (hts (.fieldLink RX4 15 "TrolleyGang$Wires" "frost" "[I") (List.mem_of_getElem? (i := 1) rfl)) (fun _ h9 => h9) rfl dX4_thaw_9 ?_
    refine lv_iload_n hx hb dX4_thaw_12 rfl (lv_at hl 0 rfl) ?_
    refine lv_iconst (v := 0) hx hb dX4_thaw_13 (by decide) ?_
    refine lv_aload_n hx hb dX4_thaw_14 rfl (lv_at hl 1 rfl) ?_
    refine va_get (D := D) (ci := 4) (v := .ref af) (C := RX4) (T := TX4) (N := 2) hx hb hts iX4 hown hKK.1 hP 0 rfl rfl 1 (by decide) (hts (.fieldLink RX4 15 "TrolleyGang$Wires" "frost" "[I") (List.mem_of_getElem? (i := 1) rfl)) (fun _ h9 => h9) rfl dX4_thaw_15 ?_
    refine lv_iload_n hx hb dX4_thaw_18 rfl (lv_at hl 0 rfl) ?_
    refine va_iald hx hb hKK.1 hP 2 0 rfl rfl (hin := (vp_in_nI hlt (by omega))) dX4_thaw_19 ?_
    refine lv_tope (y := f1 i) (by rw [nI_clamp (by omega)]) ?_
    refine lv_iconst (v := 2) hx hb dX4_thaw_20 (by decide) ?_
    refine lv_isub hx hb dX4_thaw_21 ?_
    refine va_mmax hx hb (by rw [hml]; exact hl.1.symm) hown (hts (.methodLink RX4 30 Lib.Math.max.name) (List.mem_of_getElem? (i := 2) rfl)) (hts (.static Lib.Math.max.name) (List.mem_of_getElem? (i := 3) rfl)) (hts (.initialized "java/lang/Math") (List.mem_of_getElem? (i := 4) rfl)) (hts (.code Lib.Math.max.name Lib.Math.max.code 2 (some .int)) (List.mem_of_getElem? (i := 5) rfl)) (Nat.le_of_ble_eq_true rfl) (Nat.le_of_ble_eq_true rfl) (Nat.zero_le _) (Nat.zero_le _) dX4_thaw_22 ?_
    refine lv_tope (y := mmax 0 ((f1 i) - 2)) rfl ?_
    refine va_iast hx hb hKK.1 hP hD hS 2 0 rfl rfl (hin := (vp_in_nI hlt (by omega))) dX4_thaw_25 (fun H locs hP hD hS => ?_)
    rw [nI_clamp (by omega)] at hP hD
    have hP : va_P D vwCl (cW cyI aW aw af w (upd f1 i (mmax 0 ((f1 i) - 2)))) H := hP
    have hD : va_D A (cW cyI aW aw af w (upd f1 i (mmax 0 ((f1 i) - 2)))) := hD
    refine lv_iinc (v := nI (i + 1)) (lv' := [(1, .int (nI (i + 1))), (0, .ref aW)]) hx hb dX4_thaw_26 hl (k := 0) rfl (nI_1 i) (by decide) rfl (fun ls hl => ?_)
    refine lv_goto (tgt := 2) hx hb dX4_thaw_29 (by decide) ?_
    exact ih d ((i + 1), (upd f1 i (mmax 0 ((f1 i) - 2)))) _ _ _ (by omega) ⟨(by omega), (hsp.trans (by rfl)), hP, hD, hS, lv_sub hl [0, 1] rfl⟩
set_option maxHeartbeats 4000000 in
set_option maxRecDepth 100000 in
theorem c_X4_wornInAll (l : Launch) (D : va_G) (cyI cyO cyL : ClassId) (aW : Nat) (aw : Nat) (af : Nat) (w : Nat → Int32) (f : Nat → Int32) : cI l yX4_wornInAll wsX4_wornInAll ({ frames := 0, cells := 0, slots := 0, locals := 0 }) D cyI cyO cyL [.ref aW] (cW cyI aW aw af w f) (cW cyI aW aw af w f) (sumL w 24 0 0) := by
  intro sz
  refine Met.ofW (cc := cX4_wornInAll) (maxL := 3) (ret := (some .int)) (by decide) rfl ?_
  intro p e s m args below meth c s₁ B9 hml hv
  obtain ⟨rfl, hsz, hP, hKK, hD0⟩ := hv
  have hx := B9.exec
  have hb := B9.bytes
  have hrt := B9.returns
  have hts := atoms_spec (ws := wsX4_wornInAll) B9.pre
  have hown : s.vm.findClass RX4 = some m.cls := findClass_of_methodNamed B9.named
  have hlocks := B9.notSynchronized
  have nw := fun {w : Cond} (h : w ∈ nw_all) => NW.use (args := ([.ref aW] : List Value).toArray) hKK.2 h
  have iX4 : ∀ w ∈ wsX40, w ∈ wsX4_wornInAll := fun _ h => List.mem_cons_of_mem _ (List.mem_append_right _ h)
  subst hsz
  have hD := hD0.self (sz := s.heap.size)
  generalize hAe : va_A (cW cyI aW aw af w f) s.heap.size = A at hD ⊢
  have hA : ∀ q : Nat, s.heap.size ≤ q → A q := fun q h => by rw [← hAe]; exact Or.inr h
  have hS : va_S A s.heap s.heap [] := va_S.rf
  have hl := lv_entry ([.ref aW]) (n := 3) (Nat.le_of_ble_eq_true rfl)
  rw [lg_entry_eq]
  generalize (lg_sl ([.ref aW]) ++ List.replicate (3 - (lg_sl ([.ref aW])).length) Slot.unset).toArray = ls at hl ⊢
  have hl : lv_has ls 3 [(0, .ref aW)] := hl
  refine lv_iconst (v := 0) hx hb dX4_wornInAll_0 (by decide) ?_
  refine lv_istore_n (lv' := [(1, .int 0), (0, .ref aW)]) hx hb dX4_wornInAll_1 rfl hl (by decide) rfl (fun ls hl => ?_)
  refine lv_iconst (v := 0) hx hb dX4_wornInAll_2 (by decide) ?_
  refine lv_istore_n (lv' := [(2, .int 0), (1, .int 0), (0, .ref aW)]) hx hb dX4_wornInAll_3 rfl hl (by decide) rfl (fun ls hl => ?_)
  refine wloop (σ := (Nat) × (Int32)) (fun d9 x9 H9 L9 s9 => ((x9.1) + d9 = 24) ∧ (sumL w 24 0 0 = sumL w d9 (x9.1) (x9.2)) ∧ (va_P D vwCl (cW cyI aW aw af w f) H9) ∧ (va_D A (cW cyI aW aw af w f)) ∧ (va_S A s.heap H9 L9) ∧ (lv_has s9 3 [(2, .int (nI (x9.1))), (1, .int (x9.2)), (0, .ref aW)])) (fun d9 x9 H locs ls g9 ih => ?_) 24 (0, 0) _ _ _ ⟨(by omega), rfl, hP, hD, hS, lv_sub hl [0, 1, 2] rfl⟩
  obtain ⟨i, a1⟩ := x9
  obtain ⟨hid, hsp, hP, hD, hS, hl⟩ := g9
  obtain ⟨d, rfl⟩ : ∃ z, z = d9 := ⟨_, rfl⟩
  have hid : i + d = 24 := hid
  have hsp : sumL w 24 0 0 = sumL w d i a1 := hsp
  have hP : va_P D vwCl (cW cyI aW aw af w f) H := hP
  have hD : va_D A (cW cyI aW aw af w f) := hD
  have hl : lv_has ls 3 [(2, .int (nI i)), (1, .int a1), (0, .ref aW)] := hl
  refine lv_iload_n hx hb dX4_wornInAll_4 rfl (lv_at hl 0 rfl) ?_
  refine lv_bipush (v := 24) hx hb dX4_wornInAll_5 (by decide) ?_
  refine lv_icmp_ge (tgt := 25) hx hb dX4_wornInAll_7 (by decide) (fun h_1 => ?_) (fun h_1 => ?_)
  · skip
    obtain rfl : d = 0 := by have h9 := (nI_leI (a := 24) (b := i) (by omega) (by omega)).mp h_1; omega
    have hiN : i = 24 := by omega
    refine lv_iload_n hx hb dX4_wornInAll_25 rfl (lv_at hl 1 rfl) ?_
    have e9 : sumL w 24 0 0 = a1 := (hsp.trans (by rfl))
    exact end_i hx hb hrt hlocks (by rw [e9]) hP hS dX4_wornInAll_26
  · skip
    have hlt : i < 24 := by have h9 := mt (nI_leI (a := 24) (b := i) (by omega) (by omega)).mpr h_1; omega
    obtain ⟨d, rfl⟩ : ∃ k, d = k + 1 := ⟨d - 1, by omega⟩
    refine lv_iload_n hx hb dX4_wornInAll_10 rfl (lv_at hl 1 rfl) ?_
    refine lv_aload_n hx hb dX4_wornInAll_11 rfl (lv_at hl 2 rfl) ?_
    refine va_get (D := D) (ci := 4) (v := .ref aw) (C := RX4) (T := TX4) (N := 2) hx hb hts iX4 hown hKK.1 hP 0 rfl rfl 0 (by decide) (hts (.fieldLink RX4 9 "TrolleyGang$Wires" "worn" "[I") (List.mem_of_getElem? (i := 1) rfl)) (fun _ h9 => h9) rfl dX4_wornInAll_12 ?_
    refine lv_iload_n hx hb dX4_wornInAll_15 rfl (lv_at hl 0 rfl) ?_
    refine va_iald hx hb hKK.1 hP 1 0 rfl rfl (hin := (vp_in_nI hlt (by omega))) dX4_wornInAll_16 ?_
    refine lv_tope (y := w i) (by rw [nI_clamp (by omega)]) ?_
    refine lv_iadd hx hb dX4_wornInAll_17 ?_
    refine lv_istore_n (lv' := [(1, .int (a1 + (w i))), (2, .int (nI i)), (0, .ref aW)]) hx hb dX4_wornInAll_18 rfl hl (by decide) rfl (fun ls hl => ?_)
    refine lv_iinc (v := nI (i + 1)) (lv' := [(2, .int (nI (i + 1))), (1, .int (a1 + (w i))), (0, .ref aW)]) hx hb dX4_wornInAll_19 hl (k := 1) rfl (nI_1 i) (by decide) rfl (fun ls hl => ?_)
    refine lv_goto (tgt := 4) hx hb dX4_wornInAll_22 (by decide) ?_
    exact ih d ((i + 1), (a1 + (w i))) _ _ _ (by omega) ⟨(by omega), (hsp.trans (by rfl)), hP, hD, hS, lv_sub hl [0, 1, 2] rfl⟩
set_option maxHeartbeats 4000000 in
set_option maxRecDepth 100000 in
theorem c_X4_frostInAll (l : Launch) (D : va_G) (cyI cyO cyL : ClassId) (aW : Nat) (aw : Nat) (af : Nat) (w : Nat → Int32) (f : Nat → Int32) : cI l yX4_frostInAll wsX4_frostInAll ({ frames := 0, cells := 0, slots := 0, locals := 0 }) D cyI cyO cyL [.ref aW] (cW cyI aW aw af w f) (cW cyI aW aw af w f) (sumL f 24 0 0) := by
  intro sz
  refine Met.ofW (cc := cX4_frostInAll) (maxL := 3) (ret := (some .int)) (by decide) rfl ?_
  intro p e s m args below meth c s₁ B9 hml hv
  obtain ⟨rfl, hsz, hP, hKK, hD0⟩ := hv
  have hx := B9.exec
  have hb := B9.bytes
  have hrt := B9.returns
  have hts := atoms_spec (ws := wsX4_frostInAll) B9.pre
  have hown : s.vm.findClass RX4 = some m.cls := findClass_of_methodNamed B9.named
  have hlocks := B9.notSynchronized
  have nw := fun {w : Cond} (h : w ∈ nw_all) => NW.use (args := ([.ref aW] : List Value).toArray) hKK.2 h
  have iX4 : ∀ w ∈ wsX40, w ∈ wsX4_frostInAll := fun _ h => List.mem_cons_of_mem _ (List.mem_append_right _ h)
  subst hsz
  have hD := hD0.self (sz := s.heap.size)
  generalize hAe : va_A (cW cyI aW aw af w f) s.heap.size = A at hD ⊢
  have hA : ∀ q : Nat, s.heap.size ≤ q → A q := fun q h => by rw [← hAe]; exact Or.inr h
  have hS : va_S A s.heap s.heap [] := va_S.rf
  have hl := lv_entry ([.ref aW]) (n := 3) (Nat.le_of_ble_eq_true rfl)
  rw [lg_entry_eq]
  generalize (lg_sl ([.ref aW]) ++ List.replicate (3 - (lg_sl ([.ref aW])).length) Slot.unset).toArray = ls at hl ⊢
  have hl : lv_has ls 3 [(0, .ref aW)] := hl
  refine lv_iconst (v := 0) hx hb dX4_frostInAll_0 (by decide) ?_
  refine lv_istore_n (lv' := [(1, .int 0), (0, .ref aW)]) hx hb dX4_frostInAll_1 rfl hl (by decide) rfl (fun ls hl => ?_)
  refine lv_iconst (v := 0) hx hb dX4_frostInAll_2 (by decide) ?_
  refine lv_istore_n (lv' := [(2, .int 0), (1, .int 0), (0, .ref aW)]) hx hb dX4_frostInAll_3 rfl hl (by decide) rfl (fun ls hl => ?_)
  refine wloop (σ := (Nat) × (Int32)) (fun d9 x9 H9 L9 s9 => ((x9.1) + d9 = 24) ∧ (sumL f 24 0 0 = sumL f d9 (x9.1) (x9.2)) ∧ (va_P D vwCl (cW cyI aW aw af w f) H9) ∧ (va_D A (cW cyI aW aw af w f)) ∧ (va_S A s.heap H9 L9) ∧ (lv_has s9 3 [(2, .int (nI (x9.1))), (1, .int (x9.2)), (0, .ref aW)])) (fun d9 x9 H locs ls g9 ih => ?_) 24 (0, 0) _ _ _ ⟨(by omega), rfl, hP, hD, hS, lv_sub hl [0, 1, 2] rfl⟩
  obtain ⟨i, a1⟩ := x9
  obtain ⟨hid, hsp, hP, hD, hS, hl⟩ := g9
  obtain ⟨d, rfl⟩ : ∃ z, z = d9 := ⟨_, rfl⟩
  have hid : i + d = 24 := hid
  have hsp : sumL f 24 0 0 = sumL f d i a1 := hsp
  have hP : va_P D vwCl (cW cyI aW aw af w f) H := hP
  have hD : va_D A (cW cyI aW aw af w f) := hD
  have hl : lv_has ls 3 [(2, .int (nI i)), (1, .int a1), (0, .ref aW)] := hl
  refine lv_iload_n hx hb dX4_frostInAll_4 rfl (lv_at hl 0 rfl) ?_
  refine lv_bipush (v := 24) hx hb dX4_frostInAll_5 (by decide) ?_
  refine lv_icmp_ge (tgt := 25) hx hb dX4_frostInAll_7 (by decide) (fun h_1 => ?_) (fun h_1 => ?_)
  · skip
    obtain rfl : d = 0 := by have h9 := (nI_leI (a := 24) (b := i) (by omega) (by omega)).mp h_1; omega
    have hiN : i = 24 := by omega
    refine lv_iload_n hx hb dX4_frostInAll_25 rfl (lv_at hl 1 rfl) ?_
    have e9 : sumL f 24 0 0 = a1 := (hsp.trans (by rfl))
    exact end_i hx hb hrt hlocks (by rw [e9]) hP hS dX4_frostInAll_26
  · skip
    have hlt : i < 24 := by have h9 := mt (nI_leI (a := 24) (b := i) (by omega) (by omega)).mpr h_1; omega
    obtain ⟨d, rfl⟩ : ∃ k, d = k + 1 := ⟨d - 1, by omega⟩
    refine lv_iload_n hx hb dX4_frostInAll_10 rfl (lv_at hl 1 rfl) ?_
    refine lv_aload_n hx hb dX4_frostInAll_11 rfl (lv_at hl 2 rfl) ?_
    refine va_get (D := D) (ci := 4) (v := .ref af) (C := RX4) (T := TX4) (N := 2) hx hb hts iX4 hown hKK.1 hP 0 rfl rfl 1 (by decide) (hts (.fieldLink RX4 15 "TrolleyGang$Wires" "frost" "[I") (List.mem_of_getElem? (i := 1) rfl)) (fun _ h9 => h9) rfl dX4_frostInAll_12 ?_
    refine lv_iload_n hx hb dX4_frostInAll_15 rfl (lv_at hl 0 rfl) ?_
    refine va_iald hx hb hKK.1 hP 2 0 rfl rfl (hin := (vp_in_nI hlt (by omega))) dX4_frostInAll_16 ?_
    refine lv_tope (y := f i) (by rw [nI_clamp (by omega)]) ?_
    refine lv_iadd hx hb dX4_frostInAll_17 ?_
    refine lv_istore_n (lv' := [(1, .int (a1 + (f i))), (2, .int (nI i)), (0, .ref aW)]) hx hb dX4_frostInAll_18 rfl hl (by decide) rfl (fun ls hl => ?_)
    refine lv_iinc (v := nI (i + 1)) (lv' := [(2, .int (nI (i + 1))), (1, .int (a1 + (f i))), (0, .ref aW)]) hx hb dX4_frostInAll_19 hl (k := 1) rfl (nI_1 i) (by decide) rfl (fun ls hl => ?_)
    refine lv_goto (tgt := 4) hx hb dX4_frostInAll_22 (by decide) ?_
    exact ih d ((i + 1), (a1 + (f i))) _ _ _ (by omega) ⟨(by omega), (hsp.trans (by rfl)), hP, hD, hS, lv_sub hl [0, 1, 2] rfl⟩
set_option maxHeartbeats 4000000 in
set_option maxRecDepth 100000 in
theorem c_X4_spansDown (l : Launch) (D : va_G) (cyI cyO cyL : ClassId) (aW : Nat) (aw : Nat) (af : Nat) (w : Nat → Int32) (f : Nat → Int32) : cI l yX4_spansDown wsX4_spansDown ({ frames := 1, cells := 0, slots := 0, locals := 21 }) D cyI cyO cyL [.ref aW] (cW cyI aW aw af w f) (cW cyI aW aw af w f) (spdL w 24 0 0) := by
  intro sz
  refine Met.ofW (cc := cX4_spansDown) (maxL := 3) (ret := (some .int)) (by decide) rfl ?_
  intro p e s m args below meth c s₁ B9 hml hv
  obtain ⟨rfl, hsz, hP, hKK, hD0⟩ := hv
  have hx := B9.exec
  have hb := B9.bytes
  have hrt := B9.returns
  have hts := atoms_spec (ws := wsX4_spansDown) B9.pre
  have hown : s.vm.findClass RX4 = some m.cls := findClass_of_methodNamed B9.named
  have hlocks := B9.notSynchronized
  have nw := fun {w : Cond} (h : w ∈ nw_all) => NW.use (args := ([.ref aW] : List Value).toArray) hKK.2 h
  subst hsz
  have hD := hD0.self (sz := s.heap.size)
  generalize hAe : va_A (cW cyI aW aw af w f) s.heap.size = A at hD ⊢
  have hA : ∀ q : Nat, s.heap.size ≤ q → A q := fun q h => by rw [← hAe]; exact Or.inr h
  have hS : va_S A s.heap s.heap [] := va_S.rf
  have hl := lv_entry ([.ref aW]) (n := 3) (Nat.le_of_ble_eq_true rfl)
  rw [lg_entry_eq]
  generalize (lg_sl ([.ref aW]) ++ List.replicate (3 - (lg_sl ([.ref aW])).length) Slot.unset).toArray = ls at hl ⊢
  have hl : lv_has ls 3 [(0, .ref aW)] := hl
  refine lv_iconst (v := 0) hx hb dX4_spansDown_0 (by decide) ?_
  refine lv_istore_n (lv' := [(1, .int 0), (0, .ref aW)]) hx hb dX4_spansDown_1 rfl hl (by decide) rfl (fun ls hl => ?_)
  refine lv_iconst (v := 0) hx hb dX4_spansDown_2 (by decide) ?_
  refine lv_istore_n (lv' := [(2, .int 0), (1, .int 0), (0, .ref aW)]) hx hb dX4_spansDown_3 rfl hl (by decide) rfl (fun ls hl => ?_)
  refine wloop (σ := (Nat) × (Int32)) (fun d9 x9 H9 L9 s9 => ((x9.1) + d9 = 24) ∧ (spdL w 24 0 0 = spdL w d9 (x9.1) (x9.2)) ∧ (va_P D vwCl (cW cyI aW aw af w f) H9) ∧ (va_D A (cW cyI aW aw af w f)) ∧ (va_S A s.heap H9 L9) ∧ (lv_has s9 3 [(2, .int (nI (x9.1))), (1, .int (x9.2)), (0, .ref aW)])) (fun d9 x9 H locs ls g9 ih => ?_) 24 (0, 0) _ _ _ ⟨(by omega), rfl, hP, hD, hS, lv_sub hl [0, 1, 2] rfl⟩
  obtain ⟨i, a1⟩ := x9
  obtain ⟨hid, hsp, hP, hD, hS, hl⟩ := g9
  obtain ⟨d, rfl⟩ : ∃ z, z = d9 := ⟨_, rfl⟩
  have hid : i + d = 24 := hid
  have hsp : spdL w 24 0 0 = spdL w d i a1 := hsp
  have hP : va_P D vwCl (cW cyI aW aw af w f) H := hP
  have hD : va_D A (cW cyI aW aw af w f) := hD
  have hl : lv_has ls 3 [(2, .int (nI i)), (1, .int a1), (0, .ref aW)] := hl
  refine lv_iload_n hx hb dX4_spansDown_4 rfl (lv_at hl 0 rfl) ?_
  refine lv_bipush (v := 24) hx hb dX4_spansDown_5 (by decide) ?_
  refine lv_icmp_ge (tgt := 27) hx hb dX4_spansDown_7 (by decide) (fun h_1 => ?_) (fun h_1 => ?_)
  · skip
    obtain rfl : d = 0 := by have h9 := (nI_leI (a := 24) (b := i) (by omega) (by omega)).mp h_1; omega
    have hiN : i = 24 := by omega
    refine lv_iload_n hx hb dX4_spansDown_27 rfl (lv_at hl 1 rfl) ?_
    have e9 : spdL w 24 0 0 = a1 := (hsp.trans (by rfl))
    exact end_i hx hb hrt hlocks (by rw [e9]) hP hS dX4_spansDown_28
  · skip
    have hlt : i < 24 := by have h9 := mt (nI_leI (a := 24) (b := i) (by omega) (by omega)).mpr h_1; omega
    obtain ⟨d, rfl⟩ : ∃ k, d = k + 1 := ⟨d - 1, by omega⟩
    refine lv_iload_n hx hb dX4_spansDown_10 rfl (lv_at hl 1 rfl) ?_
    refine lv_aload_n hx hb dX4_spansDown_11 rfl (lv_at hl 2 rfl) ?_
    refine lv_iload_n hx hb dX4_spansDown_12 rfl (lv_at hl 0 rfl) ?_
    have hPc := hP.sub (ws' := (cW cyI aW aw af w f)) [0, 1, 2] rfl
    have hDc := hD.sub (ws' := (cW cyI aW aw af w f)) [0, 1, 2] (by decide) rfl
    refine ret_i (W1 := (cW cyI aW aw af w f)) (W2 := (cW cyI aW aw af w f)) (r := dnI w (nI i)) (run_V (q := (RX4, TX4, 2)) (n := 1) (As := [.int (nI i)]) (rest := [.int a1]) ⟨hx, hb, hml, hown, hts⟩ (c_X4_isDown l D cyI cyO cyL aW aw af w f (nI i) (vp_in_nI hlt (by omega)) _) ggX4_spansDown_X4_isDown rfl rfl rfl (hts (.methodLink RX4 33 yX4_isDown) (List.mem_of_getElem? (i := 1) rfl)) (hts (.initialized RX4) (List.mem_of_getElem? (i := 4) rfl)) (hts (.instanceMethod yX4_isDown) (List.mem_of_getElem? (i := 2) rfl)) (hts (.selects RX4 yX4_isDown yX4_isDown) (List.mem_of_getElem? (i := 3) rfl)) (by decide +kernel) ⟨Nat.le_of_ble_eq_true rfl, Nat.le_of_ble_eq_true rfl⟩ hKK hPc hDc (ci := 4) (q0 := 0) rfl rfl rfl hl.1 rfl (Nat.le_of_ble_eq_true rfl) dX4_spansDown_13 ⟨Nat.zero_le _, Nat.zero_le _⟩) hP hD hS hA [0, 1, 2] rfl rfl (fun H locs hP hD hS => ?_)
    have hP : va_P D vwCl (cW cyI aW aw af w f) H := hP
    have hD : va_D A (cW cyI aW aw af w f) := hD
    have hPc := hP.sub (ws' := ([] : va_W)) [] rfl
    have hDc := hD.sub (ws' := ([] : va_W)) [] (by decide) rfl
    refine ret_i (W1 := ([] : va_W)) (W2 := ([] : va_W)) (r := oneI (dnI w (nI i))) (run_SN (n := 1) (As := [.int (dnI w (nI i))]) (rest := [.int a1]) ⟨hx, hb, hml, hown, hts⟩ (c_X5_oneIf l D cyI cyO cyL (dnI w (nI i)) _) ggX4_spansDown_X5_oneIf rfl rfl rfl nq_49 (hts (.initialized RX5) (List.mem_of_getElem? (i := 8) rfl)) (hts (.static yX5_oneIf) (List.mem_of_getElem? (i := 7) rfl)) (by decide +kernel) ⟨Nat.le_of_ble_eq_true rfl, Nat.le_of_ble_eq_true rfl⟩ hKK hPc hDc rfl hl.1 rfl (Nat.le_of_ble_eq_true rfl) dX4_spansDown_16 ⟨Nat.zero_le _, Nat.zero_le _⟩) hP hD hS hA [] rfl rfl (fun H locs hP hD hS => ?_)
    have hP : va_P D vwCl (cW cyI aW aw af w f) H := hP
    have hD : va_D A (cW cyI aW aw af w f) := hD
    refine lv_iadd hx hb dX4_spansDown_19 ?_
    refine lv_istore_n (lv' := [(1, .int (a1 + (oneI (dnI w (nI i))))), (2, .int (nI i)), (0, .ref aW)]) hx hb dX4_spansDown_20 rfl hl (by decide) rfl (fun ls hl => ?_)
    refine lv_iinc (v := nI (i + 1)) (lv' := [(2, .int (nI (i + 1))), (1, .int (a1 + (oneI (dnI w (nI i))))), (0, .ref aW)]) hx hb dX4_spansDown_21 hl (k := 1) rfl (nI_1 i) (by decide) rfl (fun ls hl => ?_)
    refine lv_goto (tgt := 4) hx hb dX4_spansDown_24 (by decide) ?_
    exact ih d ((i + 1), (a1 + (oneI (dnI w (nI i))))) _ _ _ (by omega) ⟨(by omega), (hsp.trans (by rfl)), hP, hD, hS, lv_sub hl [0, 1, 2] rfl⟩
set_option maxHeartbeats 4000000 in
set_option maxRecDepth 100000 in
theorem c_X4_spansUpBehind (l : Launch) (D : va_G) (cyI cyO cyL : ClassId) (aW : Nat) (aw : Nat) (af : Nat) (w : Nat → Int32) (f : Nat → Int32) (s_ : Int32) (hs : vp_in s_ 24) : cI l yX4_spansUpBehind wsX4_spansUpBehind ({ frames := 1, cells := 0, slots := 0, locals := 21 }) D cyI cyO cyL [.ref aW, .int s_] (cW cyI aW aw af w f) (cW cyI aW aw af w f) (spuL w s_ 24 0) := by
  intro sz
  refine Met.ofW (cc := cX4_spansUpBehind) (maxL := 3) (ret := (some .int)) (by decide) rfl ?_
  intro p e s m args below meth c s₁ B9 hml hv
  obtain ⟨rfl, hsz, hP, hKK, hD0⟩ := hv
  have hx := B9.exec
  have hb := B9.bytes
  have hrt := B9.returns
  have hts := atoms_spec (ws := wsX4_spansUpBehind) B9.pre
  have hown : s.vm.findClass RX4 = some m.cls := findClass_of_methodNamed B9.named
  have hlocks := B9.notSynchronized
  have nw := fun {w : Cond} (h : w ∈ nw_all) => NW.use (args := ([.ref aW, .int s_] : List Value).toArray) hKK.2 h
  subst hsz
  have hD := hD0.self (sz := s.heap.size)
  generalize hAe : va_A (cW cyI aW aw af w f) s.heap.size = A at hD ⊢
  have hA : ∀ q : Nat, s.heap.size ≤ q → A q := fun q h => by rw [← hAe]; exact Or.inr h
  have hS : va_S A s.heap s.heap [] := va_S.rf
  have hl := lv_entry ([.ref aW, .int s_]) (n := 3) (Nat.le_of_ble_eq_true rfl)
  rw [lg_entry_eq]
  generalize (lg_sl ([.ref aW, .int s_]) ++ List.replicate (3 - (lg_sl ([.ref aW, .int s_])).length) Slot.unset).toArray = ls at hl ⊢
  have hl : lv_has ls 3 [(0, .ref aW), (1, .int s_)] := hl
  refine lv_iconst (v := 0) hx hb dX4_spansUpBehind_0 (by decide) ?_
  refine lv_istore_n (lv' := [(2, .int 0), (0, .ref aW), (1, .int s_)]) hx hb dX4_spansUpBehind_1 rfl hl (by decide) rfl (fun ls hl => ?_)
  refine wloop (σ := (Nat)) (fun d9 x9 H9 L9 s9 => (x9 + d9 = 24) ∧ (spuL w s_ 24 0 = spuL w s_ d9 x9) ∧ (va_P D vwCl (cW cyI aW aw af w f) H9) ∧ (va_D A (cW cyI aW aw af w f)) ∧ (va_S A s.heap H9 L9) ∧ (lv_has s9 3 [(2, .int (nI x9)), (0, .ref aW), (1, .int s_)])) (fun d9 x9 H locs ls g9 ih => ?_) 24 0 _ _ _ ⟨(by omega), rfl, hP, hD, hS, lv_sub hl [0, 1, 2] rfl⟩
  obtain ⟨i, rfl⟩ : ∃ z, z = x9 := ⟨_, rfl⟩
  obtain ⟨hid, hsp, hP, hD, hS, hl⟩ := g9
  obtain ⟨d, rfl⟩ : ∃ z, z = d9 := ⟨_, rfl⟩
  have hid : i + d = 24 := hid
  have hsp : spuL w s_ 24 0 = spuL w s_ d i := hsp
  have hP : va_P D vwCl (cW cyI aW aw af w f) H := hP
  have hD : va_D A (cW cyI aW aw af w f) := hD
  have hl : lv_has ls 3 [(2, .int (nI i)), (0, .ref aW), (1, .int s_)] := hl
  refine lv_iload_n hx hb dX4_spansUpBehind_2 rfl (lv_at hl 0 rfl) ?_
  refine lv_bipush (v := 24) hx hb dX4_spansUpBehind_3 (by decide) ?_
  refine lv_icmp_ge (tgt := 29) hx hb dX4_spansUpBehind_5 (by decide) (fun h_1 => ?_) (fun h_1 => ?_)
  · skip
    obtain rfl : d = 0 := by have h9 := (nI_leI (a := 24) (b := i) (by omega) (by omega)).mp h_1; omega
    have hiN : i = 24 := by omega
    refine lv_iload_n hx hb dX4_spansUpBehind_29 rfl (lv_at hl 0 rfl) ?_
    have e9 : spuL w s_ 24 0 = nI i := (hsp.trans (by first | with_reducible rfl | (simp only [spuL, h_1, if_true, if_false, reduceIte, not_true_eq_false, not_false_eq_true]; done) | (simp [spuL, h_1]; done)))
    exact end_i hx hb hrt hlocks (by rw [e9]) hP hS dX4_spansUpBehind_30
  · skip
    have hlt : i < 24 := by have h9 := mt (nI_leI (a := 24) (b := i) (by omega) (by omega)).mpr h_1; omega
    obtain ⟨d, rfl⟩ : ∃ k, d = k + 1 := ⟨d - 1, by omega⟩
    refine lv_aload_n hx hb dX4_spansUpBehind_8 rfl (lv_at hl 1 rfl) ?_
    refine lv_iload_n hx hb dX4_spansUpBehind_9 rfl (lv_at hl 2 rfl) ?_
    refine lv_iload_n hx hb dX4_spansUpBehind_10 rfl (lv_at hl 0 rfl) ?_
    refine lv_iadd hx hb dX4_spansUpBehind_11 ?_
    refine lv_iconst (v := 1) hx hb dX4_spansUpBehind_12 (by decide) ?_
    refine lv_iadd hx hb dX4_spansUpBehind_13 ?_
    refine lv_bipush (v := 24) hx hb dX4_spansUpBehind_14 (by decide) ?_
    refine lv_irem hx hb dX4_spansUpBehind_16 (by decide) ?_
    refine lv_tope (y := ir ((s_ + (nI i)) + 1) 24) rfl ?_
    have hPc := hP.sub (ws' := (cW cyI aW aw af w f)) [0, 1, 2] rfl
    have hDc := hD.sub (ws' := (cW cyI aW aw af w f)) [0, 1, 2] (by decide) rfl
    refine ret_i (W1 := (cW cyI aW aw af w f)) (W2 := (cW cyI aW aw af w f)) (r := dnI w (ir ((s_ + (nI i)) + 1) 24)) (run_V (q := (RX4, TX4, 2)) (n := 1) (As := [.int (ir ((s_ + (nI i)) + 1) 24)]) (rest := []) ⟨hx, hb, hml, hown, hts⟩ (c_X4_isDown l D cyI cyO cyL aW aw af w f (ir ((s_ + (nI i)) + 1) 24) (spu_in hs hlt) _) ggX4_spansUpBehind_X4_isDown rfl rfl rfl (hts (.methodLink RX4 33 yX4_isDown) (List.mem_of_getElem? (i := 1) rfl)) (hts (.initialized RX4) (List.mem_of_getElem? (i := 4) rfl)) (hts (.instanceMethod yX4_isDown) (List.mem_of_getElem? (i := 2) rfl)) (hts (.selects RX4 yX4_isDown yX4_isDown) (List.mem_of_getElem? (i := 3) rfl)) (by decide +kernel) ⟨Nat.le_of_ble_eq_true rfl, Nat.le_of_ble_eq_true rfl⟩ hKK hPc hDc (ci := 4) (q0 := 0) rfl rfl rfl hl.1 rfl (Nat.le_of_ble_eq_true rfl) dX4_spansUpBehind_17 ⟨Nat.zero_le _, Nat.zero_le _⟩) hP hD hS hA [0, 1, 2] rfl rfl (fun H locs hP hD hS => ?_)
    have hP : va_P D vwCl (cW cyI aW aw af w f) H := hP
    have hD : va_D A (cW cyI aW aw af w f) := hD
    refine lv_if_ne (tgt := 29) hx hb dX4_spansUpBehind_20 (by decide) (fun h_2 => ?_) (fun h_2 => ?_)
    · skip
      refine lv_iload_n hx hb dX4_spansUpBehind_29 rfl (lv_at hl 0 rfl) ?_
      have e9 : spuL w s_ 24 0 = nI i := (hsp.trans (by first | with_reducible rfl | (simp only [spuL, h_1, h_2, if_true, if_false, reduceIte, not_true_eq_false, not_false_eq_true]; done) | (simp [spuL, h_1, h_2]; done)))
      exact end_i hx hb hrt hlocks (by rw [e9]) hP hS dX4_spansUpBehind_30
    · skip
      refine lv_iinc (v := nI (i + 1)) (lv' := [(2, .int (nI (i + 1))), (0, .ref aW), (1, .int s_)]) hx hb dX4_spansUpBehind_23 hl (k := 0) rfl (nI_1 i) (by decide) rfl (fun ls hl => ?_)
      refine lv_goto (tgt := 2) hx hb dX4_spansUpBehind_26 (by decide) ?_
      exact ih d (i + 1) _ _ _ (by omega) ⟨(by omega), (hsp.trans (by first | with_reducible rfl | (simp only [spuL, h_1, h_2, if_true, if_false, reduceIte, not_true_eq_false, not_false_eq_true]; done) | (simp [spuL, h_1, h_2]; done))), hP, hD, hS, lv_sub hl [0, 1, 2] rfl⟩
end
section
set_option maxHeartbeats 4000000 in
set_option maxRecDepth 100000 in
theorem c_X1_placeOf (l : Launch) (D : va_G) (cyI cyO cyL : ClassId) (aG : Nat) (ao : Nat) (od : Nat → Int32) (g : Nat → Int32) (x_ : Int32) (n : Nat) (hn : n ≤ 6) (hoc : g 0 = nI n) : cI l yX1_placeOf wsX1_placeOf ({ frames := 0, cells := 0, slots := 0, locals := 0 }) D cyI cyO cyL [.ref aG, .int x_] (cG cyI aG ao od g) (cG cyI aG ao od g) (pofL od x_ n 0) := by
  intro sz
  refine Met.ofW (cc := cX1_placeOf) (maxL := 3) (ret := (some .int)) (by decide) rfl ?_
  intro p e s m args below meth c s₁ B9 hml hv
  obtain ⟨rfl, hsz, hP, hKK, hD0⟩ := hv
  have hx := B9.exec
  have hb := B9.bytes
  have hrt := B9.returns
  have hts := atoms_spec (ws := wsX1_placeOf) B9.pre
  have hown : s.vm.findClass RX1 = some m.cls := findClass_of_methodNamed B9.named
  have hlocks := B9.notSynchronized
  have nw := fun {w : Cond} (h : w ∈ nw_all) => NW.use (args := ([.ref aG, .int x_] : List Value).toArray) hKK.2 h
  have iX1 : ∀ w ∈ wsX10, w ∈ wsX1_placeOf := fun _ h => List.mem_cons_of_mem _ (List.mem_append_right _ h)
  subst hsz
  have hD := hD0.self (sz := s.heap.size)
  generalize hAe : va_A (cG cyI aG ao od g) s.heap.size = A at hD ⊢
  have hA : ∀ q : Nat, s.heap.size ≤ q → A q := fun q h => by rw [← hAe]; exact Or.inr h
  have hS : va_S A s.heap s.heap [] := va_S.rf
  have hl := lv_entry ([.ref aG, .int x_]) (n := 3) (Nat.le_of_ble_eq_true rfl)
  rw [lg_entry_eq]
  generalize (lg_sl ([.ref aG, .int x_]) ++ List.replicate (3 - (lg_sl ([.ref aG, .int x_])).length) Slot.unset).toArray = ls at hl ⊢
  have hl : lv_has ls 3 [(0, .ref aG), (1, .int x_)] := hl
  refine lv_iconst (v := 0) hx hb dX1_placeOf_0 (by decide) ?_
  refine lv_istore_n (lv' := [(2, .int 0), (0, .ref aG), (1, .int x_)]) hx hb dX1_placeOf_1 rfl hl (by decide) rfl (fun ls hl => ?_)
  refine wloop (σ := (Nat)) (fun d9 x9 H9 L9 s9 => (x9 + d9 = n) ∧ (pofL od x_ n 0 = pofL od x_ d9 x9) ∧ (va_P D vwCl (cG cyI aG ao od g) H9) ∧ (va_D A (cG cyI aG ao od g)) ∧ (va_S A s.heap H9 L9) ∧ (lv_has s9 3 [(2, .int (nI x9)), (0, .ref aG), (1, .int x_)])) (fun d9 x9 H locs ls g9 ih => ?_) n 0 _ _ _ ⟨(by omega), rfl, hP, hD, hS, lv_sub hl [0, 1, 2] rfl⟩
  obtain ⟨i, rfl⟩ : ∃ z, z = x9 := ⟨_, rfl⟩
  obtain ⟨hid, hsp, hP, hD, hS, hl⟩ := g9
  obtain ⟨d, rfl⟩ : ∃ z, z = d9 := ⟨_, rfl⟩
  have hid : i + d = n := hid
  have hsp : pofL od x_ n 0 = pofL od x_ d i := hsp
  have hP : va_P D vwCl (cG cyI aG ao od g) H := hP
  have hD : va_D A (cG cyI aG ao od g) := hD
  have hl : lv_has ls 3 [(2, .int (nI i)), (0, .ref aG), (1, .int x_)] := hl
  refine lv_iload_n hx hb dX1_placeOf_2 rfl (lv_at hl 0 rfl) ?_
  refine lv_aload_n hx hb dX1_placeOf_3 rfl (lv_at hl 1 rfl) ?_
  refine va_get (D := D) (ci := 1) (v := .int (g 0)) (C := RX1) (T := TX1) (N := 6) hx hb hts iX1 hown hKK.1 hP 0 rfl rfl 1 (by decide) (hts (.fieldLink RX1 21 "TrolleyGang$Gang" "orderCount" "I") (List.mem_of_getElem? (i := 1) rfl)) (fun _ h9 => h9) rfl dX1_placeOf_4 ?_
  refine lv_tope (y := nI n) hoc ?_
  refine lv_icmp_ge (tgt := 28) hx hb dX1_placeOf_7 (by decide) (fun h_1 => ?_) (fun h_1 => ?_)
  · skip
    obtain rfl : d = 0 := by have h9 := (nI_leI (a := n) (b := i) (by omega) (by omega)).mp h_1; omega
    have hiN : i = n := by omega
    refine lv_iconst (v := (-1)) hx hb dX1_placeOf_28 (by decide) ?_
    have e9 : pofL od x_ n 0 = (-1) := (hsp.trans (by first | with_reducible rfl | (simp only [pofL, h_1, if_true, if_false, reduceIte, not_true_eq_false, not_false_eq_true]; done) | (simp [pofL, h_1]; done)))
    exact end_i hx hb hrt hlocks (by rw [e9]) hP hS dX1_placeOf_29
  · skip
    have hlt : i < n := by have h9 := mt (nI_leI (a := n) (b := i) (by omega) (by omega)).mpr h_1; omega
    obtain ⟨d, rfl⟩ : ∃ k, d = k + 1 := ⟨d - 1, by omega⟩
    refine lv_aload_n hx hb dX1_placeOf_10 rfl (lv_at hl 1 rfl) ?_
    refine va_get (D := D) (ci := 1) (v := .ref ao) (C := RX1) (T := TX1) (N := 6) hx hb hts iX1 hown hKK.1 hP 0 rfl rfl 0 (by decide) (hts (.fieldLink RX1 9 "TrolleyGang$Gang" "orders" "[I") (List.mem_of_getElem? (i := 2) rfl)) (fun _ h9 => h9) rfl dX1_placeOf_11 ?_
    refine lv_iload_n hx hb dX1_placeOf_14 rfl (lv_at hl 0 rfl) ?_
    refine va_iald hx hb hKK.1 hP 1 0 rfl rfl (hin := (vp_in_nI (show i < 6 by omega) (by omega))) dX1_placeOf_15 ?_
    refine lv_tope (y := od i) (by rw [nI_clamp (by omega)]) ?_
    refine lv_iload_n hx hb dX1_placeOf_16 rfl (lv_at hl 2 rfl) ?_
    refine lv_icmp_ne (tgt := 22) hx hb dX1_placeOf_17 (by decide) (fun h_2 => ?_) (fun h_2 => ?_)
    · skip
      refine lv_iinc (v := nI (i + 1)) (lv' := [(2, .int (nI (i + 1))), (0, .ref aG), (1, .int x_)]) hx hb dX1_placeOf_22 hl (k := 0) rfl (nI_1 i) (by decide) rfl (fun ls hl => ?_)
      refine lv_goto (tgt := 2) hx hb dX1_placeOf_25 (by decide) ?_
      exact ih d (i + 1) _ _ _ (by omega) ⟨(by omega), (hsp.trans (by first | with_reducible rfl | (simp only [pofL, h_1, h_2, if_true, if_false, reduceIte, not_true_eq_false, not_false_eq_true]; done) | (simp [pofL, h_1, h_2]; done))), hP, hD, hS, lv_sub hl [0, 1, 2] rfl⟩
    · skip
      refine lv_iload_n hx hb dX1_placeOf_20 rfl (lv_at hl 0 rfl) ?_
      have e9 : pofL od x_ n 0 = nI i := (hsp.trans (by first | with_reducible rfl | (simp only [pofL, h_1, h_2, if_true, if_false, reduceIte, not_true_eq_false, not_false_eq_true]; done) | (simp [pofL, h_1, h_2]; done)))
      exact end_i hx hb hrt hlocks (by rw [e9]) hP hS dX1_placeOf_21
set_option maxHeartbeats 4000000 in
set_option maxRecDepth 100000 in
theorem c_X1_takeOut (l : Launch) (D : va_G) (cyI cyO cyL : ClassId) (aG : Nat) (ao : Nat) (od : Nat → Int32) (g : Nat → Int32) (p_ : Nat) (n : Nat) (hn : n ≤ 6) (hoc : g 0 = nI n) (hp : p_ < n) : cV l yX1_takeOut wsX1_takeOut ({ frames := 0, cells := 0, slots := 0, locals := 0 }) D cyI cyO cyL [.ref aG, .int (nI p_)] (cG cyI aG ao od g) (cG cyI aG ao ((takeS od g p_ n).1) ((takeS od g p_ n).2)) := by
  intro sz
  refine Met.ofW (cc := cX1_takeOut) (maxL := 3) (ret := none) (by decide) rfl ?_
  intro p e s m args below meth c s₁ B9 hml hv
  obtain ⟨rfl, hsz, hP, hKK, hD0⟩ := hv
  have hx := B9.exec
  have hb := B9.bytes
  have hrt := B9.returns
  have hts := atoms_spec (ws := wsX1_takeOut) B9.pre
  have hown : s.vm.findClass RX1 = some m.cls := findClass_of_methodNamed B9.named
  have hlocks := B9.notSynchronized
  have nw := fun {w : Cond} (h : w ∈ nw_all) => NW.use (args := ([.ref aG, .int (nI p_)] : List Value).toArray) hKK.2 h
  have iX1 : ∀ w ∈ wsX10, w ∈ wsX1_takeOut := fun _ h => List.mem_cons_of_mem _ (List.mem_append_right _ h)
  subst hsz
  have hD := hD0.self (sz := s.heap.size)
  generalize hAe : va_A (cG cyI aG ao od g) s.heap.size = A at hD ⊢
  have hA : ∀ q : Nat, s.heap.size ≤ q → A q := fun q h => by rw [← hAe]; exact Or.inr h
  have hS : va_S A s.heap s.heap [] := va_S.rf
  have hl := lv_entry ([.ref aG, .int (nI p_)]) (n := 3) (Nat.le_of_ble_eq_true rfl)
  rw [lg_entry_eq]
  generalize (lg_sl ([.ref aG, .int (nI p_)]) ++ List.replicate (3 - (lg_sl ([.ref aG, .int (nI p_)])).length) Slot.unset).toArray = ls at hl ⊢
  have hl : lv_has ls 3 [(0, .ref aG), (1, .int (nI p_))] := hl
  refine lv_iload_n hx hb dX1_takeOut_0 rfl (lv_at hl 1 rfl) ?_
  refine lv_iconst (v := 1) hx hb dX1_takeOut_1 (by decide) ?_
  refine lv_iadd hx hb dX1_takeOut_2 ?_
  refine lv_tope (y := nI (p_ + 1)) (nI_1 p_) ?_
  refine lv_istore_n (lv' := [(2, .int (nI (p_ + 1))), (0, .ref aG), (1, .int (nI p_))]) hx hb dX1_takeOut_3 rfl hl (by decide) rfl (fun ls hl => ?_)
  refine wloop (σ := (Nat) × (Nat → Int32)) (fun d9 x9 H9 L9 s9 => ((x9.1) + d9 = n) ∧ (tkL (n - (p_ + 1)) (p_ + 1) od = tkL d9 (x9.1) (x9.2)) ∧ (p_ < (x9.1)) ∧ (va_P D vwCl (cG cyI aG ao (x9.2) g) H9) ∧ (va_D A (cG cyI aG ao (x9.2) g)) ∧ (va_S A s.heap H9 L9) ∧ (lv_has s9 3 [(2, .int (nI (x9.1))), (0, .ref aG), (1, .int (nI p_))])) (fun d9 x9 H locs ls g9 ih => ?_) (n - (p_ + 1)) ((p_ + 1), od) _ _ _ ⟨(by omega), rfl, (by omega), hP, hD, hS, lv_sub hl [0, 1, 2] rfl⟩
  obtain ⟨i, od1⟩ := x9
  obtain ⟨hid, hsp, hip, hP, hD, hS, hl⟩ := g9
  obtain ⟨d, rfl⟩ : ∃ z, z = d9 := ⟨_, rfl⟩
  have hid : i + d = n := hid
  have hsp : tkL (n - (p_ + 1)) (p_ + 1) od = tkL d i od1 := hsp
  have hip : p_ < i := hip
  have hP : va_P D vwCl (cG cyI aG ao od1 g) H := hP
  have hD : va_D A (cG cyI aG ao od1 g) := hD
  have hl : lv_has ls 3 [(2, .int (nI i)), (0, .ref aG), (1, .int (nI p_))] := hl
  refine lv_iload_n hx hb dX1_takeOut_4 rfl (lv_at hl 0 rfl) ?_
  refine lv_aload_n hx hb dX1_takeOut_5 rfl (lv_at hl 1 rfl) ?_
  refine va_get (D := D) (ci := 1) (v := .int (g 0)) (C := RX1) (T := TX1) (N := 6) hx hb hts iX1 hown hKK.1 hP 0 rfl rfl 1 (by decide) (hts (.fieldLink RX1 21 "TrolleyGang$Gang" "orderCount" "I") (List.mem_of_getElem? (i := 1) rfl)) (fun _ h9 => h9) rfl dX1_takeOut_6 ?_
  refine lv_tope (y := nI n) hoc ?_
  refine lv_icmp_ge (tgt := 32) hx hb dX1_takeOut_9 (by decide) (fun h_1 => ?_) (fun h_1 => ?_)
  · skip
    obtain rfl : d = 0 := by have h9 := (nI_leI (a := n) (b := i) (by omega) (by omega)).mp h_1; omega
    have hiN : i = n := by omega
    refine lv_aload_n hx hb dX1_takeOut_32 rfl (lv_at hl 1 rfl) ?_
    refine lv_dup hx hb dX1_takeOut_33 rfl ?_
    refine va_get (D := D) (ci := 1) (v := .int (g 0)) (C := RX1) (T := TX1) (N := 6) hx hb hts iX1 hown hKK.1 hP 0 rfl rfl 1 (by decide) (hts (.fieldLink RX1 21 "TrolleyGang$Gang" "orderCount" "I") (List.mem_of_getElem? (i := 1) rfl)) (fun _ h9 => h9) rfl dX1_takeOut_34 ?_
    refine lv_tope (y := g 0) rfl ?_
    refine lv_iconst (v := 1) hx hb dX1_takeOut_37 (by decide) ?_
    refine lv_isub hx hb dX1_takeOut_38 ?_
    refine va_put (D := D) (ci := 1) (v := .int ((g 0) - 1)) (ty := .int) (C := RX1) (T := TX1) (N := 6) hx hb hts iX1 tyX1 tyX1_ok nmX1 hown hKK.1 hP hD hS 0 rfl rfl 1 (by decide) (hts (.fieldLink RX1 21 "TrolleyGang$Gang" "orderCount" "I") (List.mem_of_getElem? (i := 1) rfl)) (fun _ h9 => h9) rfl (by decide +kernel) rfl rfl (Nat.le_of_ble_eq_true rfl) dX1_takeOut_39 (fun H locs hP hD hS => ?_)
    have hP : va_P D vwCl (cG cyI aG ao od1 (upd g 0 ((g 0) - 1))) H := hP
    have hD : va_D A (cG cyI aG ao od1 (upd g 0 ((g 0) - 1))) := hD
    refine lv_iload_n hx hb dX1_takeOut_42 rfl (lv_at hl 2 rfl) ?_
    refine lv_if_ne (tgt := 51) hx hb dX1_takeOut_43 (by decide) (fun h_2 => ?_) (fun h_2 => ?_)
    · skip
      have e9 : takeS od g p_ n = (od1, (upd g 0 ((g 0) - 1))) := (by rw [takeS, hsp]; exact (by first | with_reducible rfl | (simp only [takeS, tkL, h_1, h_2, if_true, if_false, reduceIte, not_true_eq_false, not_false_eq_true]; done) | (simp [takeS, tkL, h_1, h_2]; done)))
      exact end_v hx hb hrt hlocks (by rw [e9]; exact hP) hS dX1_takeOut_51
    · skip
      refine lv_aload_n hx hb dX1_takeOut_46 rfl (lv_at hl 1 rfl) ?_
      refine lv_iconst (v := 0) hx hb dX1_takeOut_47 (by decide) ?_
      refine va_put (D := D) (ci := 1) (v := .int 0) (ty := .int) (C := RX1) (T := TX1) (N := 6) hx hb hts iX1 tyX1 tyX1_ok nmX1 hown hKK.1 hP hD hS 0 rfl rfl 3 (by decide) (hts (.fieldLink RX1 28 "TrolleyGang$Gang" "worksAtFirst" "I") (List.mem_of_getElem? (i := 3) rfl)) (fun _ h9 => h9) rfl (by decide +kernel) rfl rfl (Nat.le_of_ble_eq_true rfl) dX1_takeOut_48 (fun H locs hP hD hS => ?_)
      have hP : va_P D vwCl (cG cyI aG ao od1 (upd (upd g 0 ((g 0) - 1)) 2 0)) H := hP
      have hD : va_D A (cG cyI aG ao od1 (upd (upd g 0 ((g 0) - 1)) 2 0)) := hD
      have e9 : takeS od g p_ n = (od1, (upd (upd g 0 ((g 0) - 1)) 2 0)) := (by rw [takeS, hsp]; exact (by first | with_reducible rfl | (simp only [takeS, tkL, h_1, h_2, if_true, if_false, reduceIte, not_true_eq_false, not_false_eq_true]; done) | (simp [takeS, tkL, h_1, h_2]; done)))
      exact end_v hx hb hrt hlocks (by rw [e9]; exact hP) hS dX1_takeOut_51
  · skip
    have hlt : i < n := by have h9 := mt (nI_leI (a := n) (b := i) (by omega) (by omega)).mpr h_1; omega
    obtain ⟨d, rfl⟩ : ∃ k, d = k + 1 := ⟨d - 1, by omega⟩
    refine lv_aload_n hx hb dX1_takeOut_12 rfl (lv_at hl 1 rfl) ?_
    refine va_get (D := D) (ci := 1) (v := .ref ao) (C := RX1) (T := TX1) (N := 6) hx hb hts iX1 hown hKK.1 hP 0 rfl rfl 0 (by decide) (hts (.fieldLink RX1 9 "TrolleyGang$Gang" "orders" "[I") (List.mem_of_getElem? (i := 2) rfl)) (fun _ h9 => h9) rfl dX1_takeOut_13 ?_
    refine lv_iload_n hx hb dX1_takeOut_16 rfl (lv_at hl 0 rfl) ?_
    refine lv_iconst (v := 1) hx hb dX1_takeOut_17 (by decide) ?_
    refine lv_isub hx hb dX1_takeOut_18 ?_
    refine lv_tope (y := nI (i - 1)) (pk_sub (a := i) (b := 1) (by omega)) ?_
    refine lv_aload_n hx hb dX1_takeOut_19 rfl (lv_at hl 1 rfl) ?_
    refine va_get (D := D) (ci := 1) (v := .ref ao) (C := RX1) (T := TX1) (N := 6) hx hb hts iX1 hown hKK.1 hP 0 rfl rfl 0 (by decide) (hts (.fieldLink RX1 9 "TrolleyGang$Gang" "orders" "[I") (List.mem_of_getElem? (i := 2) rfl)) (fun _ h9 => h9) rfl dX1_takeOut_20 ?_
    refine lv_iload_n hx hb dX1_takeOut_23 rfl (lv_at hl 0 rfl) ?_
    refine va_iald hx hb hKK.1 hP 1 0 rfl rfl (hin := (vp_in_nI (show i < 6 by omega) (by omega))) dX1_takeOut_24 ?_
    refine lv_tope (y := od1 i) (by rw [nI_clamp (by omega)]) ?_
    refine va_iast hx hb hKK.1 hP hD hS 1 0 rfl rfl (hin := (vp_in_nI (show i - 1 < 6 by omega) (by omega))) dX1_takeOut_25 (fun H locs hP hD hS => ?_)
    rw [nI_clamp (by omega)] at hP hD
    have hP : va_P D vwCl (cG cyI aG ao (upd od1 (i - 1) (od1 i)) g) H := hP
    have hD : va_D A (cG cyI aG ao (upd od1 (i - 1) (od1 i)) g) := hD
    refine lv_iinc (v := nI (i + 1)) (lv' := [(2, .int (nI (i + 1))), (0, .ref aG), (1, .int (nI p_))]) hx hb dX1_takeOut_26 hl (k := 0) rfl (nI_1 i) (by decide) rfl (fun ls hl => ?_)
    refine lv_goto (tgt := 4) hx hb dX1_takeOut_29 (by decide) ?_
    exact ih d ((i + 1), (upd od1 (i - 1) (od1 i))) _ _ _ (by omega) ⟨(by omega), (hsp.trans (by first | with_reducible rfl | (simp only [takeS, tkL, h_1, if_true, if_false, reduceIte, not_true_eq_false, not_false_eq_true]; done) | (simp [takeS, tkL, h_1]; done))), (by omega), hP, hD, hS, lv_sub hl [0, 1, 2] rfl⟩
set_option maxHeartbeats 4000000 in
set_option maxRecDepth 100000 in
theorem c_X1_haveOnly (l : Launch) (D : va_G) (cyI cyO cyL : ClassId) (aG : Nat) (ao : Nat) (od : Nat → Int32) (g : Nat → Int32) (x_ : Int32) : cV l yX1_haveOnly wsX1_haveOnly ({ frames := 0, cells := 0, slots := 0, locals := 0 }) D cyI cyO cyL [.ref aG, .int x_] (cG cyI aG ao od g) (cG cyI aG ao ((haveS od g x_).1) ((haveS od g x_).2)) := by
  intro sz
  refine Met.ofW (cc := cX1_haveOnly) (maxL := 2) (ret := none) (by decide) rfl ?_
  intro p e s m args below meth c s₁ B9 hml hv
  obtain ⟨rfl, hsz, hP, hKK, hD0⟩ := hv
  have hx := B9.exec
  have hb := B9.bytes
  have hrt := B9.returns
  have hts := atoms_spec (ws := wsX1_haveOnly) B9.pre
  have hown : s.vm.findClass RX1 = some m.cls := findClass_of_methodNamed B9.named
  have hlocks := B9.notSynchronized
  have nw := fun {w : Cond} (h : w ∈ nw_all) => NW.use (args := ([.ref aG, .int x_] : List Value).toArray) hKK.2 h
  have iX1 : ∀ w ∈ wsX10, w ∈ wsX1_haveOnly := fun _ h => List.mem_cons_of_mem _ (List.mem_append_right _ h)
  subst hsz
  have hD := hD0.self (sz := s.heap.size)
  generalize hAe : va_A (cG cyI aG ao od g) s.heap.size = A at hD ⊢
  have hA : ∀ q : Nat, s.heap.size ≤ q → A q := fun q h => by rw [← hAe]; exact Or.inr h
  have hS : va_S A s.heap s.heap [] := va_S.rf
  have hl := lv_entry ([.ref aG, .int x_]) (n := 2) (Nat.le_of_ble_eq_true rfl)
  rw [lg_entry_eq]
  generalize (lg_sl ([.ref aG, .int x_]) ++ List.replicate (2 - (lg_sl ([.ref aG, .int x_])).length) Slot.unset).toArray = ls at hl ⊢
  have hl : lv_has ls 2 [(0, .ref aG), (1, .int x_)] := hl
  refine lv_aload_n hx hb dX1_haveOnly_0 rfl (lv_at hl 0 rfl) ?_
  refine lv_iconst (v := 0) hx hb dX1_haveOnly_1 (by decide) ?_
  refine va_put (D := D) (ci := 1) (v := .int 0) (ty := .int) (C := RX1) (T := TX1) (N := 6) hx hb hts iX1 tyX1 tyX1_ok nmX1 hown hKK.1 hP hD hS 0 rfl rfl 1 (by decide) (hts (.fieldLink RX1 21 "TrolleyGang$Gang" "orderCount" "I") (List.mem_of_getElem? (i := 1) rfl)) (fun _ h9 => h9) rfl (by decide +kernel) rfl rfl (Nat.le_of_ble_eq_true rfl) dX1_haveOnly_2 (fun H locs hP hD hS => ?_)
  have hP : va_P D vwCl (cG cyI aG ao od (upd g 0 0)) H := hP
  have hD : va_D A (cG cyI aG ao od (upd g 0 0)) := hD
  refine lv_aload_n hx hb dX1_haveOnly_5 rfl (lv_at hl 0 rfl) ?_
  refine lv_iconst (v := 0) hx hb dX1_haveOnly_6 (by decide) ?_
  refine va_put (D := D) (ci := 1) (v := .int 0) (ty := .int) (C := RX1) (T := TX1) (N := 6) hx hb hts iX1 tyX1 tyX1_ok nmX1 hown hKK.1 hP hD hS 0 rfl rfl 3 (by decide) (hts (.fieldLink RX1 28 "TrolleyGang$Gang" "worksAtFirst" "I") (List.mem_of_getElem? (i := 2) rfl)) (fun _ h9 => h9) rfl (by decide +kernel) rfl rfl (Nat.le_of_ble_eq_true rfl) dX1_haveOnly_7 (fun H locs hP hD hS => ?_)
  have hP : va_P D vwCl (cG cyI aG ao od (upd (upd g 0 0) 2 0)) H := hP
  have hD : va_D A (cG cyI aG ao od (upd (upd g 0 0) 2 0)) := hD
  refine lv_iload_n hx hb dX1_haveOnly_10 rfl (lv_at hl 1 rfl) ?_
  refine lv_iconst (v := (-1)) hx hb dX1_haveOnly_11 (by decide) ?_
  refine lv_icmp_eq (tgt := 27) hx hb dX1_haveOnly_12 (by decide) (fun h_1 => ?_) (fun h_1 => ?_)
  · skip
    have e9 : haveS od g x_ = (od, (upd (upd g 0 0) 2 0)) := (by first | with_reducible rfl | (simp only [haveS, h_1, if_true, if_false, reduceIte, not_true_eq_false, not_false_eq_true]; done) | (simp [haveS, h_1]; done))
    exact end_v hx hb hrt hlocks (by rw [e9]; exact hP) hS dX1_haveOnly_27
  · skip
    refine lv_aload_n hx hb dX1_haveOnly_15 rfl (lv_at hl 0 rfl) ?_
    refine va_get (D := D) (ci := 1) (v := .ref ao) (C := RX1) (T := TX1) (N := 6) hx hb hts iX1 hown hKK.1 hP 0 rfl rfl 0 (by decide) (hts (.fieldLink RX1 9 "TrolleyGang$Gang" "orders" "[I") (List.mem_of_getElem? (i := 3) rfl)) (fun _ h9 => h9) rfl dX1_haveOnly_16 ?_
    refine lv_iconst (v := 0) hx hb dX1_haveOnly_19 (by decide) ?_
    refine lv_iload_n hx hb dX1_haveOnly_20 rfl (lv_at hl 1 rfl) ?_
    refine va_iast hx hb hKK.1 hP hD hS 1 0 rfl rfl (hin := (vp_in_nI (n := 0) (by omega) (by omega))) dX1_haveOnly_21 (fun H locs hP hD hS => ?_)
    have hP : va_P D vwCl (cG cyI aG ao (upd od 0 x_) (upd (upd g 0 0) 2 0)) H := hP
    have hD : va_D A (cG cyI aG ao (upd od 0 x_) (upd (upd g 0 0) 2 0)) := hD
    refine lv_aload_n hx hb dX1_haveOnly_22 rfl (lv_at hl 0 rfl) ?_
    refine lv_iconst (v := 1) hx hb dX1_haveOnly_23 (by decide) ?_
    refine va_put (D := D) (ci := 1) (v := .int 1) (ty := .int) (C := RX1) (T := TX1) (N := 6) hx hb hts iX1 tyX1 tyX1_ok nmX1 hown hKK.1 hP hD hS 0 rfl rfl 1 (by decide) (hts (.fieldLink RX1 21 "TrolleyGang$Gang" "orderCount" "I") (List.mem_of_getElem? (i := 1) rfl)) (fun _ h9 => h9) rfl (by decide +kernel) rfl rfl (Nat.le_of_ble_eq_true rfl) dX1_haveOnly_24 (fun H locs hP hD hS => ?_)
    have hP : va_P D vwCl (cG cyI aG ao (upd od 0 x_) (upd (upd (upd g 0 0) 2 0) 0 1)) H := hP
    have hD : va_D A (cG cyI aG ao (upd od 0 x_) (upd (upd (upd g 0 0) 2 0) 0 1)) := hD
    have e9 : haveS od g x_ = (upd od 0 x_, (upd (upd (upd g 0 0) 2 0) 0 1)) := (by first | with_reducible rfl | (simp only [haveS, h_1, if_true, if_false, reduceIte, not_true_eq_false, not_false_eq_true]; done) | (simp [haveS, h_1]; done))
    exact end_v hx hb hrt hlocks (by rw [e9]; exact hP) hS dX1_haveOnly_27
set_option maxHeartbeats 4000000 in
set_option maxRecDepth 100000 in
theorem c_X1_spansUpwardsToFirst (l : Launch) (D : va_G) (cyI cyO cyL : ClassId) (aG : Nat) (ao : Nat) (od : Nat → Int32) (g : Nat → Int32) : cI l yX1_spansUpwardsToFirst wsX1_spansUpwardsToFirst ({ frames := 0, cells := 0, slots := 0, locals := 0 }) D cyI cyO cyL [.ref aG] (cG cyI aG ao od g) (cG cyI aG ao od g) (upS od g) := by
  intro sz
  refine Met.ofW (cc := cX1_spansUpwardsToFirst) (maxL := 1) (ret := (some .int)) (by decide) rfl ?_
  intro p e s m args below meth c s₁ B9 hml hv
  obtain ⟨rfl, hsz, hP, hKK, hD0⟩ := hv
  have hx := B9.exec
  have hb := B9.bytes
  have hrt := B9.returns
  have hts := atoms_spec (ws := wsX1_spansUpwardsToFirst) B9.pre
  have hown : s.vm.findClass RX1 = some m.cls := findClass_of_methodNamed B9.named
  have hlocks := B9.notSynchronized
  have nw := fun {w : Cond} (h : w ∈ nw_all) => NW.use (args := ([.ref aG] : List Value).toArray) hKK.2 h
  have iX1 : ∀ w ∈ wsX10, w ∈ wsX1_spansUpwardsToFirst := fun _ h => List.mem_cons_of_mem _ (List.mem_append_right _ h)
  subst hsz
  have hD := hD0.self (sz := s.heap.size)
  generalize hAe : va_A (cG cyI aG ao od g) s.heap.size = A at hD ⊢
  have hA : ∀ q : Nat, s.heap.size ≤ q → A q := fun q h => by rw [← hAe]; exact Or.inr h
  have hS : va_S A s.heap s.heap [] := va_S.rf
  have hl := lv_entry ([.ref aG]) (n := 1) (Nat.le_of_ble_eq_true rfl)
  rw [lg_entry_eq]
  generalize (lg_sl ([.ref aG]) ++ List.replicate (1 - (lg_sl ([.ref aG])).length) Slot.unset).toArray = ls at hl ⊢
  have hl : lv_has ls 1 [(0, .ref aG)] := hl
  refine lv_aload_n hx hb dX1_spansUpwardsToFirst_0 rfl (lv_at hl 0 rfl) ?_
  refine va_get (D := D) (ci := 1) (v := .ref ao) (C := RX1) (T := TX1) (N := 6) hx hb hts iX1 hown hKK.1 hP 0 rfl rfl 0 (by decide) (hts (.fieldLink RX1 9 "TrolleyGang$Gang" "orders" "[I") (List.mem_of_getElem? (i := 1) rfl)) (fun _ h9 => h9) rfl dX1_spansUpwardsToFirst_1 ?_
  refine lv_iconst (v := 0) hx hb dX1_spansUpwardsToFirst_4 (by decide) ?_
  refine va_iald hx hb hKK.1 hP 1 0 rfl rfl (hin := (vp_in_nI (n := 0) (by omega) (by omega))) dX1_spansUpwardsToFirst_5 ?_
  refine lv_tope (y := od 0) rfl ?_
  refine lv_aload_n hx hb dX1_spansUpwardsToFirst_6 rfl (lv_at hl 0 rfl) ?_
  refine va_get (D := D) (ci := 1) (v := .int (g 1)) (C := RX1) (T := TX1) (N := 6) hx hb hts iX1 hown hKK.1 hP 0 rfl rfl 2 (by decide) (hts (.fieldLink RX1 25 "TrolleyGang$Gang" "at" "I") (List.mem_of_getElem? (i := 2) rfl)) (fun _ h9 => h9) rfl dX1_spansUpwardsToFirst_7 ?_
  refine lv_isub hx hb dX1_spansUpwardsToFirst_10 ?_
  refine lv_bipush (v := 24) hx hb dX1_spansUpwardsToFirst_11 (by decide) ?_
  refine lv_iadd hx hb dX1_spansUpwardsToFirst_13 ?_
  refine lv_bipush (v := 24) hx hb dX1_spansUpwardsToFirst_14 (by decide) ?_
  refine lv_irem hx hb dX1_spansUpwardsToFirst_16 (by decide) ?_
  refine lv_tope (y := ir (((od 0) - (g 1)) + 24) 24) rfl ?_
  have e9 : upS od g = ir (((od 0) - (g 1)) + 24) 24 := (by rfl)
  exact end_i hx hb hrt hlocks (by rw [e9]) hP hS dX1_spansUpwardsToFirst_17
set_option maxHeartbeats 4000000 in
set_option maxRecDepth 100000 in
theorem c_X1_hoursToFirst (l : Launch) (D : va_G) (cyI cyO cyL : ClassId) (aG : Nat) (ao : Nat) (od : Nat → Int32) (g : Nat → Int32) : cI l yX1_hoursToFirst wsX1_hoursToFirst ({ frames := 1, cells := 0, slots := 0, locals := 20 }) D cyI cyO cyL [.ref aG] (cG cyI aG ao od g) (cG cyI aG ao od g) (hrsS od g) := by
  intro sz
  refine Met.ofW (cc := cX1_hoursToFirst) (maxL := 3) (ret := (some .int)) (by decide) rfl ?_
  intro p e s m args below meth c s₁ B9 hml hv
  obtain ⟨rfl, hsz, hP, hKK, hD0⟩ := hv
  have hx := B9.exec
  have hb := B9.bytes
  have hrt := B9.returns
  have hts := atoms_spec (ws := wsX1_hoursToFirst) B9.pre
  have hown : s.vm.findClass RX1 = some m.cls := findClass_of_methodNamed B9.named
  have hlocks := B9.notSynchronized
  have nw := fun {w : Cond} (h : w ∈ nw_all) => NW.use (args := ([.ref aG] : List Value).toArray) hKK.2 h
  have iX1 : ∀ w ∈ wsX10, w ∈ wsX1_hoursToFirst := fun _ h => List.mem_cons_of_mem _ (List.mem_append_right _ h)
  subst hsz
  have hD := hD0.self (sz := s.heap.size)
  generalize hAe : va_A (cG cyI aG ao od g) s.heap.size = A at hD ⊢
  have hA : ∀ q : Nat, s.heap.size ≤ q → A q := fun q h => by rw [← hAe]; exact Or.inr h
  have hS : va_S A s.heap s.heap [] := va_S.rf
  have hl := lv_entry ([.ref aG]) (n := 3) (Nat.le_of_ble_eq_true rfl)
  rw [lg_entry_eq]
  generalize (lg_sl ([.ref aG]) ++ List.replicate (3 - (lg_sl ([.ref aG])).length) Slot.unset).toArray = ls at hl ⊢
  have hl : lv_has ls 3 [(0, .ref aG)] := hl
  refine lv_aload_n hx hb dX1_hoursToFirst_0 rfl (lv_at hl 0 rfl) ?_
  refine va_get (D := D) (ci := 1) (v := .int (g 0)) (C := RX1) (T := TX1) (N := 6) hx hb hts iX1 hown hKK.1 hP 0 rfl rfl 1 (by decide) (hts (.fieldLink RX1 21 "TrolleyGang$Gang" "orderCount" "I") (List.mem_of_getElem? (i := 1) rfl)) (fun _ h9 => h9) rfl dX1_hoursToFirst_1 ?_
  refine lv_if_ne (tgt := 9) hx hb dX1_hoursToFirst_4 (by decide) (fun h_1 => ?_) (fun h_1 => ?_)
  · skip
    refine lv_aload_n hx hb dX1_hoursToFirst_9 rfl (lv_at hl 0 rfl) ?_
    have hPc := hP.sub (ws' := (cG cyI aG ao od g)) [0, 1] rfl
    have hDc := hD.sub (ws' := (cG cyI aG ao od g)) [0, 1] (by decide) rfl
    refine ret_i (W1 := (cG cyI aG ao od g)) (W2 := (cG cyI aG ao od g)) (r := upS od g) (run_V (q := (RX1, TX1, 6)) (n := 0) (As := []) (rest := []) ⟨hx, hb, hml, hown, hts⟩ (c_X1_spansUpwardsToFirst l D cyI cyO cyL aG ao od g _) ggX1_hoursToFirst_X1_spansUpwardsToFirst rfl rfl rfl (hts (.methodLink RX1 37 yX1_spansUpwardsToFirst) (List.mem_of_getElem? (i := 6) rfl)) (hts (.initialized RX1) (List.mem_of_getElem? (i := 9) rfl)) (hts (.instanceMethod yX1_spansUpwardsToFirst) (List.mem_of_getElem? (i := 7) rfl)) (hts (.selects RX1 yX1_spansUpwardsToFirst yX1_spansUpwardsToFirst) (List.mem_of_getElem? (i := 8) rfl)) (by decide +kernel) ⟨Nat.le_of_ble_eq_true rfl, Nat.le_of_ble_eq_true rfl⟩ hKK hPc hDc (ci := 1) (q0 := 0) rfl rfl rfl hl.1 rfl (Nat.le_of_ble_eq_true rfl) dX1_hoursToFirst_10 ⟨Nat.zero_le _, Nat.zero_le _⟩) hP hD hS hA [0, 1] rfl rfl (fun H locs hP hD hS => ?_)
    have hP : va_P D vwCl (cG cyI aG ao od g) H := hP
    have hD : va_D A (cG cyI aG ao od g) := hD
    refine lv_istore_n (lv' := [(1, .int (upS od g)), (0, .ref aG)]) hx hb dX1_hoursToFirst_13 rfl hl (by decide) rfl (fun ls hl => ?_)
    refine lv_iload_n hx hb dX1_hoursToFirst_14 rfl (lv_at hl 0 rfl) ?_
    refine lv_bipush (v := 24) hx hb dX1_hoursToFirst_15 (by decide) ?_
    refine lv_iload_n hx hb dX1_hoursToFirst_17 rfl (lv_at hl 0 rfl) ?_
    refine lv_isub hx hb dX1_hoursToFirst_18 ?_
    refine va_mmin hx hb (by rw [hml]; exact hl.1.symm) hown (hts (.methodLink RX1 41 Lib.Math.min.name) (List.mem_of_getElem? (i := 2) rfl)) (hts (.static Lib.Math.min.name) (List.mem_of_getElem? (i := 3) rfl)) (hts (.initialized "java/lang/Math") (List.mem_of_getElem? (i := 4) rfl)) (hts (.code Lib.Math.min.name Lib.Math.min.code 2 (some .int)) (List.mem_of_getElem? (i := 5) rfl)) (Nat.le_of_ble_eq_true rfl) (Nat.le_of_ble_eq_true rfl) (Nat.zero_le _) (Nat.zero_le _) dX1_hoursToFirst_19 ?_
    refine lv_tope (y := mmin (upS od g) (24 - (upS od g))) rfl ?_
    refine lv_istore_n (lv' := [(2, .int (mmin (upS od g) (24 - (upS od g)))), (1, .int (upS od g)), (0, .ref aG)]) hx hb dX1_hoursToFirst_22 rfl hl (by decide) rfl (fun ls hl => ?_)
    refine lv_iload_n hx hb dX1_hoursToFirst_23 rfl (lv_at hl 0 rfl) ?_
    refine lv_iconst (v := 4) hx hb dX1_hoursToFirst_24 (by decide) ?_
    refine lv_iadd hx hb dX1_hoursToFirst_25 ?_
    refine lv_iconst (v := 1) hx hb dX1_hoursToFirst_26 (by decide) ?_
    refine lv_isub hx hb dX1_hoursToFirst_27 ?_
    refine lv_iconst (v := 4) hx hb dX1_hoursToFirst_28 (by decide) ?_
    refine lv_idiv hx hb dX1_hoursToFirst_29 (by decide) ?_
    have e9 : hrsS od g = (((mmin (upS od g) (24 - (upS od g))) + 4) - 1) / 4 := (by first | with_reducible rfl | (simp only [hrsS, h_1, if_true, if_false, reduceIte, not_true_eq_false, not_false_eq_true]; done) | (simp [hrsS, h_1]; done))
    exact end_i hx hb hrt hlocks (by rw [e9]) hP hS dX1_hoursToFirst_30
  · skip
    refine lv_iconst (v := (-1)) hx hb dX1_hoursToFirst_7 (by decide) ?_
    have e9 : hrsS od g = (-1) := (by first | with_reducible rfl | (simp only [hrsS, h_1, if_true, if_false, reduceIte, not_true_eq_false, not_false_eq_true]; done) | (simp [hrsS, h_1]; done))
    exact end_i hx hb hrt hlocks (by rw [e9]) hP hS dX1_hoursToFirst_8
set_option maxHeartbeats 4000000 in
set_option maxRecDepth 100000 in
theorem c_X1_goToFirst (l : Launch) (D : va_G) (cyI cyO cyL : ClassId) (aG : Nat) (ao : Nat) (od : Nat → Int32) (g : Nat → Int32) : cV l yX1_goToFirst wsX1_goToFirst ({ frames := 1, cells := 0, slots := 0, locals := 20 }) D cyI cyO cyL [.ref aG] (cG cyI aG ao od g) (cG cyI aG ao od (goS od g)) := by
  intro sz
  refine Met.ofW (cc := cX1_goToFirst) (maxL := 4) (ret := none) (by decide) rfl ?_
  intro p e s m args below meth c s₁ B9 hml hv
  obtain ⟨rfl, hsz, hP, hKK, hD0⟩ := hv
  have hx := B9.exec
  have hb := B9.bytes
  have hrt := B9.returns
  have hts := atoms_spec (ws := wsX1_goToFirst) B9.pre
  have hown : s.vm.findClass RX1 = some m.cls := findClass_of_methodNamed B9.named
  have hlocks := B9.notSynchronized
  have nw := fun {w : Cond} (h : w ∈ nw_all) => NW.use (args := ([.ref aG] : List Value).toArray) hKK.2 h
  have iX1 : ∀ w ∈ wsX10, w ∈ wsX1_goToFirst := fun _ h => List.mem_cons_of_mem _ (List.mem_append_right _ h)
  subst hsz
  have hD := hD0.self (sz := s.heap.size)
  generalize hAe : va_A (cG cyI aG ao od g) s.heap.size = A at hD ⊢
  have hA : ∀ q : Nat, s.heap.size ≤ q → A q := fun q h => by rw [← hAe]; exact Or.inr h
  have hS : va_S A s.heap s.heap [] := va_S.rf
  have hl := lv_entry ([.ref aG]) (n := 4) (Nat.le_of_ble_eq_true rfl)
  rw [lg_entry_eq]
  generalize (lg_sl ([.ref aG]) ++ List.replicate (4 - (lg_sl ([.ref aG])).length) Slot.unset).toArray = ls at hl ⊢
  have hl : lv_has ls 4 [(0, .ref aG)] := hl
  refine lv_aload_n hx hb dX1_goToFirst_0 rfl (lv_at hl 0 rfl) ?_
  have hPc := hP.sub (ws' := (cG cyI aG ao od g)) [0, 1] rfl
  have hDc := hD.sub (ws' := (cG cyI aG ao od g)) [0, 1] (by decide) rfl
  refine ret_i (W1 := (cG cyI aG ao od g)) (W2 := (cG cyI aG ao od g)) (r := upS od g) (run_V (q := (RX1, TX1, 6)) (n := 0) (As := []) (rest := []) ⟨hx, hb, hml, hown, hts⟩ (c_X1_spansUpwardsToFirst l D cyI cyO cyL aG ao od g _) ggX1_goToFirst_X1_spansUpwardsToFirst rfl rfl rfl (hts (.methodLink RX1 37 yX1_spansUpwardsToFirst) (List.mem_of_getElem? (i := 6) rfl)) (hts (.initialized RX1) (List.mem_of_getElem? (i := 9) rfl)) (hts (.instanceMethod yX1_spansUpwardsToFirst) (List.mem_of_getElem? (i := 7) rfl)) (hts (.selects RX1 yX1_spansUpwardsToFirst yX1_spansUpwardsToFirst) (List.mem_of_getElem? (i := 8) rfl)) (by decide +kernel) ⟨Nat.le_of_ble_eq_true rfl, Nat.le_of_ble_eq_true rfl⟩ hKK hPc hDc (ci := 1) (q0 := 0) rfl rfl rfl hl.1 rfl (Nat.le_of_ble_eq_true rfl) dX1_goToFirst_1 ⟨Nat.zero_le _, Nat.zero_le _⟩) hP hD hS hA [0, 1] rfl rfl (fun H locs hP hD hS => ?_)
  have hP : va_P D vwCl (cG cyI aG ao od g) H := hP
  have hD : va_D A (cG cyI aG ao od g) := hD
  refine lv_istore_n (lv' := [(1, .int (upS od g)), (0, .ref aG)]) hx hb dX1_goToFirst_4 rfl hl (by decide) rfl (fun ls hl => ?_)
  refine lv_bipush (v := 24) hx hb dX1_goToFirst_5 (by decide) ?_
  refine lv_iload_n hx hb dX1_goToFirst_7 rfl (lv_at hl 0 rfl) ?_
  refine lv_isub hx hb dX1_goToFirst_8 ?_
  refine lv_istore_n (lv' := [(2, .int (24 - (upS od g))), (1, .int (upS od g)), (0, .ref aG)]) hx hb dX1_goToFirst_9 rfl hl (by decide) rfl (fun ls hl => ?_)
  refine lv_iload_n hx hb dX1_goToFirst_10 rfl (lv_at hl 1 rfl) ?_
  refine lv_iload_n hx hb dX1_goToFirst_11 rfl (lv_at hl 0 rfl) ?_
  refine lv_icmp_gt (tgt := 23) hx hb dX1_goToFirst_12 (by decide) (fun h_1 => ?_) (fun h_1 => ?_)
  · skip
    refine lv_iload_n hx hb dX1_goToFirst_23 rfl (lv_at hl 0 rfl) ?_
    refine lv_iconst (v := 4) hx hb dX1_goToFirst_24 (by decide) ?_
    refine va_mmin hx hb (by rw [hml]; exact hl.1.symm) hown (hts (.methodLink RX1 41 Lib.Math.min.name) (List.mem_of_getElem? (i := 1) rfl)) (hts (.static Lib.Math.min.name) (List.mem_of_getElem? (i := 2) rfl)) (hts (.initialized "java/lang/Math") (List.mem_of_getElem? (i := 3) rfl)) (hts (.code Lib.Math.min.name Lib.Math.min.code 2 (some .int)) (List.mem_of_getElem? (i := 4) rfl)) (Nat.le_of_ble_eq_true rfl) (Nat.le_of_ble_eq_true rfl) (Nat.zero_le _) (Nat.zero_le _) dX1_goToFirst_25 ?_
    refine lv_tope (y := mmin (24 - (upS od g)) 4) rfl ?_
    refine lv_ineg hx hb dX1_goToFirst_28 ?_
    refine lv_istore_n (lv' := [(3, .int (-(mmin (24 - (upS od g)) 4))), (2, .int (24 - (upS od g))), (1, .int (upS od g)), (0, .ref aG)]) hx hb dX1_goToFirst_29 rfl hl (by decide) rfl (fun ls hl => ?_)
    refine lv_aload_n hx hb dX1_goToFirst_30 rfl (lv_at hl 3 rfl) ?_
    refine lv_aload_n hx hb dX1_goToFirst_31 rfl (lv_at hl 3 rfl) ?_
    refine va_get (D := D) (ci := 1) (v := .int (g 1)) (C := RX1) (T := TX1) (N := 6) hx hb hts iX1 hown hKK.1 hP 0 rfl rfl 2 (by decide) (hts (.fieldLink RX1 25 "TrolleyGang$Gang" "at" "I") (List.mem_of_getElem? (i := 5) rfl)) (fun _ h9 => h9) rfl dX1_goToFirst_32 ?_
    refine lv_iload_n hx hb dX1_goToFirst_35 rfl (lv_at hl 0 rfl) ?_
    refine lv_iadd hx hb dX1_goToFirst_36 ?_
    refine lv_bipush (v := 24) hx hb dX1_goToFirst_37 (by decide) ?_
    refine lv_iadd hx hb dX1_goToFirst_39 ?_
    refine lv_bipush (v := 24) hx hb dX1_goToFirst_40 (by decide) ?_
    refine lv_irem hx hb dX1_goToFirst_42 (by decide) ?_
    refine lv_tope (y := ir (((g 1) + (-(mmin (24 - (upS od g)) 4))) + 24) 24) rfl ?_
    refine va_put (D := D) (ci := 1) (v := .int (ir (((g 1) + (-(mmin (24 - (upS od g)) 4))) + 24) 24)) (ty := .int) (C := RX1) (T := TX1) (N := 6) hx hb hts iX1 tyX1 tyX1_ok nmX1 hown hKK.1 hP hD hS 0 rfl rfl 2 (by decide) (hts (.fieldLink RX1 25 "TrolleyGang$Gang" "at" "I") (List.mem_of_getElem? (i := 5) rfl)) (fun _ h9 => h9) rfl (by decide +kernel) rfl rfl (Nat.le_of_ble_eq_true rfl) dX1_goToFirst_43 (fun H locs hP hD hS => ?_)
    have hP : va_P D vwCl (cG cyI aG ao od (upd g 1 (ir (((g 1) + (-(mmin (24 - (upS od g)) 4))) + 24) 24))) H := hP
    have hD : va_D A (cG cyI aG ao od (upd g 1 (ir (((g 1) + (-(mmin (24 - (upS od g)) 4))) + 24) 24))) := hD
    have e9 : goS od g = (upd g 1 (ir (((g 1) + (-(mmin (24 - (upS od g)) 4))) + 24) 24)) := (by first | with_reducible rfl | (simp only [goS, wayS, h_1, if_true, if_false, reduceIte, not_true_eq_false, not_false_eq_true]; done) | (simp [goS, wayS, h_1]; done))
    exact end_v hx hb hrt hlocks (by rw [e9]; exact hP) hS dX1_goToFirst_46
  · skip
    refine lv_iload_n hx hb dX1_goToFirst_15 rfl (lv_at hl 1 rfl) ?_
    refine lv_iconst (v := 4) hx hb dX1_goToFirst_16 (by decide) ?_
    refine va_mmin hx hb (by rw [hml]; exact hl.1.symm) hown (hts (.methodLink RX1 41 Lib.Math.min.name) (List.mem_of_getElem? (i := 1) rfl)) (hts (.static Lib.Math.min.name) (List.mem_of_getElem? (i := 2) rfl)) (hts (.initialized "java/lang/Math") (List.mem_of_getElem? (i := 3) rfl)) (hts (.code Lib.Math.min.name Lib.Math.min.code 2 (some .int)) (List.mem_of_getElem? (i := 4) rfl)) (Nat.le_of_ble_eq_true rfl) (Nat.le_of_ble_eq_true rfl) (Nat.zero_le _) (Nat.zero_le _) dX1_goToFirst_17 ?_
    refine lv_tope (y := mmin (upS od g) 4) rfl ?_
    refine lv_goto (tgt := 29) hx hb dX1_goToFirst_20 (by decide) ?_
    refine lv_istore_n (lv' := [(3, .int (mmin (upS od g) 4)), (2, .int (24 - (upS od g))), (1, .int (upS od g)), (0, .ref aG)]) hx hb dX1_goToFirst_29 rfl hl (by decide) rfl (fun ls hl => ?_)
    refine lv_aload_n hx hb dX1_goToFirst_30 rfl (lv_at hl 3 rfl) ?_
    refine lv_aload_n hx hb dX1_goToFirst_31 rfl (lv_at hl 3 rfl) ?_
    refine va_get (D := D) (ci := 1) (v := .int (g 1)) (C := RX1) (T := TX1) (N := 6) hx hb hts iX1 hown hKK.1 hP 0 rfl rfl 2 (by decide) (hts (.fieldLink RX1 25 "TrolleyGang$Gang" "at" "I") (List.mem_of_getElem? (i := 5) rfl)) (fun _ h9 => h9) rfl dX1_goToFirst_32 ?_
    refine lv_iload_n hx hb dX1_goToFirst_35 rfl (lv_at hl 0 rfl) ?_
    refine lv_iadd hx hb dX1_goToFirst_36 ?_
    refine lv_bipush (v := 24) hx hb dX1_goToFirst_37 (by decide) ?_
    refine lv_iadd hx hb dX1_goToFirst_39 ?_
    refine lv_bipush (v := 24) hx hb dX1_goToFirst_40 (by decide) ?_
    refine lv_irem hx hb dX1_goToFirst_42 (by decide) ?_
    refine lv_tope (y := ir (((g 1) + (mmin (upS od g) 4)) + 24) 24) rfl ?_
    refine va_put (D := D) (ci := 1) (v := .int (ir (((g 1) + (mmin (upS od g) 4)) + 24) 24)) (ty := .int) (C := RX1) (T := TX1) (N := 6) hx hb hts iX1 tyX1 tyX1_ok nmX1 hown hKK.1 hP hD hS 0 rfl rfl 2 (by decide) (hts (.fieldLink RX1 25 "TrolleyGang$Gang" "at" "I") (List.mem_of_getElem? (i := 5) rfl)) (fun _ h9 => h9) rfl (by decide +kernel) rfl rfl (Nat.le_of_ble_eq_true rfl) dX1_goToFirst_43 (fun H locs hP hD hS => ?_)
    have hP : va_P D vwCl (cG cyI aG ao od (upd g 1 (ir (((g 1) + (mmin (upS od g) 4)) + 24) 24))) H := hP
    have hD : va_D A (cG cyI aG ao od (upd g 1 (ir (((g 1) + (mmin (upS od g) 4)) + 24) 24))) := hD
    have e9 : goS od g = (upd g 1 (ir (((g 1) + (mmin (upS od g) 4)) + 24) 24)) := (by first | with_reducible rfl | (simp only [goS, wayS, h_1, if_true, if_false, reduceIte, not_true_eq_false, not_false_eq_true]; done) | (simp [goS, wayS, h_1]; done))
    exact end_v hx hb hrt hlocks (by rw [e9]; exact hP) hS dX1_goToFirst_46
set_option maxHeartbeats 4000000 in
set_option maxRecDepth 100000 in
theorem c_X1_copyFrom (l : Launch) (D : va_G) (cyI cyO cyL : ClassId) (aG : Nat) (ao : Nat) (aG2 : Nat) (ao2 : Nat) (od : Nat → Int32) (g : Nat → Int32) (od2 : Nat → Int32) (g2 : Nat → Int32) : cV l yX1_copyFrom wsX1_copyFrom ({ frames := 1, cells := 0, slots := 0, locals := 40 }) D cyI cyO cyL [.ref aG, .ref aG2] (cG cyI aG ao od g ++ cG cyI aG2 ao2 od2 g2) (cG cyI aG ao (((va_cpy od2 od 0 0 6, gcp g g2)).1) (((va_cpy od2 od 0 0 6, gcp g g2)).2) ++ cG cyI aG2 ao2 od2 g2) := by
  intro sz
  refine Met.ofW (cc := cX1_copyFrom) (maxL := 2) (ret := none) (by decide) rfl ?_
  intro p e s m args below meth c s₁ B9 hml hv
  obtain ⟨rfl, hsz, hP, hKK, hD0⟩ := hv
  have hx := B9.exec
  have hb := B9.bytes
  have hrt := B9.returns
  have hts := atoms_spec (ws := wsX1_copyFrom) B9.pre
  have hown : s.vm.findClass RX1 = some m.cls := findClass_of_methodNamed B9.named
  have hlocks := B9.notSynchronized
  have nw := fun {w : Cond} (h : w ∈ nw_all) => NW.use (args := ([.ref aG, .ref aG2] : List Value).toArray) hKK.2 h
  have iX1 : ∀ w ∈ wsX10, w ∈ wsX1_copyFrom := fun _ h => List.mem_cons_of_mem _ (List.mem_append_right _ h)
  subst hsz
  have hD := hD0.self (sz := s.heap.size)
  generalize hAe : va_A (cG cyI aG ao od g ++ cG cyI aG2 ao2 od2 g2) s.heap.size = A at hD ⊢
  have hA : ∀ q : Nat, s.heap.size ≤ q → A q := fun q h => by rw [← hAe]; exact Or.inr h
  have hS : va_S A s.heap s.heap [] := va_S.rf
  have hl := lv_entry ([.ref aG, .ref aG2]) (n := 2) (Nat.le_of_ble_eq_true rfl)
  rw [lg_entry_eq]
  generalize (lg_sl ([.ref aG, .ref aG2]) ++ List.replicate (2 - (lg_sl ([.ref aG, .ref aG2])).length) Slot.unset).toArray = ls at hl ⊢
  have hl : lv_has ls 2 [(0, .ref aG), (1, .ref aG2)] := hl
  refine lv_aload_n hx hb dX1_copyFrom_0 rfl (lv_at hl 1 rfl) ?_
  refine va_get (D := D) (ci := 1) (v := .ref ao2) (C := RX1) (T := TX1) (N := 6) hx hb hts iX1 hown hKK.1 hP 2 rfl rfl 0 (by decide) (hts (.fieldLink RX1 9 "TrolleyGang$Gang" "orders" "[I") (List.mem_of_getElem? (i := 1) rfl)) (fun _ h9 => h9) rfl dX1_copyFrom_1 ?_
  refine lv_iconst (v := 0) hx hb dX1_copyFrom_4 (by decide) ?_
  refine lv_aload_n hx hb dX1_copyFrom_5 rfl (lv_at hl 0 rfl) ?_
  refine va_get (D := D) (ci := 1) (v := .ref ao) (C := RX1) (T := TX1) (N := 6) hx hb hts iX1 hown hKK.1 hP 0 rfl rfl 0 (by decide) (hts (.fieldLink RX1 9 "TrolleyGang$Gang" "orders" "[I") (List.mem_of_getElem? (i := 1) rfl)) (fun _ h9 => h9) rfl dX1_copyFrom_6 ?_
  refine lv_iconst (v := 0) hx hb dX1_copyFrom_9 (by decide) ?_
  refine lv_bipush (v := 6) hx hb dX1_copyFrom_10 (by decide) ?_
  refine va_copyi hx hb (by rw [hml]; exact hl.1.symm) hown (hts (.methodLink RX1 15 arraycopyName) (List.mem_of_getElem? (i := 2) rfl)) (hts (.native arraycopyName) (List.mem_of_getElem? (i := 3) rfl)) (hts (.static arraycopyName) (List.mem_of_getElem? (i := 4) rfl)) (hts (.initialized "java/lang/System") (List.mem_of_getElem? (i := 5) rfl)) hKK.1 hP hD hS 3 1 0 0 rfl rfl rfl rfl rfl (by decide) (by decide) (by decide) (by decide) (by decide) (fun _ _ => rfl) (Nat.le_of_ble_eq_true rfl) (by decide +kernel) dX1_copyFrom_12 (fun H locs hP hD hS => ?_)
  have hP : va_P D vwCl (cG cyI aG ao (va_cpy od2 od 0 0 6) g ++ cG cyI aG2 ao2 od2 g2) H := hP
  have hD : va_D A (cG cyI aG ao (va_cpy od2 od 0 0 6) g ++ cG cyI aG2 ao2 od2 g2) := hD
  refine lv_aload_n hx hb dX1_copyFrom_15 rfl (lv_at hl 0 rfl) ?_
  refine lv_aload_n hx hb dX1_copyFrom_16 rfl (lv_at hl 1 rfl) ?_
  refine va_get (D := D) (ci := 1) (v := .int (g2 0)) (C := RX1) (T := TX1) (N := 6) hx hb hts iX1 hown hKK.1 hP 2 rfl rfl 1 (by decide) (hts (.fieldLink RX1 21 "TrolleyGang$Gang" "orderCount" "I") (List.mem_of_getElem? (i := 6) rfl)) (fun _ h9 => h9) rfl dX1_copyFrom_17 ?_
  refine va_put (D := D) (ci := 1) (v := .int (g2 0)) (ty := .int) (C := RX1) (T := TX1) (N := 6) hx hb hts iX1 tyX1 tyX1_ok nmX1 hown hKK.1 hP hD hS 0 rfl rfl 1 (by decide) (hts (.fieldLink RX1 21 "TrolleyGang$Gang" "orderCount" "I") (List.mem_of_getElem? (i := 6) rfl)) (fun _ h9 => h9) rfl (by decide +kernel) rfl rfl (Nat.le_of_ble_eq_true rfl) dX1_copyFrom_20 (fun H locs hP hD hS => ?_)
  have hP : va_P D vwCl (cG cyI aG ao (va_cpy od2 od 0 0 6) (upd g 0 (g2 0)) ++ cG cyI aG2 ao2 od2 g2) H := hP
  have hD : va_D A (cG cyI aG ao (va_cpy od2 od 0 0 6) (upd g 0 (g2 0)) ++ cG cyI aG2 ao2 od2 g2) := hD
  refine lv_aload_n hx hb dX1_copyFrom_23 rfl (lv_at hl 0 rfl) ?_
  refine lv_aload_n hx hb dX1_copyFrom_24 rfl (lv_at hl 1 rfl) ?_
  refine va_get (D := D) (ci := 1) (v := .int (g2 1)) (C := RX1) (T := TX1) (N := 6) hx hb hts iX1 hown hKK.1 hP 2 rfl rfl 2 (by decide) (hts (.fieldLink RX1 25 "TrolleyGang$Gang" "at" "I") (List.mem_of_getElem? (i := 7) rfl)) (fun _ h9 => h9) rfl dX1_copyFrom_25 ?_
  refine va_put (D := D) (ci := 1) (v := .int (g2 1)) (ty := .int) (C := RX1) (T := TX1) (N := 6) hx hb hts iX1 tyX1 tyX1_ok nmX1 hown hKK.1 hP hD hS 0 rfl rfl 2 (by decide) (hts (.fieldLink RX1 25 "TrolleyGang$Gang" "at" "I") (List.mem_of_getElem? (i := 7) rfl)) (fun _ h9 => h9) rfl (by decide +kernel) rfl rfl (Nat.le_of_ble_eq_true rfl) dX1_copyFrom_28 (fun H locs hP hD hS => ?_)
  have hP : va_P D vwCl (cG cyI aG ao (va_cpy od2 od 0 0 6) (upd (upd g 0 (g2 0)) 1 (g2 1)) ++ cG cyI aG2 ao2 od2 g2) H := hP
  have hD : va_D A (cG cyI aG ao (va_cpy od2 od 0 0 6) (upd (upd g 0 (g2 0)) 1 (g2 1)) ++ cG cyI aG2 ao2 od2 g2) := hD
  refine lv_aload_n hx hb dX1_copyFrom_31 rfl (lv_at hl 0 rfl) ?_
  refine lv_aload_n hx hb dX1_copyFrom_32 rfl (lv_at hl 1 rfl) ?_
  refine va_get (D := D) (ci := 1) (v := .int (g2 2)) (C := RX1) (T := TX1) (N := 6) hx hb hts iX1 hown hKK.1 hP 2 rfl rfl 3 (by decide) (hts (.fieldLink RX1 28 "TrolleyGang$Gang" "worksAtFirst" "I") (List.mem_of_getElem? (i := 8) rfl)) (fun _ h9 => h9) rfl dX1_copyFrom_33 ?_
  refine va_put (D := D) (ci := 1) (v := .int (g2 2)) (ty := .int) (C := RX1) (T := TX1) (N := 6) hx hb hts iX1 tyX1 tyX1_ok nmX1 hown hKK.1 hP hD hS 0 rfl rfl 3 (by decide) (hts (.fieldLink RX1 28 "TrolleyGang$Gang" "worksAtFirst" "I") (List.mem_of_getElem? (i := 8) rfl)) (fun _ h9 => h9) rfl (by decide +kernel) rfl rfl (Nat.le_of_ble_eq_true rfl) dX1_copyFrom_36 (fun H locs hP hD hS => ?_)
  have hP : va_P D vwCl (cG cyI aG ao (va_cpy od2 od 0 0 6) (upd (upd (upd g 0 (g2 0)) 1 (g2 1)) 2 (g2 2)) ++ cG cyI aG2 ao2 od2 g2) H := hP
  have hD : va_D A (cG cyI aG ao (va_cpy od2 od 0 0 6) (upd (upd (upd g 0 (g2 0)) 1 (g2 1)) 2 (g2 2)) ++ cG cyI aG2 ao2 od2 g2) := hD
  refine lv_aload_n hx hb dX1_copyFrom_39 rfl (lv_at hl 0 rfl) ?_
  refine lv_aload_n hx hb dX1_copyFrom_40 rfl (lv_at hl 1 rfl) ?_
  refine va_get (D := D) (ci := 1) (v := .int (g2 3)) (C := RX1) (T := TX1) (N := 6) hx hb hts iX1 hown hKK.1 hP 2 rfl rfl 4 (by decide) (hts (.fieldLink RX1 31 "TrolleyGang$Gang" "worksInAll" "I") (List.mem_of_getElem? (i := 9) rfl)) (fun _ h9 => h9) rfl dX1_copyFrom_41 ?_
  refine va_put (D := D) (ci := 1) (v := .int (g2 3)) (ty := .int) (C := RX1) (T := TX1) (N := 6) hx hb hts iX1 tyX1 tyX1_ok nmX1 hown hKK.1 hP hD hS 0 rfl rfl 4 (by decide) (hts (.fieldLink RX1 31 "TrolleyGang$Gang" "worksInAll" "I") (List.mem_of_getElem? (i := 9) rfl)) (fun _ h9 => h9) rfl (by decide +kernel) rfl rfl (Nat.le_of_ble_eq_true rfl) dX1_copyFrom_44 (fun H locs hP hD hS => ?_)
  have hP : va_P D vwCl (cG cyI aG ao (va_cpy od2 od 0 0 6) (upd (upd (upd (upd g 0 (g2 0)) 1 (g2 1)) 2 (g2 2)) 3 (g2 3)) ++ cG cyI aG2 ao2 od2 g2) H := hP
  have hD : va_D A (cG cyI aG ao (va_cpy od2 od 0 0 6) (upd (upd (upd (upd g 0 (g2 0)) 1 (g2 1)) 2 (g2 2)) 3 (g2 3)) ++ cG cyI aG2 ao2 od2 g2) := hD
  refine lv_aload_n hx hb dX1_copyFrom_47 rfl (lv_at hl 0 rfl) ?_
  refine lv_aload_n hx hb dX1_copyFrom_48 rfl (lv_at hl 1 rfl) ?_
  refine va_get (D := D) (ci := 1) (v := .int (g2 4)) (C := RX1) (T := TX1) (N := 6) hx hb hts iX1 hown hKK.1 hP 2 rfl rfl 5 (by decide) (hts (.fieldLink RX1 34 "TrolleyGang$Gang" "putUpInAll" "I") (List.mem_of_getElem? (i := 10) rfl)) (fun _ h9 => h9) rfl dX1_copyFrom_49 ?_
  refine va_put (D := D) (ci := 1) (v := .int (g2 4)) (ty := .int) (C := RX1) (T := TX1) (N := 6) hx hb hts iX1 tyX1 tyX1_ok nmX1 hown hKK.1 hP hD hS 0 rfl rfl 5 (by decide) (hts (.fieldLink RX1 34 "TrolleyGang$Gang" "putUpInAll" "I") (List.mem_of_getElem? (i := 10) rfl)) (fun _ h9 => h9) rfl (by decide +kernel) rfl rfl (Nat.le_of_ble_eq_true rfl) dX1_copyFrom_52 (fun H locs hP hD hS => ?_)
  have hP : va_P D vwCl (cG cyI aG ao (va_cpy od2 od 0 0 6) (upd (upd (upd (upd (upd g 0 (g2 0)) 1 (g2 1)) 2 (g2 2)) 3 (g2 3)) 4 (g2 4)) ++ cG cyI aG2 ao2 od2 g2) H := hP
  have hD : va_D A (cG cyI aG ao (va_cpy od2 od 0 0 6) (upd (upd (upd (upd (upd g 0 (g2 0)) 1 (g2 1)) 2 (g2 2)) 3 (g2 3)) 4 (g2 4)) ++ cG cyI aG2 ao2 od2 g2) := hD
  have e9 : (va_cpy od2 od 0 0 6, gcp g g2) = (va_cpy od2 od 0 0 6, (upd (upd (upd (upd (upd g 0 (g2 0)) 1 (g2 1)) 2 (g2 2)) 3 (g2 3)) 4 (g2 4))) := (by rfl)
  exact end_v hx hb hrt hlocks (by rw [e9]; exact hP) hS dX1_copyFrom_55
set_option maxHeartbeats 4000000 in
set_option maxRecDepth 100000 in
theorem c_X0_come (l : Launch) (D : va_G) (cyI cyO cyL : ClassId) (LB : List Nat) (B : Nat → Nat → Int32) (b : Nat) (s_ : Int32) (c_ : Int32) (hL_b : b ∈ LB) (hc_ : c_ = 0 ∨ c_ = 1) : cV l yX0_come wsX0_come ({ frames := 0, cells := 0, slots := 0, locals := 0 }) D cyI cyO cyL [.ref b, .int s_, .int c_] ((([] : va_W)) ++ pB LB B) ((([] : va_W)) ++ pB LB (comeS B b s_ c_)) := by
  intro sz
  refine Met.ofW (cc := cX0_come) (maxL := 3) (ret := none) (by decide) rfl ?_
  intro p e s m args below meth c s₁ B9 hml hv
  obtain ⟨rfl, hsz, hP, hKK, hD0⟩ := hv
  have hx := B9.exec
  have hb := B9.bytes
  have hrt := B9.returns
  have hts := atoms_spec (ws := wsX0_come) B9.pre
  have hown : s.vm.findClass RX0 = some m.cls := findClass_of_methodNamed B9.named
  have hlocks := B9.notSynchronized
  have nw := fun {w : Cond} (h : w ∈ nw_all) => NW.use (args := ([.ref b, .int s_, .int c_] : List Value).toArray) hKK.2 h
  have iX0 : ∀ w ∈ wsX00, w ∈ wsX0_come := fun _ h => List.mem_cons_of_mem _ (List.mem_append_right _ h)
  subst hsz
  have hD := hD0.self (sz := s.heap.size)
  generalize hAe : va_A ((([] : va_W)) ++ pB LB B) s.heap.size = A at hD ⊢
  have hA : ∀ q : Nat, s.heap.size ≤ q → A q := fun q h => by rw [← hAe]; exact Or.inr h
  have hS : va_S A s.heap s.heap [] := va_S.rf
  have hl := lv_entry ([.ref b, .int s_, .int c_]) (n := 3) (Nat.le_of_ble_eq_true rfl)
  rw [lg_entry_eq]
  generalize (lg_sl ([.ref b, .int s_, .int c_]) ++ List.replicate (3 - (lg_sl ([.ref b, .int s_, .int c_])).length) Slot.unset).toArray = ls at hl ⊢
  have hl : lv_has ls 3 [(0, .ref b), (1, .int s_), (2, .int c_)] := hl
  refine lv_aload_n hx hb dX0_come_0 rfl (lv_at hl 0 rfl) ?_
  refine lv_iload_n hx hb dX0_come_1 rfl (lv_at hl 1 rfl) ?_
  refine bus_put hx hb hts iX0 hown hKK hP hD hS hL_b 0 (by decide) (hts (.fieldLink RX0 7 "TrolleyGang$Bus" "at" "I") (List.mem_of_getElem? (i := 1) rfl)) (fun _ h9 => h9) rfl (ty := .int) (v := s_) (by decide +kernel) rfl rfl dX0_come_2 (fun H locs hP hD hS => ?_)
  have hP : va_P D vwCl ((([] : va_W)) ++ pB LB (up2 B b 0 s_)) H := hP
  have hD : va_D A ((([] : va_W)) ++ pB LB (up2 B b 0 s_)) := hD
  refine lv_aload_n hx hb dX0_come_5 rfl (lv_at hl 0 rfl) ?_
  refine lv_iload_n hx hb dX0_come_6 rfl (lv_at hl 2 rfl) ?_
  refine bus_put hx hb hts iX0 hown hKK hP hD hS hL_b 1 (by decide) (hts (.fieldLink RX0 13 "TrolleyGang$Bus" "hasScraper" "Z") (List.mem_of_getElem? (i := 2) rfl)) (fun _ h9 => h9) rfl (ty := .boolean) (v := c_) (by decide +kernel) (nar01 hc_) (fit01 hc_) dX0_come_7 (fun H locs hP hD hS => ?_)
  have hP : va_P D vwCl ((([] : va_W)) ++ pB LB (up2 (up2 B b 0 s_) b 1 c_)) H := hP
  have hD : va_D A ((([] : va_W)) ++ pB LB (up2 (up2 B b 0 s_) b 1 c_)) := hD
  refine lv_aload_n hx hb dX0_come_10 rfl (lv_at hl 0 rfl) ?_
  refine lv_iconst (v := 1) hx hb dX0_come_11 (by decide) ?_
  refine bus_put hx hb hts iX0 hown hKK hP hD hS hL_b 2 (by decide) (hts (.fieldLink RX0 17 "TrolleyGang$Bus" "runs" "Z") (List.mem_of_getElem? (i := 3) rfl)) (fun _ h9 => h9) rfl (ty := .boolean) (v := 1) (by decide +kernel) (nar01 (Or.inr rfl)) (fit01 (Or.inr rfl)) dX0_come_12 (fun H locs hP hD hS => ?_)
  have hP : va_P D vwCl ((([] : va_W)) ++ pB LB (up2 (up2 (up2 B b 0 s_) b 1 c_) b 2 1)) H := hP
  have hD : va_D A ((([] : va_W)) ++ pB LB (up2 (up2 (up2 B b 0 s_) b 1 c_) b 2 1)) := hD
  have e9 : comeS B b s_ c_ = (up2 (up2 (up2 B b 0 s_) b 1 c_) b 2 1) := (by rfl)
  exact end_v hx hb hrt hlocks (by rw [e9]; exact hP) hS dX0_come_15
set_option maxHeartbeats 4000000 in
set_option maxRecDepth 100000 in
theorem c_X0_copyFrom (l : Launch) (D : va_G) (cyI cyO cyL : ClassId) (LB : List Nat) (B : Nat → Nat → Int32) (b : Nat) (b2 : Nat) (hL_b : b ∈ LB) (hL_b2 : b2 ∈ LB) (h1 : B b2 1 = 0 ∨ B b2 1 = 1) (h2 : B b2 2 = 0 ∨ B b2 2 = 1) : cV l yX0_copyFrom wsX0_copyFrom ({ frames := 0, cells := 0, slots := 0, locals := 0 }) D cyI cyO cyL [.ref b, .ref b2] ((([] : va_W)) ++ pB LB B) ((([] : va_W)) ++ pB LB (bcp B b b2)) := by
  intro sz
  refine Met.ofW (cc := cX0_copyFrom) (maxL := 2) (ret := none) (by decide) rfl ?_
  intro p e s m args below meth c s₁ B9 hml hv
  obtain ⟨rfl, hsz, hP, hKK, hD0⟩ := hv
  have hx := B9.exec
  have hb := B9.bytes
  have hrt := B9.returns
  have hts := atoms_spec (ws := wsX0_copyFrom) B9.pre
  have hown : s.vm.findClass RX0 = some m.cls := findClass_of_methodNamed B9.named
  have hlocks := B9.notSynchronized
  have nw := fun {w : Cond} (h : w ∈ nw_all) => NW.use (args := ([.ref b, .ref b2] : List Value).toArray) hKK.2 h
  have iX0 : ∀ w ∈ wsX00, w ∈ wsX0_copyFrom := fun _ h => List.mem_cons_of_mem _ (List.mem_append_right _ h)
  subst hsz
  have hD := hD0.self (sz := s.heap.size)
  generalize hAe : va_A ((([] : va_W)) ++ pB LB B) s.heap.size = A at hD ⊢
  have hA : ∀ q : Nat, s.heap.size ≤ q → A q := fun q h => by rw [← hAe]; exact Or.inr h
  have hS : va_S A s.heap s.heap [] := va_S.rf
  have hl := lv_entry ([.ref b, .ref b2]) (n := 2) (Nat.le_of_ble_eq_true rfl)
  rw [lg_entry_eq]
  generalize (lg_sl ([.ref b, .ref b2]) ++ List.replicate (2 - (lg_sl ([.ref b, .ref b2])).length) Slot.unset).toArray = ls at hl ⊢
  have hl : lv_has ls 2 [(0, .ref b), (1, .ref b2)] := hl
  refine lv_aload_n hx hb dX0_copyFrom_0 rfl (lv_at hl 0 rfl) ?_
  refine lv_aload_n hx hb dX0_copyFrom_1 rfl (lv_at hl 1 rfl) ?_
  refine bus_get hx hb hts iX0 hown hKK hP hL_b2 0 (by decide) (hts (.fieldLink RX0 7 "TrolleyGang$Bus" "at" "I") (List.mem_of_getElem? (i := 1) rfl)) (fun _ h9 => h9) dX0_copyFrom_2 ?_
  refine bus_put hx hb hts iX0 hown hKK hP hD hS hL_b 0 (by decide) (hts (.fieldLink RX0 7 "TrolleyGang$Bus" "at" "I") (List.mem_of_getElem? (i := 1) rfl)) (fun _ h9 => h9) rfl (ty := .int) (v := B b2 0) (by decide +kernel) rfl rfl dX0_copyFrom_5 (fun H locs hP hD hS => ?_)
  have hP : va_P D vwCl ((([] : va_W)) ++ pB LB (up2 B b 0 (B b2 0))) H := hP
  have hD : va_D A ((([] : va_W)) ++ pB LB (up2 B b 0 (B b2 0))) := hD
  refine lv_aload_n hx hb dX0_copyFrom_8 rfl (lv_at hl 0 rfl) ?_
  refine lv_aload_n hx hb dX0_copyFrom_9 rfl (lv_at hl 1 rfl) ?_
  refine bus_get hx hb hts iX0 hown hKK hP hL_b2 1 (by decide) (hts (.fieldLink RX0 13 "TrolleyGang$Bus" "hasScraper" "Z") (List.mem_of_getElem? (i := 2) rfl)) (fun _ h9 => h9) dX0_copyFrom_10 ?_
  refine lv_tope (y := B b2 1) rfl ?_
  refine bus_put hx hb hts iX0 hown hKK hP hD hS hL_b 1 (by decide) (hts (.fieldLink RX0 13 "TrolleyGang$Bus" "hasScraper" "Z") (List.mem_of_getElem? (i := 2) rfl)) (fun _ h9 => h9) rfl (ty := .boolean) (v := B b2 1) (by decide +kernel) (nar01 h1) (fit01 h1) dX0_copyFrom_13 (fun H locs hP hD hS => ?_)
  have hP : va_P D vwCl ((([] : va_W)) ++ pB LB (up2 (up2 B b 0 (B b2 0)) b 1 (B b2 1))) H := hP
  have hD : va_D A ((([] : va_W)) ++ pB LB (up2 (up2 B b 0 (B b2 0)) b 1 (B b2 1))) := hD
  refine lv_aload_n hx hb dX0_copyFrom_16 rfl (lv_at hl 0 rfl) ?_
  refine lv_aload_n hx hb dX0_copyFrom_17 rfl (lv_at hl 1 rfl) ?_
  refine bus_get hx hb hts iX0 hown hKK hP hL_b2 2 (by decide) (hts (.fieldLink RX0 17 "TrolleyGang$Bus" "runs" "Z") (List.mem_of_getElem? (i := 3) rfl)) (fun _ h9 => h9) dX0_copyFrom_18 ?_
  refine lv_tope (y := B b2 2) rfl ?_
  refine bus_put hx hb hts iX0 hown hKK hP hD hS hL_b 2 (by decide) (hts (.fieldLink RX0 17 "TrolleyGang$Bus" "runs" "Z") (List.mem_of_getElem? (i := 3) rfl)) (fun _ h9 => h9) rfl (ty := .boolean) (v := B b2 2) (by decide +kernel) (nar01 h2) (fit01 h2) dX0_copyFrom_21 (fun H locs hP hD hS => ?_)
  have hP : va_P D vwCl ((([] : va_W)) ++ pB LB (up2 (up2 (up2 B b 0 (B b2 0)) b 1 (B b2 1)) b 2 (B b2 2))) H := hP
  have hD : va_D A ((([] : va_W)) ++ pB LB (up2 (up2 (up2 B b 0 (B b2 0)) b 1 (B b2 1)) b 2 (B b2 2))) := hD
  refine lv_aload_n hx hb dX0_copyFrom_24 rfl (lv_at hl 0 rfl) ?_
  refine lv_aload_n hx hb dX0_copyFrom_25 rfl (lv_at hl 1 rfl) ?_
  refine bus_get hx hb hts iX0 hown hKK hP hL_b2 3 (by decide) (hts (.fieldLink RX0 20 "TrolleyGang$Bus" "spansInAll" "I") (List.mem_of_getElem? (i := 4) rfl)) (fun _ h9 => h9) dX0_copyFrom_26 ?_
  refine lv_tope (y := B b2 3) rfl ?_
  refine bus_put hx hb hts iX0 hown hKK hP hD hS hL_b 3 (by decide) (hts (.fieldLink RX0 20 "TrolleyGang$Bus" "spansInAll" "I") (List.mem_of_getElem? (i := 4) rfl)) (fun _ h9 => h9) rfl (ty := .int) (v := B b2 3) (by decide +kernel) rfl rfl dX0_copyFrom_29 (fun H locs hP hD hS => ?_)
  have hP : va_P D vwCl ((([] : va_W)) ++ pB LB (up2 (up2 (up2 (up2 B b 0 (B b2 0)) b 1 (B b2 1)) b 2 (B b2 2)) b 3 (B b2 3))) H := hP
  have hD : va_D A ((([] : va_W)) ++ pB LB (up2 (up2 (up2 (up2 B b 0 (B b2 0)) b 1 (B b2 1)) b 2 (B b2 2)) b 3 (B b2 3))) := hD
  refine lv_aload_n hx hb dX0_copyFrom_32 rfl (lv_at hl 0 rfl) ?_
  refine lv_aload_n hx hb dX0_copyFrom_33 rfl (lv_at hl 1 rfl) ?_
  refine bus_get hx hb hts iX0 hown hKK hP hL_b2 4 (by decide) (hts (.fieldLink RX0 23 "TrolleyGang$Bus" "faresInAll" "I") (List.mem_of_getElem? (i := 5) rfl)) (fun _ h9 => h9) dX0_copyFrom_34 ?_
  refine lv_tope (y := B b2 4) rfl ?_
  refine bus_put hx hb hts iX0 hown hKK hP hD hS hL_b 4 (by decide) (hts (.fieldLink RX0 23 "TrolleyGang$Bus" "faresInAll" "I") (List.mem_of_getElem? (i := 5) rfl)) (fun _ h9 => h9) rfl (ty := .int) (v := B b2 4) (by decide +kernel) rfl rfl dX0_copyFrom_37 (fun H locs hP hD hS => ?_)
  have hP : va_P D vwCl ((([] : va_W)) ++ pB LB (up2 (up2 (up2 (up2 (up2 B b 0 (B b2 0)) b 1 (B b2 1)) b 2 (B b2 2)) b 3 (B b2 3)) b 4 (B b2 4))) H := hP
  have hD : va_D A ((([] : va_W)) ++ pB LB (up2 (up2 (up2 (up2 (up2 B b 0 (B b2 0)) b 1 (B b2 1)) b 2 (B b2 2)) b 3 (B b2 3)) b 4 (B b2 4))) := hD
  refine lv_aload_n hx hb dX0_copyFrom_40 rfl (lv_at hl 0 rfl) ?_
  refine lv_aload_n hx hb dX0_copyFrom_41 rfl (lv_at hl 1 rfl) ?_
  refine bus_get hx hb hts iX0 hown hKK hP hL_b2 5 (by decide) (hts (.fieldLink RX0 26 "TrolleyGang$Bus" "hoursStuck" "I") (List.mem_of_getElem? (i := 6) rfl)) (fun _ h9 => h9) dX0_copyFrom_42 ?_
  refine lv_tope (y := B b2 5) rfl ?_
  refine bus_put hx hb hts iX0 hown hKK hP hD hS hL_b 5 (by decide) (hts (.fieldLink RX0 26 "TrolleyGang$Bus" "hoursStuck" "I") (List.mem_of_getElem? (i := 6) rfl)) (fun _ h9 => h9) rfl (ty := .int) (v := B b2 5) (by decide +kernel) rfl rfl dX0_copyFrom_45 (fun H locs hP hD hS => ?_)
  have hP : va_P D vwCl ((([] : va_W)) ++ pB LB (up2 (up2 (up2 (up2 (up2 (up2 B b 0 (B b2 0)) b 1 (B b2 1)) b 2 (B b2 2)) b 3 (B b2 3)) b 4 (B b2 4)) b 5 (B b2 5))) H := hP
  have hD : va_D A ((([] : va_W)) ++ pB LB (up2 (up2 (up2 (up2 (up2 (up2 B b 0 (B b2 0)) b 1 (B b2 1)) b 2 (B b2 2)) b 3 (B b2 3)) b 4 (B b2 4)) b 5 (B b2 5))) := hD
  have e9 : bcp B b b2 = (up2 (up2 (up2 (up2 (up2 (up2 B b 0 (B b2 0)) b 1 (B b2 1)) b 2 (B b2 2)) b 3 (B b2 3)) b 4 (B b2 4)) b 5 (B b2 5)) := (by rfl)
  exact end_v hx hb hrt hlocks (by rw [e9]; exact hP) hS dX0_copyFrom_48
set_option maxHeartbeats 4000000 in
set_option maxRecDepth 100000 in
theorem c_X3_fare (l : Launch) (D : va_G) (cyI cyO cyL : ClassId) (aT : Nat) (ac : Nat) (as_ : Nat) (cd : Nat → Int32) (sw : Nat → Int32) (fd : Int32) (fn : Int32) (i : Int32) : cI l yX3_fare wsX3_fare ({ frames := 0, cells := 0, slots := 0, locals := 0 }) D cyI cyO cyL [.ref aT, .int i] (cT cyI aT ac as_ cd sw fd fn) (cT cyI aT ac as_ cd sw fd fn) (fareS i fd fn) := by
  intro sz
  refine Met.ofW (cc := cX3_fare) (maxL := 2) (ret := (some .int)) (by decide) rfl ?_
  intro p e s m args below meth c s₁ B9 hml hv
  obtain ⟨rfl, hsz, hP, hKK, hD0⟩ := hv
  have hx := B9.exec
  have hb := B9.bytes
  have hrt := B9.returns
  have hts := atoms_spec (ws := wsX3_fare) B9.pre
  have hown : s.vm.findClass RX3 = some m.cls := findClass_of_methodNamed B9.named
  have hlocks := B9.notSynchronized
  have nw := fun {w : Cond} (h : w ∈ nw_all) => NW.use (args := ([.ref aT, .int i] : List Value).toArray) hKK.2 h
  have iX3 : ∀ w ∈ wsX30, w ∈ wsX3_fare := fun _ h => List.mem_cons_of_mem _ (List.mem_append_right _ h)
  subst hsz
  have hD := hD0.self (sz := s.heap.size)
  generalize hAe : va_A (cT cyI aT ac as_ cd sw fd fn) s.heap.size = A at hD ⊢
  have hA : ∀ q : Nat, s.heap.size ≤ q → A q := fun q h => by rw [← hAe]; exact Or.inr h
  have hS : va_S A s.heap s.heap [] := va_S.rf
  have hl := lv_entry ([.ref aT, .int i]) (n := 2) (Nat.le_of_ble_eq_true rfl)
  rw [lg_entry_eq]
  generalize (lg_sl ([.ref aT, .int i]) ++ List.replicate (2 - (lg_sl ([.ref aT, .int i])).length) Slot.unset).toArray = ls at hl ⊢
  have hl : lv_has ls 2 [(0, .ref aT), (1, .int i)] := hl
  refine lv_iload_n hx hb dX3_fare_0 rfl (lv_at hl 1 rfl) ?_
  refine lv_if_eq (tgt := 11) hx hb dX3_fare_1 (by decide) (fun h_1 => ?_) (fun h_1 => ?_)
  · skip
    refine lv_aload_n hx hb dX3_fare_11 rfl (lv_at hl 0 rfl) ?_
    refine va_get (D := D) (ci := 3) (v := .int fd) (C := RX3) (T := TX3) (N := 4) hx hb hts iX3 hown hKK.1 hP 0 rfl rfl 2 (by decide) (hts (.fieldLink RX3 18 "TrolleyGang$Tables" "fareByDay" "I") (List.mem_of_getElem? (i := 2) rfl)) (fun _ h9 => h9) rfl dX3_fare_12 ?_
    have e9 : fareS i fd fn = fd := (by first | with_reducible rfl | (simp only [fareS, h_1, if_true, if_false, reduceIte, not_true_eq_false, not_false_eq_true]; done) | (simp [fareS, h_1]; done))
    exact end_i hx hb hrt hlocks (by rw [e9]) hP hS dX3_fare_15
  · skip
    refine lv_aload_n hx hb dX3_fare_4 rfl (lv_at hl 0 rfl) ?_
    refine va_get (D := D) (ci := 3) (v := .int fn) (C := RX3) (T := TX3) (N := 4) hx hb hts iX3 hown hKK.1 hP 0 rfl rfl 3 (by decide) (hts (.fieldLink RX3 22 "TrolleyGang$Tables" "fareByNight" "I") (List.mem_of_getElem? (i := 1) rfl)) (fun _ h9 => h9) rfl dX3_fare_5 ?_
    refine lv_goto (tgt := 15) hx hb dX3_fare_8 (by decide) ?_
    have e9 : fareS i fd fn = fn := (by first | with_reducible rfl | (simp only [fareS, h_1, if_true, if_false, reduceIte, not_true_eq_false, not_false_eq_true]; done) | (simp [fareS, h_1]; done))
    exact end_i hx hb hrt hlocks (by rw [e9]) hP hS dX3_fare_15
set_option maxHeartbeats 4000000 in
set_option maxRecDepth 100000 in
theorem c_X4_copyFrom (l : Launch) (D : va_G) (cyI cyO cyL : ClassId) (aW : Nat) (aw : Nat) (af : Nat) (aW2 : Nat) (aw2 : Nat) (af2 : Nat) (w : Nat → Int32) (f : Nat → Int32) (w2 : Nat → Int32) (f2 : Nat → Int32) : cV l yX4_copyFrom wsX4_copyFrom ({ frames := 1, cells := 0, slots := 0, locals := 40 }) D cyI cyO cyL [.ref aW, .ref aW2] (cW cyI aW aw af w f ++ cW cyI aW2 aw2 af2 w2 f2) (cW cyI aW aw af (((va_cpy w2 w 0 0 24, va_cpy f2 f 0 0 24)).1) (((va_cpy w2 w 0 0 24, va_cpy f2 f 0 0 24)).2) ++ cW cyI aW2 aw2 af2 w2 f2) := by
  intro sz
  refine Met.ofW (cc := cX4_copyFrom) (maxL := 2) (ret := none) (by decide) rfl ?_
  intro p e s m args below meth c s₁ B9 hml hv
  obtain ⟨rfl, hsz, hP, hKK, hD0⟩ := hv
  have hx := B9.exec
  have hb := B9.bytes
  have hrt := B9.returns
  have hts := atoms_spec (ws := wsX4_copyFrom) B9.pre
  have hown : s.vm.findClass RX4 = some m.cls := findClass_of_methodNamed B9.named
  have hlocks := B9.notSynchronized
  have nw := fun {w : Cond} (h : w ∈ nw_all) => NW.use (args := ([.ref aW, .ref aW2] : List Value).toArray) hKK.2 h
  have iX4 : ∀ w ∈ wsX40, w ∈ wsX4_copyFrom := fun _ h => List.mem_cons_of_mem _ (List.mem_append_right _ h)
  subst hsz
  have hD := hD0.self (sz := s.heap.size)
  generalize hAe : va_A (cW cyI aW aw af w f ++ cW cyI aW2 aw2 af2 w2 f2) s.heap.size = A at hD ⊢
  have hA : ∀ q : Nat, s.heap.size ≤ q → A q := fun q h => by rw [← hAe]; exact Or.inr h
  have hS : va_S A s.heap s.heap [] := va_S.rf
  have hl := lv_entry ([.ref aW, .ref aW2]) (n := 2) (Nat.le_of_ble_eq_true rfl)
  rw [lg_entry_eq]
  generalize (lg_sl ([.ref aW, .ref aW2]) ++ List.replicate (2 - (lg_sl ([.ref aW, .ref aW2])).length) Slot.unset).toArray = ls at hl ⊢
  have hl : lv_has ls 2 [(0, .ref aW), (1, .ref aW2)] := hl
  refine lv_aload_n hx hb dX4_copyFrom_0 rfl (lv_at hl 1 rfl) ?_
  refine va_get (D := D) (ci := 4) (v := .ref aw2) (C := RX4) (T := TX4) (N := 2) hx hb hts iX4 hown hKK.1 hP 3 rfl rfl 0 (by decide) (hts (.fieldLink RX4 9 "TrolleyGang$Wires" "worn" "[I") (List.mem_of_getElem? (i := 1) rfl)) (fun _ h9 => h9) rfl dX4_copyFrom_1 ?_
  refine lv_iconst (v := 0) hx hb dX4_copyFrom_4 (by decide) ?_
  refine lv_aload_n hx hb dX4_copyFrom_5 rfl (lv_at hl 0 rfl) ?_
  refine va_get (D := D) (ci := 4) (v := .ref aw) (C := RX4) (T := TX4) (N := 2) hx hb hts iX4 hown hKK.1 hP 0 rfl rfl 0 (by decide) (hts (.fieldLink RX4 9 "TrolleyGang$Wires" "worn" "[I") (List.mem_of_getElem? (i := 1) rfl)) (fun _ h9 => h9) rfl dX4_copyFrom_6 ?_
  refine lv_iconst (v := 0) hx hb dX4_copyFrom_9 (by decide) ?_
  refine lv_bipush (v := 24) hx hb dX4_copyFrom_10 (by decide) ?_
  refine va_copyi hx hb (by rw [hml]; exact hl.1.symm) hown (hts (.methodLink RX4 18 arraycopyName) (List.mem_of_getElem? (i := 2) rfl)) (hts (.native arraycopyName) (List.mem_of_getElem? (i := 3) rfl)) (hts (.static arraycopyName) (List.mem_of_getElem? (i := 4) rfl)) (hts (.initialized "java/lang/System") (List.mem_of_getElem? (i := 5) rfl)) hKK.1 hP hD hS 4 1 0 0 rfl rfl rfl rfl rfl (by decide) (by decide) (by decide) (by decide) (by decide) (fun _ _ => rfl) (Nat.le_of_ble_eq_true rfl) (by decide +kernel) dX4_copyFrom_12 (fun H locs hP hD hS => ?_)
  have hP : va_P D vwCl (cW cyI aW aw af (va_cpy w2 w 0 0 24) f ++ cW cyI aW2 aw2 af2 w2 f2) H := hP
  have hD : va_D A (cW cyI aW aw af (va_cpy w2 w 0 0 24) f ++ cW cyI aW2 aw2 af2 w2 f2) := hD
  refine lv_aload_n hx hb dX4_copyFrom_15 rfl (lv_at hl 1 rfl) ?_
  refine va_get (D := D) (ci := 4) (v := .ref af2) (C := RX4) (T := TX4) (N := 2) hx hb hts iX4 hown hKK.1 hP 3 rfl rfl 1 (by decide) (hts (.fieldLink RX4 15 "TrolleyGang$Wires" "frost" "[I") (List.mem_of_getElem? (i := 6) rfl)) (fun _ h9 => h9) rfl dX4_copyFrom_16 ?_
  refine lv_iconst (v := 0) hx hb dX4_copyFrom_19 (by decide) ?_
  refine lv_aload_n hx hb dX4_copyFrom_20 rfl (lv_at hl 0 rfl) ?_
  refine va_get (D := D) (ci := 4) (v := .ref af) (C := RX4) (T := TX4) (N := 2) hx hb hts iX4 hown hKK.1 hP 0 rfl rfl 1 (by decide) (hts (.fieldLink RX4 15 "TrolleyGang$Wires" "frost" "[I") (List.mem_of_getElem? (i := 6) rfl)) (fun _ h9 => h9) rfl dX4_copyFrom_21 ?_
  refine lv_iconst (v := 0) hx hb dX4_copyFrom_24 (by decide) ?_
  refine lv_bipush (v := 24) hx hb dX4_copyFrom_25 (by decide) ?_
  refine va_copyi hx hb (by rw [hml]; exact hl.1.symm) hown (hts (.methodLink RX4 18 arraycopyName) (List.mem_of_getElem? (i := 2) rfl)) (hts (.native arraycopyName) (List.mem_of_getElem? (i := 3) rfl)) (hts (.static arraycopyName) (List.mem_of_getElem? (i := 4) rfl)) (hts (.initialized "java/lang/System") (List.mem_of_getElem? (i := 5) rfl)) hKK.1 hP hD hS 5 2 0 0 rfl rfl rfl rfl rfl (by decide) (by decide) (by decide) (by decide) (by decide) (fun _ _ => rfl) (Nat.le_of_ble_eq_true rfl) (by decide +kernel) dX4_copyFrom_27 (fun H locs hP hD hS => ?_)
  have hP : va_P D vwCl (cW cyI aW aw af (va_cpy w2 w 0 0 24) (va_cpy f2 f 0 0 24) ++ cW cyI aW2 aw2 af2 w2 f2) H := hP
  have hD : va_D A (cW cyI aW aw af (va_cpy w2 w 0 0 24) (va_cpy f2 f 0 0 24) ++ cW cyI aW2 aw2 af2 w2 f2) := hD
  have e9 : (va_cpy w2 w 0 0 24, va_cpy f2 f 0 0 24) = (va_cpy w2 w 0 0 24, va_cpy f2 f 0 0 24) := (by rfl)
  exact end_v hx hb hrt hlocks (by rw [e9]; exact hP) hS dX4_copyFrom_30
set_option maxHeartbeats 4000000 in
set_option maxRecDepth 100000 in
theorem c_X5_isNightAt (l : Launch) (D : va_G) (cyI cyO cyL : ClassId) (h_ : Int32) : cI l yX5_isNightAt wsX5_isNightAt ({ frames := 0, cells := 0, slots := 0, locals := 0 }) D cyI cyO cyL [.int h_] (([] : va_W)) (([] : va_W)) (ntI h_) := by
  intro sz
  refine Met.ofW (cc := cX5_isNightAt) (maxL := 2) (ret := (some .boolean)) (by decide) rfl ?_
  intro p e s m args below meth c s₁ B9 hml hv
  obtain ⟨rfl, hsz, hP, hKK, hD0⟩ := hv
  have hx := B9.exec
  have hb := B9.bytes
  have hrt := B9.returns
  have hts := atoms_spec (ws := wsX5_isNightAt) B9.pre
  have hown : s.vm.findClass RX5 = some m.cls := findClass_of_methodNamed B9.named
  have hlocks := B9.notSynchronized
  have nw := fun {w : Cond} (h : w ∈ nw_all) => NW.use (args := ([.int h_] : List Value).toArray) hKK.2 h
  subst hsz
  have hD := hD0.self (sz := s.heap.size)
  generalize hAe : va_A (([] : va_W)) s.heap.size = A at hD ⊢
  have hA : ∀ q : Nat, s.heap.size ≤ q → A q := fun q h => by rw [← hAe]; exact Or.inr h
  have hS : va_S A s.heap s.heap [] := va_S.rf
  have hl := lv_entry ([.int h_]) (n := 2) (Nat.le_of_ble_eq_true rfl)
  rw [lg_entry_eq]
  generalize (lg_sl ([.int h_]) ++ List.replicate (2 - (lg_sl ([.int h_])).length) Slot.unset).toArray = ls at hl ⊢
  have hl : lv_has ls 2 [(0, .int h_)] := hl
  refine lv_iload_n hx hb dX5_isNightAt_0 rfl (lv_at hl 0 rfl) ?_
  refine lv_bipush (v := 24) hx hb dX5_isNightAt_1 (by decide) ?_
  refine lv_irem hx hb dX5_isNightAt_3 (by decide) ?_
  refine lv_tope (y := ir h_ 24) rfl ?_
  refine lv_istore_n (lv' := [(1, .int (ir h_ 24)), (0, .int h_)]) hx hb dX5_isNightAt_4 rfl hl (by decide) rfl (fun ls hl => ?_)
  refine lv_iload_n hx hb dX5_isNightAt_5 rfl (lv_at hl 0 rfl) ?_
  refine lv_iconst (v := 5) hx hb dX5_isNightAt_6 (by decide) ?_
  refine lv_icmp_le (tgt := 16) hx hb dX5_isNightAt_7 (by decide) (fun h_1 => ?_) (fun h_1 => ?_)
  · skip
    refine lv_iconst (v := 1) hx hb dX5_isNightAt_16 (by decide) ?_
    refine lv_goto (tgt := 21) hx hb dX5_isNightAt_17 (by decide) ?_
    have e9 : ntI h_ = 1 := (by first | with_reducible rfl | (simp only [ntI, h_1, if_true, if_false, reduceIte, not_true_eq_false, not_false_eq_true]; done) | (simp [ntI, h_1]; done))
    exact end_z hx hb hrt hlocks (by decide) (by rw [e9]) hP hS dX5_isNightAt_21
  · skip
    refine lv_iload_n hx hb dX5_isNightAt_10 rfl (lv_at hl 0 rfl) ?_
    refine lv_bipush (v := 20) hx hb dX5_isNightAt_11 (by decide) ?_
    refine lv_icmp_lt (tgt := 20) hx hb dX5_isNightAt_13 (by decide) (fun h_2 => ?_) (fun h_2 => ?_)
    · skip
      refine lv_iconst (v := 0) hx hb dX5_isNightAt_20 (by decide) ?_
      have e9 : ntI h_ = 0 := (by first | with_reducible rfl | (simp only [ntI, h_1, h_2, if_true, if_false, reduceIte, not_true_eq_false, not_false_eq_true]; done) | (simp [ntI, h_1, h_2]; done))
      exact end_z hx hb hrt hlocks (by decide) (by rw [e9]) hP hS dX5_isNightAt_21
    · skip
      refine lv_iconst (v := 1) hx hb dX5_isNightAt_16 (by decide) ?_
      refine lv_goto (tgt := 21) hx hb dX5_isNightAt_17 (by decide) ?_
      have e9 : ntI h_ = 1 := (by first | with_reducible rfl | (simp only [ntI, h_1, h_2, if_true, if_false, reduceIte, not_true_eq_false, not_false_eq_true]; done) | (simp [ntI, h_1, h_2]; done))
      exact end_z hx hb hrt hlocks (by decide) (by rw [e9]) hP hS dX5_isNightAt_21
end
section
set_option maxHeartbeats 4000000 in
set_option maxRecDepth 100000 in
theorem c_X2_letSwanFly (l : Launch) (D : va_G) (cyI cyO cyL : ClassId) (aR : Nat) (aW : Nat) (aw : Nat) (af : Nat) (aG : Nat) (ao : Nat) (aB : Nat) (ab : Nat → Nat) (w : Nat → Int32) (f : Nat → Int32) (od : Nat → Int32) (g : Nat → Int32) (bc : Int32) (hr : Int32) (co : Int32) (s_ : Int32) (hs : s_ = -1 ∨ vp_in s_ 24) : cV l yX2_letSwanFly wsX2_letSwanFly ({ frames := 2, cells := 0, slots := 0, locals := 37 }) D cyI cyO cyL [.ref aR, .int s_] (cR cyI cyO aR aW aw af aG ao aB ab w f od g bc hr co) (cR cyI cyO aR aW aw af aG ao aB ab (swanS w s_) f od g bc hr co) := by
  intro sz
  refine Met.ofW (cc := cX2_letSwanFly) (maxL := 2) (ret := none) (by decide) rfl ?_
  intro p e s m args below meth c s₁ B9 hml hv
  obtain ⟨rfl, hsz, hP, hKK, hD0⟩ := hv
  have hx := B9.exec
  have hb := B9.bytes
  have hrt := B9.returns
  have hts := atoms_spec (ws := wsX2_letSwanFly) B9.pre
  have hown : s.vm.findClass RX2 = some m.cls := findClass_of_methodNamed B9.named
  have hlocks := B9.notSynchronized
  have nw := fun {w : Cond} (h : w ∈ nw_all) => NW.use (args := ([.ref aR, .int s_] : List Value).toArray) hKK.2 h
  have iX2 : ∀ w ∈ wsX20, w ∈ wsX2_letSwanFly := fun _ h => List.mem_cons_of_mem _ (List.mem_append_left _ (List.mem_append_right _ h))
  subst hsz
  have hD := hD0.self (sz := s.heap.size)
  generalize hAe : va_A (cR cyI cyO aR aW aw af aG ao aB ab w f od g bc hr co) s.heap.size = A at hD ⊢
  have hA : ∀ q : Nat, s.heap.size ≤ q → A q := fun q h => by rw [← hAe]; exact Or.inr h
  have hS : va_S A s.heap s.heap [] := va_S.rf
  have hl := lv_entry ([.ref aR, .int s_]) (n := 2) (Nat.le_of_ble_eq_true rfl)
  rw [lg_entry_eq]
  generalize (lg_sl ([.ref aR, .int s_]) ++ List.replicate (2 - (lg_sl ([.ref aR, .int s_])).length) Slot.unset).toArray = ls at hl ⊢
  have hl : lv_has ls 2 [(0, .ref aR), (1, .int s_)] := hl
  refine lv_iload_n hx hb dX2_letSwanFly_0 rfl (lv_at hl 1 rfl) ?_
  refine lv_iconst (v := (-1)) hx hb dX2_letSwanFly_1 (by decide) ?_
  refine lv_icmp_eq (tgt := 26) hx hb dX2_letSwanFly_2 (by decide) (fun h_1 => ?_) (fun h_1 => ?_)
  · skip
    have e9 : swanS w s_ = w := (by first | with_reducible rfl | (simp only [swanS, h_1, if_true, if_false, reduceIte, not_true_eq_false, not_false_eq_true]; done) | (simp [swanS, h_1]; done))
    exact end_v hx hb hrt hlocks (by rw [e9]; exact hP) hS dX2_letSwanFly_26
  · skip
    have hi : vp_in s_ 24 := hs.resolve_left h_1
    refine lv_aload_n hx hb dX2_letSwanFly_5 rfl (lv_at hl 0 rfl) ?_
    refine va_get (D := D) (ci := 2) (v := .ref aW) (C := RX2) (T := TX2) (N := 6) hx hb hts iX2 hown hKK.1 hP 0 rfl rfl 0 (by decide) (hts (.fieldLink RX2 12 "TrolleyGang$Ring" "wires" "LTrolleyGang$Wires;") (List.mem_of_getElem? (i := 1) rfl)) (fun _ h9 => h9) rfl dX2_letSwanFly_6 ?_
    refine lv_iload_n hx hb dX2_letSwanFly_9 rfl (lv_at hl 1 rfl) ?_
    have hPc := hP.sub (ws' := (cW cyI aW aw af w f)) [1, 2, 3] rfl
    have hDc := hD.sub (ws' := (cW cyI aW aw af w f)) [1, 2, 3] (by decide) rfl
    refine ret_i (W1 := (cW cyI aW aw af w f)) (W2 := (cW cyI aW aw af w f)) (r := dnI w s_) (run_VN (q := (RX4, TX4, 2)) (n := 1) (As := [.int s_]) (rest := []) ⟨hx, hb, hml, hown, hts⟩ (c_X4_isDown l D cyI cyO cyL aW aw af w f s_ hi _) ggX2_letSwanFly_X4_isDown rfl rfl rfl nq_63 (hts (.initialized RX4) (List.mem_of_getElem? (i := 3) rfl)) (hts (.instanceMethod yX4_isDown) (List.mem_of_getElem? (i := 2) rfl)) (hts (.selects RX4 yX4_isDown yX4_isDown) (List.mem_of_getElem? (i := 4) rfl)) (by decide +kernel) ⟨Nat.le_of_ble_eq_true rfl, Nat.le_of_ble_eq_true rfl⟩ hKK hPc hDc (ci := 4) (q0 := 0) rfl rfl rfl hl.1 rfl (Nat.le_of_ble_eq_true rfl) dX2_letSwanFly_10 ⟨Nat.zero_le _, Nat.zero_le _⟩) hP hD hS hA [1, 2, 3] rfl rfl (fun H locs hP hD hS => ?_)
    have hP : va_P D vwCl (cR cyI cyO aR aW aw af aG ao aB ab w f od g bc hr co) H := hP
    have hD : va_D A (cR cyI cyO aR aW aw af aG ao aB ab w f od g bc hr co) := hD
    refine lv_if_ne (tgt := 26) hx hb dX2_letSwanFly_13 (by decide) (fun h_2 => ?_) (fun h_2 => ?_)
    · skip
      have e9 : swanS w s_ = w := (by first | with_reducible rfl | (simp only [swanS, h_1, h_2, if_true, if_false, reduceIte, not_true_eq_false, not_false_eq_true]; done) | (simp [swanS, h_1, h_2]; done))
      exact end_v hx hb hrt hlocks (by rw [e9]; exact hP) hS dX2_letSwanFly_26
    · skip
      refine lv_aload_n hx hb dX2_letSwanFly_16 rfl (lv_at hl 0 rfl) ?_
      refine va_get (D := D) (ci := 2) (v := .ref aW) (C := RX2) (T := TX2) (N := 6) hx hb hts iX2 hown hKK.1 hP 0 rfl rfl 0 (by decide) (hts (.fieldLink RX2 12 "TrolleyGang$Ring" "wires" "LTrolleyGang$Wires;") (List.mem_of_getElem? (i := 1) rfl)) (fun _ h9 => h9) rfl dX2_letSwanFly_17 ?_
      refine lv_iload_n hx hb dX2_letSwanFly_20 rfl (lv_at hl 1 rfl) ?_
      refine lv_bipush (v := 25) hx hb dX2_letSwanFly_21 (by decide) ?_
      have hPc := hP.sub (ws' := (cW cyI aW aw af w f)) [1, 2, 3] rfl
      have hDc := hD.sub (ws' := (cW cyI aW aw af w f)) [1, 2, 3] (by decide) rfl
      refine ret_v (W1 := (cW cyI aW aw af w f)) (W2 := (cW cyI aW aw af (wearS w s_ 25) f)) (run_VN (q := (RX4, TX4, 2)) (n := 2) (As := [.int s_, .int 25]) (rest := []) ⟨hx, hb, hml, hown, hts⟩ (c_X4_wear l D cyI cyO cyL aW aw af w f s_ 25 hi _) ggX2_letSwanFly_X4_wear rfl rfl rfl nq_64 (hts (.initialized RX4) (List.mem_of_getElem? (i := 3) rfl)) (hts (.instanceMethod yX4_wear) (List.mem_of_getElem? (i := 7) rfl)) (hts (.selects RX4 yX4_wear yX4_wear) (List.mem_of_getElem? (i := 8) rfl)) (by decide +kernel) ⟨Nat.le_of_ble_eq_true rfl, Nat.le_of_ble_eq_true rfl⟩ hKK hPc hDc (ci := 4) (q0 := 0) rfl rfl rfl hl.1 rfl (Nat.le_of_ble_eq_true rfl) dX2_letSwanFly_23 ⟨Nat.zero_le _, Nat.zero_le _⟩) hP hD hS hA [1, 2, 3] rfl rfl (fun H locs hP hD hS => ?_)
      have hP : va_P D vwCl (cR cyI cyO aR aW aw af aG ao aB ab (wearS w s_ 25) f od g bc hr co) H := hP
      have hD : va_D A (cR cyI cyO aR aW aw af aG ao aB ab (wearS w s_ 25) f od g bc hr co) := hD
      have e9 : swanS w s_ = wearS w s_ 25 := (by first | with_reducible rfl | (simp only [swanS, h_1, h_2, if_true, if_false, reduceIte, not_true_eq_false, not_false_eq_true]; done) | (simp [swanS, h_1, h_2]; done))
      exact end_v hx hb hrt hlocks (by rw [e9]; exact hP) hS dX2_letSwanFly_26
set_option maxHeartbeats 4000000 in
set_option maxRecDepth 100000 in
theorem c_X2_drive (l : Launch) (D : va_G) (cyI cyO cyL : ClassId) (aR : Nat) (aW : Nat) (aw : Nat) (af : Nat) (aG : Nat) (ao : Nat) (aB : Nat) (ab : Nat → Nat) (w : Nat → Int32) (f : Nat → Int32) (od : Nat → Int32) (g : Nat → Int32) (bc : Int32) (hr : Int32) (co : Int32) (LB : List Nat) (B : Nat → Nat → Int32) (b : Nat) (fare : Int32) (hL_b : b ∈ LB) (hB : OkB B) : cV l yX2_drive wsX2_drive ({ frames := 2, cells := 0, slots := 0, locals := 37 }) D cyI cyO cyL [.ref aR, .ref b, .int fare] ((cR cyI cyO aR aW aw af aG ao aB ab w f od g bc hr co) ++ pB LB B) ((cR cyI cyO aR aW aw af aG ao aB ab ((driveS b fare w f B co).1) ((driveS b fare w f B co).2.1) od g bc hr ((driveS b fare w f B co).2.2.2)) ++ pB LB ((driveS b fare w f B co).2.2.1)) := by
  intro sz
  refine Met.ofW (cc := cX2_drive) (maxL := 5) (ret := none) (by decide) rfl ?_
  intro p e s m args below meth c s₁ B9 hml hv
  obtain ⟨rfl, hsz, hP, hKK, hD0⟩ := hv
  have hx := B9.exec
  have hb := B9.bytes
  have hrt := B9.returns
  have hts := atoms_spec (ws := wsX2_drive) B9.pre
  have hown : s.vm.findClass RX2 = some m.cls := findClass_of_methodNamed B9.named
  have hlocks := B9.notSynchronized
  have nw := fun {w : Cond} (h : w ∈ nw_all) => NW.use (args := ([.ref aR, .ref b, .int fare] : List Value).toArray) hKK.2 h
  have iX0 : ∀ w ∈ wsX00, w ∈ wsX2_drive := fun _ h => List.mem_cons_of_mem _ (List.mem_append_left _ (List.mem_append_left _ (List.mem_append_right _ h)))
  have iX2 : ∀ w ∈ wsX20, w ∈ wsX2_drive := fun _ h => List.mem_cons_of_mem _ (List.mem_append_left _ (List.mem_append_right _ h))
  have iX4 : ∀ w ∈ wsX40, w ∈ wsX2_drive := fun _ h => List.mem_cons_of_mem _ (List.mem_append_right _ h)
  subst hsz
  have hD := hD0.self (sz := s.heap.size)
  generalize hAe : va_A ((cR cyI cyO aR aW aw af aG ao aB ab w f od g bc hr co) ++ pB LB B) s.heap.size = A at hD ⊢
  have hA : ∀ q : Nat, s.heap.size ≤ q → A q := fun q h => by rw [← hAe]; exact Or.inr h
  have hS : va_S A s.heap s.heap [] := va_S.rf
  have hl := lv_entry ([.ref aR, .ref b, .int fare]) (n := 5) (Nat.le_of_ble_eq_true rfl)
  rw [lg_entry_eq]
  generalize (lg_sl ([.ref aR, .ref b, .int fare]) ++ List.replicate (5 - (lg_sl ([.ref aR, .ref b, .int fare])).length) Slot.unset).toArray = ls at hl ⊢
  have hl : lv_has ls 5 [(0, .ref aR), (1, .ref b), (2, .int fare)] := hl
  refine lv_aload_n hx hb dX2_drive_0 rfl (lv_at hl 1 rfl) ?_
  refine bus_getN hx hb hts iX0 hown hKK hP hL_b 2 (by decide) (nw (w := .fieldLinkNest "TrolleyGang$Ring" 97 "TrolleyGang$Bus" "runs" "Z" "TrolleyGang") nq_31) (fun _ h9 => h9) dX2_drive_1 ?_
  refine lv_if_ne (tgt := 8) hx hb dX2_drive_4 (by decide) (fun h_1 => ?_) (fun h_1 => ?_)
  · skip
    refine lv_iconst (v := 0) hx hb dX2_drive_8 (by decide) ?_
    refine lv_istore_n (lv' := [(3, .int 0), (0, .ref aR), (1, .ref b), (2, .int fare)]) hx hb dX2_drive_9 rfl hl (by decide) rfl (fun ls hl => ?_)
    refine wloop (σ := (Nat) × (Nat → Int32) × (Nat → Int32) × (Nat → Nat → Int32) × (Int32)) (fun d9 x9 H9 L9 s9 => ((x9.1) + d9 = 3) ∧ (drvL b fare 3 w f B co = drvL b fare d9 (x9.2.1) (x9.2.2.1) (x9.2.2.2.1) (x9.2.2.2.2)) ∧ (OkB (x9.2.2.2.1)) ∧ (va_P D vwCl ((cR cyI cyO aR aW aw af aG ao aB ab (x9.2.1) (x9.2.2.1) od g bc hr (x9.2.2.2.2)) ++ pB LB (x9.2.2.2.1)) H9) ∧ (va_D A ((cR cyI cyO aR aW aw af aG ao aB ab (x9.2.1) (x9.2.2.1) od g bc hr (x9.2.2.2.2)) ++ pB LB (x9.2.2.2.1))) ∧ (va_S A s.heap H9 L9) ∧ (lv_has s9 5 [(3, .int (nI (x9.1))), (0, .ref aR), (1, .ref b), (2, .int fare)])) (fun d9 x9 H locs ls g9 ih => ?_) 3 (0, w, f, B, co) _ _ _ ⟨(by omega), rfl, hB, hP, hD, hS, lv_sub hl [0, 1, 2, 3] rfl⟩
    obtain ⟨i, w1, f1, B1, c1⟩ := x9
    obtain ⟨hid, hsp, hB, hP, hD, hS, hl⟩ := g9
    obtain ⟨d, rfl⟩ : ∃ z, z = d9 := ⟨_, rfl⟩
    have hid : i + d = 3 := hid
    have hsp : drvL b fare 3 w f B co = drvL b fare d w1 f1 B1 c1 := hsp
    have hB : OkB B1 := hB
    have hP : va_P D vwCl ((cR cyI cyO aR aW aw af aG ao aB ab w1 f1 od g bc hr c1) ++ pB LB B1) H := hP
    have hD : va_D A ((cR cyI cyO aR aW aw af aG ao aB ab w1 f1 od g bc hr c1) ++ pB LB B1) := hD
    have hl : lv_has ls 5 [(3, .int (nI i)), (0, .ref aR), (1, .ref b), (2, .int fare)] := hl
    refine lv_iload_n hx hb dX2_drive_10 rfl (lv_at hl 0 rfl) ?_
    refine lv_iconst (v := 3) hx hb dX2_drive_11 (by decide) ?_
    refine lv_icmp_ge (tgt := 156) hx hb dX2_drive_12 (by decide) (fun h_2 => ?_) (fun h_2 => ?_)
    · skip
      obtain rfl : d = 0 := by have h9 := (nI_leI (a := 3) (b := i) (by omega) (by omega)).mp h_2; omega
      have e9 : driveS b fare w f B co = (w1, f1, B1, c1) := (by rw [driveS, if_neg h_1, hsp]; exact (by first | with_reducible rfl | (simp only [driveS, drvL, w1S, f1S, B1S, h_1, h_2, if_true, if_false, reduceIte, not_true_eq_false, not_false_eq_true]; done) | (simp [driveS, drvL, w1S, f1S, B1S, h_1, h_2]; done)))
      exact end_v hx hb hrt hlocks (by rw [e9]; exact hP) hS dX2_drive_156
    · skip
      have hlt : i < 3 := by have h9 := mt (nI_leI (a := 3) (b := i) (by omega) (by omega)).mpr h_2; omega
      obtain ⟨d, rfl⟩ : ∃ k, d = k + 1 := ⟨d - 1, by omega⟩
      refine lv_aload_n hx hb dX2_drive_15 rfl (lv_at hl 2 rfl) ?_
      refine bus_getN hx hb hts iX0 hown hKK hP hL_b 0 (by decide) (nw (w := .fieldLinkNest "TrolleyGang$Ring" 101 "TrolleyGang$Bus" "at" "I" "TrolleyGang") nq_27) (fun _ h9 => h9) dX2_drive_16 ?_
      refine lv_iconst (v := 1) hx hb dX2_drive_19 (by decide) ?_
      refine lv_iadd hx hb dX2_drive_20 ?_
      refine lv_bipush (v := 24) hx hb dX2_drive_21 (by decide) ?_
      refine lv_irem hx hb dX2_drive_23 (by decide) ?_
      refine lv_tope (y := ir ((B1 b 0) + 1) 24) rfl ?_
      refine lv_tope (y := nxS B1 b) rfl ?_
      refine lv_istore (lv' := [(4, .int (nxS B1 b)), (3, .int (nI i)), (0, .ref aR), (1, .ref b), (2, .int fare)]) hx hb dX2_drive_24 hl (by decide) rfl (fun ls hl => ?_)
      refine lv_aload_n hx hb dX2_drive_26 rfl (lv_at hl 2 rfl) ?_
      refine va_get (D := D) (ci := 2) (v := .ref aW) (C := RX2) (T := TX2) (N := 6) hx hb hts iX2 hown hKK.1 hP 0 rfl rfl 0 (by decide) (hts (.fieldLink RX2 12 "TrolleyGang$Ring" "wires" "LTrolleyGang$Wires;") (List.mem_of_getElem? (i := 1) rfl)) (fun _ h9 => h9) rfl dX2_drive_27 ?_
      refine lv_iload hx hb dX2_drive_30 (lv_at hl 0 rfl) ?_
      have hPc := hP.sub (ws' := (cW cyI aW aw af w1 f1)) [1, 2, 3] rfl
      have hDc := hD.sub (ws' := (cW cyI aW aw af w1 f1)) [1, 2, 3] (by decide) rfl
      refine ret_i (W1 := (cW cyI aW aw af w1 f1)) (W2 := (cW cyI aW aw af w1 f1)) (r := dnI w1 (nxS B1 b)) (run_VN (q := (RX4, TX4, 2)) (n := 1) (As := [.int (nxS B1 b)]) (rest := []) ⟨hx, hb, hml, hown, hts⟩ (c_X4_isDown l D cyI cyO cyL aW aw af w1 f1 (nxS B1 b) (hB.nx b) _) ggX2_drive_X4_isDown rfl rfl rfl nq_63 (hts (.initialized RX4) (List.mem_of_getElem? (i := 4) rfl)) (hts (.instanceMethod yX4_isDown) (List.mem_of_getElem? (i := 3) rfl)) (hts (.selects RX4 yX4_isDown yX4_isDown) (List.mem_of_getElem? (i := 5) rfl)) (by decide +kernel) ⟨Nat.le_of_ble_eq_true rfl, Nat.le_of_ble_eq_true rfl⟩ hKK hPc hDc (ci := 4) (q0 := 0) rfl rfl rfl hl.1 rfl (Nat.le_of_ble_eq_true rfl) dX2_drive_32 ⟨Nat.zero_le _, Nat.zero_le _⟩) hP hD hS hA [1, 2, 3] rfl rfl (fun H locs hP hD hS => ?_)
      have hP : va_P D vwCl ((cR cyI cyO aR aW aw af aG ao aB ab w1 f1 od g bc hr c1) ++ pB LB B1) H := hP
      have hD : va_D A ((cR cyI cyO aR aW aw af aG ao aB ab w1 f1 od g bc hr c1) ++ pB LB B1) := hD
      refine lv_if_eq (tgt := 49) hx hb dX2_drive_35 (by decide) (fun h_3 => ?_) (fun h_3 => ?_)
      · skip
        refine lv_aload_n hx hb dX2_drive_49 rfl (lv_at hl 3 rfl) ?_
        refine lv_iload hx hb dX2_drive_50 (lv_at hl 0 rfl) ?_
        refine bus_putN hx hb hts iX0 hown hKK hP hD hS hL_b 0 (by decide) (nw (w := .fieldLinkNest "TrolleyGang$Ring" 101 "TrolleyGang$Bus" "at" "I" "TrolleyGang") nq_27) (fun _ h9 => h9) rfl (ty := .int) (v := nxS B1 b) (by decide +kernel) rfl rfl dX2_drive_52 (fun H locs hP hD hS => ?_)
        have hP : va_P D vwCl ((cR cyI cyO aR aW aw af aG ao aB ab w1 f1 od g bc hr c1) ++ pB LB (up2 B1 b 0 (nxS B1 b))) H := hP
        have hD : va_D A ((cR cyI cyO aR aW aw af aG ao aB ab w1 f1 od g bc hr c1) ++ pB LB (up2 B1 b 0 (nxS B1 b))) := hD
        refine lv_aload_n hx hb dX2_drive_55 rfl (lv_at hl 3 rfl) ?_
        refine lv_dup hx hb dX2_drive_56 rfl ?_
        refine bus_getN hx hb hts iX0 hown hKK hP hL_b 3 (by decide) (nw (w := .fieldLinkNest "TrolleyGang$Ring" 107 "TrolleyGang$Bus" "spansInAll" "I" "TrolleyGang") nq_33) (fun _ h9 => h9) dX2_drive_57 ?_
        refine lv_tope (y := B1 b 3) rfl ?_
        refine lv_iconst (v := 1) hx hb dX2_drive_60 (by decide) ?_
        refine lv_iadd hx hb dX2_drive_61 ?_
        refine bus_putN hx hb hts iX0 hown hKK hP hD hS hL_b 3 (by decide) (nw (w := .fieldLinkNest "TrolleyGang$Ring" 107 "TrolleyGang$Bus" "spansInAll" "I" "TrolleyGang") nq_33) (fun _ h9 => h9) rfl (ty := .int) (v := (B1 b 3) + 1) (by decide +kernel) rfl rfl dX2_drive_62 (fun H locs hP hD hS => ?_)
        have hP : va_P D vwCl ((cR cyI cyO aR aW aw af aG ao aB ab w1 f1 od g bc hr c1) ++ pB LB (up2 (up2 B1 b 0 (nxS B1 b)) b 3 ((B1 b 3) + 1))) H := hP
        have hD : va_D A ((cR cyI cyO aR aW aw af aG ao aB ab w1 f1 od g bc hr c1) ++ pB LB (up2 (up2 B1 b 0 (nxS B1 b)) b 3 ((B1 b 3) + 1))) := hD
        refine lv_aload_n hx hb dX2_drive_65 rfl (lv_at hl 3 rfl) ?_
        refine lv_dup hx hb dX2_drive_66 rfl ?_
        refine bus_getN hx hb hts iX0 hown hKK hP hL_b 4 (by decide) (nw (w := .fieldLinkNest "TrolleyGang$Ring" 110 "TrolleyGang$Bus" "faresInAll" "I" "TrolleyGang") nq_35) (fun _ h9 => h9) dX2_drive_67 ?_
        refine lv_tope (y := B1 b 4) rfl ?_
        refine lv_iload_n hx hb dX2_drive_70 rfl (lv_at hl 4 rfl) ?_
        refine lv_iadd hx hb dX2_drive_71 ?_
        refine bus_putN hx hb hts iX0 hown hKK hP hD hS hL_b 4 (by decide) (nw (w := .fieldLinkNest "TrolleyGang$Ring" 110 "TrolleyGang$Bus" "faresInAll" "I" "TrolleyGang") nq_35) (fun _ h9 => h9) rfl (ty := .int) (v := (B1 b 4) + fare) (by decide +kernel) rfl rfl dX2_drive_72 (fun H locs hP hD hS => ?_)
        have hP : va_P D vwCl ((cR cyI cyO aR aW aw af aG ao aB ab w1 f1 od g bc hr c1) ++ pB LB (up2 (up2 (up2 B1 b 0 (nxS B1 b)) b 3 ((B1 b 3) + 1)) b 4 ((B1 b 4) + fare))) H := hP
        have hD : va_D A ((cR cyI cyO aR aW aw af aG ao aB ab w1 f1 od g bc hr c1) ++ pB LB (up2 (up2 (up2 B1 b 0 (nxS B1 b)) b 3 ((B1 b 3) + 1)) b 4 ((B1 b 4) + fare))) := hD
        refine lv_aload_n hx hb dX2_drive_75 rfl (lv_at hl 2 rfl) ?_
        refine lv_dup hx hb dX2_drive_76 rfl ?_
        refine va_get (D := D) (ci := 2) (v := .int c1) (C := RX2) (T := TX2) (N := 6) hx hb hts iX2 hown hKK.1 hP 0 rfl rfl 5 (by decide) (hts (.fieldLink RX2 49 "TrolleyGang$Ring" "coins" "I") (List.mem_of_getElem? (i := 2) rfl)) (fun _ h9 => h9) rfl dX2_drive_77 ?_
        refine lv_iload_n hx hb dX2_drive_80 rfl (lv_at hl 4 rfl) ?_
        refine lv_iadd hx hb dX2_drive_81 ?_
        refine va_put (D := D) (ci := 2) (v := .int (c1 + fare)) (ty := .int) (C := RX2) (T := TX2) (N := 6) hx hb hts iX2 tyX2 tyX2_ok nmX2 hown hKK.1 hP hD hS 0 rfl rfl 5 (by decide) (hts (.fieldLink RX2 49 "TrolleyGang$Ring" "coins" "I") (List.mem_of_getElem? (i := 2) rfl)) (fun _ h9 => h9) rfl (by decide +kernel) rfl rfl (Nat.le_of_ble_eq_true rfl) dX2_drive_82 (fun H locs hP hD hS => ?_)
        have hP : va_P D vwCl ((cR cyI cyO aR aW aw af aG ao aB ab w1 f1 od g bc hr (c1 + fare)) ++ pB LB (up2 (up2 (up2 B1 b 0 (nxS B1 b)) b 3 ((B1 b 3) + 1)) b 4 ((B1 b 4) + fare))) H := hP
        have hD : va_D A ((cR cyI cyO aR aW aw af aG ao aB ab w1 f1 od g bc hr (c1 + fare)) ++ pB LB (up2 (up2 (up2 B1 b 0 (nxS B1 b)) b 3 ((B1 b 3) + 1)) b 4 ((B1 b 4) + fare))) := hD
        refine lv_aload_n hx hb dX2_drive_85 rfl (lv_at hl 3 rfl) ?_
        refine bus_getN hx hb hts iX0 hown hKK hP hL_b 1 (by decide) (nw (w := .fieldLinkNest "TrolleyGang$Ring" 113 "TrolleyGang$Bus" "hasScraper" "Z" "TrolleyGang") nq_30) (fun _ h9 => h9) dX2_drive_86 ?_
        refine lv_tope (y := B1 b 1) rfl ?_
        refine lv_if_eq (tgt := 103) hx hb dX2_drive_89 (by decide) (fun h_4 => ?_) (fun h_4 => ?_)
        · skip
          refine lv_aload_n hx hb dX2_drive_103 rfl (lv_at hl 2 rfl) ?_
          refine va_get (D := D) (ci := 2) (v := .ref aW) (C := RX2) (T := TX2) (N := 6) hx hb hts iX2 hown hKK.1 hP 0 rfl rfl 0 (by decide) (hts (.fieldLink RX2 12 "TrolleyGang$Ring" "wires" "LTrolleyGang$Wires;") (List.mem_of_getElem? (i := 1) rfl)) (fun _ h9 => h9) rfl dX2_drive_104 ?_
          refine lv_iload hx hb dX2_drive_107 (lv_at hl 0 rfl) ?_
          refine lv_aload_n hx hb dX2_drive_109 rfl (lv_at hl 3 rfl) ?_
          refine bus_getN hx hb hts iX0 hown hKK hP hL_b 1 (by decide) (nw (w := .fieldLinkNest "TrolleyGang$Ring" 113 "TrolleyGang$Bus" "hasScraper" "Z" "TrolleyGang") nq_30) (fun _ h9 => h9) dX2_drive_110 ?_
          refine lv_tope (y := B1 b 1) rfl ?_
          refine lv_if_eq (tgt := 120) hx hb dX2_drive_113 (by decide) (fun _ => ?_) (fun h9 => absurd h_4 h9)
          refine lv_iconst (v := 1) hx hb dX2_drive_120 (by decide) ?_
          refine lv_aload_n hx hb dX2_drive_121 rfl (lv_at hl 2 rfl) ?_
          refine va_get (D := D) (ci := 2) (v := .ref aW) (C := RX2) (T := TX2) (N := 6) hx hb hts iX2 hown hKK.1 hP 0 rfl rfl 0 (by decide) (hts (.fieldLink RX2 12 "TrolleyGang$Ring" "wires" "LTrolleyGang$Wires;") (List.mem_of_getElem? (i := 1) rfl)) (fun _ h9 => h9) rfl dX2_drive_122 ?_
          refine va_getN (D := D) (ci := 4) (v := .ref af) (C := RX4) (T := TX4) (N := 2) hx hb hts iX4 hown hKK.1 hP 1 rfl rfl 1 (by decide) (nw (w := .fieldLinkNest "TrolleyGang$Ring" 116 "TrolleyGang$Wires" "frost" "[I" "TrolleyGang") nq_11) (fun _ h9 => h9) rfl dX2_drive_125 ?_
          refine lv_iload hx hb dX2_drive_128 (lv_at hl 0 rfl) ?_
          refine va_iald hx hb hKK.1 hP 3 0 rfl rfl (hin := (hB.nx b)) dX2_drive_130 ?_
          refine lv_iconst (v := 2) hx hb dX2_drive_131 (by decide) ?_
          refine lv_idiv hx hb dX2_drive_132 (by decide) ?_
          refine lv_iadd hx hb dX2_drive_133 ?_
          have hPc := hP.sub (ws' := (cW cyI aW aw af w1 f1)) [1, 2, 3] rfl
          have hDc := hD.sub (ws' := (cW cyI aW aw af w1 f1)) [1, 2, 3] (by decide) rfl
          refine ret_v (W1 := (cW cyI aW aw af w1 f1)) (W2 := (cW cyI aW aw af (wearS w1 (nxS B1 b) (1 + ((f1 (nxS B1 b).toNatClampNeg) / 2))) f1)) (run_VN (q := (RX4, TX4, 2)) (n := 2) (As := [.int (nxS B1 b), .int (1 + ((f1 (nxS B1 b).toNatClampNeg) / 2))]) (rest := []) ⟨hx, hb, hml, hown, hts⟩ (c_X4_wear l D cyI cyO cyL aW aw af w1 f1 (nxS B1 b) (1 + ((f1 (nxS B1 b).toNatClampNeg) / 2)) (hB.nx b) _) ggX2_drive_X4_wear rfl rfl rfl nq_64 (hts (.initialized RX4) (List.mem_of_getElem? (i := 4) rfl)) (hts (.instanceMethod yX4_wear) (List.mem_of_getElem? (i := 8) rfl)) (hts (.selects RX4 yX4_wear yX4_wear) (List.mem_of_getElem? (i := 9) rfl)) (by decide +kernel) ⟨Nat.le_of_ble_eq_true rfl, Nat.le_of_ble_eq_true rfl⟩ hKK hPc hDc (ci := 4) (q0 := 0) rfl rfl rfl hl.1 rfl (Nat.le_of_ble_eq_true rfl) dX2_drive_134 ⟨Nat.zero_le _, Nat.zero_le _⟩) hP hD hS hA [1, 2, 3] rfl rfl (fun H locs hP hD hS => ?_)
          have hP : va_P D vwCl ((cR cyI cyO aR aW aw af aG ao aB ab (wearS w1 (nxS B1 b) (1 + ((f1 (nxS B1 b).toNatClampNeg) / 2))) f1 od g bc hr (c1 + fare)) ++ pB LB (up2 (up2 (up2 B1 b 0 (nxS B1 b)) b 3 ((B1 b 3) + 1)) b 4 ((B1 b 4) + fare))) H := hP
          have hD : va_D A ((cR cyI cyO aR aW aw af aG ao aB ab (wearS w1 (nxS B1 b) (1 + ((f1 (nxS B1 b).toNatClampNeg) / 2))) f1 od g bc hr (c1 + fare)) ++ pB LB (up2 (up2 (up2 B1 b 0 (nxS B1 b)) b 3 ((B1 b 3) + 1)) b 4 ((B1 b 4) + fare))) := hD
          refine lv_aload_n hx hb dX2_drive_137 rfl (lv_at hl 2 rfl) ?_
          refine va_get (D := D) (ci := 2) (v := .ref aW) (C := RX2) (T := TX2) (N := 6) hx hb hts iX2 hown hKK.1 hP 0 rfl rfl 0 (by decide) (hts (.fieldLink RX2 12 "TrolleyGang$Ring" "wires" "LTrolleyGang$Wires;") (List.mem_of_getElem? (i := 1) rfl)) (fun _ h9 => h9) rfl dX2_drive_138 ?_
          refine lv_iload hx hb dX2_drive_141 (lv_at hl 0 rfl) ?_
          have hPc := hP.sub (ws' := (cW cyI aW aw af (wearS w1 (nxS B1 b) (1 + ((f1 (nxS B1 b).toNatClampNeg) / 2))) f1)) [1, 2, 3] rfl
          have hDc := hD.sub (ws' := (cW cyI aW aw af (wearS w1 (nxS B1 b) (1 + ((f1 (nxS B1 b).toNatClampNeg) / 2))) f1)) [1, 2, 3] (by decide) rfl
          refine ret_i (W1 := (cW cyI aW aw af (wearS w1 (nxS B1 b) (1 + ((f1 (nxS B1 b).toNatClampNeg) / 2))) f1)) (W2 := (cW cyI aW aw af (wearS w1 (nxS B1 b) (1 + ((f1 (nxS B1 b).toNatClampNeg) / 2))) f1)) (r := dnI (wearS w1 (nxS B1 b) (1 + ((f1 (nxS B1 b).toNatClampNeg) / 2))) (nxS B1 b)) (run_VN (q := (RX4, TX4, 2)) (n := 1) (As := [.int (nxS B1 b)]) (rest := []) ⟨hx, hb, hml, hown, hts⟩ (c_X4_isDown l D cyI cyO cyL aW aw af (wearS w1 (nxS B1 b) (1 + ((f1 (nxS B1 b).toNatClampNeg) / 2))) f1 (nxS B1 b) (hB.nx b) _) ggX2_drive_X4_isDown rfl rfl rfl nq_63 (hts (.initialized RX4) (List.mem_of_getElem? (i := 4) rfl)) (hts (.instanceMethod yX4_isDown) (List.mem_of_getElem? (i := 3) rfl)) (hts (.selects RX4 yX4_isDown yX4_isDown) (List.mem_of_getElem? (i := 5) rfl)) (by decide +kernel) ⟨Nat.le_of_ble_eq_true rfl, Nat.le_of_ble_eq_true rfl⟩ hKK hPc hDc (ci := 4) (q0 := 0) rfl rfl rfl hl.1 rfl (Nat.le_of_ble_eq_true rfl) dX2_drive_143 ⟨Nat.zero_le _, Nat.zero_le _⟩) hP hD hS hA [1, 2, 3] rfl rfl (fun H locs hP hD hS => ?_)
          have hP : va_P D vwCl ((cR cyI cyO aR aW aw af aG ao aB ab (wearS w1 (nxS B1 b) (1 + ((f1 (nxS B1 b).toNatClampNeg) / 2))) f1 od g bc hr (c1 + fare)) ++ pB LB (up2 (up2 (up2 B1 b 0 (nxS B1 b)) b 3 ((B1 b 3) + 1)) b 4 ((B1 b 4) + fare))) H := hP
          have hD : va_D A ((cR cyI cyO aR aW aw af aG ao aB ab (wearS w1 (nxS B1 b) (1 + ((f1 (nxS B1 b).toNatClampNeg) / 2))) f1 od g bc hr (c1 + fare)) ++ pB LB (up2 (up2 (up2 B1 b 0 (nxS B1 b)) b 3 ((B1 b 3) + 1)) b 4 ((B1 b 4) + fare))) := hD
          refine lv_if_eq (tgt := 150) hx hb dX2_drive_146 (by decide) (fun h_5 => ?_) (fun h_5 => ?_)
          · skip
            refine lv_iinc (v := nI (i + 1)) (lv' := [(3, .int (nI (i + 1))), (4, .int (nxS B1 b)), (0, .ref aR), (1, .ref b), (2, .int fare)]) hx hb dX2_drive_150 hl (k := 1) rfl (nI_1 i) (by decide) rfl (fun ls hl => ?_)
            refine lv_goto (tgt := 10) hx hb dX2_drive_153 (by decide) ?_
            exact ih d ((i + 1), (wearS w1 (nxS B1 b) (1 + ((f1 (nxS B1 b).toNatClampNeg) / 2))), f1, (up2 (up2 (up2 B1 b 0 (nxS B1 b)) b 3 ((B1 b 3) + 1)) b 4 ((B1 b 4) + fare)), (c1 + fare)) _ _ _ (by omega) ⟨(by omega), (hsp.trans (by first | with_reducible rfl | (simp only [driveS, drvL, w1S, f1S, B1S, h_1, h_2, h_3, h_4, h_5, if_true, if_false, reduceIte, not_true_eq_false, not_false_eq_true]; done) | (simp [driveS, drvL, w1S, f1S, B1S, h_1, h_2, h_3, h_4, h_5]; done))), (hB.b1 b fare), hP, hD, hS, lv_sub hl [0, 2, 3, 4] rfl⟩
          · skip
            have e9 : driveS b fare w f B co = (wearS w1 (nxS B1 b) (1 + ((f1 (nxS B1 b).toNatClampNeg) / 2)), f1, (up2 (up2 (up2 B1 b 0 (nxS B1 b)) b 3 ((B1 b 3) + 1)) b 4 ((B1 b 4) + fare)), c1 + fare) := (by rw [driveS, if_neg h_1, hsp]; exact (by first | with_reducible rfl | (simp only [driveS, drvL, w1S, f1S, B1S, h_1, h_2, h_3, h_4, h_5, if_true, if_false, reduceIte, not_true_eq_false, not_false_eq_true]; done) | (simp [driveS, drvL, w1S, f1S, B1S, h_1, h_2, h_3, h_4, h_5]; done)))
            exact end_v hx hb hrt hlocks (by rw [e9]; exact hP) hS dX2_drive_149
        · skip
          refine lv_aload_n hx hb dX2_drive_92 rfl (lv_at hl 2 rfl) ?_
          refine va_get (D := D) (ci := 2) (v := .ref aW) (C := RX2) (T := TX2) (N := 6) hx hb hts iX2 hown hKK.1 hP 0 rfl rfl 0 (by decide) (hts (.fieldLink RX2 12 "TrolleyGang$Ring" "wires" "LTrolleyGang$Wires;") (List.mem_of_getElem? (i := 1) rfl)) (fun _ h9 => h9) rfl dX2_drive_93 ?_
          refine va_getN (D := D) (ci := 4) (v := .ref af) (C := RX4) (T := TX4) (N := 2) hx hb hts iX4 hown hKK.1 hP 1 rfl rfl 1 (by decide) (nw (w := .fieldLinkNest "TrolleyGang$Ring" 116 "TrolleyGang$Wires" "frost" "[I" "TrolleyGang") nq_11) (fun _ h9 => h9) rfl dX2_drive_96 ?_
          refine lv_iload hx hb dX2_drive_99 (lv_at hl 0 rfl) ?_
          refine lv_iconst (v := 0) hx hb dX2_drive_101 (by decide) ?_
          refine va_iast hx hb hKK.1 hP hD hS 3 0 rfl rfl (hin := (hB.nx b)) dX2_drive_102 (fun H locs hP hD hS => ?_)
          have hP : va_P D vwCl ((cR cyI cyO aR aW aw af aG ao aB ab w1 (upd f1 ((nxS B1 b).toNatClampNeg) 0) od g bc hr (c1 + fare)) ++ pB LB (up2 (up2 (up2 B1 b 0 (nxS B1 b)) b 3 ((B1 b 3) + 1)) b 4 ((B1 b 4) + fare))) H := hP
          have hD : va_D A ((cR cyI cyO aR aW aw af aG ao aB ab w1 (upd f1 ((nxS B1 b).toNatClampNeg) 0) od g bc hr (c1 + fare)) ++ pB LB (up2 (up2 (up2 B1 b 0 (nxS B1 b)) b 3 ((B1 b 3) + 1)) b 4 ((B1 b 4) + fare))) := hD
          refine lv_aload_n hx hb dX2_drive_103 rfl (lv_at hl 2 rfl) ?_
          refine va_get (D := D) (ci := 2) (v := .ref aW) (C := RX2) (T := TX2) (N := 6) hx hb hts iX2 hown hKK.1 hP 0 rfl rfl 0 (by decide) (hts (.fieldLink RX2 12 "TrolleyGang$Ring" "wires" "LTrolleyGang$Wires;") (List.mem_of_getElem? (i := 1) rfl)) (fun _ h9 => h9) rfl dX2_drive_104 ?_
          refine lv_iload hx hb dX2_drive_107 (lv_at hl 0 rfl) ?_
          refine lv_aload_n hx hb dX2_drive_109 rfl (lv_at hl 3 rfl) ?_
          refine bus_getN hx hb hts iX0 hown hKK hP hL_b 1 (by decide) (nw (w := .fieldLinkNest "TrolleyGang$Ring" 113 "TrolleyGang$Bus" "hasScraper" "Z" "TrolleyGang") nq_30) (fun _ h9 => h9) dX2_drive_110 ?_
          refine lv_tope (y := B1 b 1) rfl ?_
          refine lv_if_eq (tgt := 120) hx hb dX2_drive_113 (by decide) (fun h9 => absurd h9 h_4) (fun _ => ?_)
          refine lv_iconst (v := 2) hx hb dX2_drive_116 (by decide) ?_
          refine lv_goto (tgt := 134) hx hb dX2_drive_117 (by decide) ?_
          have hPc := hP.sub (ws' := (cW cyI aW aw af w1 (upd f1 ((nxS B1 b).toNatClampNeg) 0))) [1, 2, 3] rfl
          have hDc := hD.sub (ws' := (cW cyI aW aw af w1 (upd f1 ((nxS B1 b).toNatClampNeg) 0))) [1, 2, 3] (by decide) rfl
          refine ret_v (W1 := (cW cyI aW aw af w1 (upd f1 ((nxS B1 b).toNatClampNeg) 0))) (W2 := (cW cyI aW aw af (wearS w1 (nxS B1 b) 2) (upd f1 ((nxS B1 b).toNatClampNeg) 0))) (run_VN (q := (RX4, TX4, 2)) (n := 2) (As := [.int (nxS B1 b), .int 2]) (rest := []) ⟨hx, hb, hml, hown, hts⟩ (c_X4_wear l D cyI cyO cyL aW aw af w1 (upd f1 ((nxS B1 b).toNatClampNeg) 0) (nxS B1 b) 2 (hB.nx b) _) ggX2_drive_X4_wear rfl rfl rfl nq_64 (hts (.initialized RX4) (List.mem_of_getElem? (i := 4) rfl)) (hts (.instanceMethod yX4_wear) (List.mem_of_getElem? (i := 8) rfl)) (hts (.selects RX4 yX4_wear yX4_wear) (List.mem_of_getElem? (i := 9) rfl)) (by decide +kernel) ⟨Nat.le_of_ble_eq_true rfl, Nat.le_of_ble_eq_true rfl⟩ hKK hPc hDc (ci := 4) (q0 := 0) rfl rfl rfl hl.1 rfl (Nat.le_of_ble_eq_true rfl) dX2_drive_134 ⟨Nat.zero_le _, Nat.zero_le _⟩) hP hD hS hA [1, 2, 3] rfl rfl (fun H locs hP hD hS => ?_)
          have hP : va_P D vwCl ((cR cyI cyO aR aW aw af aG ao aB ab (wearS w1 (nxS B1 b) 2) (upd f1 ((nxS B1 b).toNatClampNeg) 0) od g bc hr (c1 + fare)) ++ pB LB (up2 (up2 (up2 B1 b 0 (nxS B1 b)) b 3 ((B1 b 3) + 1)) b 4 ((B1 b 4) + fare))) H := hP
          have hD : va_D A ((cR cyI cyO aR aW aw af aG ao aB ab (wearS w1 (nxS B1 b) 2) (upd f1 ((nxS B1 b).toNatClampNeg) 0) od g bc hr (c1 + fare)) ++ pB LB (up2 (up2 (up2 B1 b 0 (nxS B1 b)) b 3 ((B1 b 3) + 1)) b 4 ((B1 b 4) + fare))) := hD
          refine lv_aload_n hx hb dX2_drive_137 rfl (lv_at hl 2 rfl) ?_
          refine va_get (D := D) (ci := 2) (v := .ref aW) (C := RX2) (T := TX2) (N := 6) hx hb hts iX2 hown hKK.1 hP 0 rfl rfl 0 (by decide) (hts (.fieldLink RX2 12 "TrolleyGang$Ring" "wires" "LTrolleyGang$Wires;") (List.mem_of_getElem? (i := 1) rfl)) (fun _ h9 => h9) rfl dX2_drive_138 ?_
          refine lv_iload hx hb dX2_drive_141 (lv_at hl 0 rfl) ?_
          have hPc := hP.sub (ws' := (cW cyI aW aw af (wearS w1 (nxS B1 b) 2) (upd f1 ((nxS B1 b).toNatClampNeg) 0))) [1, 2, 3] rfl
          have hDc := hD.sub (ws' := (cW cyI aW aw af (wearS w1 (nxS B1 b) 2) (upd f1 ((nxS B1 b).toNatClampNeg) 0))) [1, 2, 3] (by decide) rfl
          refine ret_i (W1 := (cW cyI aW aw af (wearS w1 (nxS B1 b) 2) (upd f1 ((nxS B1 b).toNatClampNeg) 0))) (W2 := (cW cyI aW aw af (wearS w1 (nxS B1 b) 2) (upd f1 ((nxS B1 b).toNatClampNeg) 0))) (r := dnI (wearS w1 (nxS B1 b) 2) (nxS B1 b)) (run_VN (q := (RX4, TX4, 2)) (n := 1) (As := [.int (nxS B1 b)]) (rest := []) ⟨hx, hb, hml, hown, hts⟩ (c_X4_isDown l D cyI cyO cyL aW aw af (wearS w1 (nxS B1 b) 2) (upd f1 ((nxS B1 b).toNatClampNeg) 0) (nxS B1 b) (hB.nx b) _) ggX2_drive_X4_isDown rfl rfl rfl nq_63 (hts (.initialized RX4) (List.mem_of_getElem? (i := 4) rfl)) (hts (.instanceMethod yX4_isDown) (List.mem_of_getElem? (i := 3) rfl)) (hts (.selects RX4 yX4_isDown yX4_isDown) (List.mem_of_getElem? (i := 5) rfl)) (by decide +kernel) ⟨Nat.le_of_ble_eq_true rfl, Nat.le_of_ble_eq_true rfl⟩ hKK hPc hDc (ci := 4) (q0 := 0) rfl rfl rfl hl.1 rfl (Nat.le_of_ble_eq_true rfl) dX2_drive_143 ⟨Nat.zero_le _, Nat.zero_le _⟩) hP hD hS hA [1, 2, 3] rfl rfl (fun H locs hP hD hS => ?_)
          have hP : va_P D vwCl ((cR cyI cyO aR aW aw af aG ao aB ab (wearS w1 (nxS B1 b) 2) (upd f1 ((nxS B1 b).toNatClampNeg) 0) od g bc hr (c1 + fare)) ++ pB LB (up2 (up2 (up2 B1 b 0 (nxS B1 b)) b 3 ((B1 b 3) + 1)) b 4 ((B1 b 4) + fare))) H := hP
          have hD : va_D A ((cR cyI cyO aR aW aw af aG ao aB ab (wearS w1 (nxS B1 b) 2) (upd f1 ((nxS B1 b).toNatClampNeg) 0) od g bc hr (c1 + fare)) ++ pB LB (up2 (up2 (up2 B1 b 0 (nxS B1 b)) b 3 ((B1 b 3) + 1)) b 4 ((B1 b 4) + fare))) := hD
          refine lv_if_eq (tgt := 150) hx hb dX2_drive_146 (by decide) (fun h_6 => ?_) (fun h_6 => ?_)
          · skip
            refine lv_iinc (v := nI (i + 1)) (lv' := [(3, .int (nI (i + 1))), (4, .int (nxS B1 b)), (0, .ref aR), (1, .ref b), (2, .int fare)]) hx hb dX2_drive_150 hl (k := 1) rfl (nI_1 i) (by decide) rfl (fun ls hl => ?_)
            refine lv_goto (tgt := 10) hx hb dX2_drive_153 (by decide) ?_
            exact ih d ((i + 1), (wearS w1 (nxS B1 b) 2), (upd f1 ((nxS B1 b).toNatClampNeg) 0), (up2 (up2 (up2 B1 b 0 (nxS B1 b)) b 3 ((B1 b 3) + 1)) b 4 ((B1 b 4) + fare)), (c1 + fare)) _ _ _ (by omega) ⟨(by omega), (hsp.trans (by first | with_reducible rfl | (simp only [driveS, drvL, w1S, f1S, B1S, h_1, h_2, h_3, h_4, h_6, if_true, if_false, reduceIte, not_true_eq_false, not_false_eq_true]; done) | (simp [driveS, drvL, w1S, f1S, B1S, h_1, h_2, h_3, h_4, h_6]; done))), (hB.b1 b fare), hP, hD, hS, lv_sub hl [0, 2, 3, 4] rfl⟩
          · skip
            have e9 : driveS b fare w f B co = (wearS w1 (nxS B1 b) 2, upd f1 ((nxS B1 b).toNatClampNeg) 0, (up2 (up2 (up2 B1 b 0 (nxS B1 b)) b 3 ((B1 b 3) + 1)) b 4 ((B1 b 4) + fare)), c1 + fare) := (by rw [driveS, if_neg h_1, hsp]; exact (by first | with_reducible rfl | (simp only [driveS, drvL, w1S, f1S, B1S, h_1, h_2, h_3, h_4, h_6, if_true, if_false, reduceIte, not_true_eq_false, not_false_eq_true]; done) | (simp [driveS, drvL, w1S, f1S, B1S, h_1, h_2, h_3, h_4, h_6]; done)))
            exact end_v hx hb hrt hlocks (by rw [e9]; exact hP) hS dX2_drive_149
      · skip
        refine lv_aload_n hx hb dX2_drive_38 rfl (lv_at hl 3 rfl) ?_
        refine lv_dup hx hb dX2_drive_39 rfl ?_
        refine bus_getN hx hb hts iX0 hown hKK hP hL_b 5 (by decide) (nw (w := .fieldLinkNest "TrolleyGang$Ring" 104 "TrolleyGang$Bus" "hoursStuck" "I" "TrolleyGang") nq_37) (fun _ h9 => h9) dX2_drive_40 ?_
        refine lv_iconst (v := 1) hx hb dX2_drive_43 (by decide) ?_
        refine lv_iadd hx hb dX2_drive_44 ?_
        refine bus_putN hx hb hts iX0 hown hKK hP hD hS hL_b 5 (by decide) (nw (w := .fieldLinkNest "TrolleyGang$Ring" 104 "TrolleyGang$Bus" "hoursStuck" "I" "TrolleyGang") nq_37) (fun _ h9 => h9) rfl (ty := .int) (v := (B1 b 5) + 1) (by decide +kernel) rfl rfl dX2_drive_45 (fun H locs hP hD hS => ?_)
        have hP : va_P D vwCl ((cR cyI cyO aR aW aw af aG ao aB ab w1 f1 od g bc hr c1) ++ pB LB (up2 B1 b 5 ((B1 b 5) + 1))) H := hP
        have hD : va_D A ((cR cyI cyO aR aW aw af aG ao aB ab w1 f1 od g bc hr c1) ++ pB LB (up2 B1 b 5 ((B1 b 5) + 1))) := hD
        have e9 : driveS b fare w f B co = (w1, f1, (up2 B1 b 5 ((B1 b 5) + 1)), c1) := (by rw [driveS, if_neg h_1, hsp]; exact (by first | with_reducible rfl | (simp only [driveS, drvL, w1S, f1S, B1S, h_1, h_2, h_3, if_true, if_false, reduceIte, not_true_eq_false, not_false_eq_true]; done) | (simp [driveS, drvL, w1S, f1S, B1S, h_1, h_2, h_3]; done)))
        exact end_v hx hb hrt hlocks (by rw [e9]; exact hP) hS dX2_drive_48
  · skip
    have e9 : driveS b fare w f B co = (w, f, B, co) := (by rw [driveS, if_pos h_1])
    exact end_v hx hb hrt hlocks (by rw [e9]; exact hP) hS dX2_drive_7
set_option maxHeartbeats 4000000 in
set_option maxRecDepth 100000 in
theorem c_X2_isOrderDoneByWorkAt (l : Launch) (D : va_G) (cyI cyO cyL : ClassId) (aR : Nat) (aW : Nat) (aw : Nat) (af : Nat) (aG : Nat) (ao : Nat) (aB : Nat) (ab : Nat → Nat) (w : Nat → Int32) (f : Nat → Int32) (od : Nat → Int32) (g : Nat → Int32) (bc : Int32) (hr : Int32) (co : Int32) (s_ : Int32) (hi : vp_in s_ 24) : cI l yX2_isOrderDoneByWorkAt wsX2_isOrderDoneByWorkAt ({ frames := 2, cells := 0, slots := 0, locals := 37 }) D cyI cyO cyL [.ref aR, .int s_] (cR cyI cyO aR aW aw af aG ao aB ab w f od g bc hr co) (cR cyI cyO aR aW aw af aG ao aB ab ((iodS w g s_).2.1) f od ((iodS w g s_).2.2) bc hr co) ((iodS w g s_).1) := by
  intro sz
  refine Met.ofW (cc := cX2_isOrderDoneByWorkAt) (maxL := 2) (ret := (some .boolean)) (by decide) rfl ?_
  intro p e s m args below meth c s₁ B9 hml hv
  obtain ⟨rfl, hsz, hP, hKK, hD0⟩ := hv
  have hx := B9.exec
  have hb := B9.bytes
  have hrt := B9.returns
  have hts := atoms_spec (ws := wsX2_isOrderDoneByWorkAt) B9.pre
  have hown : s.vm.findClass RX2 = some m.cls := findClass_of_methodNamed B9.named
  have hlocks := B9.notSynchronized
  have nw := fun {w : Cond} (h : w ∈ nw_all) => NW.use (args := ([.ref aR, .int s_] : List Value).toArray) hKK.2 h
  have iX1 : ∀ w ∈ wsX10, w ∈ wsX2_isOrderDoneByWorkAt := fun _ h => List.mem_cons_of_mem _ (List.mem_append_right _ h)
  have iX2 : ∀ w ∈ wsX20, w ∈ wsX2_isOrderDoneByWorkAt := fun _ h => List.mem_cons_of_mem _ (List.mem_append_left _ (List.mem_append_left _ (List.mem_append_right _ h)))
  have iX4 : ∀ w ∈ wsX40, w ∈ wsX2_isOrderDoneByWorkAt := fun _ h => List.mem_cons_of_mem _ (List.mem_append_left _ (List.mem_append_right _ h))
  subst hsz
  have hD := hD0.self (sz := s.heap.size)
  generalize hAe : va_A (cR cyI cyO aR aW aw af aG ao aB ab w f od g bc hr co) s.heap.size = A at hD ⊢
  have hA : ∀ q : Nat, s.heap.size ≤ q → A q := fun q h => by rw [← hAe]; exact Or.inr h
  have hS : va_S A s.heap s.heap [] := va_S.rf
  have hl := lv_entry ([.ref aR, .int s_]) (n := 2) (Nat.le_of_ble_eq_true rfl)
  rw [lg_entry_eq]
  generalize (lg_sl ([.ref aR, .int s_]) ++ List.replicate (2 - (lg_sl ([.ref aR, .int s_])).length) Slot.unset).toArray = ls at hl ⊢
  have hl : lv_has ls 2 [(0, .ref aR), (1, .int s_)] := hl
  refine lv_aload_n hx hb dX2_isOrderDoneByWorkAt_0 rfl (lv_at hl 0 rfl) ?_
  refine va_get (D := D) (ci := 2) (v := .ref aW) (C := RX2) (T := TX2) (N := 6) hx hb hts iX2 hown hKK.1 hP 0 rfl rfl 0 (by decide) (hts (.fieldLink RX2 12 "TrolleyGang$Ring" "wires" "LTrolleyGang$Wires;") (List.mem_of_getElem? (i := 1) rfl)) (fun _ h9 => h9) rfl dX2_isOrderDoneByWorkAt_1 ?_
  refine lv_iload_n hx hb dX2_isOrderDoneByWorkAt_4 rfl (lv_at hl 1 rfl) ?_
  have hPc := hP.sub (ws' := (cW cyI aW aw af w f)) [1, 2, 3] rfl
  have hDc := hD.sub (ws' := (cW cyI aW aw af w f)) [1, 2, 3] (by decide) rfl
  refine ret_i (W1 := (cW cyI aW aw af w f)) (W2 := (cW cyI aW aw af w f)) (r := dnI w s_) (run_VN (q := (RX4, TX4, 2)) (n := 1) (As := [.int s_]) (rest := []) ⟨hx, hb, hml, hown, hts⟩ (c_X4_isDown l D cyI cyO cyL aW aw af w f s_ (by assumption) _) ggX2_isOrderDoneByWorkAt_X4_isDown rfl rfl rfl nq_63 (hts (.initialized RX4) (List.mem_of_getElem? (i := 4) rfl)) (hts (.instanceMethod yX4_isDown) (List.mem_of_getElem? (i := 3) rfl)) (hts (.selects RX4 yX4_isDown yX4_isDown) (List.mem_of_getElem? (i := 5) rfl)) (by decide +kernel) ⟨Nat.le_of_ble_eq_true rfl, Nat.le_of_ble_eq_true rfl⟩ hKK hPc hDc (ci := 4) (q0 := 0) rfl rfl rfl hl.1 rfl (Nat.le_of_ble_eq_true rfl) dX2_isOrderDoneByWorkAt_5 ⟨Nat.zero_le _, Nat.zero_le _⟩) hP hD hS hA [1, 2, 3] rfl rfl (fun H locs hP hD hS => ?_)
  have hP : va_P D vwCl (cR cyI cyO aR aW aw af aG ao aB ab w f od g bc hr co) H := hP
  have hD : va_D A (cR cyI cyO aR aW aw af aG ao aB ab w f od g bc hr co) := hD
  refine lv_if_ne (tgt := 41) hx hb dX2_isOrderDoneByWorkAt_8 (by decide) (fun h_1 => ?_) (fun h_1 => ?_)
  · skip
    refine lv_aload_n hx hb dX2_isOrderDoneByWorkAt_41 rfl (lv_at hl 0 rfl) ?_
    refine va_get (D := D) (ci := 2) (v := .ref aG) (C := RX2) (T := TX2) (N := 6) hx hb hts iX2 hown hKK.1 hP 0 rfl rfl 1 (by decide) (hts (.fieldLink RX2 21 "TrolleyGang$Ring" "gang" "LTrolleyGang$Gang;") (List.mem_of_getElem? (i := 2) rfl)) (fun _ h9 => h9) rfl dX2_isOrderDoneByWorkAt_42 ?_
    refine va_getN (D := D) (ci := 1) (v := .int (g 2)) (C := RX1) (T := TX1) (N := 6) hx hb hts iX1 hown hKK.1 hP 4 rfl rfl 3 (by decide) (nw (w := .fieldLinkNest "TrolleyGang$Ring" 129 "TrolleyGang$Gang" "worksAtFirst" "I" "TrolleyGang") nq_20) (fun _ h9 => h9) rfl dX2_isOrderDoneByWorkAt_45 ?_
    refine lv_iconst (v := 2) hx hb dX2_isOrderDoneByWorkAt_48 (by decide) ?_
    refine lv_icmp_ge (tgt := 54) hx hb dX2_isOrderDoneByWorkAt_49 (by decide) (fun h_2 => ?_) (fun h_2 => ?_)
    · skip
      refine lv_aload_n hx hb dX2_isOrderDoneByWorkAt_54 rfl (lv_at hl 0 rfl) ?_
      refine va_get (D := D) (ci := 2) (v := .ref aW) (C := RX2) (T := TX2) (N := 6) hx hb hts iX2 hown hKK.1 hP 0 rfl rfl 0 (by decide) (hts (.fieldLink RX2 12 "TrolleyGang$Ring" "wires" "LTrolleyGang$Wires;") (List.mem_of_getElem? (i := 1) rfl)) (fun _ h9 => h9) rfl dX2_isOrderDoneByWorkAt_55 ?_
      refine lv_iload_n hx hb dX2_isOrderDoneByWorkAt_58 rfl (lv_at hl 1 rfl) ?_
      have hPc := hP.sub (ws' := (cW cyI aW aw af w f)) [1, 2, 3] rfl
      have hDc := hD.sub (ws' := (cW cyI aW aw af w f)) [1, 2, 3] (by decide) rfl
      refine ret_v (W1 := (cW cyI aW aw af w f)) (W2 := (cW cyI aW aw af (putS w s_) f)) (run_VN (q := (RX4, TX4, 2)) (n := 1) (As := [.int s_]) (rest := []) ⟨hx, hb, hml, hown, hts⟩ (c_X4_putUp l D cyI cyO cyL aW aw af w f s_ (by assumption) _) ggX2_isOrderDoneByWorkAt_X4_putUp rfl rfl rfl nq_68 (hts (.initialized RX4) (List.mem_of_getElem? (i := 4) rfl)) (hts (.instanceMethod yX4_putUp) (List.mem_of_getElem? (i := 15) rfl)) (hts (.selects RX4 yX4_putUp yX4_putUp) (List.mem_of_getElem? (i := 16) rfl)) (by decide +kernel) ⟨Nat.le_of_ble_eq_true rfl, Nat.le_of_ble_eq_true rfl⟩ hKK hPc hDc (ci := 4) (q0 := 0) rfl rfl rfl hl.1 rfl (Nat.le_of_ble_eq_true rfl) dX2_isOrderDoneByWorkAt_59 ⟨Nat.zero_le _, Nat.zero_le _⟩) hP hD hS hA [1, 2, 3] rfl rfl (fun H locs hP hD hS => ?_)
      have hP : va_P D vwCl (cR cyI cyO aR aW aw af aG ao aB ab (putS w s_) f od g bc hr co) H := hP
      have hD : va_D A (cR cyI cyO aR aW aw af aG ao aB ab (putS w s_) f od g bc hr co) := hD
      refine lv_aload_n hx hb dX2_isOrderDoneByWorkAt_62 rfl (lv_at hl 0 rfl) ?_
      refine va_get (D := D) (ci := 2) (v := .ref aG) (C := RX2) (T := TX2) (N := 6) hx hb hts iX2 hown hKK.1 hP 0 rfl rfl 1 (by decide) (hts (.fieldLink RX2 21 "TrolleyGang$Ring" "gang" "LTrolleyGang$Gang;") (List.mem_of_getElem? (i := 2) rfl)) (fun _ h9 => h9) rfl dX2_isOrderDoneByWorkAt_63 ?_
      refine lv_dup hx hb dX2_isOrderDoneByWorkAt_66 rfl ?_
      refine va_getN (D := D) (ci := 1) (v := .int (g 4)) (C := RX1) (T := TX1) (N := 6) hx hb hts iX1 hown hKK.1 hP 4 rfl rfl 5 (by decide) (nw (w := .fieldLinkNest "TrolleyGang$Ring" 150 "TrolleyGang$Gang" "putUpInAll" "I" "TrolleyGang") nq_24) (fun _ h9 => h9) rfl dX2_isOrderDoneByWorkAt_67 ?_
      refine lv_iconst (v := 1) hx hb dX2_isOrderDoneByWorkAt_70 (by decide) ?_
      refine lv_iadd hx hb dX2_isOrderDoneByWorkAt_71 ?_
      refine va_putN (D := D) (ci := 1) (v := .int ((g 4) + 1)) (ty := .int) (C := RX1) (T := TX1) (N := 6) hx hb hts iX1 tyX1 tyX1_ok nmX1 hown hKK.1 hP hD hS 4 rfl rfl 5 (by decide) (nw (w := .fieldLinkNest "TrolleyGang$Ring" 150 "TrolleyGang$Gang" "putUpInAll" "I" "TrolleyGang") nq_24) (fun _ h9 => h9) rfl (by decide +kernel) rfl rfl (Nat.le_of_ble_eq_true rfl) dX2_isOrderDoneByWorkAt_72 (fun H locs hP hD hS => ?_)
      have hP : va_P D vwCl (cR cyI cyO aR aW aw af aG ao aB ab (putS w s_) f od (upd g 4 ((g 4) + 1)) bc hr co) H := hP
      have hD : va_D A (cR cyI cyO aR aW aw af aG ao aB ab (putS w s_) f od (upd g 4 ((g 4) + 1)) bc hr co) := hD
      refine lv_iconst (v := 1) hx hb dX2_isOrderDoneByWorkAt_75 (by decide) ?_
      have e9 : iodS w g s_ = (1, putS w s_, (upd g 4 ((g 4) + 1))) := (by first | with_reducible rfl | (simp only [iodS, h_1, h_2, if_true, if_false, reduceIte, not_true_eq_false, not_false_eq_true]; done) | (simp [iodS, h_1, h_2]; done))
      exact end_z hx hb hrt hlocks (Or.inr rfl) (by rw [e9]) (by rw [e9]; exact hP) hS dX2_isOrderDoneByWorkAt_76
    · skip
      refine lv_iconst (v := 0) hx hb dX2_isOrderDoneByWorkAt_52 (by decide) ?_
      have e9 : iodS w g s_ = (0, w, g) := (by first | with_reducible rfl | (simp only [iodS, h_1, h_2, if_true, if_false, reduceIte, not_true_eq_false, not_false_eq_true]; done) | (simp [iodS, h_1, h_2]; done))
      exact end_z hx hb hrt hlocks (Or.inl rfl) (by rw [e9]) (by rw [e9]; exact hP) hS dX2_isOrderDoneByWorkAt_53
  · skip
    refine lv_aload_n hx hb dX2_isOrderDoneByWorkAt_11 rfl (lv_at hl 0 rfl) ?_
    refine va_get (D := D) (ci := 2) (v := .ref aW) (C := RX2) (T := TX2) (N := 6) hx hb hts iX2 hown hKK.1 hP 0 rfl rfl 0 (by decide) (hts (.fieldLink RX2 12 "TrolleyGang$Ring" "wires" "LTrolleyGang$Wires;") (List.mem_of_getElem? (i := 1) rfl)) (fun _ h9 => h9) rfl dX2_isOrderDoneByWorkAt_12 ?_
    refine lv_iload_n hx hb dX2_isOrderDoneByWorkAt_15 rfl (lv_at hl 1 rfl) ?_
    refine lv_bipush (v := 30) hx hb dX2_isOrderDoneByWorkAt_16 (by decide) ?_
    have hPc := hP.sub (ws' := (cW cyI aW aw af w f)) [1, 2, 3] rfl
    have hDc := hD.sub (ws' := (cW cyI aW aw af w f)) [1, 2, 3] (by decide) rfl
    refine ret_v (W1 := (cW cyI aW aw af w f)) (W2 := (cW cyI aW aw af (mendS w s_ 30) f)) (run_VN (q := (RX4, TX4, 2)) (n := 2) (As := [.int s_, .int 30]) (rest := []) ⟨hx, hb, hml, hown, hts⟩ (c_X4_mend l D cyI cyO cyL aW aw af w f s_ 30 (by assumption) _) ggX2_isOrderDoneByWorkAt_X4_mend rfl rfl rfl nq_67 (hts (.initialized RX4) (List.mem_of_getElem? (i := 4) rfl)) (hts (.instanceMethod yX4_mend) (List.mem_of_getElem? (i := 8) rfl)) (hts (.selects RX4 yX4_mend yX4_mend) (List.mem_of_getElem? (i := 9) rfl)) (by decide +kernel) ⟨Nat.le_of_ble_eq_true rfl, Nat.le_of_ble_eq_true rfl⟩ hKK hPc hDc (ci := 4) (q0 := 0) rfl rfl rfl hl.1 rfl (Nat.le_of_ble_eq_true rfl) dX2_isOrderDoneByWorkAt_18 ⟨Nat.zero_le _, Nat.zero_le _⟩) hP hD hS hA [1, 2, 3] rfl rfl (fun H locs hP hD hS => ?_)
    have hP : va_P D vwCl (cR cyI cyO aR aW aw af aG ao aB ab (mendS w s_ 30) f od g bc hr co) H := hP
    have hD : va_D A (cR cyI cyO aR aW aw af aG ao aB ab (mendS w s_ 30) f od g bc hr co) := hD
    refine lv_aload_n hx hb dX2_isOrderDoneByWorkAt_21 rfl (lv_at hl 0 rfl) ?_
    refine va_get (D := D) (ci := 2) (v := .ref aW) (C := RX2) (T := TX2) (N := 6) hx hb hts iX2 hown hKK.1 hP 0 rfl rfl 0 (by decide) (hts (.fieldLink RX2 12 "TrolleyGang$Ring" "wires" "LTrolleyGang$Wires;") (List.mem_of_getElem? (i := 1) rfl)) (fun _ h9 => h9) rfl dX2_isOrderDoneByWorkAt_22 ?_
    refine va_getN (D := D) (ci := 4) (v := .ref aw) (C := RX4) (T := TX4) (N := 2) hx hb hts iX4 hown hKK.1 hP 1 rfl rfl 0 (by decide) (nw (w := .fieldLinkNest "TrolleyGang$Ring" 144 "TrolleyGang$Wires" "worn" "[I" "TrolleyGang") nq_9) (fun _ h9 => h9) rfl dX2_isOrderDoneByWorkAt_25 ?_
    refine lv_iload_n hx hb dX2_isOrderDoneByWorkAt_28 rfl (lv_at hl 1 rfl) ?_
    refine va_iald hx hb hKK.1 hP 2 0 rfl rfl (hin := hi) dX2_isOrderDoneByWorkAt_29 ?_
    refine lv_bipush (v := 30) hx hb dX2_isOrderDoneByWorkAt_30 (by decide) ?_
    refine lv_icmp_ge (tgt := 39) hx hb dX2_isOrderDoneByWorkAt_32 (by decide) (fun h_3 => ?_) (fun h_3 => ?_)
    · skip
      refine lv_iconst (v := 0) hx hb dX2_isOrderDoneByWorkAt_39 (by decide) ?_
      have e9 : iodS w g s_ = (0, mendS w s_ 30, g) := (by first | with_reducible rfl | (simp only [iodS, h_1, h_3, if_true, if_false, reduceIte, not_true_eq_false, not_false_eq_true]; done) | (simp [iodS, h_1, h_3]; done))
      exact end_z hx hb hrt hlocks (by first | exact Or.inl rfl | exact Or.inr rfl) (by rw [e9]) (by rw [e9]; exact hP) hS dX2_isOrderDoneByWorkAt_40
    · skip
      refine lv_iconst (v := 1) hx hb dX2_isOrderDoneByWorkAt_35 (by decide) ?_
      refine lv_goto (tgt := 40) hx hb dX2_isOrderDoneByWorkAt_36 (by decide) ?_
      have e9 : iodS w g s_ = (1, mendS w s_ 30, g) := (by first | with_reducible rfl | (simp only [iodS, h_1, h_3, if_true, if_false, reduceIte, not_true_eq_false, not_false_eq_true]; done) | (simp [iodS, h_1, h_3]; done))
      exact end_z hx hb hrt hlocks (by first | exact Or.inl rfl | exact Or.inr rfl) (by rw [e9]) (by rw [e9]; exact hP) hS dX2_isOrderDoneByWorkAt_40
set_option maxHeartbeats 4000000 in
set_option maxRecDepth 100000 in
theorem c_X2_letGangWork (l : Launch) (D : va_G) (cyI cyO cyL : ClassId) (aR : Nat) (aW : Nat) (aw : Nat) (af : Nat) (aG : Nat) (ao : Nat) (aB : Nat) (ab : Nat → Nat) (w : Nat → Int32) (f : Nat → Int32) (od : Nat → Int32) (g : Nat → Int32) (bc : Int32) (hr : Int32) (co : Int32) (n : Nat) (hn : n ≤ 6) (hoc : g 0 = nI n) (ha : vp_in (g 1) 24) (ho : vp_in (od 0) 24) : cV l yX2_letGangWork wsX2_letGangWork ({ frames := 3, cells := 0, slots := 0, locals := 58 }) D cyI cyO cyL [.ref aR] (cR cyI cyO aR aW aw af aG ao aB ab w f od g bc hr co) (cR cyI cyO aR aW aw af aG ao aB ab ((gwS n w od g co).1) f ((gwS n w od g co).2.1) ((gwS n w od g co).2.2.1) bc hr ((gwS n w od g co).2.2.2)) := by
  intro sz
  refine Met.ofW (cc := cX2_letGangWork) (maxL := 1) (ret := none) (by decide) rfl ?_
  intro p e s m args below meth c s₁ B9 hml hv
  obtain ⟨rfl, hsz, hP, hKK, hD0⟩ := hv
  have hx := B9.exec
  have hb := B9.bytes
  have hrt := B9.returns
  have hts := atoms_spec (ws := wsX2_letGangWork) B9.pre
  have hown : s.vm.findClass RX2 = some m.cls := findClass_of_methodNamed B9.named
  have hlocks := B9.notSynchronized
  have nw := fun {w : Cond} (h : w ∈ nw_all) => NW.use (args := ([.ref aR] : List Value).toArray) hKK.2 h
  have iX1 : ∀ w ∈ wsX10, w ∈ wsX2_letGangWork := fun _ h => List.mem_cons_of_mem _ (List.mem_append_left _ (List.mem_append_right _ h))
  have iX2 : ∀ w ∈ wsX20, w ∈ wsX2_letGangWork := fun _ h => List.mem_cons_of_mem _ (List.mem_append_left _ (List.mem_append_left _ (List.mem_append_right _ h)))
  subst hsz
  have hD := hD0.self (sz := s.heap.size)
  generalize hAe : va_A (cR cyI cyO aR aW aw af aG ao aB ab w f od g bc hr co) s.heap.size = A at hD ⊢
  have hA : ∀ q : Nat, s.heap.size ≤ q → A q := fun q h => by rw [← hAe]; exact Or.inr h
  have hS : va_S A s.heap s.heap [] := va_S.rf
  have hl := lv_entry ([.ref aR]) (n := 1) (Nat.le_of_ble_eq_true rfl)
  rw [lg_entry_eq]
  generalize (lg_sl ([.ref aR]) ++ List.replicate (1 - (lg_sl ([.ref aR])).length) Slot.unset).toArray = ls at hl ⊢
  have hl : lv_has ls 1 [(0, .ref aR)] := hl
  refine lv_aload_n hx hb dX2_letGangWork_0 rfl (lv_at hl 0 rfl) ?_
  refine va_get (D := D) (ci := 2) (v := .ref aG) (C := RX2) (T := TX2) (N := 6) hx hb hts iX2 hown hKK.1 hP 0 rfl rfl 1 (by decide) (hts (.fieldLink RX2 21 "TrolleyGang$Ring" "gang" "LTrolleyGang$Gang;") (List.mem_of_getElem? (i := 1) rfl)) (fun _ h9 => h9) rfl dX2_letGangWork_1 ?_
  refine va_getN (D := D) (ci := 1) (v := .int (g 0)) (C := RX1) (T := TX1) (N := 6) hx hb hts iX1 hown hKK.1 hP 4 rfl rfl 1 (by decide) (nw (w := .fieldLinkNest "TrolleyGang$Ring" 119 "TrolleyGang$Gang" "orderCount" "I" "TrolleyGang") nq_16) (fun _ h9 => h9) rfl dX2_letGangWork_4 ?_
  refine lv_if_ne (tgt := 11) hx hb dX2_letGangWork_7 (by decide) (fun h_1 => ?_) (fun h_1 => ?_)
  · skip
    have hp0 : 0 < n := Nat.pos_of_ne_zero fun e9 => h_1 (by rw [hoc, e9]; rfl)
    refine lv_aload_n hx hb dX2_letGangWork_11 rfl (lv_at hl 0 rfl) ?_
    refine va_get (D := D) (ci := 2) (v := .ref aG) (C := RX2) (T := TX2) (N := 6) hx hb hts iX2 hown hKK.1 hP 0 rfl rfl 1 (by decide) (hts (.fieldLink RX2 21 "TrolleyGang$Ring" "gang" "LTrolleyGang$Gang;") (List.mem_of_getElem? (i := 1) rfl)) (fun _ h9 => h9) rfl dX2_letGangWork_12 ?_
    have hPc := hP.sub (ws' := (cG cyI aG ao od g)) [4, 5] rfl
    have hDc := hD.sub (ws' := (cG cyI aG ao od g)) [4, 5] (by decide) rfl
    refine ret_v (W1 := (cG cyI aG ao od g)) (W2 := (cG cyI aG ao od (goS od g))) (run_VN (q := (RX1, TX1, 6)) (n := 0) (As := []) (rest := []) ⟨hx, hb, hml, hown, hts⟩ (c_X1_goToFirst l D cyI cyO cyL aG ao od g _) ggX2_letGangWork_X1_goToFirst rfl rfl rfl nq_66 (hts (.initialized RX1) (List.mem_of_getElem? (i := 4) rfl)) (hts (.instanceMethod yX1_goToFirst) (List.mem_of_getElem? (i := 3) rfl)) (hts (.selects RX1 yX1_goToFirst yX1_goToFirst) (List.mem_of_getElem? (i := 5) rfl)) (by decide +kernel) ⟨Nat.le_of_ble_eq_true rfl, Nat.le_of_ble_eq_true rfl⟩ hKK hPc hDc (ci := 1) (q0 := 0) rfl rfl rfl hl.1 rfl (Nat.le_of_ble_eq_true rfl) dX2_letGangWork_15 ⟨Nat.zero_le _, Nat.zero_le _⟩) hP hD hS hA [4, 5] rfl rfl (fun H locs hP hD hS => ?_)
    have hP : va_P D vwCl (cR cyI cyO aR aW aw af aG ao aB ab w f od (goS od g) bc hr co) H := hP
    have hD : va_D A (cR cyI cyO aR aW aw af aG ao aB ab w f od (goS od g) bc hr co) := hD
    refine lv_aload_n hx hb dX2_letGangWork_18 rfl (lv_at hl 0 rfl) ?_
    refine va_get (D := D) (ci := 2) (v := .ref aG) (C := RX2) (T := TX2) (N := 6) hx hb hts iX2 hown hKK.1 hP 0 rfl rfl 1 (by decide) (hts (.fieldLink RX2 21 "TrolleyGang$Ring" "gang" "LTrolleyGang$Gang;") (List.mem_of_getElem? (i := 1) rfl)) (fun _ h9 => h9) rfl dX2_letGangWork_19 ?_
    refine va_getN (D := D) (ci := 1) (v := .int ((goS od g) 1)) (C := RX1) (T := TX1) (N := 6) hx hb hts iX1 hown hKK.1 hP 4 rfl rfl 2 (by decide) (nw (w := .fieldLinkNest "TrolleyGang$Ring" 125 "TrolleyGang$Gang" "at" "I" "TrolleyGang") nq_18) (fun _ h9 => h9) rfl dX2_letGangWork_22 ?_
    refine lv_aload_n hx hb dX2_letGangWork_25 rfl (lv_at hl 0 rfl) ?_
    refine va_get (D := D) (ci := 2) (v := .ref aG) (C := RX2) (T := TX2) (N := 6) hx hb hts iX2 hown hKK.1 hP 0 rfl rfl 1 (by decide) (hts (.fieldLink RX2 21 "TrolleyGang$Ring" "gang" "LTrolleyGang$Gang;") (List.mem_of_getElem? (i := 1) rfl)) (fun _ h9 => h9) rfl dX2_letGangWork_26 ?_
    refine va_getN (D := D) (ci := 1) (v := .ref ao) (C := RX1) (T := TX1) (N := 6) hx hb hts iX1 hown hKK.1 hP 4 rfl rfl 0 (by decide) (nw (w := .fieldLinkNest "TrolleyGang$Ring" 126 "TrolleyGang$Gang" "orders" "[I" "TrolleyGang") nq_14) (fun _ h9 => h9) rfl dX2_letGangWork_29 ?_
    refine lv_iconst (v := 0) hx hb dX2_letGangWork_32 (by decide) ?_
    refine va_iald hx hb hKK.1 hP 5 0 rfl rfl (hin := (vp_in_nI (n := 0) (by omega) (by omega))) dX2_letGangWork_33 ?_
    refine lv_tope (y := od 0) rfl ?_
    refine lv_icmp_eq (tgt := 38) hx hb dX2_letGangWork_34 (by decide) (fun h_2 => ?_) (fun h_2 => ?_)
    · skip
      refine lv_aload_n hx hb dX2_letGangWork_38 rfl (lv_at hl 0 rfl) ?_
      refine lv_dup hx hb dX2_letGangWork_39 rfl ?_
      refine va_get (D := D) (ci := 2) (v := .int co) (C := RX2) (T := TX2) (N := 6) hx hb hts iX2 hown hKK.1 hP 0 rfl rfl 5 (by decide) (hts (.fieldLink RX2 49 "TrolleyGang$Ring" "coins" "I") (List.mem_of_getElem? (i := 2) rfl)) (fun _ h9 => h9) rfl dX2_letGangWork_40 ?_
      refine lv_iconst (v := 2) hx hb dX2_letGangWork_43 (by decide) ?_
      refine lv_isub hx hb dX2_letGangWork_44 ?_
      refine va_put (D := D) (ci := 2) (v := .int (co - 2)) (ty := .int) (C := RX2) (T := TX2) (N := 6) hx hb hts iX2 tyX2 tyX2_ok nmX2 hown hKK.1 hP hD hS 0 rfl rfl 5 (by decide) (hts (.fieldLink RX2 49 "TrolleyGang$Ring" "coins" "I") (List.mem_of_getElem? (i := 2) rfl)) (fun _ h9 => h9) rfl (by decide +kernel) rfl rfl (Nat.le_of_ble_eq_true rfl) dX2_letGangWork_45 (fun H locs hP hD hS => ?_)
      have hP : va_P D vwCl (cR cyI cyO aR aW aw af aG ao aB ab w f od (goS od g) bc hr (co - 2)) H := hP
      have hD : va_D A (cR cyI cyO aR aW aw af aG ao aB ab w f od (goS od g) bc hr (co - 2)) := hD
      refine lv_aload_n hx hb dX2_letGangWork_48 rfl (lv_at hl 0 rfl) ?_
      refine va_get (D := D) (ci := 2) (v := .ref aG) (C := RX2) (T := TX2) (N := 6) hx hb hts iX2 hown hKK.1 hP 0 rfl rfl 1 (by decide) (hts (.fieldLink RX2 21 "TrolleyGang$Ring" "gang" "LTrolleyGang$Gang;") (List.mem_of_getElem? (i := 1) rfl)) (fun _ h9 => h9) rfl dX2_letGangWork_49 ?_
      refine lv_dup hx hb dX2_letGangWork_52 rfl ?_
      refine va_getN (D := D) (ci := 1) (v := .int ((goS od g) 2)) (C := RX1) (T := TX1) (N := 6) hx hb hts iX1 hown hKK.1 hP 4 rfl rfl 3 (by decide) (nw (w := .fieldLinkNest "TrolleyGang$Ring" 129 "TrolleyGang$Gang" "worksAtFirst" "I" "TrolleyGang") nq_20) (fun _ h9 => h9) rfl dX2_letGangWork_53 ?_
      refine lv_iconst (v := 1) hx hb dX2_letGangWork_56 (by decide) ?_
      refine lv_iadd hx hb dX2_letGangWork_57 ?_
      refine va_putN (D := D) (ci := 1) (v := .int (((goS od g) 2) + 1)) (ty := .int) (C := RX1) (T := TX1) (N := 6) hx hb hts iX1 tyX1 tyX1_ok nmX1 hown hKK.1 hP hD hS 4 rfl rfl 3 (by decide) (nw (w := .fieldLinkNest "TrolleyGang$Ring" 129 "TrolleyGang$Gang" "worksAtFirst" "I" "TrolleyGang") nq_20) (fun _ h9 => h9) rfl (by decide +kernel) rfl rfl (Nat.le_of_ble_eq_true rfl) dX2_letGangWork_58 (fun H locs hP hD hS => ?_)
      have hP : va_P D vwCl (cR cyI cyO aR aW aw af aG ao aB ab w f od (upd (goS od g) 2 (((goS od g) 2) + 1)) bc hr (co - 2)) H := hP
      have hD : va_D A (cR cyI cyO aR aW aw af aG ao aB ab w f od (upd (goS od g) 2 (((goS od g) 2) + 1)) bc hr (co - 2)) := hD
      refine lv_aload_n hx hb dX2_letGangWork_61 rfl (lv_at hl 0 rfl) ?_
      refine va_get (D := D) (ci := 2) (v := .ref aG) (C := RX2) (T := TX2) (N := 6) hx hb hts iX2 hown hKK.1 hP 0 rfl rfl 1 (by decide) (hts (.fieldLink RX2 21 "TrolleyGang$Ring" "gang" "LTrolleyGang$Gang;") (List.mem_of_getElem? (i := 1) rfl)) (fun _ h9 => h9) rfl dX2_letGangWork_62 ?_
      refine lv_dup hx hb dX2_letGangWork_65 rfl ?_
      refine va_getN (D := D) (ci := 1) (v := .int ((goS od g) 3)) (C := RX1) (T := TX1) (N := 6) hx hb hts iX1 hown hKK.1 hP 4 rfl rfl 4 (by decide) (nw (w := .fieldLinkNest "TrolleyGang$Ring" 132 "TrolleyGang$Gang" "worksInAll" "I" "TrolleyGang") nq_22) (fun _ h9 => h9) rfl dX2_letGangWork_66 ?_
      refine lv_iconst (v := 1) hx hb dX2_letGangWork_69 (by decide) ?_
      refine lv_iadd hx hb dX2_letGangWork_70 ?_
      refine va_putN (D := D) (ci := 1) (v := .int (((goS od g) 3) + 1)) (ty := .int) (C := RX1) (T := TX1) (N := 6) hx hb hts iX1 tyX1 tyX1_ok nmX1 hown hKK.1 hP hD hS 4 rfl rfl 4 (by decide) (nw (w := .fieldLinkNest "TrolleyGang$Ring" 132 "TrolleyGang$Gang" "worksInAll" "I" "TrolleyGang") nq_22) (fun _ h9 => h9) rfl (by decide +kernel) rfl rfl (Nat.le_of_ble_eq_true rfl) dX2_letGangWork_71 (fun H locs hP hD hS => ?_)
      have hP : va_P D vwCl (cR cyI cyO aR aW aw af aG ao aB ab w f od (upd (upd (goS od g) 2 (((goS od g) 2) + 1)) 3 (((goS od g) 3) + 1)) bc hr (co - 2)) H := hP
      have hD : va_D A (cR cyI cyO aR aW aw af aG ao aB ab w f od (upd (upd (goS od g) 2 (((goS od g) 2) + 1)) 3 (((goS od g) 3) + 1)) bc hr (co - 2)) := hD
      refine lv_aload_n hx hb dX2_letGangWork_74 rfl (lv_at hl 0 rfl) ?_
      refine lv_aload_n hx hb dX2_letGangWork_75 rfl (lv_at hl 0 rfl) ?_
      refine va_get (D := D) (ci := 2) (v := .ref aG) (C := RX2) (T := TX2) (N := 6) hx hb hts iX2 hown hKK.1 hP 0 rfl rfl 1 (by decide) (hts (.fieldLink RX2 21 "TrolleyGang$Ring" "gang" "LTrolleyGang$Gang;") (List.mem_of_getElem? (i := 1) rfl)) (fun _ h9 => h9) rfl dX2_letGangWork_76 ?_
      refine va_getN (D := D) (ci := 1) (v := .int ((goS od g) 1)) (C := RX1) (T := TX1) (N := 6) hx hb hts iX1 hown hKK.1 hP 4 rfl rfl 2 (by decide) (nw (w := .fieldLinkNest "TrolleyGang$Ring" 125 "TrolleyGang$Gang" "at" "I" "TrolleyGang") nq_18) (fun _ h9 => h9) rfl dX2_letGangWork_79 ?_
      have hPc := hP.sub (ws' := (cR cyI cyO aR aW aw af aG ao aB ab w f od (upd (upd (goS od g) 2 (((goS od g) 2) + 1)) 3 (((goS od g) 3) + 1)) bc hr (co - 2))) [0, 1, 2, 3, 4, 5, 6] rfl
      have hDc := hD.sub (ws' := (cR cyI cyO aR aW aw af aG ao aB ab w f od (upd (upd (goS od g) 2 (((goS od g) 2) + 1)) 3 (((goS od g) 3) + 1)) bc hr (co - 2))) [0, 1, 2, 3, 4, 5, 6] (by decide) rfl
      refine ret_i (W1 := (cR cyI cyO aR aW aw af aG ao aB ab w f od (upd (upd (goS od g) 2 (((goS od g) 2) + 1)) 3 (((goS od g) 3) + 1)) bc hr (co - 2))) (W2 := (cR cyI cyO aR aW aw af aG ao aB ab ((iodS w (upd (upd (goS od g) 2 (((goS od g) 2) + 1)) 3 (((goS od g) 3) + 1)) ((goS od g) 1)).2.1) f od ((iodS w (upd (upd (goS od g) 2 (((goS od g) 2) + 1)) 3 (((goS od g) 3) + 1)) ((goS od g) 1)).2.2) bc hr (co - 2))) (r := (iodS w (upd (upd (goS od g) 2 (((goS od g) 2) + 1)) 3 (((goS od g) 3) + 1)) ((goS od g) 1)).1) (run_V (q := (RX2, TX2, 6)) (n := 1) (As := [.int ((goS od g) 1)]) (rest := []) ⟨hx, hb, hml, hown, hts⟩ (c_X2_isOrderDoneByWorkAt l D cyI cyO cyL aR aW aw af aG ao aB ab w f od (upd (upd (goS od g) 2 (((goS od g) 2) + 1)) 3 (((goS od g) 3) + 1)) bc hr (co - 2) ((goS od g) 1) (go_in ha ho) _) ggX2_letGangWork_X2_isOrderDoneByWorkAt rfl rfl rfl (hts (.methodLink RX2 135 yX2_isOrderDoneByWorkAt) (List.mem_of_getElem? (i := 17) rfl)) (hts (.initialized RX2) (List.mem_of_getElem? (i := 20) rfl)) (hts (.instanceMethod yX2_isOrderDoneByWorkAt) (List.mem_of_getElem? (i := 18) rfl)) (hts (.selects RX2 yX2_isOrderDoneByWorkAt yX2_isOrderDoneByWorkAt) (List.mem_of_getElem? (i := 19) rfl)) (by decide +kernel) ⟨Nat.le_of_ble_eq_true rfl, Nat.le_of_ble_eq_true rfl⟩ hKK hPc hDc (ci := 2) (q0 := 0) rfl rfl rfl hl.1 rfl (Nat.le_of_ble_eq_true rfl) dX2_letGangWork_82 ⟨Nat.zero_le _, Nat.zero_le _⟩) hP hD hS hA [0, 1, 2, 3, 4, 5, 6] rfl rfl (fun H locs hP hD hS => ?_)
      have hP : va_P D vwCl (cR cyI cyO aR aW aw af aG ao aB ab ((iodS w (upd (upd (goS od g) 2 (((goS od g) 2) + 1)) 3 (((goS od g) 3) + 1)) ((goS od g) 1)).2.1) f od ((iodS w (upd (upd (goS od g) 2 (((goS od g) 2) + 1)) 3 (((goS od g) 3) + 1)) ((goS od g) 1)).2.2) bc hr (co - 2)) H := hP
      have hD : va_D A (cR cyI cyO aR aW aw af aG ao aB ab ((iodS w (upd (upd (goS od g) 2 (((goS od g) 2) + 1)) 3 (((goS od g) 3) + 1)) ((goS od g) 1)).2.1) f od ((iodS w (upd (upd (goS od g) 2 (((goS od g) 2) + 1)) 3 (((goS od g) 3) + 1)) ((goS od g) 1)).2.2) bc hr (co - 2)) := hD
      refine lv_if_eq (tgt := 96) hx hb dX2_letGangWork_85 (by decide) (fun h_3 => ?_) (fun h_3 => ?_)
      · skip
        have e9 : gwS n w od g co = ((iodS w (upd (upd (goS od g) 2 (((goS od g) 2) + 1)) 3 (((goS od g) 3) + 1)) ((goS od g) 1)).2.1, od, ((iodS w (upd (upd (goS od g) 2 (((goS od g) 2) + 1)) 3 (((goS od g) 3) + 1)) ((goS od g) 1)).2.2), co - 2) := (by unfold gwS; rw [if_neg h_1, if_pos h_2]; first | exact if_pos h_3 | exact if_neg h_3)
        exact end_v hx hb hrt hlocks (by rw [e9]; exact hP) hS dX2_letGangWork_96
      · skip
        refine lv_aload_n hx hb dX2_letGangWork_88 rfl (lv_at hl 0 rfl) ?_
        refine va_get (D := D) (ci := 2) (v := .ref aG) (C := RX2) (T := TX2) (N := 6) hx hb hts iX2 hown hKK.1 hP 0 rfl rfl 1 (by decide) (hts (.fieldLink RX2 21 "TrolleyGang$Ring" "gang" "LTrolleyGang$Gang;") (List.mem_of_getElem? (i := 1) rfl)) (fun _ h9 => h9) rfl dX2_letGangWork_89 ?_
        refine lv_iconst (v := 0) hx hb dX2_letGangWork_92 (by decide) ?_
        have hPc := hP.sub (ws' := (cG cyI aG ao od ((iodS w (upd (upd (goS od g) 2 (((goS od g) 2) + 1)) 3 (((goS od g) 3) + 1)) ((goS od g) 1)).2.2))) [4, 5] rfl
        have hDc := hD.sub (ws' := (cG cyI aG ao od ((iodS w (upd (upd (goS od g) 2 (((goS od g) 2) + 1)) 3 (((goS od g) 3) + 1)) ((goS od g) 1)).2.2))) [4, 5] (by decide) rfl
        refine ret_v (W1 := (cG cyI aG ao od ((iodS w (upd (upd (goS od g) 2 (((goS od g) 2) + 1)) 3 (((goS od g) 3) + 1)) ((goS od g) 1)).2.2))) (W2 := (cG cyI aG ao ((takeS od ((iodS w (upd (upd (goS od g) 2 (((goS od g) 2) + 1)) 3 (((goS od g) 3) + 1)) ((goS od g) 1)).2.2) 0 n).1) ((takeS od ((iodS w (upd (upd (goS od g) 2 (((goS od g) 2) + 1)) 3 (((goS od g) 3) + 1)) ((goS od g) 1)).2.2) 0 n).2))) (run_VN (q := (RX1, TX1, 6)) (n := 1) (As := [.int 0]) (rest := []) ⟨hx, hb, hml, hown, hts⟩ (c_X1_takeOut l D cyI cyO cyL aG ao od ((iodS w (upd (upd (goS od g) 2 (((goS od g) 2) + 1)) 3 (((goS od g) 3) + 1)) ((goS od g) 1)).2.2) 0 n hn ((iod_g0 _ _ _).trans hoc) hp0 _) ggX2_letGangWork_X1_takeOut rfl rfl rfl nq_69 (hts (.initialized RX1) (List.mem_of_getElem? (i := 4) rfl)) (hts (.instanceMethod yX1_takeOut) (List.mem_of_getElem? (i := 37) rfl)) (hts (.selects RX1 yX1_takeOut yX1_takeOut) (List.mem_of_getElem? (i := 38) rfl)) (by decide +kernel) ⟨Nat.le_of_ble_eq_true rfl, Nat.le_of_ble_eq_true rfl⟩ hKK hPc hDc (ci := 1) (q0 := 0) rfl rfl rfl hl.1 rfl (Nat.le_of_ble_eq_true rfl) dX2_letGangWork_93 ⟨Nat.zero_le _, Nat.zero_le _⟩) hP hD hS hA [4, 5] rfl rfl (fun H locs hP hD hS => ?_)
        have hP : va_P D vwCl (cR cyI cyO aR aW aw af aG ao aB ab ((iodS w (upd (upd (goS od g) 2 (((goS od g) 2) + 1)) 3 (((goS od g) 3) + 1)) ((goS od g) 1)).2.1) f ((takeS od ((iodS w (upd (upd (goS od g) 2 (((goS od g) 2) + 1)) 3 (((goS od g) 3) + 1)) ((goS od g) 1)).2.2) 0 n).1) ((takeS od ((iodS w (upd (upd (goS od g) 2 (((goS od g) 2) + 1)) 3 (((goS od g) 3) + 1)) ((goS od g) 1)).2.2) 0 n).2) bc hr (co - 2)) H := hP
        have hD : va_D A (cR cyI cyO aR aW aw af aG ao aB ab ((iodS w (upd (upd (goS od g) 2 (((goS od g) 2) + 1)) 3 (((goS od g) 3) + 1)) ((goS od g) 1)).2.1) f ((takeS od ((iodS w (upd (upd (goS od g) 2 (((goS od g) 2) + 1)) 3 (((goS od g) 3) + 1)) ((goS od g) 1)).2.2) 0 n).1) ((takeS od ((iodS w (upd (upd (goS od g) 2 (((goS od g) 2) + 1)) 3 (((goS od g) 3) + 1)) ((goS od g) 1)).2.2) 0 n).2) bc hr (co - 2)) := hD
        have e9 : gwS n w od g co = ((iodS w (upd (upd (goS od g) 2 (((goS od g) 2) + 1)) 3 (((goS od g) 3) + 1)) ((goS od g) 1)).2.1, (takeS od ((iodS w (upd (upd (goS od g) 2 (((goS od g) 2) + 1)) 3 (((goS od g) 3) + 1)) ((goS od g) 1)).2.2) 0 n).1, ((takeS od ((iodS w (upd (upd (goS od g) 2 (((goS od g) 2) + 1)) 3 (((goS od g) 3) + 1)) ((goS od g) 1)).2.2) 0 n).2), co - 2) := (by unfold gwS; rw [if_neg h_1, if_pos h_2]; first | exact if_pos h_3 | exact if_neg h_3)
        exact end_v hx hb hrt hlocks (by rw [e9]; exact hP) hS dX2_letGangWork_96
    · skip
      have e9 : gwS n w od g co = (w, od, (goS od g), co) := (by first | with_reducible rfl | (simp only [gwS, g2S, h_1, h_2, if_true, if_false, reduceIte, not_true_eq_false, not_false_eq_true]; done) | (simp [gwS, g2S, h_1, h_2]; done))
      exact end_v hx hb hrt hlocks (by rw [e9]; exact hP) hS dX2_letGangWork_37
  · skip
    have e9 : gwS n w od g co = (w, od, g, co) := (by first | with_reducible rfl | (simp only [gwS, g2S, h_1, if_true, if_false, reduceIte, not_true_eq_false, not_false_eq_true]; done) | (simp [gwS, g2S, h_1]; done))
    exact end_v hx hb hrt hlocks (by rw [e9]; exact hP) hS dX2_letGangWork_10
set_option maxHeartbeats 4000000 in
set_option maxRecDepth 100000 in
theorem c_X2_busesAt (l : Launch) (D : va_G) (cyI cyO cyL : ClassId) (aR : Nat) (aW : Nat) (aw : Nat) (af : Nat) (aG : Nat) (ao : Nat) (aB : Nat) (ab : Nat → Nat) (w : Nat → Int32) (f : Nat → Int32) (od : Nat → Int32) (g : Nat → Int32) (bc : Int32) (hr : Int32) (co : Int32) (LB : List Nat) (B : Nat → Nat → Int32) (x_ : Int32) (n : Nat) (hn : n ≤ 6) (hbc : bc = nI n) (hLB : ∀ k, k < 6 → ab k ∈ LB) : cI l yX2_busesAt wsX2_busesAt ({ frames := 1, cells := 0, slots := 0, locals := 20 }) D cyI cyO cyL [.ref aR, .int x_] ((cR cyI cyO aR aW aw af aG ao aB ab w f od g bc hr co) ++ pB LB B) ((cR cyI cyO aR aW aw af aG ao aB ab w f od g bc hr co) ++ pB LB B) (baL B ab x_ n 0 0) := by
  intro sz
  refine Met.ofW (cc := cX2_busesAt) (maxL := 4) (ret := (some .int)) (by decide) rfl ?_
  intro p e s m args below meth c s₁ B9 hml hv
  obtain ⟨rfl, hsz, hP, hKK, hD0⟩ := hv
  have hx := B9.exec
  have hb := B9.bytes
  have hrt := B9.returns
  have hts := atoms_spec (ws := wsX2_busesAt) B9.pre
  have hown : s.vm.findClass RX2 = some m.cls := findClass_of_methodNamed B9.named
  have hlocks := B9.notSynchronized
  have nw := fun {w : Cond} (h : w ∈ nw_all) => NW.use (args := ([.ref aR, .int x_] : List Value).toArray) hKK.2 h
  have iX0 : ∀ w ∈ wsX00, w ∈ wsX2_busesAt := fun _ h => List.mem_cons_of_mem _ (List.mem_append_right _ h)
  have iX2 : ∀ w ∈ wsX20, w ∈ wsX2_busesAt := fun _ h => List.mem_cons_of_mem _ (List.mem_append_left _ (List.mem_append_right _ h))
  subst hsz
  have hD := hD0.self (sz := s.heap.size)
  generalize hAe : va_A ((cR cyI cyO aR aW aw af aG ao aB ab w f od g bc hr co) ++ pB LB B) s.heap.size = A at hD ⊢
  have hA : ∀ q : Nat, s.heap.size ≤ q → A q := fun q h => by rw [← hAe]; exact Or.inr h
  have hS : va_S A s.heap s.heap [] := va_S.rf
  have hl := lv_entry ([.ref aR, .int x_]) (n := 4) (Nat.le_of_ble_eq_true rfl)
  rw [lg_entry_eq]
  generalize (lg_sl ([.ref aR, .int x_]) ++ List.replicate (4 - (lg_sl ([.ref aR, .int x_])).length) Slot.unset).toArray = ls at hl ⊢
  have hl : lv_has ls 4 [(0, .ref aR), (1, .int x_)] := hl
  refine lv_iconst (v := 0) hx hb dX2_busesAt_0 (by decide) ?_
  refine lv_istore_n (lv' := [(2, .int 0), (0, .ref aR), (1, .int x_)]) hx hb dX2_busesAt_1 rfl hl (by decide) rfl (fun ls hl => ?_)
  refine lv_iconst (v := 0) hx hb dX2_busesAt_2 (by decide) ?_
  refine lv_istore_n (lv' := [(3, .int 0), (2, .int 0), (0, .ref aR), (1, .int x_)]) hx hb dX2_busesAt_3 rfl hl (by decide) rfl (fun ls hl => ?_)
  refine wloop (σ := (Nat) × (Int32)) (fun d9 x9 H9 L9 s9 => ((x9.1) + d9 = n) ∧ (baL B ab x_ n 0 0 = baL B ab x_ d9 (x9.1) (x9.2)) ∧ (va_P D vwCl ((cR cyI cyO aR aW aw af aG ao aB ab w f od g bc hr co) ++ pB LB B) H9) ∧ (va_D A ((cR cyI cyO aR aW aw af aG ao aB ab w f od g bc hr co) ++ pB LB B)) ∧ (va_S A s.heap H9 L9) ∧ (lv_has s9 4 [(3, .int (nI (x9.1))), (2, .int (x9.2)), (0, .ref aR), (1, .int x_)])) (fun d9 x9 H locs ls g9 ih => ?_) n (0, 0) _ _ _ ⟨(by omega), rfl, hP, hD, hS, lv_sub hl [0, 1, 2, 3] rfl⟩
  obtain ⟨i, a1⟩ := x9
  obtain ⟨hid, hsp, hP, hD, hS, hl⟩ := g9
  obtain ⟨d, rfl⟩ : ∃ z, z = d9 := ⟨_, rfl⟩
  have hid : i + d = n := hid
  have hsp : baL B ab x_ n 0 0 = baL B ab x_ d i a1 := hsp
  have hP : va_P D vwCl ((cR cyI cyO aR aW aw af aG ao aB ab w f od g bc hr co) ++ pB LB B) H := hP
  have hD : va_D A ((cR cyI cyO aR aW aw af aG ao aB ab w f od g bc hr co) ++ pB LB B) := hD
  have hl : lv_has ls 4 [(3, .int (nI i)), (2, .int a1), (0, .ref aR), (1, .int x_)] := hl
  refine lv_iload_n hx hb dX2_busesAt_4 rfl (lv_at hl 0 rfl) ?_
  refine lv_aload_n hx hb dX2_busesAt_5 rfl (lv_at hl 2 rfl) ?_
  refine va_get (D := D) (ci := 2) (v := .int bc) (C := RX2) (T := TX2) (N := 6) hx hb hts iX2 hown hKK.1 hP 0 rfl rfl 3 (by decide) (hts (.fieldLink RX2 39 "TrolleyGang$Ring" "busCount" "I") (List.mem_of_getElem? (i := 1) rfl)) (fun _ h9 => h9) rfl dX2_busesAt_6 ?_
  refine lv_tope (y := nI n) hbc ?_
  refine lv_icmp_ge (tgt := 42) hx hb dX2_busesAt_9 (by decide) (fun h_1 => ?_) (fun h_1 => ?_)
  · skip
    obtain rfl : d = 0 := by have h9 := (nI_leI (a := n) (b := i) (by omega) (by omega)).mp h_1; omega
    have hiN : i = n := by omega
    refine lv_iload_n hx hb dX2_busesAt_42 rfl (lv_at hl 1 rfl) ?_
    have e9 : baL B ab x_ n 0 0 = a1 := (hsp.trans (by first | with_reducible rfl | (simp only [baL, h_1, if_true, if_false, reduceIte, not_true_eq_false, not_false_eq_true]; done) | (simp [baL, h_1]; done)))
    exact end_i hx hb hrt hlocks (by rw [e9]) hP hS dX2_busesAt_43
  · skip
    have hlt : i < n := by have h9 := mt (nI_leI (a := n) (b := i) (by omega) (by omega)).mpr h_1; omega
    obtain ⟨d, rfl⟩ : ∃ k, d = k + 1 := ⟨d - 1, by omega⟩
    refine lv_iload_n hx hb dX2_busesAt_12 rfl (lv_at hl 1 rfl) ?_
    refine lv_aload_n hx hb dX2_busesAt_13 rfl (lv_at hl 2 rfl) ?_
    refine va_get (D := D) (ci := 2) (v := .ref aB) (C := RX2) (T := TX2) (N := 6) hx hb hts iX2 hown hKK.1 hP 0 rfl rfl 2 (by decide) (hts (.fieldLink RX2 27 "TrolleyGang$Ring" "buses" "[LTrolleyGang$Bus;") (List.mem_of_getElem? (i := 2) rfl)) (fun _ h9 => h9) rfl dX2_busesAt_14 ?_
    refine lv_iload_n hx hb dX2_busesAt_17 rfl (lv_at hl 0 rfl) ?_
    refine va_aldq hx hb hKK.1 hP 6 1 rfl rfl (hin := (vp_in_nI (show i < 6 by omega) (by omega))) dX2_busesAt_18 ?_
    refine lv_topv (y := .ref (ab i)) (by rw [nI_clamp (by omega)]; rfl) ?_
    refine bus_getN hx hb hts iX0 hown hKK hP (hLB i (by omega)) 0 (by decide) (nw (w := .fieldLinkNest "TrolleyGang$Ring" 101 "TrolleyGang$Bus" "at" "I" "TrolleyGang") nq_27) (fun _ h9 => h9) dX2_busesAt_19 ?_
    refine lv_iload_n hx hb dX2_busesAt_22 rfl (lv_at hl 3 rfl) ?_
    refine lv_icmp_ne (tgt := 30) hx hb dX2_busesAt_23 (by decide) (fun h_2 => ?_) (fun h_2 => ?_)
    · skip
      refine lv_iconst (v := 0) hx hb dX2_busesAt_30 (by decide) ?_
      have hPc := hP.sub (ws' := ([] : va_W)) [] rfl
      have hDc := hD.sub (ws' := ([] : va_W)) [] (by decide) rfl
      refine ret_i (W1 := ([] : va_W)) (W2 := ([] : va_W)) (r := oneI 0) (run_SN (n := 1) (As := [.int 0]) (rest := [.int a1]) ⟨hx, hb, hml, hown, hts⟩ (c_X5_oneIf l D cyI cyO cyL 0 _) ggX2_busesAt_X5_oneIf rfl rfl rfl nq_47 (hts (.initialized RX5) (List.mem_of_getElem? (i := 4) rfl)) (hts (.static yX5_oneIf) (List.mem_of_getElem? (i := 3) rfl)) (by decide +kernel) ⟨Nat.le_of_ble_eq_true rfl, Nat.le_of_ble_eq_true rfl⟩ hKK hPc hDc rfl hl.1 rfl (Nat.le_of_ble_eq_true rfl) dX2_busesAt_31 ⟨Nat.zero_le _, Nat.zero_le _⟩) hP hD hS hA [] rfl rfl (fun H locs hP hD hS => ?_)
      have hP : va_P D vwCl ((cR cyI cyO aR aW aw af aG ao aB ab w f od g bc hr co) ++ pB LB B) H := hP
      have hD : va_D A ((cR cyI cyO aR aW aw af aG ao aB ab w f od g bc hr co) ++ pB LB B) := hD
      refine lv_iadd hx hb dX2_busesAt_34 ?_
      refine lv_istore_n (lv' := [(2, .int (a1 + (oneI 0))), (3, .int (nI i)), (0, .ref aR), (1, .int x_)]) hx hb dX2_busesAt_35 rfl hl (by decide) rfl (fun ls hl => ?_)
      refine lv_iinc (v := nI (i + 1)) (lv' := [(3, .int (nI (i + 1))), (2, .int (a1 + (oneI 0))), (0, .ref aR), (1, .int x_)]) hx hb dX2_busesAt_36 hl (k := 1) rfl (nI_1 i) (by decide) rfl (fun ls hl => ?_)
      refine lv_goto (tgt := 4) hx hb dX2_busesAt_39 (by decide) ?_
      exact ih d ((i + 1), (a1 + (oneI 0))) _ _ _ (by omega) ⟨(by omega), (hsp.trans (by first | with_reducible rfl | (simp only [baL, h_1, h_2, if_true, if_false, reduceIte, not_true_eq_false, not_false_eq_true]; done) | (simp [baL, h_1, h_2]; done))), hP, hD, hS, lv_sub hl [0, 1, 2, 3] rfl⟩
    · skip
      refine lv_iconst (v := 1) hx hb dX2_busesAt_26 (by decide) ?_
      refine lv_goto (tgt := 31) hx hb dX2_busesAt_27 (by decide) ?_
      have hPc := hP.sub (ws' := ([] : va_W)) [] rfl
      have hDc := hD.sub (ws' := ([] : va_W)) [] (by decide) rfl
      refine ret_i (W1 := ([] : va_W)) (W2 := ([] : va_W)) (r := oneI 1) (run_SN (n := 1) (As := [.int 1]) (rest := [.int a1]) ⟨hx, hb, hml, hown, hts⟩ (c_X5_oneIf l D cyI cyO cyL 1 _) ggX2_busesAt_X5_oneIf rfl rfl rfl nq_47 (hts (.initialized RX5) (List.mem_of_getElem? (i := 4) rfl)) (hts (.static yX5_oneIf) (List.mem_of_getElem? (i := 3) rfl)) (by decide +kernel) ⟨Nat.le_of_ble_eq_true rfl, Nat.le_of_ble_eq_true rfl⟩ hKK hPc hDc rfl hl.1 rfl (Nat.le_of_ble_eq_true rfl) dX2_busesAt_31 ⟨Nat.zero_le _, Nat.zero_le _⟩) hP hD hS hA [] rfl rfl (fun H locs hP hD hS => ?_)
      have hP : va_P D vwCl ((cR cyI cyO aR aW aw af aG ao aB ab w f od g bc hr co) ++ pB LB B) H := hP
      have hD : va_D A ((cR cyI cyO aR aW aw af aG ao aB ab w f od g bc hr co) ++ pB LB B) := hD
      refine lv_iadd hx hb dX2_busesAt_34 ?_
      refine lv_istore_n (lv' := [(2, .int (a1 + (oneI 1))), (3, .int (nI i)), (0, .ref aR), (1, .int x_)]) hx hb dX2_busesAt_35 rfl hl (by decide) rfl (fun ls hl => ?_)
      refine lv_iinc (v := nI (i + 1)) (lv' := [(3, .int (nI (i + 1))), (2, .int (a1 + (oneI 1))), (0, .ref aR), (1, .int x_)]) hx hb dX2_busesAt_36 hl (k := 1) rfl (nI_1 i) (by decide) rfl (fun ls hl => ?_)
      refine lv_goto (tgt := 4) hx hb dX2_busesAt_39 (by decide) ?_
      exact ih d ((i + 1), (a1 + (oneI 1))) _ _ _ (by omega) ⟨(by omega), (hsp.trans (by first | with_reducible rfl | (simp only [baL, h_1, h_2, if_true, if_false, reduceIte, not_true_eq_false, not_false_eq_true]; done) | (simp [baL, h_1, h_2]; done))), hP, hD, hS, lv_sub hl [0, 1, 2, 3] rfl⟩
set_option maxHeartbeats 4000000 in
set_option maxRecDepth 100000 in
theorem c_X2_busesRunning (l : Launch) (D : va_G) (cyI cyO cyL : ClassId) (aR : Nat) (aW : Nat) (aw : Nat) (af : Nat) (aG : Nat) (ao : Nat) (aB : Nat) (ab : Nat → Nat) (w : Nat → Int32) (f : Nat → Int32) (od : Nat → Int32) (g : Nat → Int32) (bc : Int32) (hr : Int32) (co : Int32) (LB : List Nat) (B : Nat → Nat → Int32) (n : Nat) (hn : n ≤ 6) (hbc : bc = nI n) (hLB : ∀ k, k < 6 → ab k ∈ LB) : cI l yX2_busesRunning wsX2_busesRunning ({ frames := 1, cells := 0, slots := 0, locals := 20 }) D cyI cyO cyL [.ref aR] ((cR cyI cyO aR aW aw af aG ao aB ab w f od g bc hr co) ++ pB LB B) ((cR cyI cyO aR aW aw af aG ao aB ab w f od g bc hr co) ++ pB LB B) (brL B ab n 0 0) := by
  intro sz
  refine Met.ofW (cc := cX2_busesRunning) (maxL := 3) (ret := (some .int)) (by decide) rfl ?_
  intro p e s m args below meth c s₁ B9 hml hv
  obtain ⟨rfl, hsz, hP, hKK, hD0⟩ := hv
  have hx := B9.exec
  have hb := B9.bytes
  have hrt := B9.returns
  have hts := atoms_spec (ws := wsX2_busesRunning) B9.pre
  have hown : s.vm.findClass RX2 = some m.cls := findClass_of_methodNamed B9.named
  have hlocks := B9.notSynchronized
  have nw := fun {w : Cond} (h : w ∈ nw_all) => NW.use (args := ([.ref aR] : List Value).toArray) hKK.2 h
  have iX0 : ∀ w ∈ wsX00, w ∈ wsX2_busesRunning := fun _ h => List.mem_cons_of_mem _ (List.mem_append_right _ h)
  have iX2 : ∀ w ∈ wsX20, w ∈ wsX2_busesRunning := fun _ h => List.mem_cons_of_mem _ (List.mem_append_left _ (List.mem_append_right _ h))
  subst hsz
  have hD := hD0.self (sz := s.heap.size)
  generalize hAe : va_A ((cR cyI cyO aR aW aw af aG ao aB ab w f od g bc hr co) ++ pB LB B) s.heap.size = A at hD ⊢
  have hA : ∀ q : Nat, s.heap.size ≤ q → A q := fun q h => by rw [← hAe]; exact Or.inr h
  have hS : va_S A s.heap s.heap [] := va_S.rf
  have hl := lv_entry ([.ref aR]) (n := 3) (Nat.le_of_ble_eq_true rfl)
  rw [lg_entry_eq]
  generalize (lg_sl ([.ref aR]) ++ List.replicate (3 - (lg_sl ([.ref aR])).length) Slot.unset).toArray = ls at hl ⊢
  have hl : lv_has ls 3 [(0, .ref aR)] := hl
  refine lv_iconst (v := 0) hx hb dX2_busesRunning_0 (by decide) ?_
  refine lv_istore_n (lv' := [(1, .int 0), (0, .ref aR)]) hx hb dX2_busesRunning_1 rfl hl (by decide) rfl (fun ls hl => ?_)
  refine lv_iconst (v := 0) hx hb dX2_busesRunning_2 (by decide) ?_
  refine lv_istore_n (lv' := [(2, .int 0), (1, .int 0), (0, .ref aR)]) hx hb dX2_busesRunning_3 rfl hl (by decide) rfl (fun ls hl => ?_)
  refine wloop (σ := (Nat) × (Int32)) (fun d9 x9 H9 L9 s9 => ((x9.1) + d9 = n) ∧ (brL B ab n 0 0 = brL B ab d9 (x9.1) (x9.2)) ∧ (va_P D vwCl ((cR cyI cyO aR aW aw af aG ao aB ab w f od g bc hr co) ++ pB LB B) H9) ∧ (va_D A ((cR cyI cyO aR aW aw af aG ao aB ab w f od g bc hr co) ++ pB LB B)) ∧ (va_S A s.heap H9 L9) ∧ (lv_has s9 3 [(2, .int (nI (x9.1))), (1, .int (x9.2)), (0, .ref aR)])) (fun d9 x9 H locs ls g9 ih => ?_) n (0, 0) _ _ _ ⟨(by omega), rfl, hP, hD, hS, lv_sub hl [0, 1, 2] rfl⟩
  obtain ⟨i, a1⟩ := x9
  obtain ⟨hid, hsp, hP, hD, hS, hl⟩ := g9
  obtain ⟨d, rfl⟩ : ∃ z, z = d9 := ⟨_, rfl⟩
  have hid : i + d = n := hid
  have hsp : brL B ab n 0 0 = brL B ab d i a1 := hsp
  have hP : va_P D vwCl ((cR cyI cyO aR aW aw af aG ao aB ab w f od g bc hr co) ++ pB LB B) H := hP
  have hD : va_D A ((cR cyI cyO aR aW aw af aG ao aB ab w f od g bc hr co) ++ pB LB B) := hD
  have hl : lv_has ls 3 [(2, .int (nI i)), (1, .int a1), (0, .ref aR)] := hl
  refine lv_iload_n hx hb dX2_busesRunning_4 rfl (lv_at hl 0 rfl) ?_
  refine lv_aload_n hx hb dX2_busesRunning_5 rfl (lv_at hl 2 rfl) ?_
  refine va_get (D := D) (ci := 2) (v := .int bc) (C := RX2) (T := TX2) (N := 6) hx hb hts iX2 hown hKK.1 hP 0 rfl rfl 3 (by decide) (hts (.fieldLink RX2 39 "TrolleyGang$Ring" "busCount" "I") (List.mem_of_getElem? (i := 1) rfl)) (fun _ h9 => h9) rfl dX2_busesRunning_6 ?_
  refine lv_tope (y := nI n) hbc ?_
  refine lv_icmp_ge (tgt := 33) hx hb dX2_busesRunning_9 (by decide) (fun h_1 => ?_) (fun h_1 => ?_)
  · skip
    obtain rfl : d = 0 := by have h9 := (nI_leI (a := n) (b := i) (by omega) (by omega)).mp h_1; omega
    have hiN : i = n := by omega
    refine lv_iload_n hx hb dX2_busesRunning_33 rfl (lv_at hl 1 rfl) ?_
    have e9 : brL B ab n 0 0 = a1 := (hsp.trans (by first | with_reducible rfl | (simp only [brL, h_1, if_true, if_false, reduceIte, not_true_eq_false, not_false_eq_true]; done) | (simp [brL, h_1]; done)))
    exact end_i hx hb hrt hlocks (by rw [e9]) hP hS dX2_busesRunning_34
  · skip
    have hlt : i < n := by have h9 := mt (nI_leI (a := n) (b := i) (by omega) (by omega)).mpr h_1; omega
    obtain ⟨d, rfl⟩ : ∃ k, d = k + 1 := ⟨d - 1, by omega⟩
    refine lv_iload_n hx hb dX2_busesRunning_12 rfl (lv_at hl 1 rfl) ?_
    refine lv_aload_n hx hb dX2_busesRunning_13 rfl (lv_at hl 2 rfl) ?_
    refine va_get (D := D) (ci := 2) (v := .ref aB) (C := RX2) (T := TX2) (N := 6) hx hb hts iX2 hown hKK.1 hP 0 rfl rfl 2 (by decide) (hts (.fieldLink RX2 27 "TrolleyGang$Ring" "buses" "[LTrolleyGang$Bus;") (List.mem_of_getElem? (i := 2) rfl)) (fun _ h9 => h9) rfl dX2_busesRunning_14 ?_
    refine lv_iload_n hx hb dX2_busesRunning_17 rfl (lv_at hl 0 rfl) ?_
    refine va_aldq hx hb hKK.1 hP 6 1 rfl rfl (hin := (vp_in_nI (show i < 6 by omega) (by omega))) dX2_busesRunning_18 ?_
    refine lv_topv (y := .ref (ab i)) (by rw [nI_clamp (by omega)]; rfl) ?_
    refine bus_getN hx hb hts iX0 hown hKK hP (hLB i (by omega)) 2 (by decide) (nw (w := .fieldLinkNest "TrolleyGang$Ring" 97 "TrolleyGang$Bus" "runs" "Z" "TrolleyGang") nq_31) (fun _ h9 => h9) dX2_busesRunning_19 ?_
    have hPc := hP.sub (ws' := ([] : va_W)) [] rfl
    have hDc := hD.sub (ws' := ([] : va_W)) [] (by decide) rfl
    refine ret_i (W1 := ([] : va_W)) (W2 := ([] : va_W)) (r := oneI (B (ab i) 2)) (run_SN (n := 1) (As := [.int (B (ab i) 2)]) (rest := [.int a1]) ⟨hx, hb, hml, hown, hts⟩ (c_X5_oneIf l D cyI cyO cyL (B (ab i) 2) _) ggX2_busesRunning_X5_oneIf rfl rfl rfl nq_47 (hts (.initialized RX5) (List.mem_of_getElem? (i := 4) rfl)) (hts (.static yX5_oneIf) (List.mem_of_getElem? (i := 3) rfl)) (by decide +kernel) ⟨Nat.le_of_ble_eq_true rfl, Nat.le_of_ble_eq_true rfl⟩ hKK hPc hDc rfl hl.1 rfl (Nat.le_of_ble_eq_true rfl) dX2_busesRunning_22 ⟨Nat.zero_le _, Nat.zero_le _⟩) hP hD hS hA [] rfl rfl (fun H locs hP hD hS => ?_)
    have hP : va_P D vwCl ((cR cyI cyO aR aW aw af aG ao aB ab w f od g bc hr co) ++ pB LB B) H := hP
    have hD : va_D A ((cR cyI cyO aR aW aw af aG ao aB ab w f od g bc hr co) ++ pB LB B) := hD
    refine lv_iadd hx hb dX2_busesRunning_25 ?_
    refine lv_istore_n (lv' := [(1, .int (a1 + (oneI (B (ab i) 2)))), (2, .int (nI i)), (0, .ref aR)]) hx hb dX2_busesRunning_26 rfl hl (by decide) rfl (fun ls hl => ?_)
    refine lv_iinc (v := nI (i + 1)) (lv' := [(2, .int (nI (i + 1))), (1, .int (a1 + (oneI (B (ab i) 2)))), (0, .ref aR)]) hx hb dX2_busesRunning_27 hl (k := 1) rfl (nI_1 i) (by decide) rfl (fun ls hl => ?_)
    refine lv_goto (tgt := 4) hx hb dX2_busesRunning_30 (by decide) ?_
    exact ih d ((i + 1), (a1 + (oneI (B (ab i) 2)))) _ _ _ (by omega) ⟨(by omega), (hsp.trans (by first | with_reducible rfl | (simp only [brL, h_1, if_true, if_false, reduceIte, not_true_eq_false, not_false_eq_true]; done) | (simp [brL, h_1]; done))), hP, hD, hS, lv_sub hl [0, 1, 2] rfl⟩
set_option maxHeartbeats 4000000 in
set_option maxRecDepth 100000 in
theorem c_X2_hoursStuckInAll (l : Launch) (D : va_G) (cyI cyO cyL : ClassId) (aR : Nat) (aW : Nat) (aw : Nat) (af : Nat) (aG : Nat) (ao : Nat) (aB : Nat) (ab : Nat → Nat) (w : Nat → Int32) (f : Nat → Int32) (od : Nat → Int32) (g : Nat → Int32) (bc : Int32) (hr : Int32) (co : Int32) (LB : List Nat) (B : Nat → Nat → Int32) (n : Nat) (hn : n ≤ 6) (hbc : bc = nI n) (hLB : ∀ k, k < 6 → ab k ∈ LB) : cI l yX2_hoursStuckInAll wsX2_hoursStuckInAll ({ frames := 0, cells := 0, slots := 0, locals := 0 }) D cyI cyO cyL [.ref aR] ((cR cyI cyO aR aW aw af aG ao aB ab w f od g bc hr co) ++ pB LB B) ((cR cyI cyO aR aW aw af aG ao aB ab w f od g bc hr co) ++ pB LB B) (bsL B ab n 0 0) := by
  intro sz
  refine Met.ofW (cc := cX2_hoursStuckInAll) (maxL := 3) (ret := (some .int)) (by decide) rfl ?_
  intro p e s m args below meth c s₁ B9 hml hv
  obtain ⟨rfl, hsz, hP, hKK, hD0⟩ := hv
  have hx := B9.exec
  have hb := B9.bytes
  have hrt := B9.returns
  have hts := atoms_spec (ws := wsX2_hoursStuckInAll) B9.pre
  have hown : s.vm.findClass RX2 = some m.cls := findClass_of_methodNamed B9.named
  have hlocks := B9.notSynchronized
  have nw := fun {w : Cond} (h : w ∈ nw_all) => NW.use (args := ([.ref aR] : List Value).toArray) hKK.2 h
  have iX0 : ∀ w ∈ wsX00, w ∈ wsX2_hoursStuckInAll := fun _ h => List.mem_cons_of_mem _ (List.mem_append_right _ h)
  have iX2 : ∀ w ∈ wsX20, w ∈ wsX2_hoursStuckInAll := fun _ h => List.mem_cons_of_mem _ (List.mem_append_left _ (List.mem_append_right _ h))
  subst hsz
  have hD := hD0.self (sz := s.heap.size)
  generalize hAe : va_A ((cR cyI cyO aR aW aw af aG ao aB ab w f od g bc hr co) ++ pB LB B) s.heap.size = A at hD ⊢
  have hA : ∀ q : Nat, s.heap.size ≤ q → A q := fun q h => by rw [← hAe]; exact Or.inr h
  have hS : va_S A s.heap s.heap [] := va_S.rf
  have hl := lv_entry ([.ref aR]) (n := 3) (Nat.le_of_ble_eq_true rfl)
  rw [lg_entry_eq]
  generalize (lg_sl ([.ref aR]) ++ List.replicate (3 - (lg_sl ([.ref aR])).length) Slot.unset).toArray = ls at hl ⊢
  have hl : lv_has ls 3 [(0, .ref aR)] := hl
  refine lv_iconst (v := 0) hx hb dX2_hoursStuckInAll_0 (by decide) ?_
  refine lv_istore_n (lv' := [(1, .int 0), (0, .ref aR)]) hx hb dX2_hoursStuckInAll_1 rfl hl (by decide) rfl (fun ls hl => ?_)
  refine lv_iconst (v := 0) hx hb dX2_hoursStuckInAll_2 (by decide) ?_
  refine lv_istore_n (lv' := [(2, .int 0), (1, .int 0), (0, .ref aR)]) hx hb dX2_hoursStuckInAll_3 rfl hl (by decide) rfl (fun ls hl => ?_)
  refine wloop (σ := (Nat) × (Int32)) (fun d9 x9 H9 L9 s9 => ((x9.1) + d9 = n) ∧ (bsL B ab n 0 0 = bsL B ab d9 (x9.1) (x9.2)) ∧ (va_P D vwCl ((cR cyI cyO aR aW aw af aG ao aB ab w f od g bc hr co) ++ pB LB B) H9) ∧ (va_D A ((cR cyI cyO aR aW aw af aG ao aB ab w f od g bc hr co) ++ pB LB B)) ∧ (va_S A s.heap H9 L9) ∧ (lv_has s9 3 [(2, .int (nI (x9.1))), (1, .int (x9.2)), (0, .ref aR)])) (fun d9 x9 H locs ls g9 ih => ?_) n (0, 0) _ _ _ ⟨(by omega), rfl, hP, hD, hS, lv_sub hl [0, 1, 2] rfl⟩
  obtain ⟨i, a1⟩ := x9
  obtain ⟨hid, hsp, hP, hD, hS, hl⟩ := g9
  obtain ⟨d, rfl⟩ : ∃ z, z = d9 := ⟨_, rfl⟩
  have hid : i + d = n := hid
  have hsp : bsL B ab n 0 0 = bsL B ab d i a1 := hsp
  have hP : va_P D vwCl ((cR cyI cyO aR aW aw af aG ao aB ab w f od g bc hr co) ++ pB LB B) H := hP
  have hD : va_D A ((cR cyI cyO aR aW aw af aG ao aB ab w f od g bc hr co) ++ pB LB B) := hD
  have hl : lv_has ls 3 [(2, .int (nI i)), (1, .int a1), (0, .ref aR)] := hl
  refine lv_iload_n hx hb dX2_hoursStuckInAll_4 rfl (lv_at hl 0 rfl) ?_
  refine lv_aload_n hx hb dX2_hoursStuckInAll_5 rfl (lv_at hl 2 rfl) ?_
  refine va_get (D := D) (ci := 2) (v := .int bc) (C := RX2) (T := TX2) (N := 6) hx hb hts iX2 hown hKK.1 hP 0 rfl rfl 3 (by decide) (hts (.fieldLink RX2 39 "TrolleyGang$Ring" "busCount" "I") (List.mem_of_getElem? (i := 1) rfl)) (fun _ h9 => h9) rfl dX2_hoursStuckInAll_6 ?_
  refine lv_tope (y := nI n) hbc ?_
  refine lv_icmp_ge (tgt := 30) hx hb dX2_hoursStuckInAll_9 (by decide) (fun h_1 => ?_) (fun h_1 => ?_)
  · skip
    obtain rfl : d = 0 := by have h9 := (nI_leI (a := n) (b := i) (by omega) (by omega)).mp h_1; omega
    have hiN : i = n := by omega
    refine lv_iload_n hx hb dX2_hoursStuckInAll_30 rfl (lv_at hl 1 rfl) ?_
    have e9 : bsL B ab n 0 0 = a1 := (hsp.trans (by first | with_reducible rfl | (simp only [bsL, h_1, if_true, if_false, reduceIte, not_true_eq_false, not_false_eq_true]; done) | (simp [bsL, h_1]; done)))
    exact end_i hx hb hrt hlocks (by rw [e9]) hP hS dX2_hoursStuckInAll_31
  · skip
    have hlt : i < n := by have h9 := mt (nI_leI (a := n) (b := i) (by omega) (by omega)).mpr h_1; omega
    obtain ⟨d, rfl⟩ : ∃ k, d = k + 1 := ⟨d - 1, by omega⟩
    refine lv_iload_n hx hb dX2_hoursStuckInAll_12 rfl (lv_at hl 1 rfl) ?_
    refine lv_aload_n hx hb dX2_hoursStuckInAll_13 rfl (lv_at hl 2 rfl) ?_
    refine va_get (D := D) (ci := 2) (v := .ref aB) (C := RX2) (T := TX2) (N := 6) hx hb hts iX2 hown hKK.1 hP 0 rfl rfl 2 (by decide) (hts (.fieldLink RX2 27 "TrolleyGang$Ring" "buses" "[LTrolleyGang$Bus;") (List.mem_of_getElem? (i := 2) rfl)) (fun _ h9 => h9) rfl dX2_hoursStuckInAll_14 ?_
    refine lv_iload_n hx hb dX2_hoursStuckInAll_17 rfl (lv_at hl 0 rfl) ?_
    refine va_aldq hx hb hKK.1 hP 6 1 rfl rfl (hin := (vp_in_nI (show i < 6 by omega) (by omega))) dX2_hoursStuckInAll_18 ?_
    refine lv_topv (y := .ref (ab i)) (by rw [nI_clamp (by omega)]; rfl) ?_
    refine bus_getN hx hb hts iX0 hown hKK hP (hLB i (by omega)) 5 (by decide) (nw (w := .fieldLinkNest "TrolleyGang$Ring" 104 "TrolleyGang$Bus" "hoursStuck" "I" "TrolleyGang") nq_37) (fun _ h9 => h9) dX2_hoursStuckInAll_19 ?_
    refine lv_iadd hx hb dX2_hoursStuckInAll_22 ?_
    refine lv_istore_n (lv' := [(1, .int (a1 + (B (ab i) 5))), (2, .int (nI i)), (0, .ref aR)]) hx hb dX2_hoursStuckInAll_23 rfl hl (by decide) rfl (fun ls hl => ?_)
    refine lv_iinc (v := nI (i + 1)) (lv' := [(2, .int (nI (i + 1))), (1, .int (a1 + (B (ab i) 5))), (0, .ref aR)]) hx hb dX2_hoursStuckInAll_24 hl (k := 1) rfl (nI_1 i) (by decide) rfl (fun ls hl => ?_)
    refine lv_goto (tgt := 4) hx hb dX2_hoursStuckInAll_27 (by decide) ?_
    exact ih d ((i + 1), (a1 + (B (ab i) 5))) _ _ _ (by omega) ⟨(by omega), (hsp.trans (by first | with_reducible rfl | (simp only [bsL, h_1, if_true, if_false, reduceIte, not_true_eq_false, not_false_eq_true]; done) | (simp [bsL, h_1]; done))), hP, hD, hS, lv_sub hl [0, 1, 2] rfl⟩
end
section
set_option maxHeartbeats 4000000 in
set_option maxRecDepth 100000 in
theorem c_X2_letHourGoBy (l : Launch) (D : va_G) (cyI cyO cyL : ClassId) (aR : Nat) (aW : Nat) (aw : Nat) (af : Nat) (aG : Nat) (ao : Nat) (aB : Nat) (aT : Nat) (ac : Nat) (as_ : Nat) (ab : Nat → Nat) (w : Nat → Int32) (f : Nat → Int32) (od : Nat → Int32) (g : Nat → Int32) (bc : Int32) (hr : Int32) (co : Int32) (cd : Nat → Int32) (sw : Nat → Int32) (fd : Int32) (fn : Int32) (LB : List Nat) (B : Nat → Nat → Int32) (n : Nat) (hn : n ≤ 6) (hbc : bc = nI n) (hLB : ∀ k, k < 6 → ab k ∈ LB) (hok : OkR od g B hr) (hsw : ∀ k, sw k = -1 ∨ vp_in (sw k) 24) : cV l yX2_letHourGoBy wsX2_letHourGoBy ({ frames := 4, cells := 0, slots := 0, locals := 78 }) D cyI cyO cyL [.ref aR, .ref aT] ((cR cyI cyO aR aW aw af aG ao aB ab w f od g bc hr co ++ cT cyI aT ac as_ cd sw fd fn) ++ pB LB B) ((cR cyI cyO aR aW aw af aG ao aB ab ((hourS cd sw fd fn ab n w f od g B co hr).1) ((hourS cd sw fd fn ab n w f od g B co hr).2.1) ((hourS cd sw fd fn ab n w f od g B co hr).2.2.1) ((hourS cd sw fd fn ab n w f od g B co hr).2.2.2.1) bc ((hourS cd sw fd fn ab n w f od g B co hr).2.2.2.2.2.2) ((hourS cd sw fd fn ab n w f od g B co hr).2.2.2.2.2.1) ++ cT cyI aT ac as_ cd sw fd fn) ++ pB LB ((hourS cd sw fd fn ab n w f od g B co hr).2.2.2.2.1)) := by
  intro sz
  refine Met.ofW (cc := cX2_letHourGoBy) (maxL := 5) (ret := none) (by decide) rfl ?_
  intro p e s m args below meth c s₁ B9 hml hv
  obtain ⟨rfl, hsz, hP, hKK, hD0⟩ := hv
  have hx := B9.exec
  have hb := B9.bytes
  have hrt := B9.returns
  have hts := atoms_spec (ws := wsX2_letHourGoBy) B9.pre
  have hown : s.vm.findClass RX2 = some m.cls := findClass_of_methodNamed B9.named
  have hlocks := B9.notSynchronized
  have nw := fun {w : Cond} (h : w ∈ nw_all) => NW.use (args := ([.ref aR, .ref aT] : List Value).toArray) hKK.2 h
  have iX2 : ∀ w ∈ wsX20, w ∈ wsX2_letHourGoBy := fun _ h => List.mem_cons_of_mem _ (List.mem_append_left _ (List.mem_append_left _ (List.mem_append_left _ (List.mem_append_left _ (List.mem_append_right _ h)))))
  have iX3 : ∀ w ∈ wsX30, w ∈ wsX2_letHourGoBy := fun _ h => List.mem_cons_of_mem _ (List.mem_append_left _ (List.mem_append_left _ (List.mem_append_left _ (List.mem_append_right _ h))))
  subst hsz
  have hD := hD0.self (sz := s.heap.size)
  generalize hAe : va_A ((cR cyI cyO aR aW aw af aG ao aB ab w f od g bc hr co ++ cT cyI aT ac as_ cd sw fd fn) ++ pB LB B) s.heap.size = A at hD ⊢
  have hA : ∀ q : Nat, s.heap.size ≤ q → A q := fun q h => by rw [← hAe]; exact Or.inr h
  have hS : va_S A s.heap s.heap [] := va_S.rf
  have hl := lv_entry ([.ref aR, .ref aT]) (n := 5) (Nat.le_of_ble_eq_true rfl)
  rw [lg_entry_eq]
  generalize (lg_sl ([.ref aR, .ref aT]) ++ List.replicate (5 - (lg_sl ([.ref aR, .ref aT])).length) Slot.unset).toArray = ls at hl ⊢
  have hl : lv_has ls 5 [(0, .ref aR), (1, .ref aT)] := hl
  obtain ⟨m, hm, hom⟩ := hok.1
  refine lv_aload_n hx hb dX2_letHourGoBy_0 rfl (lv_at hl 0 rfl) ?_
  refine va_get (D := D) (ci := 2) (v := .int hr) (C := RX2) (T := TX2) (N := 6) hx hb hts iX2 hown hKK.1 hP 0 rfl rfl 4 (by decide) (hts (.fieldLink RX2 46 "TrolleyGang$Ring" "hour" "I") (List.mem_of_getElem? (i := 1) rfl)) (fun _ h9 => h9) rfl dX2_letHourGoBy_1 ?_
  have hPc := hP.sub (ws' := ([] : va_W)) [] rfl
  have hDc := hD.sub (ws' := ([] : va_W)) [] (by decide) rfl
  refine ret_i (W1 := ([] : va_W)) (W2 := ([] : va_W)) (r := ntI hr) (run_SN (n := 1) (As := [.int hr]) (rest := []) ⟨hx, hb, hml, hown, hts⟩ (c_X5_isNightAt l D cyI cyO cyL hr _) ggX2_letHourGoBy_X5_isNightAt rfl rfl rfl nq_46 (hts (.initialized RX5) (List.mem_of_getElem? (i := 6) rfl)) (hts (.static yX5_isNightAt) (List.mem_of_getElem? (i := 5) rfl)) (by decide +kernel) ⟨Nat.le_of_ble_eq_true rfl, Nat.le_of_ble_eq_true rfl⟩ hKK hPc hDc rfl hl.1 rfl (Nat.le_of_ble_eq_true rfl) dX2_letHourGoBy_4 ⟨Nat.zero_le _, Nat.zero_le _⟩) hP hD hS hA [] rfl rfl (fun H locs hP hD hS => ?_)
  have hP : va_P D vwCl ((cR cyI cyO aR aW aw af aG ao aB ab w f od g bc hr co ++ cT cyI aT ac as_ cd sw fd fn) ++ pB LB B) H := hP
  have hD : va_D A ((cR cyI cyO aR aW aw af aG ao aB ab w f od g bc hr co ++ cT cyI aT ac as_ cd sw fd fn) ++ pB LB B) := hD
  refine lv_istore_n (lv' := [(2, .int (ntI hr)), (0, .ref aR), (1, .ref aT)]) hx hb dX2_letHourGoBy_7 rfl hl (by decide) rfl (fun ls hl => ?_)
  refine lv_iload_n hx hb dX2_letHourGoBy_8 rfl (lv_at hl 0 rfl) ?_
  refine wjoin (σ := (Nat → Int32)) (tgt := 41) (st1 := fun x9 => []) (fun x9 H9 L9 s9 => (x9 = frS cd hr f) ∧ (va_P D vwCl ((cR cyI cyO aR aW aw af aG ao aB ab w x9 od g bc hr co ++ cT cyI aT ac as_ cd sw fd fn) ++ pB LB B) H9) ∧ (va_D A ((cR cyI cyO aR aW aw af aG ao aB ab w x9 od g bc hr co ++ cT cyI aT ac as_ cd sw fd fn) ++ pB LB B)) ∧ (va_S A s.heap H9 L9) ∧ (lv_has s9 5 [(2, .int (ntI hr)), (0, .ref aR), (1, .ref aT)])) (fun KJ => ?_) (fun x9 H locs ls g9 => ?_)
  · skip
    refine lv_if_eq (tgt := 34) hx hb dX2_letHourGoBy_9 (by decide) (fun h_1 => ?_) (fun h_1 => ?_)
    · skip
      refine lv_aload_n hx hb dX2_letHourGoBy_34 rfl (lv_at hl 1 rfl) ?_
      refine va_get (D := D) (ci := 2) (v := .ref aW) (C := RX2) (T := TX2) (N := 6) hx hb hts iX2 hown hKK.1 hP 0 rfl rfl 0 (by decide) (hts (.fieldLink RX2 12 "TrolleyGang$Ring" "wires" "LTrolleyGang$Wires;") (List.mem_of_getElem? (i := 2) rfl)) (fun _ h9 => h9) rfl dX2_letHourGoBy_35 ?_
      have hPc := hP.sub (ws' := (cW cyI aW aw af w f)) [1, 2, 3] rfl
      have hDc := hD.sub (ws' := (cW cyI aW aw af w f)) [1, 2, 3] (by decide) rfl
      refine ret_v (W1 := (cW cyI aW aw af w f)) (W2 := (cW cyI aW aw af w (thwL 24 0 f))) (run_VN (q := (RX4, TX4, 2)) (n := 0) (As := []) (rest := []) ⟨hx, hb, hml, hown, hts⟩ (c_X4_thaw l D cyI cyO cyL aW aw af w f _) ggX2_letHourGoBy_X4_thaw rfl rfl rfl nq_62 (hts (.initialized RX4) (List.mem_of_getElem? (i := 9) rfl)) (hts (.instanceMethod yX4_thaw) (List.mem_of_getElem? (i := 17) rfl)) (hts (.selects RX4 yX4_thaw yX4_thaw) (List.mem_of_getElem? (i := 18) rfl)) (by decide +kernel) ⟨Nat.le_of_ble_eq_true rfl, Nat.le_of_ble_eq_true rfl⟩ hKK hPc hDc (ci := 4) (q0 := 0) rfl rfl rfl hl.1 rfl (Nat.le_of_ble_eq_true rfl) dX2_letHourGoBy_38 ⟨Nat.zero_le _, Nat.zero_le _⟩) hP hD hS hA [1, 2, 3] rfl rfl (fun H locs hP hD hS => ?_)
      have hP : va_P D vwCl ((cR cyI cyO aR aW aw af aG ao aB ab w (thwL 24 0 f) od g bc hr co ++ cT cyI aT ac as_ cd sw fd fn) ++ pB LB B) H := hP
      have hD : va_D A ((cR cyI cyO aR aW aw af aG ao aB ab w (thwL 24 0 f) od g bc hr co ++ cT cyI aT ac as_ cd sw fd fn) ++ pB LB B) := hD
      exact KJ (thwL 24 0 f) _ _ _ ⟨(by first | exact (if_pos h_1).symm | exact (if_neg h_1).symm), hP, hD, hS, lv_sub hl [0, 1, 2] rfl⟩
    · skip
      refine lv_aload_n hx hb dX2_letHourGoBy_12 rfl (lv_at hl 1 rfl) ?_
      refine va_get (D := D) (ci := 2) (v := .ref aW) (C := RX2) (T := TX2) (N := 6) hx hb hts iX2 hown hKK.1 hP 0 rfl rfl 0 (by decide) (hts (.fieldLink RX2 12 "TrolleyGang$Ring" "wires" "LTrolleyGang$Wires;") (List.mem_of_getElem? (i := 2) rfl)) (fun _ h9 => h9) rfl dX2_letHourGoBy_13 ?_
      refine lv_aload_n hx hb dX2_letHourGoBy_16 rfl (lv_at hl 2 rfl) ?_
      refine va_getN (D := D) (ci := 3) (v := .ref ac) (C := RX3) (T := TX3) (N := 4) hx hb hts iX3 hown hKK.1 hP 7 rfl rfl 0 (by decide) (nw (w := .fieldLinkNest "TrolleyGang$Ring" 60 "TrolleyGang$Tables" "colds" "[I" "TrolleyGang") nq_2) (fun _ h9 => h9) rfl dX2_letHourGoBy_17 ?_
      refine lv_aload_n hx hb dX2_letHourGoBy_20 rfl (lv_at hl 1 rfl) ?_
      refine va_get (D := D) (ci := 2) (v := .int hr) (C := RX2) (T := TX2) (N := 6) hx hb hts iX2 hown hKK.1 hP 0 rfl rfl 4 (by decide) (hts (.fieldLink RX2 46 "TrolleyGang$Ring" "hour" "I") (List.mem_of_getElem? (i := 1) rfl)) (fun _ h9 => h9) rfl dX2_letHourGoBy_21 ?_
      refine lv_bipush (v := 8) hx hb dX2_letHourGoBy_24 (by decide) ?_
      refine lv_irem hx hb dX2_letHourGoBy_26 (by decide) ?_
      refine lv_tope (y := ir hr 8) rfl ?_
      refine va_iald hx hb hKK.1 hP 8 0 rfl rfl (hin := (ir_in8 hok.2.2.2.2)) dX2_letHourGoBy_27 ?_
      have hPc := hP.sub (ws' := (cW cyI aW aw af w f)) [1, 2, 3] rfl
      have hDc := hD.sub (ws' := (cW cyI aW aw af w f)) [1, 2, 3] (by decide) rfl
      refine ret_v (W1 := (cW cyI aW aw af w f)) (W2 := (cW cyI aW aw af w (frzL (cd (ir hr 8).toNatClampNeg) 24 0 f))) (run_VN (q := (RX4, TX4, 2)) (n := 1) (As := [.int (cd (ir hr 8).toNatClampNeg)]) (rest := []) ⟨hx, hb, hml, hown, hts⟩ (c_X4_freeze l D cyI cyO cyL aW aw af w f (cd (ir hr 8).toNatClampNeg) _) ggX2_letHourGoBy_X4_freeze rfl rfl rfl nq_61 (hts (.initialized RX4) (List.mem_of_getElem? (i := 9) rfl)) (hts (.instanceMethod yX4_freeze) (List.mem_of_getElem? (i := 8) rfl)) (hts (.selects RX4 yX4_freeze yX4_freeze) (List.mem_of_getElem? (i := 10) rfl)) (by decide +kernel) ⟨Nat.le_of_ble_eq_true rfl, Nat.le_of_ble_eq_true rfl⟩ hKK hPc hDc (ci := 4) (q0 := 0) rfl rfl rfl hl.1 rfl (Nat.le_of_ble_eq_true rfl) dX2_letHourGoBy_28 ⟨Nat.zero_le _, Nat.zero_le _⟩) hP hD hS hA [1, 2, 3] rfl rfl (fun H locs hP hD hS => ?_)
      have hP : va_P D vwCl ((cR cyI cyO aR aW aw af aG ao aB ab w (frzL (cd (ir hr 8).toNatClampNeg) 24 0 f) od g bc hr co ++ cT cyI aT ac as_ cd sw fd fn) ++ pB LB B) H := hP
      have hD : va_D A ((cR cyI cyO aR aW aw af aG ao aB ab w (frzL (cd (ir hr 8).toNatClampNeg) 24 0 f) od g bc hr co ++ cT cyI aT ac as_ cd sw fd fn) ++ pB LB B) := hD
      refine lv_goto (tgt := 41) hx hb dX2_letHourGoBy_31 (by decide) ?_
      exact KJ (frzL (cd (ir hr 8).toNatClampNeg) 24 0 f) _ _ _ ⟨(by first | exact (if_pos h_1).symm | exact (if_neg h_1).symm), hP, hD, hS, lv_sub hl [0, 1, 2] rfl⟩
  · skip
    obtain ⟨f1, rfl⟩ : ∃ z, z = x9 := ⟨_, rfl⟩
    obtain ⟨hf, hP, hD, hS, hl⟩ := g9
    have hf : f1 = frS cd hr f := hf
    have hP : va_P D vwCl ((cR cyI cyO aR aW aw af aG ao aB ab w f1 od g bc hr co ++ cT cyI aT ac as_ cd sw fd fn) ++ pB LB B) H := hP
    have hD : va_D A ((cR cyI cyO aR aW aw af aG ao aB ab w f1 od g bc hr co ++ cT cyI aT ac as_ cd sw fd fn) ++ pB LB B) := hD
    have hl : lv_has ls 5 [(2, .int (ntI hr)), (0, .ref aR), (1, .ref aT)] := hl
    refine lv_aload_n hx hb dX2_letHourGoBy_41 rfl (lv_at hl 1 rfl) ?_
    refine lv_aload_n hx hb dX2_letHourGoBy_42 rfl (lv_at hl 2 rfl) ?_
    refine va_getN (D := D) (ci := 3) (v := .ref as_) (C := RX3) (T := TX3) (N := 4) hx hb hts iX3 hown hKK.1 hP 7 rfl rfl 1 (by decide) (nw (w := .fieldLinkNest "TrolleyGang$Ring" 73 "TrolleyGang$Tables" "swans" "[I" "TrolleyGang") nq_4) (fun _ h9 => h9) rfl dX2_letHourGoBy_43 ?_
    refine lv_aload_n hx hb dX2_letHourGoBy_46 rfl (lv_at hl 1 rfl) ?_
    refine va_get (D := D) (ci := 2) (v := .int hr) (C := RX2) (T := TX2) (N := 6) hx hb hts iX2 hown hKK.1 hP 0 rfl rfl 4 (by decide) (hts (.fieldLink RX2 46 "TrolleyGang$Ring" "hour" "I") (List.mem_of_getElem? (i := 1) rfl)) (fun _ h9 => h9) rfl dX2_letHourGoBy_47 ?_
    refine lv_bipush (v := 12) hx hb dX2_letHourGoBy_50 (by decide) ?_
    refine lv_irem hx hb dX2_letHourGoBy_52 (by decide) ?_
    refine lv_tope (y := ir hr 12) rfl ?_
    refine va_iald hx hb hKK.1 hP 9 0 rfl rfl (hin := (ir_in12 hok.2.2.2.2)) dX2_letHourGoBy_53 ?_
    have hPc := hP.sub (ws' := (cR cyI cyO aR aW aw af aG ao aB ab w f1 od g bc hr co)) [0, 1, 2, 3, 4, 5, 6] rfl
    have hDc := hD.sub (ws' := (cR cyI cyO aR aW aw af aG ao aB ab w f1 od g bc hr co)) [0, 1, 2, 3, 4, 5, 6] (by decide) rfl
    refine ret_v (W1 := (cR cyI cyO aR aW aw af aG ao aB ab w f1 od g bc hr co)) (W2 := (cR cyI cyO aR aW aw af aG ao aB ab (swanS w (sw (ir hr 12).toNatClampNeg)) f1 od g bc hr co)) (run_V (q := (RX2, TX2, 6)) (n := 1) (As := [.int (sw (ir hr 12).toNatClampNeg)]) (rest := []) ⟨hx, hb, hml, hown, hts⟩ (c_X2_letSwanFly l D cyI cyO cyL aR aW aw af aG ao aB ab w f1 od g bc hr co (sw (ir hr 12).toNatClampNeg) (hsw _) _) ggX2_letHourGoBy_X2_letSwanFly rfl rfl rfl (hts (.methodLink RX2 76 yX2_letSwanFly) (List.mem_of_getElem? (i := 23) rfl)) (hts (.initialized RX2) (List.mem_of_getElem? (i := 26) rfl)) (hts (.instanceMethod yX2_letSwanFly) (List.mem_of_getElem? (i := 24) rfl)) (hts (.selects RX2 yX2_letSwanFly yX2_letSwanFly) (List.mem_of_getElem? (i := 25) rfl)) (by decide +kernel) ⟨Nat.le_of_ble_eq_true rfl, Nat.le_of_ble_eq_true rfl⟩ hKK hPc hDc (ci := 2) (q0 := 0) rfl rfl rfl hl.1 rfl (Nat.le_of_ble_eq_true rfl) dX2_letHourGoBy_54 ⟨Nat.zero_le _, Nat.zero_le _⟩) hP hD hS hA [0, 1, 2, 3, 4, 5, 6] rfl rfl (fun H locs hP hD hS => ?_)
    have hP : va_P D vwCl ((cR cyI cyO aR aW aw af aG ao aB ab (swanS w (sw (ir hr 12).toNatClampNeg)) f1 od g bc hr co ++ cT cyI aT ac as_ cd sw fd fn) ++ pB LB B) H := hP
    have hD : va_D A ((cR cyI cyO aR aW aw af aG ao aB ab (swanS w (sw (ir hr 12).toNatClampNeg)) f1 od g bc hr co ++ cT cyI aT ac as_ cd sw fd fn) ++ pB LB B) := hD
    refine lv_aload_n hx hb dX2_letHourGoBy_57 rfl (lv_at hl 2 rfl) ?_
    refine lv_iload_n hx hb dX2_letHourGoBy_58 rfl (lv_at hl 0 rfl) ?_
    have hPc := hP.sub (ws' := (cT cyI aT ac as_ cd sw fd fn)) [7, 8, 9] rfl
    have hDc := hD.sub (ws' := (cT cyI aT ac as_ cd sw fd fn)) [7, 8, 9] (by decide) rfl
    refine ret_i (W1 := (cT cyI aT ac as_ cd sw fd fn)) (W2 := (cT cyI aT ac as_ cd sw fd fn)) (r := fareS (ntI hr) fd fn) (run_VN (q := (RX3, TX3, 4)) (n := 1) (As := [.int (ntI hr)]) (rest := []) ⟨hx, hb, hml, hown, hts⟩ (c_X3_fare l D cyI cyO cyL aT ac as_ cd sw fd fn (ntI hr) _) ggX2_letHourGoBy_X3_fare rfl rfl rfl nq_65 (hts (.initialized RX3) (List.mem_of_getElem? (i := 36) rfl)) (hts (.instanceMethod yX3_fare) (List.mem_of_getElem? (i := 35) rfl)) (hts (.selects RX3 yX3_fare yX3_fare) (List.mem_of_getElem? (i := 37) rfl)) (by decide +kernel) ⟨Nat.le_of_ble_eq_true rfl, Nat.le_of_ble_eq_true rfl⟩ hKK hPc hDc (ci := 3) (q0 := 0) rfl rfl rfl hl.1 rfl (Nat.le_of_ble_eq_true rfl) dX2_letHourGoBy_59 ⟨Nat.zero_le _, Nat.zero_le _⟩) hP hD hS hA [7, 8, 9] rfl rfl (fun H locs hP hD hS => ?_)
    have hP : va_P D vwCl ((cR cyI cyO aR aW aw af aG ao aB ab (swanS w (sw (ir hr 12).toNatClampNeg)) f1 od g bc hr co ++ cT cyI aT ac as_ cd sw fd fn) ++ pB LB B) H := hP
    have hD : va_D A ((cR cyI cyO aR aW aw af aG ao aB ab (swanS w (sw (ir hr 12).toNatClampNeg)) f1 od g bc hr co ++ cT cyI aT ac as_ cd sw fd fn) ++ pB LB B) := hD
    refine lv_istore_n (lv' := [(3, .int (fareS (ntI hr) fd fn)), (2, .int (ntI hr)), (0, .ref aR), (1, .ref aT)]) hx hb dX2_letHourGoBy_62 rfl hl (by decide) rfl (fun ls hl => ?_)
    refine lv_iconst (v := 0) hx hb dX2_letHourGoBy_63 (by decide) ?_
    refine lv_istore (lv' := [(4, .int 0), (3, .int (fareS (ntI hr) fd fn)), (2, .int (ntI hr)), (0, .ref aR), (1, .ref aT)]) hx hb dX2_letHourGoBy_64 hl (by decide) rfl (fun ls hl => ?_)
    refine wloop (σ := (Nat) × (Nat → Int32) × (Nat → Int32) × (Nat → Nat → Int32) × (Int32)) (fun d9 x9 H9 L9 s9 => ((x9.1) + d9 = n) ∧ (busL ab (fareS (ntI hr) fd fn) n 0 (swanS w (sw (ir hr 12).toNatClampNeg)) f1 B co = busL ab (fareS (ntI hr) fd fn) d9 (x9.1) (x9.2.1) (x9.2.2.1) (x9.2.2.2.1) (x9.2.2.2.2)) ∧ (OkB (x9.2.2.2.1)) ∧ (va_P D vwCl ((cR cyI cyO aR aW aw af aG ao aB ab (x9.2.1) (x9.2.2.1) od g bc hr (x9.2.2.2.2) ++ cT cyI aT ac as_ cd sw fd fn) ++ pB LB (x9.2.2.2.1)) H9) ∧ (va_D A ((cR cyI cyO aR aW aw af aG ao aB ab (x9.2.1) (x9.2.2.1) od g bc hr (x9.2.2.2.2) ++ cT cyI aT ac as_ cd sw fd fn) ++ pB LB (x9.2.2.2.1))) ∧ (va_S A s.heap H9 L9) ∧ (lv_has s9 5 [(4, .int (nI (x9.1))), (3, .int (fareS (ntI hr) fd fn)), (2, .int (ntI hr)), (0, .ref aR), (1, .ref aT)])) (fun d9 x9 H locs ls g9 ih => ?_) n (0, swanS w (sw (ir hr 12).toNatClampNeg), f1, B, co) _ _ _ ⟨(by omega), rfl, hok.2.2.2.1, hP, hD, hS, lv_sub hl [0, 1, 2, 3, 4] rfl⟩
    obtain ⟨i, w2, f2, B2, c2⟩ := x9
    obtain ⟨hid, hsp, hB, hP, hD, hS, hl⟩ := g9
    obtain ⟨d, rfl⟩ : ∃ z, z = d9 := ⟨_, rfl⟩
    have hid : i + d = n := hid
    have hsp : busL ab (fareS (ntI hr) fd fn) n 0 (swanS w (sw (ir hr 12).toNatClampNeg)) f1 B co = busL ab (fareS (ntI hr) fd fn) d i w2 f2 B2 c2 := hsp
    have hB : OkB B2 := hB
    have hP : va_P D vwCl ((cR cyI cyO aR aW aw af aG ao aB ab w2 f2 od g bc hr c2 ++ cT cyI aT ac as_ cd sw fd fn) ++ pB LB B2) H := hP
    have hD : va_D A ((cR cyI cyO aR aW aw af aG ao aB ab w2 f2 od g bc hr c2 ++ cT cyI aT ac as_ cd sw fd fn) ++ pB LB B2) := hD
    have hl : lv_has ls 5 [(4, .int (nI i)), (3, .int (fareS (ntI hr) fd fn)), (2, .int (ntI hr)), (0, .ref aR), (1, .ref aT)] := hl
    refine lv_iload hx hb dX2_letHourGoBy_66 (lv_at hl 0 rfl) ?_
    refine lv_aload_n hx hb dX2_letHourGoBy_68 rfl (lv_at hl 3 rfl) ?_
    refine va_get (D := D) (ci := 2) (v := .int bc) (C := RX2) (T := TX2) (N := 6) hx hb hts iX2 hown hKK.1 hP 0 rfl rfl 3 (by decide) (hts (.fieldLink RX2 39 "TrolleyGang$Ring" "busCount" "I") (List.mem_of_getElem? (i := 3) rfl)) (fun _ h9 => h9) rfl dX2_letHourGoBy_69 ?_
    refine lv_tope (y := nI n) hbc ?_
    refine lv_icmp_ge (tgt := 93) hx hb dX2_letHourGoBy_72 (by decide) (fun h_2 => ?_) (fun h_2 => ?_)
    · skip
      obtain rfl : d = 0 := by have h9 := (nI_leI (a := n) (b := i) (by omega) (by omega)).mp h_2; omega
      have hiN : i = n := by omega
      refine lv_aload_n hx hb dX2_letHourGoBy_93 rfl (lv_at hl 3 rfl) ?_
      have hPc := hP.sub (ws' := (cR cyI cyO aR aW aw af aG ao aB ab w2 f2 od g bc hr c2)) [0, 1, 2, 3, 4, 5, 6] rfl
      have hDc := hD.sub (ws' := (cR cyI cyO aR aW aw af aG ao aB ab w2 f2 od g bc hr c2)) [0, 1, 2, 3, 4, 5, 6] (by decide) rfl
      refine ret_v (W1 := (cR cyI cyO aR aW aw af aG ao aB ab w2 f2 od g bc hr c2)) (W2 := (cR cyI cyO aR aW aw af aG ao aB ab ((gwS m w2 od g c2).1) f2 ((gwS m w2 od g c2).2.1) ((gwS m w2 od g c2).2.2.1) bc hr ((gwS m w2 od g c2).2.2.2))) (run_V (q := (RX2, TX2, 6)) (n := 0) (As := []) (rest := []) ⟨hx, hb, hml, hown, hts⟩ (c_X2_letGangWork l D cyI cyO cyL aR aW aw af aG ao aB ab w2 f2 od g bc hr c2 m hm hom hok.2.1 (hok.2.2.1 0) _) ggX2_letHourGoBy_X2_letGangWork rfl rfl rfl (hts (.methodLink RX2 87 yX2_letGangWork) (List.mem_of_getElem? (i := 46) rfl)) (hts (.initialized RX2) (List.mem_of_getElem? (i := 26) rfl)) (hts (.instanceMethod yX2_letGangWork) (List.mem_of_getElem? (i := 47) rfl)) (hts (.selects RX2 yX2_letGangWork yX2_letGangWork) (List.mem_of_getElem? (i := 48) rfl)) (by decide +kernel) ⟨Nat.le_of_ble_eq_true rfl, Nat.le_of_ble_eq_true rfl⟩ hKK hPc hDc (ci := 2) (q0 := 0) rfl rfl rfl hl.1 rfl (Nat.le_of_ble_eq_true rfl) dX2_letHourGoBy_94 ⟨Nat.zero_le _, Nat.zero_le _⟩) hP hD hS hA [0, 1, 2, 3, 4, 5, 6] rfl rfl (fun H locs hP hD hS => ?_)
      have hP : va_P D vwCl ((cR cyI cyO aR aW aw af aG ao aB ab ((gwS m w2 od g c2).1) f2 ((gwS m w2 od g c2).2.1) ((gwS m w2 od g c2).2.2.1) bc hr ((gwS m w2 od g c2).2.2.2) ++ cT cyI aT ac as_ cd sw fd fn) ++ pB LB B2) H := hP
      have hD : va_D A ((cR cyI cyO aR aW aw af aG ao aB ab ((gwS m w2 od g c2).1) f2 ((gwS m w2 od g c2).2.1) ((gwS m w2 od g c2).2.2.1) bc hr ((gwS m w2 od g c2).2.2.2) ++ cT cyI aT ac as_ cd sw fd fn) ++ pB LB B2) := hD
      refine lv_aload_n hx hb dX2_letHourGoBy_97 rfl (lv_at hl 3 rfl) ?_
      refine lv_dup hx hb dX2_letHourGoBy_98 rfl ?_
      refine va_get (D := D) (ci := 2) (v := .int hr) (C := RX2) (T := TX2) (N := 6) hx hb hts iX2 hown hKK.1 hP 0 rfl rfl 4 (by decide) (hts (.fieldLink RX2 46 "TrolleyGang$Ring" "hour" "I") (List.mem_of_getElem? (i := 1) rfl)) (fun _ h9 => h9) rfl dX2_letHourGoBy_99 ?_
      refine lv_iconst (v := 1) hx hb dX2_letHourGoBy_102 (by decide) ?_
      refine lv_iadd hx hb dX2_letHourGoBy_103 ?_
      refine va_put (D := D) (ci := 2) (v := .int (hr + 1)) (ty := .int) (C := RX2) (T := TX2) (N := 6) hx hb hts iX2 tyX2 tyX2_ok nmX2 hown hKK.1 hP hD hS 0 rfl rfl 4 (by decide) (hts (.fieldLink RX2 46 "TrolleyGang$Ring" "hour" "I") (List.mem_of_getElem? (i := 1) rfl)) (fun _ h9 => h9) rfl (by decide +kernel) rfl rfl (Nat.le_of_ble_eq_true rfl) dX2_letHourGoBy_104 (fun H locs hP hD hS => ?_)
      have hP : va_P D vwCl ((cR cyI cyO aR aW aw af aG ao aB ab ((gwS m w2 od g c2).1) f2 ((gwS m w2 od g c2).2.1) ((gwS m w2 od g c2).2.2.1) bc (hr + 1) ((gwS m w2 od g c2).2.2.2) ++ cT cyI aT ac as_ cd sw fd fn) ++ pB LB B2) H := hP
      have hD : va_D A ((cR cyI cyO aR aW aw af aG ao aB ab ((gwS m w2 od g c2).1) f2 ((gwS m w2 od g c2).2.1) ((gwS m w2 od g c2).2.2.1) bc (hr + 1) ((gwS m w2 od g c2).2.2.2) ++ cT cyI aT ac as_ cd sw fd fn) ++ pB LB B2) := hD
      have e9 : hourS cd sw fd fn ab n w f od g B co hr = ((gwS m w2 od g c2).1, f2, (gwS m w2 od g c2).2.1, ((gwS m w2 od g c2).2.2.1), B2, (gwS m w2 od g c2).2.2.2, hr + 1) := (by unfold hourS; rw [← hf]; rw [show (g 0).toNatClampNeg = m from by rw [hom, nI_clamp (by omega)]]; dsimp only; rw [hsp]; rfl)
      exact end_v hx hb hrt hlocks (by rw [e9]; exact hP) hS dX2_letHourGoBy_107
    · skip
      have hlt : i < n := by have h9 := mt (nI_leI (a := n) (b := i) (by omega) (by omega)).mpr h_2; omega
      obtain ⟨d, rfl⟩ : ∃ k, d = k + 1 := ⟨d - 1, by omega⟩
      refine lv_aload_n hx hb dX2_letHourGoBy_75 rfl (lv_at hl 3 rfl) ?_
      refine lv_aload_n hx hb dX2_letHourGoBy_76 rfl (lv_at hl 3 rfl) ?_
      refine va_get (D := D) (ci := 2) (v := .ref aB) (C := RX2) (T := TX2) (N := 6) hx hb hts iX2 hown hKK.1 hP 0 rfl rfl 2 (by decide) (hts (.fieldLink RX2 27 "TrolleyGang$Ring" "buses" "[LTrolleyGang$Bus;") (List.mem_of_getElem? (i := 4) rfl)) (fun _ h9 => h9) rfl dX2_letHourGoBy_77 ?_
      refine lv_iload hx hb dX2_letHourGoBy_80 (lv_at hl 0 rfl) ?_
      refine va_aldq hx hb hKK.1 hP 6 1 rfl rfl (hin := (vp_in_nI (show i < 6 by omega) (by omega))) dX2_letHourGoBy_82 ?_
      refine lv_topv (y := .ref (ab i)) (by rw [nI_clamp (by omega)]; rfl) ?_
      refine lv_iload_n hx hb dX2_letHourGoBy_83 rfl (lv_at hl 1 rfl) ?_
      have hPc := hP.part (cx := (cR cyI cyO aR aW aw af aG ao aB ab w2 f2 od g bc hr c2)) [0, 1, 2, 3, 4, 5, 6] rfl
      have hDc := hD.part (cx := (cR cyI cyO aR aW aw af aG ao aB ab w2 f2 od g bc hr c2)) [0, 1, 2, 3, 4, 5, 6] (by decide) rfl
      refine ret_vB (cx := (cR cyI cyO aR aW aw af aG ao aB ab w2 f2 od g bc hr c2)) (cx' := (cR cyI cyO aR aW aw af aG ao aB ab ((driveS (ab i) (fareS (ntI hr) fd fn) w2 f2 B2 c2).1) ((driveS (ab i) (fareS (ntI hr) fd fn) w2 f2 B2 c2).2.1) od g bc hr ((driveS (ab i) (fareS (ntI hr) fd fn) w2 f2 B2 c2).2.2.2))) (pl' := pB LB ((driveS (ab i) (fareS (ntI hr) fd fn) w2 f2 B2 c2).2.2.1)) (run_V (q := (RX2, TX2, 6)) (n := 2) (As := [.ref (ab i), .int (fareS (ntI hr) fd fn)]) (rest := []) ⟨hx, hb, hml, hown, hts⟩ (c_X2_drive l D cyI cyO cyL aR aW aw af aG ao aB ab w2 f2 od g bc hr c2 LB B2 (ab i) (fareS (ntI hr) fd fn) (hLB i (by omega)) hB _) ggX2_letHourGoBy_X2_drive rfl rfl rfl (hts (.methodLink RX2 83 yX2_drive) (List.mem_of_getElem? (i := 41) rfl)) (hts (.initialized RX2) (List.mem_of_getElem? (i := 26) rfl)) (hts (.instanceMethod yX2_drive) (List.mem_of_getElem? (i := 42) rfl)) (hts (.selects RX2 yX2_drive yX2_drive) (List.mem_of_getElem? (i := 43) rfl)) (by decide +kernel) ⟨Nat.le_of_ble_eq_true rfl, Nat.le_of_ble_eq_true rfl⟩ hKK hPc hDc (ci := 2) (q0 := 0) rfl rfl rfl hl.1 rfl (Nat.le_of_ble_eq_true rfl) dX2_letHourGoBy_84 ⟨Nat.zero_le _, Nat.zero_le _⟩) hP hD hS hA [0, 1, 2, 3, 4, 5, 6] (by decide) rfl rfl pB_fst (fun H locs hP hD hS => ?_)
      have hP : va_P D vwCl ((cR cyI cyO aR aW aw af aG ao aB ab ((driveS (ab i) (fareS (ntI hr) fd fn) w2 f2 B2 c2).1) ((driveS (ab i) (fareS (ntI hr) fd fn) w2 f2 B2 c2).2.1) od g bc hr ((driveS (ab i) (fareS (ntI hr) fd fn) w2 f2 B2 c2).2.2.2) ++ cT cyI aT ac as_ cd sw fd fn) ++ pB LB ((driveS (ab i) (fareS (ntI hr) fd fn) w2 f2 B2 c2).2.2.1)) H := hP
      have hD : va_D A ((cR cyI cyO aR aW aw af aG ao aB ab ((driveS (ab i) (fareS (ntI hr) fd fn) w2 f2 B2 c2).1) ((driveS (ab i) (fareS (ntI hr) fd fn) w2 f2 B2 c2).2.1) od g bc hr ((driveS (ab i) (fareS (ntI hr) fd fn) w2 f2 B2 c2).2.2.2) ++ cT cyI aT ac as_ cd sw fd fn) ++ pB LB ((driveS (ab i) (fareS (ntI hr) fd fn) w2 f2 B2 c2).2.2.1)) := hD
      refine lv_iinc (v := nI (i + 1)) (lv' := [(4, .int (nI (i + 1))), (3, .int (fareS (ntI hr) fd fn)), (2, .int (ntI hr)), (0, .ref aR), (1, .ref aT)]) hx hb dX2_letHourGoBy_87 hl (k := 0) rfl (nI_1 i) (by decide) rfl (fun ls hl => ?_)
      refine lv_goto (tgt := 66) hx hb dX2_letHourGoBy_90 (by decide) ?_
      exact ih d ((i + 1), ((driveS (ab i) (fareS (ntI hr) fd fn) w2 f2 B2 c2).1), ((driveS (ab i) (fareS (ntI hr) fd fn) w2 f2 B2 c2).2.1), ((driveS (ab i) (fareS (ntI hr) fd fn) w2 f2 B2 c2).2.2.1), ((driveS (ab i) (fareS (ntI hr) fd fn) w2 f2 B2 c2).2.2.2)) _ _ _ (by omega) ⟨(by omega), (hsp.trans (by first | with_reducible rfl | (simp only [busL, h_2, if_true, if_false, reduceIte, not_true_eq_false, not_false_eq_true]; done) | (simp [busL, h_2]; done))), (hB.drive _ _ _ _ _), hP, hD, hS, lv_sub hl [0, 1, 2, 3, 4] rfl⟩
end
section
set_option maxHeartbeats 4000000 in
set_option maxRecDepth 100000 in
theorem c_X2_tally (l : Launch) (D : va_G) (cyI cyO cyL : ClassId) (aR : Nat) (aW : Nat) (aw : Nat) (af : Nat) (aG : Nat) (ao : Nat) (aB : Nat) (ab : Nat → Nat) (w : Nat → Int32) (f : Nat → Int32) (od : Nat → Int32) (g : Nat → Int32) (bc : Int32) (hr : Int32) (co : Int32) (LB : List Nat) (B : Nat → Nat → Int32) (x_ : Int32) (n : Nat) (hn : n ≤ 6) (hbc : bc = nI n) (hLB : ∀ k, k < 6 → ab k ∈ LB) : cI l yX2_tally wsX2_tally ({ frames := 2, cells := 0, slots := 0, locals := 43 }) D cyI cyO cyL [.ref aR, .int x_] ((cR cyI cyO aR aW aw af aG ao aB ab w f od g bc hr co) ++ pB LB B) ((cR cyI cyO aR aW aw af aG ao aB ab w f od g bc hr co) ++ pB LB B) (tallyS x_ n ab w f B bc hr co) := by
  intro sz
  refine Met.ofW (cc := cX2_tally) (maxL := 2) (ret := (some .int)) (by decide) rfl ?_
  intro p e s m args below meth c s₁ B9 hml hv
  obtain ⟨rfl, hsz, hP, hKK, hD0⟩ := hv
  have hx := B9.exec
  have hb := B9.bytes
  have hrt := B9.returns
  have hts := atoms_spec (ws := wsX2_tally) B9.pre
  have hown : s.vm.findClass RX2 = some m.cls := findClass_of_methodNamed B9.named
  have hlocks := B9.notSynchronized
  have nw := fun {w : Cond} (h : w ∈ nw_all) => NW.use (args := ([.ref aR, .int x_] : List Value).toArray) hKK.2 h
  have iX2 : ∀ w ∈ wsX20, w ∈ wsX2_tally := fun _ h => List.mem_cons_of_mem _ (List.mem_append_left _ (List.mem_append_left _ (List.mem_append_right _ h)))
  subst hsz
  have hD := hD0.self (sz := s.heap.size)
  generalize hAe : va_A ((cR cyI cyO aR aW aw af aG ao aB ab w f od g bc hr co) ++ pB LB B) s.heap.size = A at hD ⊢
  have hA : ∀ q : Nat, s.heap.size ≤ q → A q := fun q h => by rw [← hAe]; exact Or.inr h
  have hS : va_S A s.heap s.heap [] := va_S.rf
  have hl := lv_entry ([.ref aR, .int x_]) (n := 2) (Nat.le_of_ble_eq_true rfl)
  rw [lg_entry_eq]
  generalize (lg_sl ([.ref aR, .int x_]) ++ List.replicate (2 - (lg_sl ([.ref aR, .int x_])).length) Slot.unset).toArray = ls at hl ⊢
  have hl : lv_has ls 2 [(0, .ref aR), (1, .int x_)] := hl
  refine lv_iload_n hx hb dX2_tally_0 rfl (lv_at hl 1 rfl) ?_
  rcases sw8 x_ with rfl | rfl | rfl | rfl | rfl | rfl | rfl | rfl | hs_1
  · skip
    refine lv_tableIn (off := 47) (tgt := 48) hx hb dX2_tally_1 (by decide) (by decide) (by decide) (by decide) ?_
    refine lv_aload_n hx hb dX2_tally_48 rfl (lv_at hl 0 rfl) ?_
    refine va_get (D := D) (ci := 2) (v := .int hr) (C := RX2) (T := TX2) (N := 6) hx hb hts iX2 hown hKK.1 hP 0 rfl rfl 4 (by decide) (hts (.fieldLink RX2 46 "TrolleyGang$Ring" "hour" "I") (List.mem_of_getElem? (i := 1) rfl)) (fun _ h9 => h9) rfl dX2_tally_49 ?_
    have e9 : tallyS 0 n ab w f B bc hr co = hr := (by first | with_reducible rfl | (simp only [tallyS, if_true, if_false, reduceIte, not_true_eq_false, not_false_eq_true]; done) | (simp [tallyS]; done))
    exact end_i hx hb hrt hlocks (by rw [e9]) hP hS dX2_tally_52
  · skip
    refine lv_tableIn (off := 52) (tgt := 53) hx hb dX2_tally_1 (by decide) (by decide) (by decide) (by decide) ?_
    refine lv_aload_n hx hb dX2_tally_53 rfl (lv_at hl 0 rfl) ?_
    refine va_get (D := D) (ci := 2) (v := .int hr) (C := RX2) (T := TX2) (N := 6) hx hb hts iX2 hown hKK.1 hP 0 rfl rfl 4 (by decide) (hts (.fieldLink RX2 46 "TrolleyGang$Ring" "hour" "I") (List.mem_of_getElem? (i := 1) rfl)) (fun _ h9 => h9) rfl dX2_tally_54 ?_
    have hPc := hP.sub (ws' := ([] : va_W)) [] rfl
    have hDc := hD.sub (ws' := ([] : va_W)) [] (by decide) rfl
    refine ret_i (W1 := ([] : va_W)) (W2 := ([] : va_W)) (r := ntI hr) (run_SN (n := 1) (As := [.int hr]) (rest := []) ⟨hx, hb, hml, hown, hts⟩ (c_X5_isNightAt l D cyI cyO cyL hr _) ggX2_tally_X5_isNightAt rfl rfl rfl nq_46 (hts (.initialized RX5) (List.mem_of_getElem? (i := 6) rfl)) (hts (.static yX5_isNightAt) (List.mem_of_getElem? (i := 5) rfl)) (by decide +kernel) ⟨Nat.le_of_ble_eq_true rfl, Nat.le_of_ble_eq_true rfl⟩ hKK hPc hDc rfl hl.1 rfl (Nat.le_of_ble_eq_true rfl) dX2_tally_57 ⟨Nat.zero_le _, Nat.zero_le _⟩) hP hD hS hA [] rfl rfl (fun H locs hP hD hS => ?_)
    have hP : va_P D vwCl ((cR cyI cyO aR aW aw af aG ao aB ab w f od g bc hr co) ++ pB LB B) H := hP
    have hD : va_D A ((cR cyI cyO aR aW aw af aG ao aB ab w f od g bc hr co) ++ pB LB B) := hD
    have hPc := hP.sub (ws' := ([] : va_W)) [] rfl
    have hDc := hD.sub (ws' := ([] : va_W)) [] (by decide) rfl
    refine ret_i (W1 := ([] : va_W)) (W2 := ([] : va_W)) (r := oneI (ntI hr)) (run_SN (n := 1) (As := [.int (ntI hr)]) (rest := []) ⟨hx, hb, hml, hown, hts⟩ (c_X5_oneIf l D cyI cyO cyL (ntI hr) _) ggX2_tally_X5_oneIf rfl rfl rfl nq_47 (hts (.initialized RX5) (List.mem_of_getElem? (i := 6) rfl)) (hts (.static yX5_oneIf) (List.mem_of_getElem? (i := 8) rfl)) (by decide +kernel) ⟨Nat.le_of_ble_eq_true rfl, Nat.le_of_ble_eq_true rfl⟩ hKK hPc hDc rfl hl.1 rfl (Nat.le_of_ble_eq_true rfl) dX2_tally_60 ⟨Nat.zero_le _, Nat.zero_le _⟩) hP hD hS hA [] rfl rfl (fun H locs hP hD hS => ?_)
    have hP : va_P D vwCl ((cR cyI cyO aR aW aw af aG ao aB ab w f od g bc hr co) ++ pB LB B) H := hP
    have hD : va_D A ((cR cyI cyO aR aW aw af aG ao aB ab w f od g bc hr co) ++ pB LB B) := hD
    have e9 : tallyS 1 n ab w f B bc hr co = oneI (ntI hr) := (by first | with_reducible rfl | (simp only [tallyS, if_true, if_false, reduceIte, not_true_eq_false, not_false_eq_true]; done) | (simp [tallyS]; done))
    exact end_i hx hb hrt hlocks (by rw [e9]) hP hS dX2_tally_63
  · skip
    refine lv_tableIn (off := 63) (tgt := 64) hx hb dX2_tally_1 (by decide) (by decide) (by decide) (by decide) ?_
    refine lv_aload_n hx hb dX2_tally_64 rfl (lv_at hl 0 rfl) ?_
    refine va_get (D := D) (ci := 2) (v := .int co) (C := RX2) (T := TX2) (N := 6) hx hb hts iX2 hown hKK.1 hP 0 rfl rfl 5 (by decide) (hts (.fieldLink RX2 49 "TrolleyGang$Ring" "coins" "I") (List.mem_of_getElem? (i := 2) rfl)) (fun _ h9 => h9) rfl dX2_tally_65 ?_
    have e9 : tallyS 2 n ab w f B bc hr co = co := (by first | with_reducible rfl | (simp only [tallyS, if_true, if_false, reduceIte, not_true_eq_false, not_false_eq_true]; done) | (simp [tallyS]; done))
    exact end_i hx hb hrt hlocks (by rw [e9]) hP hS dX2_tally_68
  · skip
    refine lv_tableIn (off := 68) (tgt := 69) hx hb dX2_tally_1 (by decide) (by decide) (by decide) (by decide) ?_
    refine lv_aload_n hx hb dX2_tally_69 rfl (lv_at hl 0 rfl) ?_
    refine va_get (D := D) (ci := 2) (v := .int bc) (C := RX2) (T := TX2) (N := 6) hx hb hts iX2 hown hKK.1 hP 0 rfl rfl 3 (by decide) (hts (.fieldLink RX2 39 "TrolleyGang$Ring" "busCount" "I") (List.mem_of_getElem? (i := 3) rfl)) (fun _ h9 => h9) rfl dX2_tally_70 ?_
    have e9 : tallyS 3 n ab w f B bc hr co = bc := (by first | with_reducible rfl | (simp only [tallyS, if_true, if_false, reduceIte, not_true_eq_false, not_false_eq_true]; done) | (simp [tallyS]; done))
    exact end_i hx hb hrt hlocks (by rw [e9]) hP hS dX2_tally_73
  · skip
    refine lv_tableIn (off := 73) (tgt := 74) hx hb dX2_tally_1 (by decide) (by decide) (by decide) (by decide) ?_
    refine lv_aload_n hx hb dX2_tally_74 rfl (lv_at hl 0 rfl) ?_
    have hPc := hP.part (cx := (cR cyI cyO aR aW aw af aG ao aB ab w f od g bc hr co)) [0, 1, 2, 3, 4, 5, 6] rfl
    have hDc := hD.part (cx := (cR cyI cyO aR aW aw af aG ao aB ab w f od g bc hr co)) [0, 1, 2, 3, 4, 5, 6] (by decide) rfl
    refine ret_iB (cx := (cR cyI cyO aR aW aw af aG ao aB ab w f od g bc hr co)) (cx' := (cR cyI cyO aR aW aw af aG ao aB ab w f od g bc hr co)) (pl' := pB LB B) (r := brL B ab n 0 0) (run_V (q := (RX2, TX2, 6)) (n := 0) (As := []) (rest := []) ⟨hx, hb, hml, hown, hts⟩ (c_X2_busesRunning l D cyI cyO cyL aR aW aw af aG ao aB ab w f od g bc hr co LB B n hn hbc hLB _) ggX2_tally_X2_busesRunning rfl rfl rfl (hts (.methodLink RX2 156 yX2_busesRunning) (List.mem_of_getElem? (i := 10) rfl)) (hts (.initialized RX2) (List.mem_of_getElem? (i := 13) rfl)) (hts (.instanceMethod yX2_busesRunning) (List.mem_of_getElem? (i := 11) rfl)) (hts (.selects RX2 yX2_busesRunning yX2_busesRunning) (List.mem_of_getElem? (i := 12) rfl)) (by decide +kernel) ⟨Nat.le_of_ble_eq_true rfl, Nat.le_of_ble_eq_true rfl⟩ hKK hPc hDc (ci := 2) (q0 := 0) rfl rfl rfl hl.1 rfl (Nat.le_of_ble_eq_true rfl) dX2_tally_75 ⟨Nat.zero_le _, Nat.zero_le _⟩) hP hD hS hA [0, 1, 2, 3, 4, 5, 6] (by decide) rfl rfl pB_fst (fun H locs hP hD hS => ?_)
    have hP : va_P D vwCl ((cR cyI cyO aR aW aw af aG ao aB ab w f od g bc hr co) ++ pB LB B) H := hP
    have hD : va_D A ((cR cyI cyO aR aW aw af aG ao aB ab w f od g bc hr co) ++ pB LB B) := hD
    have e9 : tallyS 4 n ab w f B bc hr co = brL B ab n 0 0 := (by first | with_reducible rfl | (simp only [tallyS, if_true, if_false, reduceIte, not_true_eq_false, not_false_eq_true]; done) | (simp [tallyS]; done))
    exact end_i hx hb hrt hlocks (by rw [e9]) hP hS dX2_tally_78
  · skip
    refine lv_tableIn (off := 78) (tgt := 79) hx hb dX2_tally_1 (by decide) (by decide) (by decide) (by decide) ?_
    refine lv_aload_n hx hb dX2_tally_79 rfl (lv_at hl 0 rfl) ?_
    refine va_get (D := D) (ci := 2) (v := .ref aW) (C := RX2) (T := TX2) (N := 6) hx hb hts iX2 hown hKK.1 hP 0 rfl rfl 0 (by decide) (hts (.fieldLink RX2 12 "TrolleyGang$Ring" "wires" "LTrolleyGang$Wires;") (List.mem_of_getElem? (i := 4) rfl)) (fun _ h9 => h9) rfl dX2_tally_80 ?_
    have hPc := hP.sub (ws' := (cW cyI aW aw af w f)) [1, 2, 3] rfl
    have hDc := hD.sub (ws' := (cW cyI aW aw af w f)) [1, 2, 3] (by decide) rfl
    refine ret_i (W1 := (cW cyI aW aw af w f)) (W2 := (cW cyI aW aw af w f)) (r := spdL w 24 0 0) (run_VN (q := (RX4, TX4, 2)) (n := 0) (As := []) (rest := []) ⟨hx, hb, hml, hown, hts⟩ (c_X4_spansDown l D cyI cyO cyL aW aw af w f _) ggX2_tally_X4_spansDown rfl rfl rfl nq_48 (hts (.initialized RX4) (List.mem_of_getElem? (i := 17) rfl)) (hts (.instanceMethod yX4_spansDown) (List.mem_of_getElem? (i := 16) rfl)) (hts (.selects RX4 yX4_spansDown yX4_spansDown) (List.mem_of_getElem? (i := 18) rfl)) (by decide +kernel) ⟨Nat.le_of_ble_eq_true rfl, Nat.le_of_ble_eq_true rfl⟩ hKK hPc hDc (ci := 4) (q0 := 0) rfl rfl rfl hl.1 rfl (Nat.le_of_ble_eq_true rfl) dX2_tally_83 ⟨Nat.zero_le _, Nat.zero_le _⟩) hP hD hS hA [1, 2, 3] rfl rfl (fun H locs hP hD hS => ?_)
    have hP : va_P D vwCl ((cR cyI cyO aR aW aw af aG ao aB ab w f od g bc hr co) ++ pB LB B) H := hP
    have hD : va_D A ((cR cyI cyO aR aW aw af aG ao aB ab w f od g bc hr co) ++ pB LB B) := hD
    have e9 : tallyS 5 n ab w f B bc hr co = spdL w 24 0 0 := (by first | with_reducible rfl | (simp only [tallyS, if_true, if_false, reduceIte, not_true_eq_false, not_false_eq_true]; done) | (simp [tallyS]; done))
    exact end_i hx hb hrt hlocks (by rw [e9]) hP hS dX2_tally_86
  · skip
    refine lv_tableIn (off := 86) (tgt := 87) hx hb dX2_tally_1 (by decide) (by decide) (by decide) (by decide) ?_
    refine lv_aload_n hx hb dX2_tally_87 rfl (lv_at hl 0 rfl) ?_
    refine va_get (D := D) (ci := 2) (v := .ref aW) (C := RX2) (T := TX2) (N := 6) hx hb hts iX2 hown hKK.1 hP 0 rfl rfl 0 (by decide) (hts (.fieldLink RX2 12 "TrolleyGang$Ring" "wires" "LTrolleyGang$Wires;") (List.mem_of_getElem? (i := 4) rfl)) (fun _ h9 => h9) rfl dX2_tally_88 ?_
    have hPc := hP.sub (ws' := (cW cyI aW aw af w f)) [1, 2, 3] rfl
    have hDc := hD.sub (ws' := (cW cyI aW aw af w f)) [1, 2, 3] (by decide) rfl
    refine ret_i (W1 := (cW cyI aW aw af w f)) (W2 := (cW cyI aW aw af w f)) (r := sumL w 24 0 0) (run_VN (q := (RX4, TX4, 2)) (n := 0) (As := []) (rest := []) ⟨hx, hb, hml, hown, hts⟩ (c_X4_wornInAll l D cyI cyO cyL aW aw af w f _) ggX2_tally_X4_wornInAll rfl rfl rfl nq_50 (hts (.initialized RX4) (List.mem_of_getElem? (i := 17) rfl)) (hts (.instanceMethod yX4_wornInAll) (List.mem_of_getElem? (i := 25) rfl)) (hts (.selects RX4 yX4_wornInAll yX4_wornInAll) (List.mem_of_getElem? (i := 26) rfl)) (by decide +kernel) ⟨Nat.le_of_ble_eq_true rfl, Nat.le_of_ble_eq_true rfl⟩ hKK hPc hDc (ci := 4) (q0 := 0) rfl rfl rfl hl.1 rfl (Nat.le_of_ble_eq_true rfl) dX2_tally_91 ⟨Nat.zero_le _, Nat.zero_le _⟩) hP hD hS hA [1, 2, 3] rfl rfl (fun H locs hP hD hS => ?_)
    have hP : va_P D vwCl ((cR cyI cyO aR aW aw af aG ao aB ab w f od g bc hr co) ++ pB LB B) H := hP
    have hD : va_D A ((cR cyI cyO aR aW aw af aG ao aB ab w f od g bc hr co) ++ pB LB B) := hD
    have e9 : tallyS 6 n ab w f B bc hr co = sumL w 24 0 0 := (by first | with_reducible rfl | (simp only [tallyS, if_true, if_false, reduceIte, not_true_eq_false, not_false_eq_true]; done) | (simp [tallyS]; done))
    exact end_i hx hb hrt hlocks (by rw [e9]) hP hS dX2_tally_94
  · skip
    refine lv_tableIn (off := 94) (tgt := 95) hx hb dX2_tally_1 (by decide) (by decide) (by decide) (by decide) ?_
    refine lv_aload_n hx hb dX2_tally_95 rfl (lv_at hl 0 rfl) ?_
    refine va_get (D := D) (ci := 2) (v := .ref aW) (C := RX2) (T := TX2) (N := 6) hx hb hts iX2 hown hKK.1 hP 0 rfl rfl 0 (by decide) (hts (.fieldLink RX2 12 "TrolleyGang$Ring" "wires" "LTrolleyGang$Wires;") (List.mem_of_getElem? (i := 4) rfl)) (fun _ h9 => h9) rfl dX2_tally_96 ?_
    have hPc := hP.sub (ws' := (cW cyI aW aw af w f)) [1, 2, 3] rfl
    have hDc := hD.sub (ws' := (cW cyI aW aw af w f)) [1, 2, 3] (by decide) rfl
    refine ret_i (W1 := (cW cyI aW aw af w f)) (W2 := (cW cyI aW aw af w f)) (r := sumL f 24 0 0) (run_VN (q := (RX4, TX4, 2)) (n := 0) (As := []) (rest := []) ⟨hx, hb, hml, hown, hts⟩ (c_X4_frostInAll l D cyI cyO cyL aW aw af w f _) ggX2_tally_X4_frostInAll rfl rfl rfl nq_51 (hts (.initialized RX4) (List.mem_of_getElem? (i := 17) rfl)) (hts (.instanceMethod yX4_frostInAll) (List.mem_of_getElem? (i := 28) rfl)) (hts (.selects RX4 yX4_frostInAll yX4_frostInAll) (List.mem_of_getElem? (i := 29) rfl)) (by decide +kernel) ⟨Nat.le_of_ble_eq_true rfl, Nat.le_of_ble_eq_true rfl⟩ hKK hPc hDc (ci := 4) (q0 := 0) rfl rfl rfl hl.1 rfl (Nat.le_of_ble_eq_true rfl) dX2_tally_99 ⟨Nat.zero_le _, Nat.zero_le _⟩) hP hD hS hA [1, 2, 3] rfl rfl (fun H locs hP hD hS => ?_)
    have hP : va_P D vwCl ((cR cyI cyO aR aW aw af aG ao aB ab w f od g bc hr co) ++ pB LB B) H := hP
    have hD : va_D A ((cR cyI cyO aR aW aw af aG ao aB ab w f od g bc hr co) ++ pB LB B) := hD
    have e9 : tallyS 7 n ab w f B bc hr co = sumL f 24 0 0 := (by first | with_reducible rfl | (simp only [tallyS, if_true, if_false, reduceIte, not_true_eq_false, not_false_eq_true]; done) | (simp [tallyS]; done))
    exact end_i hx hb hrt hlocks (by rw [e9]) hP hS dX2_tally_102
  · skip
    refine lv_tableOut (tgt := 103) hx hb dX2_tally_1 hs_1 (by decide) ?_
    refine lv_aload_n hx hb dX2_tally_103 rfl (lv_at hl 0 rfl) ?_
    have hPc := hP.part (cx := (cR cyI cyO aR aW aw af aG ao aB ab w f od g bc hr co)) [0, 1, 2, 3, 4, 5, 6] rfl
    have hDc := hD.part (cx := (cR cyI cyO aR aW aw af aG ao aB ab w f od g bc hr co)) [0, 1, 2, 3, 4, 5, 6] (by decide) rfl
    refine ret_iB (cx := (cR cyI cyO aR aW aw af aG ao aB ab w f od g bc hr co)) (cx' := (cR cyI cyO aR aW aw af aG ao aB ab w f od g bc hr co)) (pl' := pB LB B) (r := bsL B ab n 0 0) (run_V (q := (RX2, TX2, 6)) (n := 0) (As := []) (rest := []) ⟨hx, hb, hml, hown, hts⟩ (c_X2_hoursStuckInAll l D cyI cyO cyL aR aW aw af aG ao aB ab w f od g bc hr co LB B n hn hbc hLB _) ggX2_tally_X2_hoursStuckInAll rfl rfl rfl (hts (.methodLink RX2 169 yX2_hoursStuckInAll) (List.mem_of_getElem? (i := 32) rfl)) (hts (.initialized RX2) (List.mem_of_getElem? (i := 13) rfl)) (hts (.instanceMethod yX2_hoursStuckInAll) (List.mem_of_getElem? (i := 33) rfl)) (hts (.selects RX2 yX2_hoursStuckInAll yX2_hoursStuckInAll) (List.mem_of_getElem? (i := 34) rfl)) (by decide +kernel) ⟨Nat.le_of_ble_eq_true rfl, Nat.le_of_ble_eq_true rfl⟩ hKK hPc hDc (ci := 2) (q0 := 0) rfl rfl rfl hl.1 rfl (Nat.le_of_ble_eq_true rfl) dX2_tally_104 ⟨Nat.zero_le _, Nat.zero_le _⟩) hP hD hS hA [0, 1, 2, 3, 4, 5, 6] (by decide) rfl rfl pB_fst (fun H locs hP hD hS => ?_)
    have hP : va_P D vwCl ((cR cyI cyO aR aW aw af aG ao aB ab w f od g bc hr co) ++ pB LB B) H := hP
    have hD : va_D A ((cR cyI cyO aR aW aw af aG ao aB ab w f od g bc hr co) ++ pB LB B) := hD
    have e9 : tallyS x_ n ab w f B bc hr co = bsL B ab n 0 0 := (by first | with_reducible rfl | (simp only [tallyS, (nt8 hs_1), if_true, if_false, reduceIte, not_true_eq_false, not_false_eq_true]; done) | (simp [tallyS, (nt8 hs_1)]; done))
    exact end_i hx hb hrt hlocks (by rw [e9]) hP hS dX2_tally_107
set_option maxHeartbeats 4000000 in
set_option maxRecDepth 100000 in
theorem c_X2_copyFrom (l : Launch) (D : va_G) (cyI cyO cyL : ClassId) (aR : Nat) (aW : Nat) (aw : Nat) (af : Nat) (aG : Nat) (ao : Nat) (aB : Nat) (aR2 : Nat) (aW2 : Nat) (aw2 : Nat) (af2 : Nat) (aG2 : Nat) (ao2 : Nat) (aB2 : Nat) (ab : Nat → Nat) (w : Nat → Int32) (f : Nat → Int32) (od : Nat → Int32) (g : Nat → Int32) (bc : Int32) (hr : Int32) (co : Int32) (ab2 : Nat → Nat) (w2 : Nat → Int32) (f2 : Nat → Int32) (od2 : Nat → Int32) (g2 : Nat → Int32) (bc2 : Int32) (hr2 : Int32) (co2 : Int32) (LB : List Nat) (B : Nat → Nat → Int32) (n : Nat) (hn : n ≤ 6) (hbc : bc2 = nI n) (hLB : ∀ k, k < 6 → ab k ∈ LB) (hLB2 : ∀ k, k < 6 → ab2 k ∈ LB) (hB : OkB B) : cV l yX2_copyFrom wsX2_copyFrom ({ frames := 2, cells := 0, slots := 0, locals := 61 }) D cyI cyO cyL [.ref aR, .ref aR2] ((cR cyI cyO aR aW aw af aG ao aB ab w f od g bc hr co ++ cR cyI cyO aR2 aW2 aw2 af2 aG2 ao2 aB2 ab2 w2 f2 od2 g2 bc2 hr2 co2) ++ pB LB B) ((cR cyI cyO aR aW aw af aG ao aB ab (((va_cpy w2 w 0 0 24, va_cpy f2 f 0 0 24, va_cpy od2 od 0 0 6, gcp g g2, bcL ab ab2 n 0 B, bc2, hr2, co2)).1) (((va_cpy w2 w 0 0 24, va_cpy f2 f 0 0 24, va_cpy od2 od 0 0 6, gcp g g2, bcL ab ab2 n 0 B, bc2, hr2, co2)).2.1) (((va_cpy w2 w 0 0 24, va_cpy f2 f 0 0 24, va_cpy od2 od 0 0 6, gcp g g2, bcL ab ab2 n 0 B, bc2, hr2, co2)).2.2.1) (((va_cpy w2 w 0 0 24, va_cpy f2 f 0 0 24, va_cpy od2 od 0 0 6, gcp g g2, bcL ab ab2 n 0 B, bc2, hr2, co2)).2.2.2.1) (((va_cpy w2 w 0 0 24, va_cpy f2 f 0 0 24, va_cpy od2 od 0 0 6, gcp g g2, bcL ab ab2 n 0 B, bc2, hr2, co2)).2.2.2.2.2.1) (((va_cpy w2 w 0 0 24, va_cpy f2 f 0 0 24, va_cpy od2 od 0 0 6, gcp g g2, bcL ab ab2 n 0 B, bc2, hr2, co2)).2.2.2.2.2.2.1) (((va_cpy w2 w 0 0 24, va_cpy f2 f 0 0 24, va_cpy od2 od 0 0 6, gcp g g2, bcL ab ab2 n 0 B, bc2, hr2, co2)).2.2.2.2.2.2.2) ++ cR cyI cyO aR2 aW2 aw2 af2 aG2 ao2 aB2 ab2 w2 f2 od2 g2 bc2 hr2 co2) ++ pB LB (((va_cpy w2 w 0 0 24, va_cpy f2 f 0 0 24, va_cpy od2 od 0 0 6, gcp g g2, bcL ab ab2 n 0 B, bc2, hr2, co2)).2.2.2.2.1)) := by
  intro sz
  refine Met.ofW (cc := cX2_copyFrom) (maxL := 3) (ret := none) (by decide) rfl ?_
  intro p e s m args below meth c s₁ B9 hml hv
  obtain ⟨rfl, hsz, hP, hKK, hD0⟩ := hv
  have hx := B9.exec
  have hb := B9.bytes
  have hrt := B9.returns
  have hts := atoms_spec (ws := wsX2_copyFrom) B9.pre
  have hown : s.vm.findClass RX2 = some m.cls := findClass_of_methodNamed B9.named
  have hlocks := B9.notSynchronized
  have nw := fun {w : Cond} (h : w ∈ nw_all) => NW.use (args := ([.ref aR, .ref aR2] : List Value).toArray) hKK.2 h
  have iX2 : ∀ w ∈ wsX20, w ∈ wsX2_copyFrom := fun _ h => List.mem_cons_of_mem _ (List.mem_append_left _ (List.mem_append_left _ (List.mem_append_left _ (List.mem_append_right _ h))))
  subst hsz
  have hD := hD0.self (sz := s.heap.size)
  generalize hAe : va_A ((cR cyI cyO aR aW aw af aG ao aB ab w f od g bc hr co ++ cR cyI cyO aR2 aW2 aw2 af2 aG2 ao2 aB2 ab2 w2 f2 od2 g2 bc2 hr2 co2) ++ pB LB B) s.heap.size = A at hD ⊢
  have hA : ∀ q : Nat, s.heap.size ≤ q → A q := fun q h => by rw [← hAe]; exact Or.inr h
  have hS : va_S A s.heap s.heap [] := va_S.rf
  have hl := lv_entry ([.ref aR, .ref aR2]) (n := 3) (Nat.le_of_ble_eq_true rfl)
  rw [lg_entry_eq]
  generalize (lg_sl ([.ref aR, .ref aR2]) ++ List.replicate (3 - (lg_sl ([.ref aR, .ref aR2])).length) Slot.unset).toArray = ls at hl ⊢
  have hl : lv_has ls 3 [(0, .ref aR), (1, .ref aR2)] := hl
  refine lv_aload_n hx hb dX2_copyFrom_0 rfl (lv_at hl 0 rfl) ?_
  refine va_get (D := D) (ci := 2) (v := .ref aW) (C := RX2) (T := TX2) (N := 6) hx hb hts iX2 hown hKK.1 hP 0 rfl rfl 0 (by decide) (hts (.fieldLink RX2 12 "TrolleyGang$Ring" "wires" "LTrolleyGang$Wires;") (List.mem_of_getElem? (i := 1) rfl)) (fun _ h9 => h9) rfl dX2_copyFrom_1 ?_
  refine lv_aload_n hx hb dX2_copyFrom_4 rfl (lv_at hl 1 rfl) ?_
  refine va_get (D := D) (ci := 2) (v := .ref aW2) (C := RX2) (T := TX2) (N := 6) hx hb hts iX2 hown hKK.1 hP 7 rfl rfl 0 (by decide) (hts (.fieldLink RX2 12 "TrolleyGang$Ring" "wires" "LTrolleyGang$Wires;") (List.mem_of_getElem? (i := 1) rfl)) (fun _ h9 => h9) rfl dX2_copyFrom_5 ?_
  have hPc := hP.sub (ws' := (cW cyI aW aw af w f ++ cW cyI aW2 aw2 af2 w2 f2)) [1, 2, 3, 8, 9, 10] rfl
  have hDc := hD.sub (ws' := (cW cyI aW aw af w f ++ cW cyI aW2 aw2 af2 w2 f2)) [1, 2, 3, 8, 9, 10] (by decide) rfl
  refine ret_v (W1 := (cW cyI aW aw af w f ++ cW cyI aW2 aw2 af2 w2 f2)) (W2 := (cW cyI aW aw af (((va_cpy w2 w 0 0 24, va_cpy f2 f 0 0 24)).1) (((va_cpy w2 w 0 0 24, va_cpy f2 f 0 0 24)).2) ++ cW cyI aW2 aw2 af2 w2 f2)) (run_VN (q := (RX4, TX4, 2)) (n := 1) (As := [.ref aW2]) (rest := []) ⟨hx, hb, hml, hown, hts⟩ (c_X4_copyFrom l D cyI cyO cyL aW aw af aW2 aw2 af2 w f w2 f2 _) ggX2_copyFrom_X4_copyFrom rfl rfl rfl nq_71 (hts (.initialized RX4) (List.mem_of_getElem? (i := 8) rfl)) (hts (.instanceMethod yX4_copyFrom) (List.mem_of_getElem? (i := 7) rfl)) (hts (.selects RX4 yX4_copyFrom yX4_copyFrom) (List.mem_of_getElem? (i := 9) rfl)) (by decide +kernel) ⟨Nat.le_of_ble_eq_true rfl, Nat.le_of_ble_eq_true rfl⟩ hKK hPc hDc (ci := 4) (q0 := 0) rfl rfl rfl hl.1 rfl (Nat.le_of_ble_eq_true rfl) dX2_copyFrom_8 ⟨Nat.zero_le _, Nat.zero_le _⟩) hP hD hS hA [1, 2, 3, 8, 9, 10] rfl rfl (fun H locs hP hD hS => ?_)
  have hP : va_P D vwCl ((cR cyI cyO aR aW aw af aG ao aB ab (((va_cpy w2 w 0 0 24, va_cpy f2 f 0 0 24)).1) (((va_cpy w2 w 0 0 24, va_cpy f2 f 0 0 24)).2) od g bc hr co ++ cR cyI cyO aR2 aW2 aw2 af2 aG2 ao2 aB2 ab2 w2 f2 od2 g2 bc2 hr2 co2) ++ pB LB B) H := hP
  have hD : va_D A ((cR cyI cyO aR aW aw af aG ao aB ab (((va_cpy w2 w 0 0 24, va_cpy f2 f 0 0 24)).1) (((va_cpy w2 w 0 0 24, va_cpy f2 f 0 0 24)).2) od g bc hr co ++ cR cyI cyO aR2 aW2 aw2 af2 aG2 ao2 aB2 ab2 w2 f2 od2 g2 bc2 hr2 co2) ++ pB LB B) := hD
  refine lv_aload_n hx hb dX2_copyFrom_11 rfl (lv_at hl 0 rfl) ?_
  refine va_get (D := D) (ci := 2) (v := .ref aG) (C := RX2) (T := TX2) (N := 6) hx hb hts iX2 hown hKK.1 hP 0 rfl rfl 1 (by decide) (hts (.fieldLink RX2 21 "TrolleyGang$Ring" "gang" "LTrolleyGang$Gang;") (List.mem_of_getElem? (i := 2) rfl)) (fun _ h9 => h9) rfl dX2_copyFrom_12 ?_
  refine lv_aload_n hx hb dX2_copyFrom_15 rfl (lv_at hl 1 rfl) ?_
  refine va_get (D := D) (ci := 2) (v := .ref aG2) (C := RX2) (T := TX2) (N := 6) hx hb hts iX2 hown hKK.1 hP 7 rfl rfl 1 (by decide) (hts (.fieldLink RX2 21 "TrolleyGang$Ring" "gang" "LTrolleyGang$Gang;") (List.mem_of_getElem? (i := 2) rfl)) (fun _ h9 => h9) rfl dX2_copyFrom_16 ?_
  have hPc := hP.sub (ws' := (cG cyI aG ao od g ++ cG cyI aG2 ao2 od2 g2)) [4, 5, 11, 12] rfl
  have hDc := hD.sub (ws' := (cG cyI aG ao od g ++ cG cyI aG2 ao2 od2 g2)) [4, 5, 11, 12] (by decide) rfl
  refine ret_v (W1 := (cG cyI aG ao od g ++ cG cyI aG2 ao2 od2 g2)) (W2 := (cG cyI aG ao (((va_cpy od2 od 0 0 6, gcp g g2)).1) (((va_cpy od2 od 0 0 6, gcp g g2)).2) ++ cG cyI aG2 ao2 od2 g2)) (run_VN (q := (RX1, TX1, 6)) (n := 1) (As := [.ref aG2]) (rest := []) ⟨hx, hb, hml, hown, hts⟩ (c_X1_copyFrom l D cyI cyO cyL aG ao aG2 ao2 od g od2 g2 _) ggX2_copyFrom_X1_copyFrom rfl rfl rfl nq_72 (hts (.initialized RX1) (List.mem_of_getElem? (i := 18) rfl)) (hts (.instanceMethod yX1_copyFrom) (List.mem_of_getElem? (i := 17) rfl)) (hts (.selects RX1 yX1_copyFrom yX1_copyFrom) (List.mem_of_getElem? (i := 19) rfl)) (by decide +kernel) ⟨Nat.le_of_ble_eq_true rfl, Nat.le_of_ble_eq_true rfl⟩ hKK hPc hDc (ci := 1) (q0 := 0) rfl rfl rfl hl.1 rfl (Nat.le_of_ble_eq_true rfl) dX2_copyFrom_19 ⟨Nat.zero_le _, Nat.zero_le _⟩) hP hD hS hA [4, 5, 11, 12] rfl rfl (fun H locs hP hD hS => ?_)
  have hP : va_P D vwCl ((cR cyI cyO aR aW aw af aG ao aB ab (((va_cpy w2 w 0 0 24, va_cpy f2 f 0 0 24)).1) (((va_cpy w2 w 0 0 24, va_cpy f2 f 0 0 24)).2) (((va_cpy od2 od 0 0 6, gcp g g2)).1) (((va_cpy od2 od 0 0 6, gcp g g2)).2) bc hr co ++ cR cyI cyO aR2 aW2 aw2 af2 aG2 ao2 aB2 ab2 w2 f2 od2 g2 bc2 hr2 co2) ++ pB LB B) H := hP
  have hD : va_D A ((cR cyI cyO aR aW aw af aG ao aB ab (((va_cpy w2 w 0 0 24, va_cpy f2 f 0 0 24)).1) (((va_cpy w2 w 0 0 24, va_cpy f2 f 0 0 24)).2) (((va_cpy od2 od 0 0 6, gcp g g2)).1) (((va_cpy od2 od 0 0 6, gcp g g2)).2) bc hr co ++ cR cyI cyO aR2 aW2 aw2 af2 aG2 ao2 aB2 ab2 w2 f2 od2 g2 bc2 hr2 co2) ++ pB LB B) := hD
  refine lv_iconst (v := 0) hx hb dX2_copyFrom_22 (by decide) ?_
  refine lv_istore_n (lv' := [(2, .int 0), (0, .ref aR), (1, .ref aR2)]) hx hb dX2_copyFrom_23 rfl hl (by decide) rfl (fun ls hl => ?_)
  refine wloop (σ := (Nat) × (Nat → Nat → Int32)) (fun d9 x9 H9 L9 s9 => ((x9.1) + d9 = n) ∧ (bcL ab ab2 n 0 B = bcL ab ab2 d9 (x9.1) (x9.2)) ∧ (OkB (x9.2)) ∧ (va_P D vwCl ((cR cyI cyO aR aW aw af aG ao aB ab (((va_cpy w2 w 0 0 24, va_cpy f2 f 0 0 24)).1) (((va_cpy w2 w 0 0 24, va_cpy f2 f 0 0 24)).2) (((va_cpy od2 od 0 0 6, gcp g g2)).1) (((va_cpy od2 od 0 0 6, gcp g g2)).2) bc hr co ++ cR cyI cyO aR2 aW2 aw2 af2 aG2 ao2 aB2 ab2 w2 f2 od2 g2 bc2 hr2 co2) ++ pB LB (x9.2)) H9) ∧ (va_D A ((cR cyI cyO aR aW aw af aG ao aB ab (((va_cpy w2 w 0 0 24, va_cpy f2 f 0 0 24)).1) (((va_cpy w2 w 0 0 24, va_cpy f2 f 0 0 24)).2) (((va_cpy od2 od 0 0 6, gcp g g2)).1) (((va_cpy od2 od 0 0 6, gcp g g2)).2) bc hr co ++ cR cyI cyO aR2 aW2 aw2 af2 aG2 ao2 aB2 ab2 w2 f2 od2 g2 bc2 hr2 co2) ++ pB LB (x9.2))) ∧ (va_S A s.heap H9 L9) ∧ (lv_has s9 3 [(2, .int (nI (x9.1))), (0, .ref aR), (1, .ref aR2)])) (fun d9 x9 H locs ls g9 ih => ?_) n (0, B) _ _ _ ⟨(by omega), rfl, hB, hP, hD, hS, lv_sub hl [0, 1, 2] rfl⟩
  obtain ⟨i, B1⟩ := x9
  obtain ⟨hid, hsp, hB, hP, hD, hS, hl⟩ := g9
  obtain ⟨d, rfl⟩ : ∃ z, z = d9 := ⟨_, rfl⟩
  have hid : i + d = n := hid
  have hsp : bcL ab ab2 n 0 B = bcL ab ab2 d i B1 := hsp
  have hB : OkB B1 := hB
  have hP : va_P D vwCl ((cR cyI cyO aR aW aw af aG ao aB ab (((va_cpy w2 w 0 0 24, va_cpy f2 f 0 0 24)).1) (((va_cpy w2 w 0 0 24, va_cpy f2 f 0 0 24)).2) (((va_cpy od2 od 0 0 6, gcp g g2)).1) (((va_cpy od2 od 0 0 6, gcp g g2)).2) bc hr co ++ cR cyI cyO aR2 aW2 aw2 af2 aG2 ao2 aB2 ab2 w2 f2 od2 g2 bc2 hr2 co2) ++ pB LB B1) H := hP
  have hD : va_D A ((cR cyI cyO aR aW aw af aG ao aB ab (((va_cpy w2 w 0 0 24, va_cpy f2 f 0 0 24)).1) (((va_cpy w2 w 0 0 24, va_cpy f2 f 0 0 24)).2) (((va_cpy od2 od 0 0 6, gcp g g2)).1) (((va_cpy od2 od 0 0 6, gcp g g2)).2) bc hr co ++ cR cyI cyO aR2 aW2 aw2 af2 aG2 ao2 aB2 ab2 w2 f2 od2 g2 bc2 hr2 co2) ++ pB LB B1) := hD
  have hl : lv_has ls 3 [(2, .int (nI i)), (0, .ref aR), (1, .ref aR2)] := hl
  refine lv_iload_n hx hb dX2_copyFrom_24 rfl (lv_at hl 0 rfl) ?_
  refine lv_aload_n hx hb dX2_copyFrom_25 rfl (lv_at hl 2 rfl) ?_
  refine va_get (D := D) (ci := 2) (v := .int bc2) (C := RX2) (T := TX2) (N := 6) hx hb hts iX2 hown hKK.1 hP 7 rfl rfl 3 (by decide) (hts (.fieldLink RX2 39 "TrolleyGang$Ring" "busCount" "I") (List.mem_of_getElem? (i := 3) rfl)) (fun _ h9 => h9) rfl dX2_copyFrom_26 ?_
  refine lv_tope (y := nI n) hbc ?_
  refine lv_icmp_ge (tgt := 53) hx hb dX2_copyFrom_29 (by decide) (fun h_1 => ?_) (fun h_1 => ?_)
  · skip
    obtain rfl : d = 0 := by have h9 := (nI_leI (a := n) (b := i) (by omega) (by omega)).mp h_1; omega
    have hiN : i = n := by omega
    refine lv_aload_n hx hb dX2_copyFrom_53 rfl (lv_at hl 1 rfl) ?_
    refine lv_aload_n hx hb dX2_copyFrom_54 rfl (lv_at hl 2 rfl) ?_
    refine va_get (D := D) (ci := 2) (v := .int bc2) (C := RX2) (T := TX2) (N := 6) hx hb hts iX2 hown hKK.1 hP 7 rfl rfl 3 (by decide) (hts (.fieldLink RX2 39 "TrolleyGang$Ring" "busCount" "I") (List.mem_of_getElem? (i := 3) rfl)) (fun _ h9 => h9) rfl dX2_copyFrom_55 ?_
    refine va_put (D := D) (ci := 2) (v := .int bc2) (ty := .int) (C := RX2) (T := TX2) (N := 6) hx hb hts iX2 tyX2 tyX2_ok nmX2 hown hKK.1 hP hD hS 0 rfl rfl 3 (by decide) (hts (.fieldLink RX2 39 "TrolleyGang$Ring" "busCount" "I") (List.mem_of_getElem? (i := 3) rfl)) (fun _ h9 => h9) rfl (by decide +kernel) rfl rfl (Nat.le_of_ble_eq_true rfl) dX2_copyFrom_58 (fun H locs hP hD hS => ?_)
    have hP : va_P D vwCl ((cR cyI cyO aR aW aw af aG ao aB ab (((va_cpy w2 w 0 0 24, va_cpy f2 f 0 0 24)).1) (((va_cpy w2 w 0 0 24, va_cpy f2 f 0 0 24)).2) (((va_cpy od2 od 0 0 6, gcp g g2)).1) (((va_cpy od2 od 0 0 6, gcp g g2)).2) bc2 hr co ++ cR cyI cyO aR2 aW2 aw2 af2 aG2 ao2 aB2 ab2 w2 f2 od2 g2 bc2 hr2 co2) ++ pB LB B1) H := hP
    have hD : va_D A ((cR cyI cyO aR aW aw af aG ao aB ab (((va_cpy w2 w 0 0 24, va_cpy f2 f 0 0 24)).1) (((va_cpy w2 w 0 0 24, va_cpy f2 f 0 0 24)).2) (((va_cpy od2 od 0 0 6, gcp g g2)).1) (((va_cpy od2 od 0 0 6, gcp g g2)).2) bc2 hr co ++ cR cyI cyO aR2 aW2 aw2 af2 aG2 ao2 aB2 ab2 w2 f2 od2 g2 bc2 hr2 co2) ++ pB LB B1) := hD
    refine lv_aload_n hx hb dX2_copyFrom_61 rfl (lv_at hl 1 rfl) ?_
    refine lv_aload_n hx hb dX2_copyFrom_62 rfl (lv_at hl 2 rfl) ?_
    refine va_get (D := D) (ci := 2) (v := .int hr2) (C := RX2) (T := TX2) (N := 6) hx hb hts iX2 hown hKK.1 hP 7 rfl rfl 4 (by decide) (hts (.fieldLink RX2 46 "TrolleyGang$Ring" "hour" "I") (List.mem_of_getElem? (i := 5) rfl)) (fun _ h9 => h9) rfl dX2_copyFrom_63 ?_
    refine va_put (D := D) (ci := 2) (v := .int hr2) (ty := .int) (C := RX2) (T := TX2) (N := 6) hx hb hts iX2 tyX2 tyX2_ok nmX2 hown hKK.1 hP hD hS 0 rfl rfl 4 (by decide) (hts (.fieldLink RX2 46 "TrolleyGang$Ring" "hour" "I") (List.mem_of_getElem? (i := 5) rfl)) (fun _ h9 => h9) rfl (by decide +kernel) rfl rfl (Nat.le_of_ble_eq_true rfl) dX2_copyFrom_66 (fun H locs hP hD hS => ?_)
    have hP : va_P D vwCl ((cR cyI cyO aR aW aw af aG ao aB ab (((va_cpy w2 w 0 0 24, va_cpy f2 f 0 0 24)).1) (((va_cpy w2 w 0 0 24, va_cpy f2 f 0 0 24)).2) (((va_cpy od2 od 0 0 6, gcp g g2)).1) (((va_cpy od2 od 0 0 6, gcp g g2)).2) bc2 hr2 co ++ cR cyI cyO aR2 aW2 aw2 af2 aG2 ao2 aB2 ab2 w2 f2 od2 g2 bc2 hr2 co2) ++ pB LB B1) H := hP
    have hD : va_D A ((cR cyI cyO aR aW aw af aG ao aB ab (((va_cpy w2 w 0 0 24, va_cpy f2 f 0 0 24)).1) (((va_cpy w2 w 0 0 24, va_cpy f2 f 0 0 24)).2) (((va_cpy od2 od 0 0 6, gcp g g2)).1) (((va_cpy od2 od 0 0 6, gcp g g2)).2) bc2 hr2 co ++ cR cyI cyO aR2 aW2 aw2 af2 aG2 ao2 aB2 ab2 w2 f2 od2 g2 bc2 hr2 co2) ++ pB LB B1) := hD
    refine lv_aload_n hx hb dX2_copyFrom_69 rfl (lv_at hl 1 rfl) ?_
    refine lv_aload_n hx hb dX2_copyFrom_70 rfl (lv_at hl 2 rfl) ?_
    refine va_get (D := D) (ci := 2) (v := .int co2) (C := RX2) (T := TX2) (N := 6) hx hb hts iX2 hown hKK.1 hP 7 rfl rfl 5 (by decide) (hts (.fieldLink RX2 49 "TrolleyGang$Ring" "coins" "I") (List.mem_of_getElem? (i := 6) rfl)) (fun _ h9 => h9) rfl dX2_copyFrom_71 ?_
    refine va_put (D := D) (ci := 2) (v := .int co2) (ty := .int) (C := RX2) (T := TX2) (N := 6) hx hb hts iX2 tyX2 tyX2_ok nmX2 hown hKK.1 hP hD hS 0 rfl rfl 5 (by decide) (hts (.fieldLink RX2 49 "TrolleyGang$Ring" "coins" "I") (List.mem_of_getElem? (i := 6) rfl)) (fun _ h9 => h9) rfl (by decide +kernel) rfl rfl (Nat.le_of_ble_eq_true rfl) dX2_copyFrom_74 (fun H locs hP hD hS => ?_)
    have hP : va_P D vwCl ((cR cyI cyO aR aW aw af aG ao aB ab (((va_cpy w2 w 0 0 24, va_cpy f2 f 0 0 24)).1) (((va_cpy w2 w 0 0 24, va_cpy f2 f 0 0 24)).2) (((va_cpy od2 od 0 0 6, gcp g g2)).1) (((va_cpy od2 od 0 0 6, gcp g g2)).2) bc2 hr2 co2 ++ cR cyI cyO aR2 aW2 aw2 af2 aG2 ao2 aB2 ab2 w2 f2 od2 g2 bc2 hr2 co2) ++ pB LB B1) H := hP
    have hD : va_D A ((cR cyI cyO aR aW aw af aG ao aB ab (((va_cpy w2 w 0 0 24, va_cpy f2 f 0 0 24)).1) (((va_cpy w2 w 0 0 24, va_cpy f2 f 0 0 24)).2) (((va_cpy od2 od 0 0 6, gcp g g2)).1) (((va_cpy od2 od 0 0 6, gcp g g2)).2) bc2 hr2 co2 ++ cR cyI cyO aR2 aW2 aw2 af2 aG2 ao2 aB2 ab2 w2 f2 od2 g2 bc2 hr2 co2) ++ pB LB B1) := hD
    have e9 : (va_cpy w2 w 0 0 24, va_cpy f2 f 0 0 24, va_cpy od2 od 0 0 6, gcp g g2, bcL ab ab2 n 0 B, bc2, hr2, co2) = (((va_cpy w2 w 0 0 24, va_cpy f2 f 0 0 24)).1, ((va_cpy w2 w 0 0 24, va_cpy f2 f 0 0 24)).2, ((va_cpy od2 od 0 0 6, gcp g g2)).1, (((va_cpy od2 od 0 0 6, gcp g g2)).2), B1, bc2, hr2, co2) := (by rw [hsp]; rfl)
    exact end_v hx hb hrt hlocks (by rw [e9]; exact hP) hS dX2_copyFrom_77
  · skip
    have hlt : i < n := by have h9 := mt (nI_leI (a := n) (b := i) (by omega) (by omega)).mpr h_1; omega
    obtain ⟨d, rfl⟩ : ∃ k, d = k + 1 := ⟨d - 1, by omega⟩
    refine lv_aload_n hx hb dX2_copyFrom_32 rfl (lv_at hl 1 rfl) ?_
    refine va_get (D := D) (ci := 2) (v := .ref aB) (C := RX2) (T := TX2) (N := 6) hx hb hts iX2 hown hKK.1 hP 0 rfl rfl 2 (by decide) (hts (.fieldLink RX2 27 "TrolleyGang$Ring" "buses" "[LTrolleyGang$Bus;") (List.mem_of_getElem? (i := 4) rfl)) (fun _ h9 => h9) rfl dX2_copyFrom_33 ?_
    refine lv_iload_n hx hb dX2_copyFrom_36 rfl (lv_at hl 0 rfl) ?_
    refine va_aldq hx hb hKK.1 hP 6 1 rfl rfl (hin := (vp_in_nI (show i < 6 by omega) (by omega))) dX2_copyFrom_37 ?_
    refine lv_topv (y := .ref (ab i)) (by rw [nI_clamp (by omega)]; rfl) ?_
    refine lv_aload_n hx hb dX2_copyFrom_38 rfl (lv_at hl 2 rfl) ?_
    refine va_get (D := D) (ci := 2) (v := .ref aB2) (C := RX2) (T := TX2) (N := 6) hx hb hts iX2 hown hKK.1 hP 7 rfl rfl 2 (by decide) (hts (.fieldLink RX2 27 "TrolleyGang$Ring" "buses" "[LTrolleyGang$Bus;") (List.mem_of_getElem? (i := 4) rfl)) (fun _ h9 => h9) rfl dX2_copyFrom_39 ?_
    refine lv_iload_n hx hb dX2_copyFrom_42 rfl (lv_at hl 0 rfl) ?_
    refine va_aldq hx hb hKK.1 hP 13 1 rfl rfl (hin := (vp_in_nI (show i < 6 by omega) (by omega))) dX2_copyFrom_43 ?_
    refine lv_topv (y := .ref (ab2 i)) (by rw [nI_clamp (by omega)]; rfl) ?_
    have hPc := hP.part (cx := ([] : va_W)) [] rfl
    have hDc := hD.part (cx := ([] : va_W)) [] (by decide) rfl
    obtain ⟨q9, hq9⟩ := va_pl_get (X := ([] : va_W)) (f := bE B1) (hLB i (by omega))
    refine ret_vB (cx := ([] : va_W)) (cx' := ([] : va_W)) (pl' := pB LB (bcp B1 (ab i) (ab2 i))) (run_VN (q := (RX0, TX0, 6)) (n := 1) (As := [.ref (ab2 i)]) (rest := []) ⟨hx, hb, hml, hown, hts⟩ (c_X0_copyFrom l D cyI cyO cyL LB B1 (ab i) (ab2 i) (hLB i (by omega)) (hLB2 i (by omega)) (hB _).2.1 (hB _).2.2 _) ggX2_copyFrom_X0_copyFrom rfl rfl rfl nq_73 (hts (.initialized RX0) (List.mem_of_getElem? (i := 29) rfl)) (hts (.instanceMethod yX0_copyFrom) (List.mem_of_getElem? (i := 28) rfl)) (hts (.selects RX0 yX0_copyFrom yX0_copyFrom) (List.mem_of_getElem? (i := 30) rfl)) (by decide +kernel) ⟨Nat.le_of_ble_eq_true rfl, Nat.le_of_ble_eq_true rfl⟩ hKK hPc hDc (ci := 0) (q0 := q9) rfl hq9 rfl hl.1 rfl (Nat.le_of_ble_eq_true rfl) dX2_copyFrom_44 ⟨Nat.zero_le _, Nat.zero_le _⟩) hP hD hS hA [] (by decide) rfl rfl pB_fst (fun H locs hP hD hS => ?_)
    have hP : va_P D vwCl ((cR cyI cyO aR aW aw af aG ao aB ab (((va_cpy w2 w 0 0 24, va_cpy f2 f 0 0 24)).1) (((va_cpy w2 w 0 0 24, va_cpy f2 f 0 0 24)).2) (((va_cpy od2 od 0 0 6, gcp g g2)).1) (((va_cpy od2 od 0 0 6, gcp g g2)).2) bc hr co ++ cR cyI cyO aR2 aW2 aw2 af2 aG2 ao2 aB2 ab2 w2 f2 od2 g2 bc2 hr2 co2) ++ pB LB (bcp B1 (ab i) (ab2 i))) H := hP
    have hD : va_D A ((cR cyI cyO aR aW aw af aG ao aB ab (((va_cpy w2 w 0 0 24, va_cpy f2 f 0 0 24)).1) (((va_cpy w2 w 0 0 24, va_cpy f2 f 0 0 24)).2) (((va_cpy od2 od 0 0 6, gcp g g2)).1) (((va_cpy od2 od 0 0 6, gcp g g2)).2) bc hr co ++ cR cyI cyO aR2 aW2 aw2 af2 aG2 ao2 aB2 ab2 w2 f2 od2 g2 bc2 hr2 co2) ++ pB LB (bcp B1 (ab i) (ab2 i))) := hD
    refine lv_iinc (v := nI (i + 1)) (lv' := [(2, .int (nI (i + 1))), (0, .ref aR), (1, .ref aR2)]) hx hb dX2_copyFrom_47 hl (k := 0) rfl (nI_1 i) (by decide) rfl (fun ls hl => ?_)
    refine lv_goto (tgt := 24) hx hb dX2_copyFrom_50 (by decide) ?_
    exact ih d ((i + 1), (bcp B1 (ab i) (ab2 i))) _ _ _ (by omega) ⟨(by omega), (hsp.trans (by first | with_reducible rfl | (simp only [bcL, h_1, if_true, if_false, reduceIte, not_true_eq_false, not_false_eq_true]; done) | (simp [bcL, h_1]; done))), (hB.cp _ _), hP, hD, hS, lv_sub hl [0, 1, 2] rfl⟩
set_option maxHeartbeats 4000000 in
set_option maxRecDepth 100000 in
theorem c_X2_letGoBy (l : Launch) (D : va_G) (cyI cyO cyL : ClassId) (aR : Nat) (aW : Nat) (aw : Nat) (af : Nat) (aG : Nat) (ao : Nat) (aB : Nat) (aT : Nat) (ac : Nat) (as_ : Nat) (ab : Nat → Nat) (w : Nat → Int32) (f : Nat → Int32) (od : Nat → Int32) (g : Nat → Int32) (bc : Int32) (hr : Int32) (co : Int32) (cd : Nat → Int32) (sw : Nat → Int32) (fd : Int32) (fn : Int32) (LB : List Nat) (B : Nat → Nat → Int32) (h_ : Nat) (n : Nat) (M_ : Nat) (hn : n ≤ 6) (hbc : bc = nI n) (hLB : ∀ k, k < 6 → ab k ∈ LB) (hok : OkQ M_ (w, f, od, g, B, co, hr)) (hM : M_ + 100 < 2 ^ 30) (hh : h_ ≤ 96) (hsw : ∀ k, sw k = -1 ∨ vp_in (sw k) 24) : cV l yX2_letGoBy wsX2_letGoBy ({ frames := 5, cells := 0, slots := 0, locals := 102 }) D cyI cyO cyL [.ref aR, .int (nI h_), .ref aT] ((cR cyI cyO aR aW aw af aG ao aB ab w f od g bc hr co ++ cT cyI aT ac as_ cd sw fd fn) ++ pB LB B) ((cR cyI cyO aR aW aw af aG ao aB ab ((hrsL cd sw fd fn ab n h_ (w, f, od, g, B, co, hr)).1) ((hrsL cd sw fd fn ab n h_ (w, f, od, g, B, co, hr)).2.1) ((hrsL cd sw fd fn ab n h_ (w, f, od, g, B, co, hr)).2.2.1) ((hrsL cd sw fd fn ab n h_ (w, f, od, g, B, co, hr)).2.2.2.1) bc ((hrsL cd sw fd fn ab n h_ (w, f, od, g, B, co, hr)).2.2.2.2.2.2) ((hrsL cd sw fd fn ab n h_ (w, f, od, g, B, co, hr)).2.2.2.2.2.1) ++ cT cyI aT ac as_ cd sw fd fn) ++ pB LB ((hrsL cd sw fd fn ab n h_ (w, f, od, g, B, co, hr)).2.2.2.2.1)) := by
  intro sz
  refine Met.ofW (cc := cX2_letGoBy) (maxL := 4) (ret := none) (by decide) rfl ?_
  intro p e s m args below meth c s₁ B9 hml hv
  obtain ⟨rfl, hsz, hP, hKK, hD0⟩ := hv
  have hx := B9.exec
  have hb := B9.bytes
  have hrt := B9.returns
  have hts := atoms_spec (ws := wsX2_letGoBy) B9.pre
  have hown : s.vm.findClass RX2 = some m.cls := findClass_of_methodNamed B9.named
  have hlocks := B9.notSynchronized
  have nw := fun {w : Cond} (h : w ∈ nw_all) => NW.use (args := ([.ref aR, .int (nI h_), .ref aT] : List Value).toArray) hKK.2 h
  subst hsz
  have hD := hD0.self (sz := s.heap.size)
  generalize hAe : va_A ((cR cyI cyO aR aW aw af aG ao aB ab w f od g bc hr co ++ cT cyI aT ac as_ cd sw fd fn) ++ pB LB B) s.heap.size = A at hD ⊢
  have hA : ∀ q : Nat, s.heap.size ≤ q → A q := fun q h => by rw [← hAe]; exact Or.inr h
  have hS : va_S A s.heap s.heap [] := va_S.rf
  have hl := lv_entry ([.ref aR, .int (nI h_), .ref aT]) (n := 4) (Nat.le_of_ble_eq_true rfl)
  rw [lg_entry_eq]
  generalize (lg_sl ([.ref aR, .int (nI h_), .ref aT]) ++ List.replicate (4 - (lg_sl ([.ref aR, .int (nI h_), .ref aT])).length) Slot.unset).toArray = ls at hl ⊢
  have hl : lv_has ls 4 [(0, .ref aR), (1, .int (nI h_)), (2, .ref aT)] := hl
  refine lv_iconst (v := 0) hx hb dX2_letGoBy_0 (by decide) ?_
  refine lv_istore_n (lv' := [(3, .int 0), (0, .ref aR), (1, .int (nI h_)), (2, .ref aT)]) hx hb dX2_letGoBy_1 rfl hl (by decide) rfl (fun ls hl => ?_)
  refine wloop (σ := (Nat) × (RS)) (fun d9 x9 H9 L9 s9 => ((x9.1) + d9 = h_) ∧ (hrsL cd sw fd fn ab n h_ (w, f, od, g, B, co, hr) = hrsL cd sw fd fn ab n d9 (x9.2)) ∧ (OkQ (M_ + (x9.1)) (x9.2)) ∧ (va_P D vwCl ((cR cyI cyO aR aW aw af aG ao aB ab (x9.2).1 (x9.2).2.1 (x9.2).2.2.1 (x9.2).2.2.2.1 bc (x9.2).2.2.2.2.2.2 (x9.2).2.2.2.2.2.1 ++ cT cyI aT ac as_ cd sw fd fn) ++ pB LB (x9.2).2.2.2.2.1) H9) ∧ (va_D A ((cR cyI cyO aR aW aw af aG ao aB ab (x9.2).1 (x9.2).2.1 (x9.2).2.2.1 (x9.2).2.2.2.1 bc (x9.2).2.2.2.2.2.2 (x9.2).2.2.2.2.2.1 ++ cT cyI aT ac as_ cd sw fd fn) ++ pB LB (x9.2).2.2.2.2.1)) ∧ (va_S A s.heap H9 L9) ∧ (lv_has s9 4 [(3, .int (nI (x9.1))), (0, .ref aR), (1, .int (nI h_)), (2, .ref aT)])) (fun d9 x9 H locs ls g9 ih => ?_) h_ (0, (w, f, od, g, B, co, hr)) _ _ _ ⟨(by omega), rfl, hok, hP, hD, hS, lv_sub hl [0, 1, 2, 3] rfl⟩
  obtain ⟨i, q⟩ := x9
  obtain ⟨hid, hsp, hq, hP, hD, hS, hl⟩ := g9
  obtain ⟨d, rfl⟩ : ∃ z, z = d9 := ⟨_, rfl⟩
  have hid : i + d = h_ := hid
  have hsp : hrsL cd sw fd fn ab n h_ (w, f, od, g, B, co, hr) = hrsL cd sw fd fn ab n d q := hsp
  have hq : OkQ (M_ + i) q := hq
  have hP : va_P D vwCl ((cR cyI cyO aR aW aw af aG ao aB ab q.1 q.2.1 q.2.2.1 q.2.2.2.1 bc q.2.2.2.2.2.2 q.2.2.2.2.2.1 ++ cT cyI aT ac as_ cd sw fd fn) ++ pB LB q.2.2.2.2.1) H := hP
  have hD : va_D A ((cR cyI cyO aR aW aw af aG ao aB ab q.1 q.2.1 q.2.2.1 q.2.2.2.1 bc q.2.2.2.2.2.2 q.2.2.2.2.2.1 ++ cT cyI aT ac as_ cd sw fd fn) ++ pB LB q.2.2.2.2.1) := hD
  have hl : lv_has ls 4 [(3, .int (nI i)), (0, .ref aR), (1, .int (nI h_)), (2, .ref aT)] := hl
  refine lv_iload_n hx hb dX2_letGoBy_2 rfl (lv_at hl 0 rfl) ?_
  refine lv_iload_n hx hb dX2_letGoBy_3 rfl (lv_at hl 2 rfl) ?_
  refine lv_icmp_ge (tgt := 18) hx hb dX2_letGoBy_4 (by decide) (fun h_1 => ?_) (fun h_1 => ?_)
  · skip
    obtain rfl : d = 0 := by have h9 := (nI_leI (a := h_) (b := i) (by omega) (by omega)).mp h_1; omega
    have hiN : i = h_ := by omega
    have e9 : hrsL cd sw fd fn ab n h_ (w, f, od, g, B, co, hr) = (q.1, q.2.1, q.2.2.1, q.2.2.2.1, q.2.2.2.2.1, q.2.2.2.2.2.1, q.2.2.2.2.2.2) := (hsp.trans rfl)
    exact end_v hx hb hrt hlocks (by rw [e9]; exact hP) hS dX2_letGoBy_18
  · skip
    have hlt : i < h_ := by have h9 := mt (nI_leI (a := h_) (b := i) (by omega) (by omega)).mpr h_1; omega
    obtain ⟨d, rfl⟩ : ∃ k, d = k + 1 := ⟨d - 1, by omega⟩
    refine lv_aload_n hx hb dX2_letGoBy_7 rfl (lv_at hl 1 rfl) ?_
    refine lv_aload_n hx hb dX2_letGoBy_8 rfl (lv_at hl 3 rfl) ?_
    have hPc := hP.part (cx := (cR cyI cyO aR aW aw af aG ao aB ab q.1 q.2.1 q.2.2.1 q.2.2.2.1 bc q.2.2.2.2.2.2 q.2.2.2.2.2.1 ++ cT cyI aT ac as_ cd sw fd fn)) [0, 1, 2, 3, 4, 5, 6, 7, 8, 9] rfl
    have hDc := hD.part (cx := (cR cyI cyO aR aW aw af aG ao aB ab q.1 q.2.1 q.2.2.1 q.2.2.2.1 bc q.2.2.2.2.2.2 q.2.2.2.2.2.1 ++ cT cyI aT ac as_ cd sw fd fn)) [0, 1, 2, 3, 4, 5, 6, 7, 8, 9] (by decide) rfl
    refine ret_vB (cx := (cR cyI cyO aR aW aw af aG ao aB ab q.1 q.2.1 q.2.2.1 q.2.2.2.1 bc q.2.2.2.2.2.2 q.2.2.2.2.2.1 ++ cT cyI aT ac as_ cd sw fd fn)) (cx' := (cR cyI cyO aR aW aw af aG ao aB ab ((hourS cd sw fd fn ab n (q.1) (q.2.1) (q.2.2.1) (q.2.2.2.1) (q.2.2.2.2.1) (q.2.2.2.2.2.1) (q.2.2.2.2.2.2)).1) ((hourS cd sw fd fn ab n (q.1) (q.2.1) (q.2.2.1) (q.2.2.2.1) (q.2.2.2.2.1) (q.2.2.2.2.2.1) (q.2.2.2.2.2.2)).2.1) ((hourS cd sw fd fn ab n (q.1) (q.2.1) (q.2.2.1) (q.2.2.2.1) (q.2.2.2.2.1) (q.2.2.2.2.2.1) (q.2.2.2.2.2.2)).2.2.1) ((hourS cd sw fd fn ab n (q.1) (q.2.1) (q.2.2.1) (q.2.2.2.1) (q.2.2.2.2.1) (q.2.2.2.2.2.1) (q.2.2.2.2.2.2)).2.2.2.1) bc ((hourS cd sw fd fn ab n (q.1) (q.2.1) (q.2.2.1) (q.2.2.2.1) (q.2.2.2.2.1) (q.2.2.2.2.2.1) (q.2.2.2.2.2.2)).2.2.2.2.2.2) ((hourS cd sw fd fn ab n (q.1) (q.2.1) (q.2.2.1) (q.2.2.2.1) (q.2.2.2.2.1) (q.2.2.2.2.2.1) (q.2.2.2.2.2.2)).2.2.2.2.2.1) ++ cT cyI aT ac as_ cd sw fd fn)) (pl' := pB LB ((hourS cd sw fd fn ab n (q.1) (q.2.1) (q.2.2.1) (q.2.2.2.1) (q.2.2.2.2.1) (q.2.2.2.2.2.1) (q.2.2.2.2.2.2)).2.2.2.2.1)) (run_V (q := (RX2, TX2, 6)) (n := 1) (As := [.ref aT]) (rest := []) ⟨hx, hb, hml, hown, hts⟩ (c_X2_letHourGoBy l D cyI cyO cyL aR aW aw af aG ao aB aT ac as_ ab q.1 q.2.1 q.2.2.1 q.2.2.2.1 bc q.2.2.2.2.2.2 q.2.2.2.2.2.1 cd sw fd fn LB q.2.2.2.2.1 n (by assumption) (by assumption) (by assumption) hq.1 (by assumption) _) ggX2_letGoBy_X2_letHourGoBy rfl rfl rfl (hts (.methodLink RX2 52 yX2_letHourGoBy) (List.mem_of_getElem? (i := 1) rfl)) (hts (.initialized RX2) (List.mem_of_getElem? (i := 4) rfl)) (hts (.instanceMethod yX2_letHourGoBy) (List.mem_of_getElem? (i := 2) rfl)) (hts (.selects RX2 yX2_letHourGoBy yX2_letHourGoBy) (List.mem_of_getElem? (i := 3) rfl)) (by decide +kernel) ⟨Nat.le_of_ble_eq_true rfl, Nat.le_of_ble_eq_true rfl⟩ hKK hPc hDc (ci := 2) (q0 := 0) rfl rfl rfl hl.1 rfl (Nat.le_of_ble_eq_true rfl) dX2_letGoBy_9 ⟨Nat.zero_le _, Nat.zero_le _⟩) hP hD hS hA [0, 1, 2, 3, 4, 5, 6, 7, 8, 9] (by decide) rfl rfl pB_fst (fun H locs hP hD hS => ?_)
    have hP : va_P D vwCl ((cR cyI cyO aR aW aw af aG ao aB ab ((hourS cd sw fd fn ab n (q.1) (q.2.1) (q.2.2.1) (q.2.2.2.1) (q.2.2.2.2.1) (q.2.2.2.2.2.1) (q.2.2.2.2.2.2)).1) ((hourS cd sw fd fn ab n (q.1) (q.2.1) (q.2.2.1) (q.2.2.2.1) (q.2.2.2.2.1) (q.2.2.2.2.2.1) (q.2.2.2.2.2.2)).2.1) ((hourS cd sw fd fn ab n (q.1) (q.2.1) (q.2.2.1) (q.2.2.2.1) (q.2.2.2.2.1) (q.2.2.2.2.2.1) (q.2.2.2.2.2.2)).2.2.1) ((hourS cd sw fd fn ab n (q.1) (q.2.1) (q.2.2.1) (q.2.2.2.1) (q.2.2.2.2.1) (q.2.2.2.2.2.1) (q.2.2.2.2.2.2)).2.2.2.1) bc ((hourS cd sw fd fn ab n (q.1) (q.2.1) (q.2.2.1) (q.2.2.2.1) (q.2.2.2.2.1) (q.2.2.2.2.2.1) (q.2.2.2.2.2.2)).2.2.2.2.2.2) ((hourS cd sw fd fn ab n (q.1) (q.2.1) (q.2.2.1) (q.2.2.2.1) (q.2.2.2.2.1) (q.2.2.2.2.2.1) (q.2.2.2.2.2.2)).2.2.2.2.2.1) ++ cT cyI aT ac as_ cd sw fd fn) ++ pB LB ((hourS cd sw fd fn ab n (q.1) (q.2.1) (q.2.2.1) (q.2.2.2.1) (q.2.2.2.2.1) (q.2.2.2.2.2.1) (q.2.2.2.2.2.2)).2.2.2.2.1)) H := hP
    have hD : va_D A ((cR cyI cyO aR aW aw af aG ao aB ab ((hourS cd sw fd fn ab n (q.1) (q.2.1) (q.2.2.1) (q.2.2.2.1) (q.2.2.2.2.1) (q.2.2.2.2.2.1) (q.2.2.2.2.2.2)).1) ((hourS cd sw fd fn ab n (q.1) (q.2.1) (q.2.2.1) (q.2.2.2.1) (q.2.2.2.2.1) (q.2.2.2.2.2.1) (q.2.2.2.2.2.2)).2.1) ((hourS cd sw fd fn ab n (q.1) (q.2.1) (q.2.2.1) (q.2.2.2.1) (q.2.2.2.2.1) (q.2.2.2.2.2.1) (q.2.2.2.2.2.2)).2.2.1) ((hourS cd sw fd fn ab n (q.1) (q.2.1) (q.2.2.1) (q.2.2.2.1) (q.2.2.2.2.1) (q.2.2.2.2.2.1) (q.2.2.2.2.2.2)).2.2.2.1) bc ((hourS cd sw fd fn ab n (q.1) (q.2.1) (q.2.2.1) (q.2.2.2.1) (q.2.2.2.2.1) (q.2.2.2.2.2.1) (q.2.2.2.2.2.2)).2.2.2.2.2.2) ((hourS cd sw fd fn ab n (q.1) (q.2.1) (q.2.2.1) (q.2.2.2.1) (q.2.2.2.2.1) (q.2.2.2.2.2.1) (q.2.2.2.2.2.2)).2.2.2.2.2.1) ++ cT cyI aT ac as_ cd sw fd fn) ++ pB LB ((hourS cd sw fd fn ab n (q.1) (q.2.1) (q.2.2.1) (q.2.2.2.1) (q.2.2.2.2.1) (q.2.2.2.2.2.1) (q.2.2.2.2.2.2)).2.2.2.2.1)) := hD
    refine lv_iinc (v := nI (i + 1)) (lv' := [(3, .int (nI (i + 1))), (0, .ref aR), (1, .int (nI h_)), (2, .ref aT)]) hx hb dX2_letGoBy_12 hl (k := 0) rfl (nI_1 i) (by decide) rfl (fun ls hl => ?_)
    refine lv_goto (tgt := 2) hx hb dX2_letGoBy_15 (by decide) ?_
    exact ih d ((i + 1), (hourT cd sw fd fn ab n q)) _ _ _ (by omega) ⟨(by omega), (hsp.trans rfl), (OkQ.hour (M := M_ + i) (by omega) hq), hP, hD, hS, lv_sub hl [0, 1, 2, 3] rfl⟩
end
