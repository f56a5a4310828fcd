section
-- ===== PART A: goes FIRST, ahead of the names: the tables' words, and 'selects' of the private methods out of them =====
/-- a private method of a class that the tables say can be made, by its rows of tables_1 -/
def lw_okq (q : MethodName × Nat) : Prop := (q.1.cls ≠ "java/lang/invoke/MethodHandle" ∧ q.1.cls ≠ "java/lang/invoke/VarHandle") ∧ Cond.instantiable q.1.cls q.2 ∈ tables_1 ∧ Cond.privateMethod q.1 ∈ tables_1 ∧ Cond.instanceMethod q.1 ∈ tables_1
theorem lw_p0 : lw_okq (⟨"RoundAsk", "refusalOfRow", "(IIII)I"⟩, 13) := ⟨⟨by decide +kernel, by decide +kernel⟩, List.mem_of_getElem? (i := 13) (by decide +kernel), List.mem_of_getElem? (i := 285) (by decide +kernel), List.mem_of_getElem? (i := 286) (by decide +kernel)⟩
theorem lw_p1 : lw_okq (⟨"RoundAsk", "faulty", "(I)I"⟩, 13) := ⟨⟨by decide +kernel, by decide +kernel⟩, List.mem_of_getElem? (i := 13) (by decide +kernel), List.mem_of_getElem? (i := 295) (by decide +kernel), List.mem_of_getElem? (i := 296) (by decide +kernel)⟩
theorem lw_p2 : lw_okq (⟨"RoundAsk$Told", "isSign", "(LRoundAsk$Sheet;C)Z"⟩, 11) := ⟨⟨by decide +kernel, by decide +kernel⟩, List.mem_of_getElem? (i := 23) (by decide +kernel), List.mem_of_getElem? (i := 307) (by decide +kernel), List.mem_of_getElem? (i := 308) (by decide +kernel)⟩
theorem lw_p3 : lw_okq (⟨"RoundAsk$Told", "areDishesRead", "(LRoundAsk$Sheet;)Z"⟩, 11) := ⟨⟨by decide +kernel, by decide +kernel⟩, List.mem_of_getElem? (i := 23) (by decide +kernel), List.mem_of_getElem? (i := 311) (by decide +kernel), List.mem_of_getElem? (i := 312) (by decide +kernel)⟩
theorem lw_p4 : lw_okq (⟨"RoundAsk$Told", "digit", "(LRoundAsk$Sheet;II)I"⟩, 11) := ⟨⟨by decide +kernel, by decide +kernel⟩, List.mem_of_getElem? (i := 23) (by decide +kernel), List.mem_of_getElem? (i := 315) (by decide +kernel), List.mem_of_getElem? (i := 316) (by decide +kernel)⟩
theorem lw_p5 : lw_okq (⟨"RoundAsk$Told", "areGuestsRead", "(LRoundAsk$Sheet;)Z"⟩, 11) := ⟨⟨by decide +kernel, by decide +kernel⟩, List.mem_of_getElem? (i := 23) (by decide +kernel), List.mem_of_getElem? (i := 319) (by decide +kernel), List.mem_of_getElem? (i := 320) (by decide +kernel)⟩
theorem lw_p6 : lw_okq (⟨"RoundAsk$Told", "isGuestRead", "(LRoundAsk$Sheet;I)Z"⟩, 11) := ⟨⟨by decide +kernel, by decide +kernel⟩, List.mem_of_getElem? (i := 23) (by decide +kernel), List.mem_of_getElem? (i := 323) (by decide +kernel), List.mem_of_getElem? (i := 324) (by decide +kernel)⟩
theorem lw_p7 : lw_okq (⟨"RoundAsk$Told", "kindOfLetter", "(LRoundAsk$Sheet;)I"⟩, 11) := ⟨⟨by decide +kernel, by decide +kernel⟩, List.mem_of_getElem? (i := 23) (by decide +kernel), List.mem_of_getElem? (i := 327) (by decide +kernel), List.mem_of_getElem? (i := 328) (by decide +kernel)⟩
theorem lw_p8 : lw_okq (⟨"RoundAsk$Told", "isWorthRead", "(LRoundAsk$Sheet;I)Z"⟩, 11) := ⟨⟨by decide +kernel, by decide +kernel⟩, List.mem_of_getElem? (i := 23) (by decide +kernel), List.mem_of_getElem? (i := 331) (by decide +kernel), List.mem_of_getElem? (i := 332) (by decide +kernel)⟩
theorem lw_p9 : lw_okq (⟨"RoundAsk", "unsettle", "()V"⟩, 13) := ⟨⟨by decide +kernel, by decide +kernel⟩, List.mem_of_getElem? (i := 13) (by decide +kernel), List.mem_of_getElem? (i := 353) (by decide +kernel), List.mem_of_getElem? (i := 354) (by decide +kernel)⟩
theorem lw_p10 : lw_okq (⟨"RoundAsk", "isDish", "(I)Z"⟩, 13) := ⟨⟨by decide +kernel, by decide +kernel⟩, List.mem_of_getElem? (i := 13) (by decide +kernel), List.mem_of_getElem? (i := 361) (by decide +kernel), List.mem_of_getElem? (i := 362) (by decide +kernel)⟩
theorem lw_p11 : lw_okq (⟨"RoundAsk", "isGuest", "(I)Z"⟩, 13) := ⟨⟨by decide +kernel, by decide +kernel⟩, List.mem_of_getElem? (i := 13) (by decide +kernel), List.mem_of_getElem? (i := 369) (by decide +kernel), List.mem_of_getElem? (i := 370) (by decide +kernel)⟩
theorem lw_p12 : lw_okq (⟨"RoundAsk", "isTable", "()Z"⟩, 13) := ⟨⟨by decide +kernel, by decide +kernel⟩, List.mem_of_getElem? (i := 13) (by decide +kernel), List.mem_of_getElem? (i := 401) (by decide +kernel), List.mem_of_getElem? (i := 402) (by decide +kernel)⟩
theorem lw_p13 : lw_okq (⟨"RoundAsk$Table", "ask", "(III)V"⟩, 13) := ⟨⟨by decide +kernel, by decide +kernel⟩, List.mem_of_getElem? (i := 87) (by decide +kernel), List.mem_of_getElem? (i := 421) (by decide +kernel), List.mem_of_getElem? (i := 422) (by decide +kernel)⟩
theorem lw_p14 : lw_okq (⟨"RoundAsk$Table", "mannerOf", "(I)I"⟩, 13) := ⟨⟨by decide +kernel, by decide +kernel⟩, List.mem_of_getElem? (i := 87) (by decide +kernel), List.mem_of_getElem? (i := 425) (by decide +kernel), List.mem_of_getElem? (i := 426) (by decide +kernel)⟩
theorem lw_p15 : lw_okq (⟨"RoundAsk$Table", "wish", "(II)I"⟩, 13) := ⟨⟨by decide +kernel, by decide +kernel⟩, List.mem_of_getElem? (i := 87) (by decide +kernel), List.mem_of_getElem? (i := 433) (by decide +kernel), List.mem_of_getElem? (i := 434) (by decide +kernel)⟩
def lw_privs_1 : List (MethodName × Nat) := [(⟨"RoundAsk", "refusalOfRow", "(IIII)I"⟩, 13), (⟨"RoundAsk", "faulty", "(I)I"⟩, 13), (⟨"RoundAsk$Told", "isSign", "(LRoundAsk$Sheet;C)Z"⟩, 11), (⟨"RoundAsk$Told", "areDishesRead", "(LRoundAsk$Sheet;)Z"⟩, 11), (⟨"RoundAsk$Told", "digit", "(LRoundAsk$Sheet;II)I"⟩, 11), (⟨"RoundAsk$Told", "areGuestsRead", "(LRoundAsk$Sheet;)Z"⟩, 11), (⟨"RoundAsk$Told", "isGuestRead", "(LRoundAsk$Sheet;I)Z"⟩, 11), (⟨"RoundAsk$Told", "kindOfLetter", "(LRoundAsk$Sheet;)I"⟩, 11), (⟨"RoundAsk$Told", "isWorthRead", "(LRoundAsk$Sheet;I)Z"⟩, 11), (⟨"RoundAsk", "unsettle", "()V"⟩, 13), (⟨"RoundAsk", "isDish", "(I)Z"⟩, 13), (⟨"RoundAsk", "isGuest", "(I)Z"⟩, 13), (⟨"RoundAsk", "isTable", "()Z"⟩, 13), (⟨"RoundAsk$Table", "ask", "(III)V"⟩, 13), (⟨"RoundAsk$Table", "mannerOf", "(I)I"⟩, 13), (⟨"RoundAsk$Table", "wish", "(II)I"⟩, 13)]
theorem lw_r1 : ∀ q ∈ lw_privs_1, lw_okq q := List.forall_mem_cons.mpr ⟨lw_p0, List.forall_mem_cons.mpr ⟨lw_p1, List.forall_mem_cons.mpr ⟨lw_p2, List.forall_mem_cons.mpr ⟨lw_p3, List.forall_mem_cons.mpr ⟨lw_p4, List.forall_mem_cons.mpr ⟨lw_p5, List.forall_mem_cons.mpr ⟨lw_p6, List.forall_mem_cons.mpr ⟨lw_p7, List.forall_mem_cons.mpr ⟨lw_p8, List.forall_mem_cons.mpr ⟨lw_p9, List.forall_mem_cons.mpr ⟨lw_p10, List.forall_mem_cons.mpr ⟨lw_p11, List.forall_mem_cons.mpr ⟨lw_p12, List.forall_mem_cons.mpr ⟨lw_p13, List.forall_mem_cons.mpr ⟨lw_p14, List.forall_mem_cons.mpr ⟨lw_p15, fun _ h => absurd h List.not_mem_nil⟩⟩⟩⟩⟩⟩⟩⟩⟩⟩⟩⟩⟩⟩⟩⟩
theorem lw_p16 : lw_okq (⟨"RoundAsk$Table", "sum", "([I)I"⟩, 13) := ⟨⟨by decide +kernel, by decide +kernel⟩, List.mem_of_getElem? (i := 87) (by decide +kernel), List.mem_of_getElem? (i := 441) (by decide +kernel), List.mem_of_getElem? (i := 442) (by decide +kernel)⟩
theorem lw_p17 : lw_okq (⟨"RoundAsk", "tryEvening", "()V"⟩, 13) := ⟨⟨by decide +kernel, by decide +kernel⟩, List.mem_of_getElem? (i := 13) (by decide +kernel), List.mem_of_getElem? (i := 454) (by decide +kernel), List.mem_of_getElem? (i := 455) (by decide +kernel)⟩
theorem lw_p18 : lw_okq (⟨"RoundAsk", "firstThatCannotBe", "([III)I"⟩, 13) := ⟨⟨by decide +kernel, by decide +kernel⟩, List.mem_of_getElem? (i := 13) (by decide +kernel), List.mem_of_getElem? (i := 485) (by decide +kernel), List.mem_of_getElem? (i := 486) (by decide +kernel)⟩
theorem lw_p19 : lw_okq (⟨"RoundAsk$Best", "weigh", "(LRoundAsk$Table;)V"⟩, 5) := ⟨⟨by decide +kernel, by decide +kernel⟩, List.mem_of_getElem? (i := 175) (by decide +kernel), List.mem_of_getElem? (i := 509) (by decide +kernel), List.mem_of_getElem? (i := 510) (by decide +kernel)⟩
theorem lw_p20 : lw_okq (⟨"RoundAsk$Best", "reckonGains", "(LRoundAsk$Told;I)V"⟩, 5) := ⟨⟨by decide +kernel, by decide +kernel⟩, List.mem_of_getElem? (i := 175) (by decide +kernel), List.mem_of_getElem? (i := 518) (by decide +kernel), List.mem_of_getElem? (i := 519) (by decide +kernel)⟩
theorem lw_p21 : lw_okq (⟨"RoundAsk$Best", "serve", "(I)V"⟩, 5) := ⟨⟨by decide +kernel, by decide +kernel⟩, List.mem_of_getElem? (i := 175) (by decide +kernel), List.mem_of_getElem? (i := 531) (by decide +kernel), List.mem_of_getElem? (i := 532) (by decide +kernel)⟩
theorem lw_p22 : lw_okq (⟨"RoundAsk$Seating", "weigh", "(II[I)V"⟩, 3) := ⟨⟨by decide +kernel, by decide +kernel⟩, List.mem_of_getElem? (i := 199) (by decide +kernel), List.mem_of_getElem? (i := 558) (by decide +kernel), List.mem_of_getElem? (i := 559) (by decide +kernel)⟩
theorem lw_p23 : lw_okq (⟨"RoundAsk", "walkOn", "()V"⟩, 13) := ⟨⟨by decide +kernel, by decide +kernel⟩, List.mem_of_getElem? (i := 13) (by decide +kernel), List.mem_of_getElem? (i := 578) (by decide +kernel), List.mem_of_getElem? (i := 579) (by decide +kernel)⟩
theorem lw_p24 : lw_okq (⟨"RoundAsk$Ever", "findRing", "(LRoundAsk$Table;)V"⟩, 4) := ⟨⟨by decide +kernel, by decide +kernel⟩, List.mem_of_getElem? (i := 153) (by decide +kernel), List.mem_of_getElem? (i := 586) (by decide +kernel), List.mem_of_getElem? (i := 587) (by decide +kernel)⟩
theorem lw_p25 : lw_okq (⟨"RoundAsk$Ever", "placeBefore", "(I)I"⟩, 4) := ⟨⟨by decide +kernel, by decide +kernel⟩, List.mem_of_getElem? (i := 153) (by decide +kernel), List.mem_of_getElem? (i := 595) (by decide +kernel), List.mem_of_getElem? (i := 596) (by decide +kernel)⟩
theorem lw_p26 : lw_okq (⟨"RoundAsk", "isGladderOtherwise", "(I)Z"⟩, 13) := ⟨⟨by decide +kernel, by decide +kernel⟩, List.mem_of_getElem? (i := 13) (by decide +kernel), List.mem_of_getElem? (i := 608) (by decide +kernel), List.mem_of_getElem? (i := 609) (by decide +kernel)⟩
theorem lw_p27 : lw_okq (⟨"RoundAsk", "firstWorse", "(II)I"⟩, 13) := ⟨⟨by decide +kernel, by decide +kernel⟩, List.mem_of_getElem? (i := 13) (by decide +kernel), List.mem_of_getElem? (i := 616) (by decide +kernel), List.mem_of_getElem? (i := 617) (by decide +kernel)⟩
theorem lw_p28 : lw_okq (⟨"RoundAsk", "payerTells", "(I)I"⟩, 13) := ⟨⟨by decide +kernel, by decide +kernel⟩, List.mem_of_getElem? (i := 13) (by decide +kernel), List.mem_of_getElem? (i := 677) (by decide +kernel), List.mem_of_getElem? (i := 678) (by decide +kernel)⟩
theorem lw_p29 : lw_okq (⟨"RoundAsk", "leaveNumber", "(I)V"⟩, 13) := ⟨⟨by decide +kernel, by decide +kernel⟩, List.mem_of_getElem? (i := 13) (by decide +kernel), List.mem_of_getElem? (i := 681) (by decide +kernel), List.mem_of_getElem? (i := 682) (by decide +kernel)⟩
theorem lw_p30 : lw_okq (⟨"RoundAsk", "cheapTells", "(I)I"⟩, 13) := ⟨⟨by decide +kernel, by decide +kernel⟩, List.mem_of_getElem? (i := 13) (by decide +kernel), List.mem_of_getElem? (i := 685) (by decide +kernel), List.mem_of_getElem? (i := 686) (by decide +kernel)⟩
theorem lw_p31 : lw_okq (⟨"RoundAsk", "kindTells", "(I)I"⟩, 13) := ⟨⟨by decide +kernel, by decide +kernel⟩, List.mem_of_getElem? (i := 13) (by decide +kernel), List.mem_of_getElem? (i := 689) (by decide +kernel), List.mem_of_getElem? (i := 690) (by decide +kernel)⟩
def lw_privs_2 : List (MethodName × Nat) := [(⟨"RoundAsk$Table", "sum", "([I)I"⟩, 13), (⟨"RoundAsk", "tryEvening", "()V"⟩, 13), (⟨"RoundAsk", "firstThatCannotBe", "([III)I"⟩, 13), (⟨"RoundAsk$Best", "weigh", "(LRoundAsk$Table;)V"⟩, 5), (⟨"RoundAsk$Best", "reckonGains", "(LRoundAsk$Told;I)V"⟩, 5), (⟨"RoundAsk$Best", "serve", "(I)V"⟩, 5), (⟨"RoundAsk$Seating", "weigh", "(II[I)V"⟩, 3), (⟨"RoundAsk", "walkOn", "()V"⟩, 13), (⟨"RoundAsk$Ever", "findRing", "(LRoundAsk$Table;)V"⟩, 4), (⟨"RoundAsk$Ever", "placeBefore", "(I)I"⟩, 4), (⟨"RoundAsk", "isGladderOtherwise", "(I)Z"⟩, 13), (⟨"RoundAsk", "firstWorse", "(II)I"⟩, 13), (⟨"RoundAsk", "payerTells", "(I)I"⟩, 13), (⟨"RoundAsk", "leaveNumber", "(I)V"⟩, 13), (⟨"RoundAsk", "cheapTells", "(I)I"⟩, 13), (⟨"RoundAsk", "kindTells", "(I)I"⟩, 13)]
theorem lw_r2 : ∀ q ∈ lw_privs_2, lw_okq q := List.forall_mem_cons.mpr ⟨lw_p16, List.forall_mem_cons.mpr ⟨lw_p17, List.forall_mem_cons.mpr ⟨lw_p18, List.forall_mem_cons.mpr ⟨lw_p19, List.forall_mem_cons.mpr ⟨lw_p20, List.forall_mem_cons.mpr ⟨lw_p21, List.forall_mem_cons.mpr ⟨lw_p22, List.forall_mem_cons.mpr ⟨lw_p23, List.forall_mem_cons.mpr ⟨lw_p24, List.forall_mem_cons.mpr ⟨lw_p25, List.forall_mem_cons.mpr ⟨lw_p26, List.forall_mem_cons.mpr ⟨lw_p27, List.forall_mem_cons.mpr ⟨lw_p28, List.forall_mem_cons.mpr ⟨lw_p29, List.forall_mem_cons.mpr ⟨lw_p30, List.forall_mem_cons.mpr ⟨lw_p31, fun _ h => absurd h List.not_mem_nil⟩⟩⟩⟩⟩⟩⟩⟩⟩⟩⟩⟩⟩⟩⟩⟩
theorem lw_p32 : lw_okq (⟨"RoundAskModel", "against", "(IIII)I"⟩, 51) := ⟨⟨by decide +kernel, by decide +kernel⟩, List.mem_of_getElem? (i := 713) (by decide +kernel), List.mem_of_getElem? (i := 886) (by decide +kernel), List.mem_of_getElem? (i := 887) (by decide +kernel)⟩
theorem lw_p33 : lw_okq (⟨"RoundAskModel", "fails", "(I)I"⟩, 51) := ⟨⟨by decide +kernel, by decide +kernel⟩, List.mem_of_getElem? (i := 713) (by decide +kernel), List.mem_of_getElem? (i := 890) (by decide +kernel), List.mem_of_getElem? (i := 891) (by decide +kernel)⟩
theorem lw_p34 : lw_okq (⟨"RoundAskModel", "readTable", "(I)Z"⟩, 51) := ⟨⟨by decide +kernel, by decide +kernel⟩, List.mem_of_getElem? (i := 713) (by decide +kernel), List.mem_of_getElem? (i := 894) (by decide +kernel), List.mem_of_getElem? (i := 895) (by decide +kernel)⟩
theorem lw_p35 : lw_okq (⟨"RoundAskModel", "isCode", "(II)Z"⟩, 51) := ⟨⟨by decide +kernel, by decide +kernel⟩, List.mem_of_getElem? (i := 713) (by decide +kernel), List.mem_of_getElem? (i := 898) (by decide +kernel), List.mem_of_getElem? (i := 899) (by decide +kernel)⟩
theorem lw_p36 : lw_okq (⟨"RoundAskModel", "digitAt", "(II)I"⟩, 51) := ⟨⟨by decide +kernel, by decide +kernel⟩, List.mem_of_getElem? (i := 713) (by decide +kernel), List.mem_of_getElem? (i := 902) (by decide +kernel), List.mem_of_getElem? (i := 903) (by decide +kernel)⟩
theorem lw_p37 : lw_okq (⟨"RoundAskModel", "readGuest", "(I)Z"⟩, 51) := ⟨⟨by decide +kernel, by decide +kernel⟩, List.mem_of_getElem? (i := 713) (by decide +kernel), List.mem_of_getElem? (i := 906) (by decide +kernel), List.mem_of_getElem? (i := 907) (by decide +kernel)⟩
theorem lw_p38 : lw_okq (⟨"RoundAskModel", "takeTable", "()V"⟩, 51) := ⟨⟨by decide +kernel, by decide +kernel⟩, List.mem_of_getElem? (i := 713) (by decide +kernel), List.mem_of_getElem? (i := 910) (by decide +kernel), List.mem_of_getElem? (i := 911) (by decide +kernel)⟩
theorem lw_p39 : lw_okq (⟨"RoundAskModel", "isDish", "(I)Z"⟩, 51) := ⟨⟨by decide +kernel, by decide +kernel⟩, List.mem_of_getElem? (i := 713) (by decide +kernel), List.mem_of_getElem? (i := 918) (by decide +kernel), List.mem_of_getElem? (i := 919) (by decide +kernel)⟩
theorem lw_p40 : lw_okq (⟨"RoundAskModel", "isGuest", "(I)Z"⟩, 51) := ⟨⟨by decide +kernel, by decide +kernel⟩, List.mem_of_getElem? (i := 713) (by decide +kernel), List.mem_of_getElem? (i := 926) (by decide +kernel), List.mem_of_getElem? (i := 927) (by decide +kernel)⟩
theorem lw_p41 : lw_okq (⟨"RoundAskModel", "seatOf", "(I)I"⟩, 51) := ⟨⟨by decide +kernel, by decide +kernel⟩, List.mem_of_getElem? (i := 713) (by decide +kernel), List.mem_of_getElem? (i := 930) (by decide +kernel), List.mem_of_getElem? (i := 931) (by decide +kernel)⟩
theorem lw_p42 : lw_okq (⟨"RoundAskModel", "isTable", "()Z"⟩, 51) := ⟨⟨by decide +kernel, by decide +kernel⟩, List.mem_of_getElem? (i := 713) (by decide +kernel), List.mem_of_getElem? (i := 950) (by decide +kernel), List.mem_of_getElem? (i := 951) (by decide +kernel)⟩
theorem lw_p43 : lw_okq (⟨"RoundAskModel", "layNow", "()V"⟩, 51) := ⟨⟨by decide +kernel, by decide +kernel⟩, List.mem_of_getElem? (i := 713) (by decide +kernel), List.mem_of_getElem? (i := 962) (by decide +kernel), List.mem_of_getElem? (i := 963) (by decide +kernel)⟩
theorem lw_p44 : lw_okq (⟨"RoundAskModel", "goNight", "()V"⟩, 51) := ⟨⟨by decide +kernel, by decide +kernel⟩, List.mem_of_getElem? (i := 713) (by decide +kernel), List.mem_of_getElem? (i := 966) (by decide +kernel), List.mem_of_getElem? (i := 967) (by decide +kernel)⟩
theorem lw_p45 : lw_okq (⟨"RoundAskModel", "refill", "()V"⟩, 51) := ⟨⟨by decide +kernel, by decide +kernel⟩, List.mem_of_getElem? (i := 713) (by decide +kernel), List.mem_of_getElem? (i := 970) (by decide +kernel), List.mem_of_getElem? (i := 971) (by decide +kernel)⟩
theorem lw_p46 : lw_okq (⟨"RoundAskModel", "goCourse", "(I)V"⟩, 51) := ⟨⟨by decide +kernel, by decide +kernel⟩, List.mem_of_getElem? (i := 713) (by decide +kernel), List.mem_of_getElem? (i := 974) (by decide +kernel), List.mem_of_getElem? (i := 975) (by decide +kernel)⟩
theorem lw_p47 : lw_okq (⟨"RoundAskModel", "asked", "(III)I"⟩, 51) := ⟨⟨by decide +kernel, by decide +kernel⟩, List.mem_of_getElem? (i := 713) (by decide +kernel), List.mem_of_getElem? (i := 978) (by decide +kernel), List.mem_of_getElem? (i := 979) (by decide +kernel)⟩
def lw_privs_3 : List (MethodName × Nat) := [(⟨"RoundAskModel", "against", "(IIII)I"⟩, 51), (⟨"RoundAskModel", "fails", "(I)I"⟩, 51), (⟨"RoundAskModel", "readTable", "(I)Z"⟩, 51), (⟨"RoundAskModel", "isCode", "(II)Z"⟩, 51), (⟨"RoundAskModel", "digitAt", "(II)I"⟩, 51), (⟨"RoundAskModel", "readGuest", "(I)Z"⟩, 51), (⟨"RoundAskModel", "takeTable", "()V"⟩, 51), (⟨"RoundAskModel", "isDish", "(I)Z"⟩, 51), (⟨"RoundAskModel", "isGuest", "(I)Z"⟩, 51), (⟨"RoundAskModel", "seatOf", "(I)I"⟩, 51), (⟨"RoundAskModel", "isTable", "()Z"⟩, 51), (⟨"RoundAskModel", "layNow", "()V"⟩, 51), (⟨"RoundAskModel", "goNight", "()V"⟩, 51), (⟨"RoundAskModel", "refill", "()V"⟩, 51), (⟨"RoundAskModel", "goCourse", "(I)V"⟩, 51), (⟨"RoundAskModel", "asked", "(III)I"⟩, 51)]
theorem lw_r3 : ∀ q ∈ lw_privs_3, lw_okq q := List.forall_mem_cons.mpr ⟨lw_p32, List.forall_mem_cons.mpr ⟨lw_p33, List.forall_mem_cons.mpr ⟨lw_p34, List.forall_mem_cons.mpr ⟨lw_p35, List.forall_mem_cons.mpr ⟨lw_p36, List.forall_mem_cons.mpr ⟨lw_p37, List.forall_mem_cons.mpr ⟨lw_p38, List.forall_mem_cons.mpr ⟨lw_p39, List.forall_mem_cons.mpr ⟨lw_p40, List.forall_mem_cons.mpr ⟨lw_p41, List.forall_mem_cons.mpr ⟨lw_p42, List.forall_mem_cons.mpr ⟨lw_p43, List.forall_mem_cons.mpr ⟨lw_p44, List.forall_mem_cons.mpr ⟨lw_p45, List.forall_mem_cons.mpr ⟨lw_p46, List.forall_mem_cons.mpr ⟨lw_p47, fun _ h => absurd h List.not_mem_nil⟩⟩⟩⟩⟩⟩⟩⟩⟩⟩⟩⟩⟩⟩⟩⟩
theorem lw_p48 : lw_okq (⟨"RoundAskModel", "howAsks", "(II)I"⟩, 51) := ⟨⟨by decide +kernel, by decide +kernel⟩, List.mem_of_getElem? (i := 713) (by decide +kernel), List.mem_of_getElem? (i := 982) (by decide +kernel), List.mem_of_getElem? (i := 983) (by decide +kernel)⟩
theorem lw_p49 : lw_okq (⟨"RoundAskModel", "truly", "(II)I"⟩, 51) := ⟨⟨by decide +kernel, by decide +kernel⟩, List.mem_of_getElem? (i := 713) (by decide +kernel), List.mem_of_getElem? (i := 986) (by decide +kernel), List.mem_of_getElem? (i := 987) (by decide +kernel)⟩
theorem lw_p50 : lw_okq (⟨"RoundAskModel", "isAhead", "(IIII)Z"⟩, 51) := ⟨⟨by decide +kernel, by decide +kernel⟩, List.mem_of_getElem? (i := 713) (by decide +kernel), List.mem_of_getElem? (i := 990) (by decide +kernel), List.mem_of_getElem? (i := 991) (by decide +kernel)⟩
theorem lw_p51 : lw_okq (⟨"RoundAskModel", "allGlad", "()I"⟩, 51) := ⟨⟨by decide +kernel, by decide +kernel⟩, List.mem_of_getElem? (i := 713) (by decide +kernel), List.mem_of_getElem? (i := 994) (by decide +kernel), List.mem_of_getElem? (i := 995) (by decide +kernel)⟩
theorem lw_p52 : lw_okq (⟨"RoundAskModel", "mayBe", "(II)Z"⟩, 51) := ⟨⟨by decide +kernel, by decide +kernel⟩, List.mem_of_getElem? (i := 713) (by decide +kernel), List.mem_of_getElem? (i := 1022) (by decide +kernel), List.mem_of_getElem? (i := 1023) (by decide +kernel)⟩
theorem lw_p53 : lw_okq (⟨"RoundAskModel", "findBest", "()V"⟩, 51) := ⟨⟨by decide +kernel, by decide +kernel⟩, List.mem_of_getElem? (i := 713) (by decide +kernel), List.mem_of_getElem? (i := 1030) (by decide +kernel), List.mem_of_getElem? (i := 1031) (by decide +kernel)⟩
theorem lw_p54 : lw_okq (⟨"RoundAskModel", "layWeights", "()V"⟩, 51) := ⟨⟨by decide +kernel, by decide +kernel⟩, List.mem_of_getElem? (i := 713) (by decide +kernel), List.mem_of_getElem? (i := 1034) (by decide +kernel), List.mem_of_getElem? (i := 1035) (by decide +kernel)⟩
theorem lw_p55 : lw_okq (⟨"RoundAskModel", "takes", "(II)V"⟩, 51) := ⟨⟨by decide +kernel, by decide +kernel⟩, List.mem_of_getElem? (i := 713) (by decide +kernel), List.mem_of_getElem? (i := 1038) (by decide +kernel), List.mem_of_getElem? (i := 1039) (by decide +kernel)⟩
theorem lw_p56 : lw_okq (⟨"RoundAskModel", "valueOf", "(II)I"⟩, 51) := ⟨⟨by decide +kernel, by decide +kernel⟩, List.mem_of_getElem? (i := 713) (by decide +kernel), List.mem_of_getElem? (i := 1042) (by decide +kernel), List.mem_of_getElem? (i := 1043) (by decide +kernel)⟩
theorem lw_p57 : lw_okq (⟨"RoundAskModel", "mayHave", "(II)Z"⟩, 51) := ⟨⟨by decide +kernel, by decide +kernel⟩, List.mem_of_getElem? (i := 713) (by decide +kernel), List.mem_of_getElem? (i := 1046) (by decide +kernel), List.mem_of_getElem? (i := 1047) (by decide +kernel)⟩
theorem lw_p58 : lw_okq (⟨"RoundAskModel", "keepBest", "(I)V"⟩, 51) := ⟨⟨by decide +kernel, by decide +kernel⟩, List.mem_of_getElem? (i := 713) (by decide +kernel), List.mem_of_getElem? (i := 1050) (by decide +kernel), List.mem_of_getElem? (i := 1051) (by decide +kernel)⟩
theorem lw_p59 : lw_okq (⟨"RoundAskModel", "findSeats", "(I)V"⟩, 51) := ⟨⟨by decide +kernel, by decide +kernel⟩, List.mem_of_getElem? (i := 713) (by decide +kernel), List.mem_of_getElem? (i := 1058) (by decide +kernel), List.mem_of_getElem? (i := 1059) (by decide +kernel)⟩
theorem lw_p60 : lw_okq (⟨"RoundAskModel", "isInPerm", "(II)Z"⟩, 51) := ⟨⟨by decide +kernel, by decide +kernel⟩, List.mem_of_getElem? (i := 713) (by decide +kernel), List.mem_of_getElem? (i := 1062) (by decide +kernel), List.mem_of_getElem? (i := 1063) (by decide +kernel)⟩
theorem lw_p61 : lw_okq (⟨"RoundAskModel", "trySeats", "(I)V"⟩, 51) := ⟨⟨by decide +kernel, by decide +kernel⟩, List.mem_of_getElem? (i := 713) (by decide +kernel), List.mem_of_getElem? (i := 1066) (by decide +kernel), List.mem_of_getElem? (i := 1067) (by decide +kernel)⟩
theorem lw_p62 : lw_okq (⟨"RoundAskModel", "leastGlad", "()I"⟩, 51) := ⟨⟨by decide +kernel, by decide +kernel⟩, List.mem_of_getElem? (i := 713) (by decide +kernel), List.mem_of_getElem? (i := 1070) (by decide +kernel), List.mem_of_getElem? (i := 1071) (by decide +kernel)⟩
theorem lw_p63 : lw_okq (⟨"RoundAskModel", "findRing", "()V"⟩, 51) := ⟨⟨by decide +kernel, by decide +kernel⟩, List.mem_of_getElem? (i := 713) (by decide +kernel), List.mem_of_getElem? (i := 1078) (by decide +kernel), List.mem_of_getElem? (i := 1079) (by decide +kernel)⟩
def lw_privs_4 : List (MethodName × Nat) := [(⟨"RoundAskModel", "howAsks", "(II)I"⟩, 51), (⟨"RoundAskModel", "truly", "(II)I"⟩, 51), (⟨"RoundAskModel", "isAhead", "(IIII)Z"⟩, 51), (⟨"RoundAskModel", "allGlad", "()I"⟩, 51), (⟨"RoundAskModel", "mayBe", "(II)Z"⟩, 51), (⟨"RoundAskModel", "findBest", "()V"⟩, 51), (⟨"RoundAskModel", "layWeights", "()V"⟩, 51), (⟨"RoundAskModel", "takes", "(II)V"⟩, 51), (⟨"RoundAskModel", "valueOf", "(II)I"⟩, 51), (⟨"RoundAskModel", "mayHave", "(II)Z"⟩, 51), (⟨"RoundAskModel", "keepBest", "(I)V"⟩, 51), (⟨"RoundAskModel", "findSeats", "(I)V"⟩, 51), (⟨"RoundAskModel", "isInPerm", "(II)Z"⟩, 51), (⟨"RoundAskModel", "trySeats", "(I)V"⟩, 51), (⟨"RoundAskModel", "leastGlad", "()I"⟩, 51), (⟨"RoundAskModel", "findRing", "()V"⟩, 51)]
theorem lw_r4 : ∀ q ∈ lw_privs_4, lw_okq q := List.forall_mem_cons.mpr ⟨lw_p48, List.forall_mem_cons.mpr ⟨lw_p49, List.forall_mem_cons.mpr ⟨lw_p50, List.forall_mem_cons.mpr ⟨lw_p51, List.forall_mem_cons.mpr ⟨lw_p52, List.forall_mem_cons.mpr ⟨lw_p53, List.forall_mem_cons.mpr ⟨lw_p54, List.forall_mem_cons.mpr ⟨lw_p55, List.forall_mem_cons.mpr ⟨lw_p56, List.forall_mem_cons.mpr ⟨lw_p57, List.forall_mem_cons.mpr ⟨lw_p58, List.forall_mem_cons.mpr ⟨lw_p59, List.forall_mem_cons.mpr ⟨lw_p60, List.forall_mem_cons.mpr ⟨lw_p61, List.forall_mem_cons.mpr ⟨lw_p62, List.forall_mem_cons.mpr ⟨lw_p63, fun _ h => absurd h List.not_mem_nil⟩⟩⟩⟩⟩⟩⟩⟩⟩⟩⟩⟩⟩⟩⟩⟩
theorem lw_p64 : lw_okq (⟨"RoundAskModel", "keepMemory", "(I)V"⟩, 51) := ⟨⟨by decide +kernel, by decide +kernel⟩, List.mem_of_getElem? (i := 713) (by decide +kernel), List.mem_of_getElem? (i := 1082) (by decide +kernel), List.mem_of_getElem? (i := 1083) (by decide +kernel)⟩
theorem lw_p65 : lw_okq (⟨"RoundAskModel", "sameAs", "(I)I"⟩, 51) := ⟨⟨by decide +kernel, by decide +kernel⟩, List.mem_of_getElem? (i := 713) (by decide +kernel), List.mem_of_getElem? (i := 1086) (by decide +kernel), List.mem_of_getElem? (i := 1087) (by decide +kernel)⟩
theorem lw_p66 : lw_okq (⟨"RoundAskModel", "areAlike", "(II)Z"⟩, 51) := ⟨⟨by decide +kernel, by decide +kernel⟩, List.mem_of_getElem? (i := 713) (by decide +kernel), List.mem_of_getElem? (i := 1090) (by decide +kernel), List.mem_of_getElem? (i := 1091) (by decide +kernel)⟩
theorem lw_p67 : lw_okq (⟨"RoundAskModel", "gladInRing", "(I)J"⟩, 51) := ⟨⟨by decide +kernel, by decide +kernel⟩, List.mem_of_getElem? (i := 713) (by decide +kernel), List.mem_of_getElem? (i := 1098) (by decide +kernel), List.mem_of_getElem? (i := 1099) (by decide +kernel)⟩
theorem lw_p68 : lw_okq (⟨"RoundAskModel", "wouldLeave", "(I)Z"⟩, 51) := ⟨⟨by decide +kernel, by decide +kernel⟩, List.mem_of_getElem? (i := 713) (by decide +kernel), List.mem_of_getElem? (i := 1106) (by decide +kernel), List.mem_of_getElem? (i := 1107) (by decide +kernel)⟩
theorem lw_p69 : lw_okq (⟨"RoundAskModel", "swapOut", "([I)V"⟩, 51) := ⟨⟨by decide +kernel, by decide +kernel⟩, List.mem_of_getElem? (i := 713) (by decide +kernel), List.mem_of_getElem? (i := 1114) (by decide +kernel), List.mem_of_getElem? (i := 1115) (by decide +kernel)⟩
theorem lw_p70 : lw_okq (⟨"RoundAskModel", "swapIn", "([I)V"⟩, 51) := ⟨⟨by decide +kernel, by decide +kernel⟩, List.mem_of_getElem? (i := 713) (by decide +kernel), List.mem_of_getElem? (i := 1118) (by decide +kernel), List.mem_of_getElem? (i := 1119) (by decide +kernel)⟩
theorem lw_p71 : lw_okq (⟨"RoundAskModel", "areSame", "()Z"⟩, 51) := ⟨⟨by decide +kernel, by decide +kernel⟩, List.mem_of_getElem? (i := 713) (by decide +kernel), List.mem_of_getElem? (i := 1122) (by decide +kernel), List.mem_of_getElem? (i := 1123) (by decide +kernel)⟩
theorem lw_p72 : lw_okq (⟨"RoundAskModel", "gladByLie", "(II)I"⟩, 51) := ⟨⟨by decide +kernel, by decide +kernel⟩, List.mem_of_getElem? (i := 713) (by decide +kernel), List.mem_of_getElem? (i := 1130) (by decide +kernel), List.mem_of_getElem? (i := 1131) (by decide +kernel)⟩
theorem lw_p73 : lw_okq (⟨"RoundAskModel", "lost", "(I)J"⟩, 51) := ⟨⟨by decide +kernel, by decide +kernel⟩, List.mem_of_getElem? (i := 713) (by decide +kernel), List.mem_of_getElem? (i := 1158) (by decide +kernel), List.mem_of_getElem? (i := 1159) (by decide +kernel)⟩
theorem lw_p74 : lw_okq (⟨"RoundAskModel", "begins", "(I)V"⟩, 51) := ⟨⟨by decide +kernel, by decide +kernel⟩, List.mem_of_getElem? (i := 713) (by decide +kernel), List.mem_of_getElem? (i := 1170) (by decide +kernel), List.mem_of_getElem? (i := 1171) (by decide +kernel)⟩
def lw_privs_5 : List (MethodName × Nat) := [(⟨"RoundAskModel", "keepMemory", "(I)V"⟩, 51), (⟨"RoundAskModel", "sameAs", "(I)I"⟩, 51), (⟨"RoundAskModel", "areAlike", "(II)Z"⟩, 51), (⟨"RoundAskModel", "gladInRing", "(I)J"⟩, 51), (⟨"RoundAskModel", "wouldLeave", "(I)Z"⟩, 51), (⟨"RoundAskModel", "swapOut", "([I)V"⟩, 51), (⟨"RoundAskModel", "swapIn", "([I)V"⟩, 51), (⟨"RoundAskModel", "areSame", "()Z"⟩, 51), (⟨"RoundAskModel", "gladByLie", "(II)I"⟩, 51), (⟨"RoundAskModel", "lost", "(I)J"⟩, 51), (⟨"RoundAskModel", "begins", "(I)V"⟩, 51)]
theorem lw_r5 : ∀ q ∈ lw_privs_5, lw_okq q := List.forall_mem_cons.mpr ⟨lw_p64, List.forall_mem_cons.mpr ⟨lw_p65, List.forall_mem_cons.mpr ⟨lw_p66, List.forall_mem_cons.mpr ⟨lw_p67, List.forall_mem_cons.mpr ⟨lw_p68, List.forall_mem_cons.mpr ⟨lw_p69, List.forall_mem_cons.mpr ⟨lw_p70, List.forall_mem_cons.mpr ⟨lw_p71, List.forall_mem_cons.mpr ⟨lw_p72, List.forall_mem_cons.mpr ⟨lw_p73, List.forall_mem_cons.mpr ⟨lw_p74, fun _ h => absurd h List.not_mem_nil⟩⟩⟩⟩⟩⟩⟩⟩⟩⟩⟩
def lw_privs : List (MethodName × Nat) := lw_privs_1 ++ (lw_privs_2 ++ (lw_privs_3 ++ (lw_privs_4 ++ (lw_privs_5))))
def lw_tbl : List Cond := k2_sels lw_privs ++ tables_1
theorem lw_privs_ok : ∀ q ∈ lw_privs, lw_okq q := by
  show ∀ q ∈ lw_privs_1 ++ (lw_privs_2 ++ (lw_privs_3 ++ (lw_privs_4 ++ (lw_privs_5)))), lw_okq q
  exact List.forall_mem_append.mpr ⟨lw_r1, List.forall_mem_append.mpr ⟨lw_r2, List.forall_mem_append.mpr ⟨lw_r3, List.forall_mem_append.mpr ⟨lw_r4, lw_r5⟩⟩⟩⟩
end
section
def RX0 : String := "RoundAsk$Best"
def TX0 : u_T := fun k => match k with
  | 0 => ("RoundAsk$Best", "known", "Z", false)
  | 1 => ("RoundAsk$Best", "most", "[J", true)
  | 2 => ("RoundAsk$Best", "gain", "[J", true)
  | 3 => ("RoundAsk$Best", "weight", "[I", true)
  | _ => ("RoundAsk$Best", "greatest", "J", false)
def tyX0 : Nat → FieldType := fun k => match k with
  | 0 => .boolean
  | 1 => .array .long
  | 2 => .array .long
  | 3 => .array .int
  | _ => .long
abbrev wsX00 : List Cond := u_ws RX0 TX0 5
theorem nmX0 : ∀ a, a < 5 → ∀ b, b < 5 → a ≠ b → (TX0 a).2.1 ≠ (TX0 b).2.1 := by decide +kernel
theorem tyX0_ok : ∀ k, k < 5 → parseFieldDescriptor (TX0 k).2.2.1 = some (tyX0 k) := by decide +kernel
abbrev cX0_init : ByteArray := prog_2_method_1_code
def yX0_init : MethodName := ⟨RX0, "<init>", "()V"⟩
abbrev cX0_find : ByteArray := prog_2_method_2_code
def yX0_find : MethodName := ⟨RX0, "find", "(LRoundAsk$Table;)V"⟩
abbrev cX0_gladInAll : ByteArray := prog_2_method_3_code
def yX0_gladInAll : MethodName := ⟨RX0, "gladInAll", "()I"⟩
abbrev cX0_dishOf : ByteArray := prog_2_method_4_code
def yX0_dishOf : MethodName := ⟨RX0, "dishOf", "(I)I"⟩
abbrev cX0_weigh : ByteArray := prog_2_method_5_code
def yX0_weigh : MethodName := ⟨RX0, "weigh", "(LRoundAsk$Table;)V"⟩
abbrev cX0_reckonGains : ByteArray := prog_2_method_6_code
def yX0_reckonGains : MethodName := ⟨RX0, "reckonGains", "(LRoundAsk$Told;I)V"⟩
abbrev cX0_serve : ByteArray := prog_2_method_7_code
def yX0_serve : MethodName := ⟨RX0, "serve", "(I)V"⟩
abbrev cX0_unit : ByteArray := prog_2_method_8_code
def yX0_unit : MethodName := ⟨RX0, "unit", "(I)J"⟩
def RX1 : String := "RoundAsk$Ever"
def TX1 : u_T := fun k => match k with
  | 0 => ("RoundAsk$Ever", "glad", "[I", true)
  | 1 => ("RoundAsk$Ever", "memories", "[I", true)
  | 2 => ("RoundAsk$Ever", "tail", "I", false)
  | _ => ("RoundAsk$Ever", "ring", "I", false)
def tyX1 : Nat → FieldType := fun k => match k with
  | 0 => .array .int
  | 1 => .array .int
  | 2 => .int
  | _ => .int
abbrev wsX10 : List Cond := u_ws RX1 TX1 4
theorem nmX1 : ∀ a, a < 4 → ∀ b, b < 4 → a ≠ b → (TX1 a).2.1 ≠ (TX1 b).2.1 := by decide +kernel
theorem tyX1_ok : ∀ k, k < 4 → parseFieldDescriptor (TX1 k).2.2.1 = some (tyX1 k) := by decide +kernel
abbrev cX1_init : ByteArray := prog_3_method_1_code
def yX1_init : MethodName := ⟨RX1, "<init>", "()V"⟩
abbrev cX1_walk : ByteArray := prog_3_method_2_code
def yX1_walk : MethodName := ⟨RX1, "walk", "(LRoundAsk$Table;)V"⟩
abbrev cX1_findRing : ByteArray := prog_3_method_3_code
def yX1_findRing : MethodName := ⟨RX1, "findRing", "(LRoundAsk$Table;)V"⟩
abbrev cX1_placeBefore : ByteArray := prog_3_method_4_code
def yX1_placeBefore : MethodName := ⟨RX1, "placeBefore", "(I)I"⟩
def RX2 : String := "RoundAsk$Seating"
def TX2 : u_T := fun k => match k with
  | 0 => ("RoundAsk$Seating", "known", "Z", false)
  | 1 => ("RoundAsk$Seating", "most", "[I", true)
  | _ => ("RoundAsk$Seating", "rows", "[[I", true)
def tyX2 : Nat → FieldType := fun k => match k with
  | 0 => .boolean
  | 1 => .array .int
  | _ => .array (.array .int)
abbrev wsX20 : List Cond := u_ws RX2 TX2 3
theorem nmX2 : ∀ a, a < 3 → ∀ b, b < 3 → a ≠ b → (TX2 a).2.1 ≠ (TX2 b).2.1 := by decide +kernel
theorem tyX2_ok : ∀ k, k < 3 → parseFieldDescriptor (TX2 k).2.2.1 = some (tyX2 k) := by decide +kernel
abbrev cX2_init : ByteArray := prog_4_method_1_code
def yX2_init : MethodName := ⟨RX2, "<init>", "()V"⟩
abbrev cX2_find : ByteArray := prog_4_method_2_code
def yX2_find : MethodName := ⟨RX2, "find", "(LRoundAsk$Table;)V"⟩
abbrev cX2_weigh : ByteArray := prog_4_method_3_code
def yX2_weigh : MethodName := ⟨RX2, "weigh", "(II[I)V"⟩
abbrev cX2_isNextRow : ByteArray := prog_4_method_4_code
def yX2_isNextRow : MethodName := ⟨RX2, "isNextRow", "([II)Z"⟩
abbrev cX2_exchange : ByteArray := prog_4_method_5_code
def yX2_exchange : MethodName := ⟨RX2, "exchange", "([III)V"⟩
def RX3 : String := "RoundAsk$Sheet"
def TX3 : u_T := fun k => match k with
  | 0 => ("RoundAsk$Sheet", "cells", "[I", true)
  | 1 => ("RoundAsk$Sheet", "there", "Z", false)
  | 2 => ("RoundAsk$Sheet", "sort", "I", false)
  | _ => ("RoundAsk$Sheet", "size", "I", false)
def tyX3 : Nat → FieldType := fun k => match k with
  | 0 => .array .int
  | 1 => .boolean
  | 2 => .int
  | _ => .int
abbrev wsX30 : List Cond := u_ws RX3 TX3 4
theorem nmX3 : ∀ a, a < 4 → ∀ b, b < 4 → a ≠ b → (TX3 a).2.1 ≠ (TX3 b).2.1 := by decide +kernel
theorem tyX3_ok : ∀ k, k < 4 → parseFieldDescriptor (TX3 k).2.2.1 = some (tyX3 k) := by decide +kernel
abbrev cX3_init : ByteArray := prog_5_method_1_code
def yX3_init : MethodName := ⟨RX3, "<init>", "()V"⟩
abbrev cX3_renew : ByteArray := prog_5_method_2_code
def yX3_renew : MethodName := ⟨RX3, "renew", "(II)V"⟩
abbrev cX3_holds : ByteArray := prog_5_method_3_code
def yX3_holds : MethodName := ⟨RX3, "holds", "(II)Z"⟩
abbrev cX3_write : ByteArray := prog_5_method_4_code
def yX3_write : MethodName := ⟨RX3, "write", "(II)V"⟩
def RX4 : String := "RoundAsk$Table"
def TX4 : u_T := fun k => match k with
  | 0 => ("RoundAsk$Table", "told", "LRoundAsk$Told;", false)
  | 1 => ("RoundAsk$Table", "order", "[I", true)
  | 2 => ("RoundAsk$Table", "kind", "[I", true)
  | 3 => ("RoundAsk$Table", "last", "[I", true)
  | 4 => ("RoundAsk$Table", "says", "[[I", true)
  | 5 => ("RoundAsk$Table", "seats", "I", false)
  | 6 => ("RoundAsk$Table", "step", "I", false)
  | 7 => ("RoundAsk$Table", "courses", "I", false)
  | 8 => ("RoundAsk$Table", "spiteful", "I", false)
  | 9 => ("RoundAsk$Table", "left", "[I", true)
  | 10 => ("RoundAsk$Table", "got", "[[I", true)
  | 11 => ("RoundAsk$Table", "glad", "[I", true)
  | _ => ("RoundAsk$Table", "paid", "[I", true)
def tyX4 : Nat → FieldType := fun k => match k with
  | 0 => .object "RoundAsk$Told"
  | 1 => .array .int
  | 2 => .array .int
  | 3 => .array .int
  | 4 => .array (.array .int)
  | 5 => .int
  | 6 => .int
  | 7 => .int
  | 8 => .int
  | 9 => .array .int
  | 10 => .array (.array .int)
  | 11 => .array .int
  | _ => .array .int
abbrev wsX40 : List Cond := u_ws RX4 TX4 13
theorem nmX4 : ∀ a, a < 13 → ∀ b, b < 13 → a ≠ b → (TX4 a).2.1 ≠ (TX4 b).2.1 := by decide +kernel
theorem tyX4_ok : ∀ k, k < 13 → parseFieldDescriptor (TX4 k).2.2.1 = some (tyX4 k) := by decide +kernel
abbrev cX4_init : ByteArray := prog_6_method_1_code
def yX4_init : MethodName := ⟨RX4, "<init>", "()V"⟩
abbrev cX4_begin : ByteArray := prog_6_method_2_code
def yX4_begin : MethodName := ⟨RX4, "begin", "(LRoundAsk$Told;)V"⟩
abbrev cX4_become : ByteArray := prog_6_method_3_code
def yX4_become : MethodName := ⟨RX4, "become", "(LRoundAsk$Table;)V"⟩
abbrev cX4_clearMemory : ByteArray := prog_6_method_4_code
def yX4_clearMemory : MethodName := ⟨RX4, "clearMemory", "()V"⟩
abbrev cX4_sayOnly : ByteArray := prog_6_method_5_code
def yX4_sayOnly : MethodName := ⟨RX4, "sayOnly", "(II)V"⟩
abbrev cX4_takeAway : ByteArray := prog_6_method_6_code
def yX4_takeAway : MethodName := ⟨RX4, "takeAway", "(I)V"⟩
abbrev cX4_seatOf : ByteArray := prog_6_method_7_code
def yX4_seatOf : MethodName := ⟨RX4, "seatOf", "(I)I"⟩
abbrev cX4_askedFor : ByteArray := prog_6_method_8_code
def yX4_askedFor : MethodName := ⟨RX4, "askedFor", "(I)I"⟩
abbrev cX4_layOut : ByteArray := prog_6_method_9_code
def yX4_layOut : MethodName := ⟨RX4, "layOut", "()V"⟩
abbrev cX4_isFor : ByteArray := prog_6_method_10_code
def yX4_isFor : MethodName := ⟨RX4, "isFor", "(II)Z"⟩
abbrev cX4_isAnyFor : ByteArray := prog_6_method_11_code
def yX4_isAnyFor : MethodName := ⟨RX4, "isAnyFor", "(I)Z"⟩
abbrev cX4_evening : ByteArray := prog_6_method_12_code
def yX4_evening : MethodName := ⟨RX4, "evening", "()V"⟩
abbrev cX4_ask : ByteArray := prog_6_method_13_code
def yX4_ask : MethodName := ⟨RX4, "ask", "(III)V"⟩
abbrev cX4_mannerOf : ByteArray := prog_6_method_14_code
def yX4_mannerOf : MethodName := ⟨RX4, "mannerOf", "(I)I"⟩
abbrev cX4_wish : ByteArray := prog_6_method_15_code
def yX4_wish : MethodName := ⟨RX4, "wish", "(II)I"⟩
abbrev cX4_memory : ByteArray := prog_6_method_16_code
def yX4_memory : MethodName := ⟨RX4, "memory", "()I"⟩
abbrev cX4_gladInAll : ByteArray := prog_6_method_17_code
def yX4_gladInAll : MethodName := ⟨RX4, "gladInAll", "()I"⟩
abbrev cX4_paidInAll : ByteArray := prog_6_method_18_code
def yX4_paidInAll : MethodName := ⟨RX4, "paidInAll", "()I"⟩
abbrev cX4_gladOfLeast : ByteArray := prog_6_method_19_code
def yX4_gladOfLeast : MethodName := ⟨RX4, "gladOfLeast", "()I"⟩
abbrev cX4_sum : ByteArray := prog_6_method_20_code
def yX4_sum : MethodName := ⟨RX4, "sum", "([I)I"⟩
def RX5 : String := "RoundAsk$Told"
def TX5 : u_T := fun k => match k with
  | 0 => ("RoundAsk$Told", "howMany", "[I", true)
  | 1 => ("RoundAsk$Told", "price", "[I", true)
  | 2 => ("RoundAsk$Told", "kind", "[I", true)
  | 3 => ("RoundAsk$Told", "kin", "[I", true)
  | 4 => ("RoundAsk$Told", "content", "[I", true)
  | 5 => ("RoundAsk$Told", "worth", "[[I", true)
  | 6 => ("RoundAsk$Told", "dishes", "I", false)
  | 7 => ("RoundAsk$Told", "guests", "I", false)
  | 8 => ("RoundAsk$Told", "begin", "I", false)
  | 9 => ("RoundAsk$Told", "end", "I", false)
  | _ => ("RoundAsk$Told", "at", "I", false)
def tyX5 : Nat → FieldType := fun k => match k with
  | 0 => .array .int
  | 1 => .array .int
  | 2 => .array .int
  | 3 => .array .int
  | 4 => .array .int
  | 5 => .array (.array .int)
  | 6 => .int
  | 7 => .int
  | 8 => .int
  | 9 => .int
  | _ => .int
abbrev wsX50 : List Cond := u_ws RX5 TX5 11
theorem nmX5 : ∀ a, a < 11 → ∀ b, b < 11 → a ≠ b → (TX5 a).2.1 ≠ (TX5 b).2.1 := by decide +kernel
theorem tyX5_ok : ∀ k, k < 11 → parseFieldDescriptor (TX5 k).2.2.1 = some (tyX5 k) := by decide +kernel
abbrev cX5_init : ByteArray := prog_7_method_1_code
def yX5_init : MethodName := ⟨RX5, "<init>", "()V"⟩
abbrev cX5_isRead : ByteArray := prog_7_method_2_code
def yX5_isRead : MethodName := ⟨RX5, "isRead", "(LRoundAsk$Sheet;II)Z"⟩
abbrev cX5_place : ByteArray := prog_7_method_3_code
def yX5_place : MethodName := ⟨RX5, "place", "()I"⟩
abbrev cX5_mayHave : ByteArray := prog_7_method_4_code
def yX5_mayHave : MethodName := ⟨RX5, "mayHave", "(II)Z"⟩
abbrev cX5_truly : ByteArray := prog_7_method_5_code
def yX5_truly : MethodName := ⟨RX5, "truly", "(II)I"⟩
abbrev cX5_areDishesRead : ByteArray := prog_7_method_6_code
def yX5_areDishesRead : MethodName := ⟨RX5, "areDishesRead", "(LRoundAsk$Sheet;)Z"⟩
abbrev cX5_areGuestsRead : ByteArray := prog_7_method_7_code
def yX5_areGuestsRead : MethodName := ⟨RX5, "areGuestsRead", "(LRoundAsk$Sheet;)Z"⟩
abbrev cX5_isGuestRead : ByteArray := prog_7_method_8_code
def yX5_isGuestRead : MethodName := ⟨RX5, "isGuestRead", "(LRoundAsk$Sheet;I)Z"⟩
abbrev cX5_kindOfLetter : ByteArray := prog_7_method_9_code
def yX5_kindOfLetter : MethodName := ⟨RX5, "kindOfLetter", "(LRoundAsk$Sheet;)I"⟩
abbrev cX5_isWorthRead : ByteArray := prog_7_method_10_code
def yX5_isWorthRead : MethodName := ⟨RX5, "isWorthRead", "(LRoundAsk$Sheet;I)Z"⟩
abbrev cX5_isSign : ByteArray := prog_7_method_11_code
def yX5_isSign : MethodName := ⟨RX5, "isSign", "(LRoundAsk$Sheet;C)Z"⟩
abbrev cX5_digit : ByteArray := prog_7_method_12_code
def yX5_digit : MethodName := ⟨RX5, "digit", "(LRoundAsk$Sheet;II)I"⟩
def RX6 : String := "RoundAsk"
def TX6 : u_T := fun k => match k with
  | 0 => ("RoundAsk", "sheets", "[LRoundAsk$Sheet;", true)
  | 1 => ("RoundAsk", "told", "LRoundAsk$Told;", false)
  | 2 => ("RoundAsk", "draft", "LRoundAsk$Told;", false)
  | 3 => ("RoundAsk", "now", "LRoundAsk$Table;", true)
  | 4 => ("RoundAsk", "trial", "LRoundAsk$Table;", true)
  | 5 => ("RoundAsk", "twin", "LRoundAsk$Table;", true)
  | 6 => ("RoundAsk", "ever", "LRoundAsk$Ever;", true)
  | 7 => ("RoundAsk", "otherwise", "LRoundAsk$Ever;", true)
  | 8 => ("RoundAsk", "best", "LRoundAsk$Best;", true)
  | 9 => ("RoundAsk", "seating", "LRoundAsk$Seating;", true)
  | 10 => ("RoundAsk", "evenings", "I", false)
  | 11 => ("RoundAsk", "traced", "I", false)
  | _ => ("RoundAsk", "lastFault", "I", false)
def tyX6 : Nat → FieldType := fun k => match k with
  | 0 => .array (.object "RoundAsk$Sheet")
  | 1 => .object "RoundAsk$Told"
  | 2 => .object "RoundAsk$Told"
  | 3 => .object "RoundAsk$Table"
  | 4 => .object "RoundAsk$Table"
  | 5 => .object "RoundAsk$Table"
  | 6 => .object "RoundAsk$Ever"
  | 7 => .object "RoundAsk$Ever"
  | 8 => .object "RoundAsk$Best"
  | 9 => .object "RoundAsk$Seating"
  | 10 => .int
  | 11 => .int
  | _ => .int
abbrev wsX60 : List Cond := u_ws RX6 TX6 13
theorem nmX6 : ∀ a, a < 13 → ∀ b, b < 13 → a ≠ b → (TX6 a).2.1 ≠ (TX6 b).2.1 := by decide +kernel
theorem tyX6_ok : ∀ k, k < 13 → parseFieldDescriptor (TX6 k).2.2.1 = some (tyX6 k) := by decide +kernel
abbrev cX6_init : ByteArray := prog_1_method_1_code
def yX6_init : MethodName := ⟨RX6, "<init>", "()V"⟩
abbrev cX6_table : ByteArray := prog_1_method_2_code
def yX6_table : MethodName := ⟨RX6, "table", "(IIII)I"⟩
abbrev cX6_ofDish : ByteArray := prog_1_method_3_code
def yX6_ofDish : MethodName := ⟨RX6, "ofDish", "(II)I"⟩
abbrev cX6_ofGuest : ByteArray := prog_1_method_4_code
def yX6_ofGuest : MethodName := ⟨RX6, "ofGuest", "(II)I"⟩
abbrev cX6_worth : ByteArray := prog_1_method_5_code
def yX6_worth : MethodName := ⟨RX6, "worth", "(IIZ)I"⟩
abbrev cX6_say : ByteArray := prog_1_method_6_code
def yX6_say : MethodName := ⟨RX6, "say", "(III)I"⟩
abbrev cX6_swap : ByteArray := prog_1_method_7_code
def yX6_swap : MethodName := ⟨RX6, "swap", "(II)I"⟩
abbrev cX6_step : ByteArray := prog_1_method_8_code
def yX6_step : MethodName := ⟨RX6, "step", "(I)I"⟩
abbrev cX6_courses : ByteArray := prog_1_method_9_code
def yX6_courses : MethodName := ⟨RX6, "courses", "(I)I"⟩
abbrev cX6_dine : ByteArray := prog_1_method_10_code
def yX6_dine : MethodName := ⟨RX6, "dine", "()I"⟩
abbrev cX6_forget : ByteArray := prog_1_method_11_code
def yX6_forget : MethodName := ⟨RX6, "forget", "()I"⟩
abbrev cX6_gets : ByteArray := prog_1_method_12_code
def yX6_gets : MethodName := ⟨RX6, "gets", "(II)I"⟩
abbrev cX6_glad : ByteArray := prog_1_method_13_code
def yX6_glad : MethodName := ⟨RX6, "glad", "(I)I"⟩
abbrev cX6_pays : ByteArray := prog_1_method_14_code
def yX6_pays : MethodName := ⟨RX6, "pays", "(IZI)J"⟩
abbrev cX6_judge : ByteArray := prog_1_method_15_code
def yX6_judge : MethodName := ⟨RX6, "judge", "(IIII)I"⟩
abbrev cX6_best : ByteArray := prog_1_method_16_code
def yX6_best : MethodName := ⟨RX6, "best", "(I)I"⟩
abbrev cX6_seats : ByteArray := prog_1_method_17_code
def yX6_seats : MethodName := ⟨RX6, "seats", "(II)I"⟩
abbrev cX6_ever : ByteArray := prog_1_method_18_code
def yX6_ever : MethodName := ⟨RX6, "ever", "(I)I"⟩
abbrev cX6_mean : ByteArray := prog_1_method_19_code
def yX6_mean : MethodName := ⟨RX6, "mean", "(II)J"⟩
abbrev cX6_leaves : ByteArray := prog_1_method_20_code
def yX6_leaves : MethodName := ⟨RX6, "leaves", "()I"⟩
abbrev cX6_spite : ByteArray := prog_1_method_21_code
def yX6_spite : MethodName := ⟨RX6, "spite", "(II)I"⟩
abbrev cX6_lies : ByteArray := prog_1_method_22_code
def yX6_lies : MethodName := ⟨RX6, "lies", "(II)I"⟩
abbrev cX6_chair : ByteArray := prog_1_method_23_code
def yX6_chair : MethodName := ⟨RX6, "chair", "(I)J"⟩
abbrev cX6_law : ByteArray := prog_1_method_24_code
def yX6_law : MethodName := ⟨RX6, "law", "(I)I"⟩
abbrev cX6_sheet : ByteArray := prog_1_method_25_code
def yX6_sheet : MethodName := ⟨RX6, "sheet", "(III)I"⟩
abbrev cX6_lose : ByteArray := prog_1_method_26_code
def yX6_lose : MethodName := ⟨RX6, "lose", "(I)I"⟩
abbrev cX6_put : ByteArray := prog_1_method_27_code
def yX6_put : MethodName := ⟨RX6, "put", "(III)I"⟩
abbrev cX6_cell : ByteArray := prog_1_method_28_code
def yX6_cell : MethodName := ⟨RX6, "cell", "(III)J"⟩
abbrev cX6_copy : ByteArray := prog_1_method_29_code
def yX6_copy : MethodName := ⟨RX6, "copy", "(IIIII)I"⟩
abbrev cX6_tell : ByteArray := prog_1_method_30_code
def yX6_tell : MethodName := ⟨RX6, "tell", "(I)I"⟩
abbrev cX6_greet : ByteArray := prog_1_method_31_code
def yX6_greet : MethodName := ⟨RX6, "greet", "(I)I"⟩
abbrev cX6_as : ByteArray := prog_1_method_32_code
def yX6_as : MethodName := ⟨RX6, "as", "(II)I"⟩
abbrev cX6_trace : ByteArray := prog_1_method_33_code
def yX6_trace : MethodName := ⟨RX6, "trace", "()I"⟩
abbrev cX6_fault : ByteArray := prog_1_method_34_code
def yX6_fault : MethodName := ⟨RX6, "fault", "()I"⟩
abbrev cX6_many : ByteArray := prog_1_method_35_code
def yX6_many : MethodName := ⟨RX6, "many", "(I)I"⟩
abbrev cX6_isTable : ByteArray := prog_1_method_36_code
def yX6_isTable : MethodName := ⟨RX6, "isTable", "()Z"⟩
abbrev cX6_isGuest : ByteArray := prog_1_method_37_code
def yX6_isGuest : MethodName := ⟨RX6, "isGuest", "(I)Z"⟩
abbrev cX6_isDish : ByteArray := prog_1_method_38_code
def yX6_isDish : MethodName := ⟨RX6, "isDish", "(I)Z"⟩
abbrev cX6_isSheet : ByteArray := prog_1_method_39_code
def yX6_isSheet : MethodName := ⟨RX6, "isSheet", "(I)Z"⟩
abbrev cX6_isSort : ByteArray := prog_1_method_40_code
def yX6_isSort : MethodName := ⟨RX6, "isSort", "(I)Z"⟩
abbrev cX6_isOneOfTwo : ByteArray := prog_1_method_41_code
def yX6_isOneOfTwo : MethodName := ⟨RX6, "isOneOfTwo", "(I)Z"⟩
abbrev cX6_faulty : ByteArray := prog_1_method_42_code
def yX6_faulty : MethodName := ⟨RX6, "faulty", "(I)I"⟩
abbrev cX6_refusalOfRow : ByteArray := prog_1_method_43_code
def yX6_refusalOfRow : MethodName := ⟨RX6, "refusalOfRow", "(IIII)I"⟩
abbrev cX6_unsettle : ByteArray := prog_1_method_44_code
def yX6_unsettle : MethodName := ⟨RX6, "unsettle", "()V"⟩
abbrev cX6_tryEvening : ByteArray := prog_1_method_45_code
def yX6_tryEvening : MethodName := ⟨RX6, "tryEvening", "()V"⟩
abbrev cX6_walkOn : ByteArray := prog_1_method_46_code
def yX6_walkOn : MethodName := ⟨RX6, "walkOn", "()V"⟩
abbrev cX6_isGladderOtherwise : ByteArray := prog_1_method_47_code
def yX6_isGladderOtherwise : MethodName := ⟨RX6, "isGladderOtherwise", "(I)Z"⟩
abbrev cX6_firstWorse : ByteArray := prog_1_method_48_code
def yX6_firstWorse : MethodName := ⟨RX6, "firstWorse", "(II)I"⟩
abbrev cX6_firstThatCannotBe : ByteArray := prog_1_method_49_code
def yX6_firstThatCannotBe : MethodName := ⟨RX6, "firstThatCannotBe", "([III)I"⟩
abbrev cX6_share : ByteArray := prog_1_method_50_code
def yX6_share : MethodName := ⟨RX6, "share", "(III)J"⟩
abbrev cX6_leaveNumber : ByteArray := prog_1_method_51_code
def yX6_leaveNumber : MethodName := ⟨RX6, "leaveNumber", "(I)V"⟩
abbrev cX6_kindTells : ByteArray := prog_1_method_52_code
def yX6_kindTells : MethodName := ⟨RX6, "kindTells", "(I)I"⟩
abbrev cX6_cheapTells : ByteArray := prog_1_method_53_code
def yX6_cheapTells : MethodName := ⟨RX6, "cheapTells", "(I)I"⟩
abbrev cX6_payerTells : ByteArray := prog_1_method_54_code
def yX6_payerTells : MethodName := ⟨RX6, "payerTells", "(I)I"⟩
def RX7 : String := "RoundAskModel"
def TX7 : u_T := fun k => match k with
  | 0 => ("RoundAskModel", "fault", "I", false)
  | 1 => ("RoundAskModel", "trace", "I", false)
  | 2 => ("RoundAskModel", "sorts", "[I", true)
  | 3 => ("RoundAskModel", "sheetLong", "[I", true)
  | 4 => ("RoundAskModel", "cells", "[I", true)
  | 5 => ("RoundAskModel", "guests", "I", false)
  | 6 => ("RoundAskModel", "dishes", "I", false)
  | 7 => ("RoundAskModel", "howMany", "[I", true)
  | 8 => ("RoundAskModel", "price", "[I", true)
  | 9 => ("RoundAskModel", "kind", "[I", true)
  | 10 => ("RoundAskModel", "kin", "[I", true)
  | 11 => ("RoundAskModel", "content", "[I", true)
  | 12 => ("RoundAskModel", "worth", "[I", true)
  | 13 => ("RoundAskModel", "said", "[I", true)
  | 14 => ("RoundAskModel", "sits", "[I", true)
  | 15 => ("RoundAskModel", "last", "[I", true)
  | 16 => ("RoundAskModel", "step", "I", false)
  | 17 => ("RoundAskModel", "courses", "I", false)
  | 18 => ("RoundAskModel", "nights", "I", false)
  | 19 => ("RoundAskModel", "at", "I", false)
  | 20 => ("RoundAskModel", "readGuests", "I", false)
  | 21 => ("RoundAskModel", "readDishes", "I", false)
  | 22 => ("RoundAskModel", "readMany", "[I", true)
  | 23 => ("RoundAskModel", "readPrice", "[I", true)
  | 24 => ("RoundAskModel", "readKind", "[I", true)
  | 25 => ("RoundAskModel", "readKin", "[I", true)
  | 26 => ("RoundAskModel", "readContent", "[I", true)
  | 27 => ("RoundAskModel", "readWorth", "[I", true)
  | 28 => ("RoundAskModel", "laidSeats", "I", false)
  | 29 => ("RoundAskModel", "laidSits", "[I", true)
  | 30 => ("RoundAskModel", "laidStep", "I", false)
  | 31 => ("RoundAskModel", "held", "[I", true)
  | 32 => ("RoundAskModel", "laidKind", "[I", true)
  | 33 => ("RoundAskModel", "spiting", "I", false)
  | 34 => ("RoundAskModel", "got", "[I", true)
  | 35 => ("RoundAskModel", "glad", "[I", true)
  | 36 => ("RoundAskModel", "paid", "[I", true)
  | 37 => ("RoundAskModel", "left", "[I", true)
  | 38 => ("RoundAskModel", "weight", "[I", true)
  | 39 => ("RoundAskModel", "tried", "[I", true)
  | 40 => ("RoundAskModel", "bestRow", "[I", true)
  | 41 => ("RoundAskModel", "mostFrom", "[I", true)
  | 42 => ("RoundAskModel", "bestSum", "I", false)
  | 43 => ("RoundAskModel", "perm", "[I", true)
  | 44 => ("RoundAskModel", "memories", "[I", true)
  | 45 => ("RoundAskModel", "tail", "I", false)
  | 46 => ("RoundAskModel", "ring", "I", false)
  | 47 => ("RoundAskModel", "heldWithout", "[I", true)
  | 48 => ("RoundAskModel", "heldWith", "[I", true)
  | 49 => ("RoundAskModel", "gotWithout", "[I", true)
  | _ => ("RoundAskModel", "keptSaid", "[I", true)
def tyX7 : Nat → FieldType := fun k => match k with
  | 0 => .int
  | 1 => .int
  | 2 => .array .int
  | 3 => .array .int
  | 4 => .array .int
  | 5 => .int
  | 6 => .int
  | 7 => .array .int
  | 8 => .array .int
  | 9 => .array .int
  | 10 => .array .int
  | 11 => .array .int
  | 12 => .array .int
  | 13 => .array .int
  | 14 => .array .int
  | 15 => .array .int
  | 16 => .int
  | 17 => .int
  | 18 => .int
  | 19 => .int
  | 20 => .int
  | 21 => .int
  | 22 => .array .int
  | 23 => .array .int
  | 24 => .array .int
  | 25 => .array .int
  | 26 => .array .int
  | 27 => .array .int
  | 28 => .int
  | 29 => .array .int
  | 30 => .int
  | 31 => .array .int
  | 32 => .array .int
  | 33 => .int
  | 34 => .array .int
  | 35 => .array .int
  | 36 => .array .int
  | 37 => .array .int
  | 38 => .array .int
  | 39 => .array .int
  | 40 => .array .int
  | 41 => .array .int
  | 42 => .int
  | 43 => .array .int
  | 44 => .array .int
  | 45 => .int
  | 46 => .int
  | 47 => .array .int
  | 48 => .array .int
  | 49 => .array .int
  | _ => .array .int
abbrev wsX70 : List Cond := u_ws RX7 TX7 51
theorem nmX7 : ∀ a, a < 51 → ∀ b, b < 51 → a ≠ b → (TX7 a).2.1 ≠ (TX7 b).2.1 := by decide +kernel
theorem tyX7_ok : ∀ k, k < 51 → parseFieldDescriptor (TX7 k).2.2.1 = some (tyX7 k) := by decide +kernel
abbrev cX7_init : ByteArray := prog_9_method_1_code
def yX7_init : MethodName := ⟨RX7, "<init>", "()V"⟩
abbrev cX7_fails : ByteArray := prog_9_method_3_code
def yX7_fails : MethodName := ⟨RX7, "fails", "(I)I"⟩
abbrev cX7_lost : ByteArray := prog_9_method_4_code
def yX7_lost : MethodName := ⟨RX7, "lost", "(I)J"⟩
abbrev cX7_within : ByteArray := prog_9_method_5_code
def yX7_within : MethodName := ⟨RX7, "within", "(III)Z"⟩
abbrev cX7_share : ByteArray := prog_9_method_6_code
def yX7_share : MethodName := ⟨RX7, "share", "(JJI)J"⟩
abbrev cX7_isSheet : ByteArray := prog_9_method_7_code
def yX7_isSheet : MethodName := ⟨RX7, "isSheet", "(I)Z"⟩
abbrev cX7_isSort : ByteArray := prog_9_method_8_code
def yX7_isSort : MethodName := ⟨RX7, "isSort", "(I)Z"⟩
abbrev cX7_against : ByteArray := prog_9_method_9_code
def yX7_against : MethodName := ⟨RX7, "against", "(IIII)I"⟩
abbrev cX7_isGuest : ByteArray := prog_9_method_10_code
def yX7_isGuest : MethodName := ⟨RX7, "isGuest", "(I)Z"⟩
abbrev cX7_isDish : ByteArray := prog_9_method_11_code
def yX7_isDish : MethodName := ⟨RX7, "isDish", "(I)Z"⟩
abbrev cX7_isTable : ByteArray := prog_9_method_12_code
def yX7_isTable : MethodName := ⟨RX7, "isTable", "()Z"⟩
abbrev cX7_digitAt : ByteArray := prog_9_method_13_code
def yX7_digitAt : MethodName := ⟨RX7, "digitAt", "(II)I"⟩
abbrev cX7_isCode : ByteArray := prog_9_method_14_code
def yX7_isCode : MethodName := ⟨RX7, "isCode", "(II)Z"⟩
abbrev cX7_table : ByteArray := prog_9_method_15_code
def yX7_table : MethodName := ⟨RX7, "table", "(IIII)I"⟩
abbrev cX7_takeTable : ByteArray := prog_9_method_16_code
def yX7_takeTable : MethodName := ⟨RX7, "takeTable", "()V"⟩
abbrev cX7_readTable : ByteArray := prog_9_method_17_code
def yX7_readTable : MethodName := ⟨RX7, "readTable", "(I)Z"⟩
abbrev cX7_readGuest : ByteArray := prog_9_method_18_code
def yX7_readGuest : MethodName := ⟨RX7, "readGuest", "(I)Z"⟩
abbrev cX7_ofDish : ByteArray := prog_9_method_19_code
def yX7_ofDish : MethodName := ⟨RX7, "ofDish", "(II)I"⟩
abbrev cX7_seatOf : ByteArray := prog_9_method_20_code
def yX7_seatOf : MethodName := ⟨RX7, "seatOf", "(I)I"⟩
abbrev cX7_ofGuest : ByteArray := prog_9_method_21_code
def yX7_ofGuest : MethodName := ⟨RX7, "ofGuest", "(II)I"⟩
abbrev cX7_worth : ByteArray := prog_9_method_22_code
def yX7_worth : MethodName := ⟨RX7, "worth", "(IIZ)I"⟩
abbrev cX7_say : ByteArray := prog_9_method_23_code
def yX7_say : MethodName := ⟨RX7, "say", "(III)I"⟩
abbrev cX7_swap : ByteArray := prog_9_method_24_code
def yX7_swap : MethodName := ⟨RX7, "swap", "(II)I"⟩
abbrev cX7_step : ByteArray := prog_9_method_25_code
def yX7_step : MethodName := ⟨RX7, "step", "(I)I"⟩
abbrev cX7_courses : ByteArray := prog_9_method_26_code
def yX7_courses : MethodName := ⟨RX7, "courses", "(I)I"⟩
abbrev cX7_layNow : ByteArray := prog_9_method_27_code
def yX7_layNow : MethodName := ⟨RX7, "layNow", "()V"⟩
abbrev cX7_truly : ByteArray := prog_9_method_28_code
def yX7_truly : MethodName := ⟨RX7, "truly", "(II)I"⟩
abbrev cX7_howAsks : ByteArray := prog_9_method_29_code
def yX7_howAsks : MethodName := ⟨RX7, "howAsks", "(II)I"⟩
abbrev cX7_isAhead : ByteArray := prog_9_method_30_code
def yX7_isAhead : MethodName := ⟨RX7, "isAhead", "(IIII)Z"⟩
abbrev cX7_asked : ByteArray := prog_9_method_31_code
def yX7_asked : MethodName := ⟨RX7, "asked", "(III)I"⟩
abbrev cX7_refill : ByteArray := prog_9_method_32_code
def yX7_refill : MethodName := ⟨RX7, "refill", "()V"⟩
abbrev cX7_goNight : ByteArray := prog_9_method_33_code
def yX7_goNight : MethodName := ⟨RX7, "goNight", "()V"⟩
abbrev cX7_goCourse : ByteArray := prog_9_method_34_code
def yX7_goCourse : MethodName := ⟨RX7, "goCourse", "(I)V"⟩
abbrev cX7_allGlad : ByteArray := prog_9_method_35_code
def yX7_allGlad : MethodName := ⟨RX7, "allGlad", "()I"⟩
abbrev cX7_dine : ByteArray := prog_9_method_36_code
def yX7_dine : MethodName := ⟨RX7, "dine", "()I"⟩
abbrev cX7_forget : ByteArray := prog_9_method_37_code
def yX7_forget : MethodName := ⟨RX7, "forget", "()I"⟩
abbrev cX7_gets : ByteArray := prog_9_method_38_code
def yX7_gets : MethodName := ⟨RX7, "gets", "(II)I"⟩
abbrev cX7_glad : ByteArray := prog_9_method_39_code
def yX7_glad : MethodName := ⟨RX7, "glad", "(I)I"⟩
abbrev cX7_pays : ByteArray := prog_9_method_40_code
def yX7_pays : MethodName := ⟨RX7, "pays", "(IZI)J"⟩
abbrev cX7_mayBe : ByteArray := prog_9_method_41_code
def yX7_mayBe : MethodName := ⟨RX7, "mayBe", "(II)Z"⟩
abbrev cX7_judge : ByteArray := prog_9_method_42_code
def yX7_judge : MethodName := ⟨RX7, "judge", "(IIII)I"⟩
abbrev cX7_layWeights : ByteArray := prog_9_method_43_code
def yX7_layWeights : MethodName := ⟨RX7, "layWeights", "()V"⟩
abbrev cX7_mayHave : ByteArray := prog_9_method_44_code
def yX7_mayHave : MethodName := ⟨RX7, "mayHave", "(II)Z"⟩
abbrev cX7_valueOf : ByteArray := prog_9_method_45_code
def yX7_valueOf : MethodName := ⟨RX7, "valueOf", "(II)I"⟩
abbrev cX7_takes : ByteArray := prog_9_method_46_code
def yX7_takes : MethodName := ⟨RX7, "takes", "(II)V"⟩
abbrev cX7_findBest : ByteArray := prog_9_method_47_code
def yX7_findBest : MethodName := ⟨RX7, "findBest", "()V"⟩
abbrev cX7_keepBest : ByteArray := prog_9_method_48_code
def yX7_keepBest : MethodName := ⟨RX7, "keepBest", "(I)V"⟩
abbrev cX7_best : ByteArray := prog_9_method_49_code
def yX7_best : MethodName := ⟨RX7, "best", "(I)I"⟩
abbrev cX7_leastGlad : ByteArray := prog_9_method_50_code
def yX7_leastGlad : MethodName := ⟨RX7, "leastGlad", "()I"⟩
abbrev cX7_isInPerm : ByteArray := prog_9_method_51_code
def yX7_isInPerm : MethodName := ⟨RX7, "isInPerm", "(II)Z"⟩
abbrev cX7_findSeats : ByteArray := prog_9_method_52_code
def yX7_findSeats : MethodName := ⟨RX7, "findSeats", "(I)V"⟩
abbrev cX7_trySeats : ByteArray := prog_9_method_53_code
def yX7_trySeats : MethodName := ⟨RX7, "trySeats", "(I)V"⟩
abbrev cX7_seats : ByteArray := prog_9_method_54_code
def yX7_seats : MethodName := ⟨RX7, "seats", "(II)I"⟩
abbrev cX7_keepMemory : ByteArray := prog_9_method_55_code
def yX7_keepMemory : MethodName := ⟨RX7, "keepMemory", "(I)V"⟩
abbrev cX7_areAlike : ByteArray := prog_9_method_56_code
def yX7_areAlike : MethodName := ⟨RX7, "areAlike", "(II)Z"⟩
abbrev cX7_sameAs : ByteArray := prog_9_method_57_code
def yX7_sameAs : MethodName := ⟨RX7, "sameAs", "(I)I"⟩
abbrev cX7_findRing : ByteArray := prog_9_method_58_code
def yX7_findRing : MethodName := ⟨RX7, "findRing", "()V"⟩
abbrev cX7_ever : ByteArray := prog_9_method_59_code
def yX7_ever : MethodName := ⟨RX7, "ever", "(I)I"⟩
abbrev cX7_gladInRing : ByteArray := prog_9_method_60_code
def yX7_gladInRing : MethodName := ⟨RX7, "gladInRing", "(I)J"⟩
abbrev cX7_mean : ByteArray := prog_9_method_61_code
def yX7_mean : MethodName := ⟨RX7, "mean", "(II)J"⟩
abbrev cX7_wouldLeave : ByteArray := prog_9_method_62_code
def yX7_wouldLeave : MethodName := ⟨RX7, "wouldLeave", "(I)Z"⟩
abbrev cX7_leaves : ByteArray := prog_9_method_63_code
def yX7_leaves : MethodName := ⟨RX7, "leaves", "()I"⟩
abbrev cX7_swapIn : ByteArray := prog_9_method_64_code
def yX7_swapIn : MethodName := ⟨RX7, "swapIn", "([I)V"⟩
abbrev cX7_swapOut : ByteArray := prog_9_method_65_code
def yX7_swapOut : MethodName := ⟨RX7, "swapOut", "([I)V"⟩
abbrev cX7_areSame : ByteArray := prog_9_method_66_code
def yX7_areSame : MethodName := ⟨RX7, "areSame", "()Z"⟩
abbrev cX7_spite : ByteArray := prog_9_method_67_code
def yX7_spite : MethodName := ⟨RX7, "spite", "(II)I"⟩
abbrev cX7_gladByLie : ByteArray := prog_9_method_68_code
def yX7_gladByLie : MethodName := ⟨RX7, "gladByLie", "(II)I"⟩
abbrev cX7_lies : ByteArray := prog_9_method_69_code
def yX7_lies : MethodName := ⟨RX7, "lies", "(II)I"⟩
abbrev cX7_chair : ByteArray := prog_9_method_70_code
def yX7_chair : MethodName := ⟨RX7, "chair", "(I)J"⟩
abbrev cX7_law : ByteArray := prog_9_method_71_code
def yX7_law : MethodName := ⟨RX7, "law", "(I)I"⟩
abbrev cX7_sheet : ByteArray := prog_9_method_72_code
def yX7_sheet : MethodName := ⟨RX7, "sheet", "(III)I"⟩
abbrev cX7_lose : ByteArray := prog_9_method_73_code
def yX7_lose : MethodName := ⟨RX7, "lose", "(I)I"⟩
abbrev cX7_put : ByteArray := prog_9_method_74_code
def yX7_put : MethodName := ⟨RX7, "put", "(III)I"⟩
abbrev cX7_cell : ByteArray := prog_9_method_75_code
def yX7_cell : MethodName := ⟨RX7, "cell", "(III)J"⟩
abbrev cX7_copy : ByteArray := prog_9_method_76_code
def yX7_copy : MethodName := ⟨RX7, "copy", "(IIIII)I"⟩
abbrev cX7_begins : ByteArray := prog_9_method_77_code
def yX7_begins : MethodName := ⟨RX7, "begins", "(I)V"⟩
abbrev cX7_tell : ByteArray := prog_9_method_78_code
def yX7_tell : MethodName := ⟨RX7, "tell", "(I)I"⟩
abbrev cX7_greet : ByteArray := prog_9_method_79_code
def yX7_greet : MethodName := ⟨RX7, "greet", "(I)I"⟩
abbrev cX7_as : ByteArray := prog_9_method_80_code
def yX7_as : MethodName := ⟨RX7, "as", "(II)I"⟩
abbrev cX7_trace : ByteArray := prog_9_method_81_code
def yX7_trace : MethodName := ⟨RX7, "trace", "()I"⟩
abbrev cX7_fault : ByteArray := prog_9_method_82_code
def yX7_fault : MethodName := ⟨RX7, "fault", "()I"⟩
abbrev cX7_many : ByteArray := prog_9_method_83_code
def yX7_many : MethodName := ⟨RX7, "many", "(I)I"⟩
def RJ9 : String := "java/lang/Math"
def TJ9 : u_T := fun k => match k with
  | _ => ("", "", "", false)
def tyJ9 : Nat → FieldType := fun k => match k with
  | _ => .int
abbrev wsJ90 : List Cond := u_ws RJ9 TJ9 0
theorem nmJ9 : ∀ a, a < 0 → ∀ b, b < 0 → a ≠ b → (TJ9 a).2.1 ≠ (TJ9 b).2.1 := by decide +kernel
theorem tyJ9_ok : ∀ k, k < 0 → parseFieldDescriptor (TJ9 k).2.2.1 = some (tyJ9 k) := by decide +kernel
abbrev cJ9_max_f86c9 : ByteArray := prog_10_method_66_code
def yJ9_max_f86c9 : MethodName := ⟨RJ9, "max", "(JJ)J"⟩
abbrev cJ9_min_7cf53 : ByteArray := prog_10_method_69_code
def yJ9_min_7cf53 : MethodName := ⟨RJ9, "min", "(II)I"⟩
def RJ10 : String := "java/lang/System"
def TJ10 : u_T := fun k => match k with
  | _ => ("", "", "", false)
def tyJ10 : Nat → FieldType := fun k => match k with
  | _ => .int
abbrev wsJ100 : List Cond := u_ws RJ10 TJ10 0
theorem nmJ10 : ∀ a, a < 0 → ∀ b, b < 0 → a ≠ b → (TJ10 a).2.1 ≠ (TJ10 b).2.1 := by decide +kernel
theorem tyJ10_ok : ∀ k, k < 0 → parseFieldDescriptor (TJ10 k).2.2.1 = some (tyJ10 k) := by decide +kernel
def RJ7 : String := "java/util/Arrays"
def TJ7 : u_T := fun k => match k with
  | _ => ("", "", "", false)
def tyJ7 : Nat → FieldType := fun k => match k with
  | _ => .int
abbrev wsJ70 : List Cond := u_ws RJ7 TJ7 0
theorem nmJ7 : ∀ a, a < 0 → ∀ b, b < 0 → a ≠ b → (TJ7 a).2.1 ≠ (TJ7 b).2.1 := by decide +kernel
theorem tyJ7_ok : ∀ k, k < 0 → parseFieldDescriptor (TJ7 k).2.2.1 = some (tyJ7 k) := by decide +kernel
abbrev cJ7_fill_d0a16 : ByteArray := prog_12_method_101_code
def yJ7_fill_d0a16 : MethodName := ⟨RJ7, "fill", "([JJ)V"⟩
abbrev cJ7_fill_53178 : ByteArray := prog_12_method_103_code
def yJ7_fill_53178 : MethodName := ⟨RJ7, "fill", "([II)V"⟩
def RL : String := "RoundAskLaw"
abbrev cL_law : ByteArray := code
def yL_law : MethodName := ⟨RL, "law", "([I)Z"⟩
abbrev vwCl : List vw_C := [(RX0, TX0, 5), (RX1, TX1, 4), (RX2, TX2, 3), (RX3, TX3, 4), (RX4, TX4, 13), (RX5, TX5, 11), (RX6, TX6, 13), (RX7, TX7, 51)]
end
section
theorem dX0_init_0 : decode cX0_init 0 = .ok (.aload_n 0, 1) := by decide +kernel
theorem dX0_init_1 : decode cX0_init 1 = .ok (.invokespecial 3, 3) := by decide +kernel
theorem dX0_init_4 : decode cX0_init 4 = .ok (.aload_n 0, 1) := by decide +kernel
theorem dX0_init_5 : decode cX0_init 5 = .ok (.sipush 128, 3) := by decide +kernel
theorem dX0_init_8 : decode cX0_init 8 = .ok (.newarray .long, 2) := by decide +kernel
theorem dX0_init_10 : decode cX0_init 10 = .ok (.putfield 9, 3) := by decide +kernel
theorem dX0_init_13 : decode cX0_init 13 = .ok (.aload_n 0, 1) := by decide +kernel
theorem dX0_init_14 : decode cX0_init 14 = .ok (.bipush 7, 2) := by decide +kernel
theorem dX0_init_16 : decode cX0_init 16 = .ok (.newarray .long, 2) := by decide +kernel
theorem dX0_init_18 : decode cX0_init 18 = .ok (.putfield 15, 3) := by decide +kernel
theorem dX0_init_21 : decode cX0_init 21 = .ok (.aload_n 0, 1) := by decide +kernel
theorem dX0_init_22 : decode cX0_init 22 = .ok (.bipush 7, 2) := by decide +kernel
theorem dX0_init_24 : decode cX0_init 24 = .ok (.newarray .int, 2) := by decide +kernel
theorem dX0_init_26 : decode cX0_init 26 = .ok (.putfield 18, 3) := by decide +kernel
theorem dX0_init_29 : decode cX0_init 29 = .ok (.return_, 1) := by decide +kernel
theorem dX0_find_0 : decode cX0_find 0 = .ok (.aload_n 0, 1) := by decide +kernel
theorem dX0_find_1 : decode cX0_find 1 = .ok (.aload_n 1, 1) := by decide +kernel
theorem dX0_find_2 : decode cX0_find 2 = .ok (.invokevirtual 22, 3) := by decide +kernel
theorem dX0_find_5 : decode cX0_find 5 = .ok (.aload_n 0, 1) := by decide +kernel
theorem dX0_find_6 : decode cX0_find 6 = .ok (.getfield 9, 3) := by decide +kernel
theorem dX0_find_9 : decode cX0_find 9 = .ok (.ldc2_w 26, 3) := by decide +kernel
theorem dX0_find_12 : decode cX0_find 12 = .ok (.invokestatic 28, 3) := by decide +kernel
theorem dX0_find_15 : decode cX0_find 15 = .ok (.aload_n 0, 1) := by decide +kernel
theorem dX0_find_16 : decode cX0_find 16 = .ok (.getfield 9, 3) := by decide +kernel
theorem dX0_find_19 : decode cX0_find 19 = .ok (.iconst 0, 1) := by decide +kernel
theorem dX0_find_20 : decode cX0_find 20 = .ok (.lconst 0, 1) := by decide +kernel
theorem dX0_find_21 : decode cX0_find 21 = .ok (.lastore, 1) := by decide +kernel
theorem dX0_find_22 : decode cX0_find 22 = .ok (.iconst 0, 1) := by decide +kernel
theorem dX0_find_23 : decode cX0_find 23 = .ok (.istore_n 2, 1) := by decide +kernel
theorem dX0_find_24 : decode cX0_find 24 = .ok (.iload_n 2, 1) := by decide +kernel
theorem dX0_find_25 : decode cX0_find 25 = .ok (.aload_n 1, 1) := by decide +kernel
theorem dX0_find_26 : decode cX0_find 26 = .ok (.getfield 34, 3) := by decide +kernel
theorem dX0_find_29 : decode cX0_find 29 = .ok (.getfield 40, 3) := by decide +kernel
theorem dX0_find_32 : decode cX0_find 32 = .ok (.if_icmp .ge 64, 3) := by decide +kernel
theorem dX0_find_35 : decode cX0_find 35 = .ok (.aload_n 0, 1) := by decide +kernel
theorem dX0_find_36 : decode cX0_find 36 = .ok (.aload_n 1, 1) := by decide +kernel
theorem dX0_find_37 : decode cX0_find 37 = .ok (.getfield 34, 3) := by decide +kernel
theorem dX0_find_40 : decode cX0_find 40 = .ok (.iload_n 2, 1) := by decide +kernel
theorem dX0_find_41 : decode cX0_find 41 = .ok (.invokevirtual 46, 3) := by decide +kernel
theorem dX0_find_44 : decode cX0_find 44 = .ok (.aload_n 1, 1) := by decide +kernel
theorem dX0_find_45 : decode cX0_find 45 = .ok (.getfield 34, 3) := by decide +kernel
theorem dX0_find_48 : decode cX0_find 48 = .ok (.getfield 50, 3) := by decide +kernel
theorem dX0_find_51 : decode cX0_find 51 = .ok (.iload_n 2, 1) := by decide +kernel
theorem dX0_find_52 : decode cX0_find 52 = .ok (.iaload, 1) := by decide +kernel
theorem dX0_find_53 : decode cX0_find 53 = .ok (.aload_n 1, 1) := by decide +kernel
theorem dX0_find_54 : decode cX0_find 54 = .ok (.getfield 34, 3) := by decide +kernel
theorem dX0_find_57 : decode cX0_find 57 = .ok (.getfield 53, 3) := by decide +kernel
theorem dX0_find_60 : decode cX0_find 60 = .ok (.invokestatic 56, 3) := by decide +kernel
theorem dX0_find_63 : decode cX0_find 63 = .ok (.istore_n 3, 1) := by decide +kernel
theorem dX0_find_64 : decode cX0_find 64 = .ok (.iconst 0, 1) := by decide +kernel
theorem dX0_find_65 : decode cX0_find 65 = .ok (.istore 4, 2) := by decide +kernel
theorem dX0_find_67 : decode cX0_find 67 = .ok (.iload 4, 2) := by decide +kernel
theorem dX0_find_69 : decode cX0_find 69 = .ok (.iload_n 3, 1) := by decide +kernel
theorem dX0_find_70 : decode cX0_find 70 = .ok (.if_icmp .ge 20, 3) := by decide +kernel
theorem dX0_find_73 : decode cX0_find 73 = .ok (.aload_n 0, 1) := by decide +kernel
theorem dX0_find_74 : decode cX0_find 74 = .ok (.aload_n 1, 1) := by decide +kernel
theorem dX0_find_75 : decode cX0_find 75 = .ok (.getfield 34, 3) := by decide +kernel
theorem dX0_find_78 : decode cX0_find 78 = .ok (.getfield 53, 3) := by decide +kernel
theorem dX0_find_81 : decode cX0_find 81 = .ok (.invokevirtual 62, 3) := by decide +kernel
theorem dX0_find_84 : decode cX0_find 84 = .ok (.iinc 4 1, 3) := by decide +kernel
theorem dX0_find_87 : decode cX0_find 87 = .ok (.goto (-20), 3) := by decide +kernel
theorem dX0_find_90 : decode cX0_find 90 = .ok (.iinc 2 1, 3) := by decide +kernel
theorem dX0_find_93 : decode cX0_find 93 = .ok (.goto (-69), 3) := by decide +kernel
theorem dX0_find_96 : decode cX0_find 96 = .ok (.aload_n 0, 1) := by decide +kernel
theorem dX0_find_97 : decode cX0_find 97 = .ok (.lconst 0, 1) := by decide +kernel
theorem dX0_find_98 : decode cX0_find 98 = .ok (.putfield 66, 3) := by decide +kernel
theorem dX0_find_101 : decode cX0_find 101 = .ok (.iconst 0, 1) := by decide +kernel
theorem dX0_find_102 : decode cX0_find 102 = .ok (.istore_n 2, 1) := by decide +kernel
theorem dX0_find_103 : decode cX0_find 103 = .ok (.iload_n 2, 1) := by decide +kernel
theorem dX0_find_104 : decode cX0_find 104 = .ok (.aload_n 0, 1) := by decide +kernel
theorem dX0_find_105 : decode cX0_find 105 = .ok (.getfield 9, 3) := by decide +kernel
theorem dX0_find_108 : decode cX0_find 108 = .ok (.arraylength, 1) := by decide +kernel
theorem dX0_find_109 : decode cX0_find 109 = .ok (.if_icmp .ge 26, 3) := by decide +kernel
theorem dX0_find_112 : decode cX0_find 112 = .ok (.aload_n 0, 1) := by decide +kernel
theorem dX0_find_113 : decode cX0_find 113 = .ok (.aload_n 0, 1) := by decide +kernel
theorem dX0_find_114 : decode cX0_find 114 = .ok (.getfield 66, 3) := by decide +kernel
theorem dX0_find_117 : decode cX0_find 117 = .ok (.aload_n 0, 1) := by decide +kernel
theorem dX0_find_118 : decode cX0_find 118 = .ok (.getfield 9, 3) := by decide +kernel
theorem dX0_find_121 : decode cX0_find 121 = .ok (.iload_n 2, 1) := by decide +kernel
theorem dX0_find_122 : decode cX0_find 122 = .ok (.laload, 1) := by decide +kernel
theorem dX0_find_123 : decode cX0_find 123 = .ok (.invokestatic 70, 3) := by decide +kernel
theorem dX0_find_126 : decode cX0_find 126 = .ok (.putfield 66, 3) := by decide +kernel
theorem dX0_find_129 : decode cX0_find 129 = .ok (.iinc 2 1, 3) := by decide +kernel
theorem dX0_find_132 : decode cX0_find 132 = .ok (.goto (-29), 3) := by decide +kernel
theorem dX0_find_135 : decode cX0_find 135 = .ok (.aload_n 0, 1) := by decide +kernel
theorem dX0_find_136 : decode cX0_find 136 = .ok (.iconst 1, 1) := by decide +kernel
theorem dX0_find_137 : decode cX0_find 137 = .ok (.putfield 74, 3) := by decide +kernel
theorem dX0_find_140 : decode cX0_find 140 = .ok (.return_, 1) := by decide +kernel
theorem dX0_gladInAll_0 : decode cX0_gladInAll 0 = .ok (.aload_n 0, 1) := by decide +kernel
theorem dX0_gladInAll_1 : decode cX0_gladInAll 1 = .ok (.getfield 66, 3) := by decide +kernel
theorem dX0_gladInAll_4 : decode cX0_gladInAll 4 = .ok (.ldc2_w 78, 3) := by decide +kernel
theorem dX0_gladInAll_7 : decode cX0_gladInAll 7 = .ok (.ldiv, 1) := by decide +kernel
theorem dX0_gladInAll_8 : decode cX0_gladInAll 8 = .ok (.l2i, 1) := by decide +kernel
theorem dX0_gladInAll_9 : decode cX0_gladInAll 9 = .ok (.ireturn, 1) := by decide +kernel
theorem dX0_dishOf_0 : decode cX0_dishOf 0 = .ok (.aload_n 0, 1) := by decide +kernel
theorem dX0_dishOf_1 : decode cX0_dishOf 1 = .ok (.getfield 66, 3) := by decide +kernel
theorem dX0_dishOf_4 : decode cX0_dishOf 4 = .ok (.iload_n 1, 1) := by decide +kernel
theorem dX0_dishOf_5 : decode cX0_dishOf 5 = .ok (.invokestatic 80, 3) := by decide +kernel
theorem dX0_dishOf_8 : decode cX0_dishOf 8 = .ok (.ldiv, 1) := by decide +kernel
theorem dX0_dishOf_9 : decode cX0_dishOf 9 = .ok (.ldc2_w 84, 3) := by decide +kernel
theorem dX0_dishOf_12 : decode cX0_dishOf 12 = .ok (.lrem, 1) := by decide +kernel
theorem dX0_dishOf_13 : decode cX0_dishOf 13 = .ok (.l2i, 1) := by decide +kernel
theorem dX0_dishOf_14 : decode cX0_dishOf 14 = .ok (.istore_n 2, 1) := by decide +kernel
theorem dX0_dishOf_15 : decode cX0_dishOf 15 = .ok (.iload_n 2, 1) := by decide +kernel
theorem dX0_dishOf_16 : decode cX0_dishOf 16 = .ok (.ifCond .ne 8, 3) := by decide +kernel
theorem dX0_dishOf_19 : decode cX0_dishOf 19 = .ok (.bipush (-9), 2) := by decide +kernel
theorem dX0_dishOf_21 : decode cX0_dishOf 21 = .ok (.goto 7, 3) := by decide +kernel
theorem dX0_dishOf_24 : decode cX0_dishOf 24 = .ok (.bipush 9, 2) := by decide +kernel
theorem dX0_dishOf_26 : decode cX0_dishOf 26 = .ok (.iload_n 2, 1) := by decide +kernel
theorem dX0_dishOf_27 : decode cX0_dishOf 27 = .ok (.isub, 1) := by decide +kernel
theorem dX0_dishOf_28 : decode cX0_dishOf 28 = .ok (.ireturn, 1) := by decide +kernel
theorem dX0_weigh_0 : decode cX0_weigh 0 = .ok (.iconst 0, 1) := by decide +kernel
theorem dX0_weigh_1 : decode cX0_weigh 1 = .ok (.istore_n 2, 1) := by decide +kernel
theorem dX0_weigh_2 : decode cX0_weigh 2 = .ok (.iload_n 2, 1) := by decide +kernel
theorem dX0_weigh_3 : decode cX0_weigh 3 = .ok (.aload_n 1, 1) := by decide +kernel
theorem dX0_weigh_4 : decode cX0_weigh 4 = .ok (.getfield 86, 3) := by decide +kernel
theorem dX0_weigh_7 : decode cX0_weigh 7 = .ok (.if_icmp .ge 36, 3) := by decide +kernel
theorem dX0_weigh_10 : decode cX0_weigh 10 = .ok (.aload_n 0, 1) := by decide +kernel
theorem dX0_weigh_11 : decode cX0_weigh 11 = .ok (.getfield 18, 3) := by decide +kernel
theorem dX0_weigh_14 : decode cX0_weigh 14 = .ok (.aload_n 1, 1) := by decide +kernel
theorem dX0_weigh_15 : decode cX0_weigh 15 = .ok (.iload_n 2, 1) := by decide +kernel
theorem dX0_weigh_16 : decode cX0_weigh 16 = .ok (.invokevirtual 89, 3) := by decide +kernel
theorem dX0_weigh_19 : decode cX0_weigh 19 = .ok (.bipush 10, 2) := by decide +kernel
theorem dX0_weigh_21 : decode cX0_weigh 21 = .ok (.aload_n 1, 1) := by decide +kernel
theorem dX0_weigh_22 : decode cX0_weigh 22 = .ok (.getfield 34, 3) := by decide +kernel
theorem dX0_weigh_25 : decode cX0_weigh 25 = .ok (.getfield 93, 3) := by decide +kernel
theorem dX0_weigh_28 : decode cX0_weigh 28 = .ok (.aload_n 1, 1) := by decide +kernel
theorem dX0_weigh_29 : decode cX0_weigh 29 = .ok (.getfield 96, 3) := by decide +kernel
theorem dX0_weigh_32 : decode cX0_weigh 32 = .ok (.iload_n 2, 1) := by decide +kernel
theorem dX0_weigh_33 : decode cX0_weigh 33 = .ok (.iaload, 1) := by decide +kernel
theorem dX0_weigh_34 : decode cX0_weigh 34 = .ok (.iaload, 1) := by decide +kernel
theorem dX0_weigh_35 : decode cX0_weigh 35 = .ok (.iadd, 1) := by decide +kernel
theorem dX0_weigh_36 : decode cX0_weigh 36 = .ok (.iastore, 1) := by decide +kernel
theorem dX0_weigh_37 : decode cX0_weigh 37 = .ok (.iinc 2 1, 3) := by decide +kernel
theorem dX0_weigh_40 : decode cX0_weigh 40 = .ok (.goto (-38), 3) := by decide +kernel
theorem dX0_weigh_43 : decode cX0_weigh 43 = .ok (.return_, 1) := by decide +kernel
theorem dX0_reckonGains_0 : decode cX0_reckonGains 0 = .ok (.iconst 0, 1) := by decide +kernel
theorem dX0_reckonGains_1 : decode cX0_reckonGains 1 = .ok (.istore_n 3, 1) := by decide +kernel
theorem dX0_reckonGains_2 : decode cX0_reckonGains 2 = .ok (.iload_n 3, 1) := by decide +kernel
theorem dX0_reckonGains_3 : decode cX0_reckonGains 3 = .ok (.aload_n 1, 1) := by decide +kernel
theorem dX0_reckonGains_4 : decode cX0_reckonGains 4 = .ok (.getfield 53, 3) := by decide +kernel
theorem dX0_reckonGains_7 : decode cX0_reckonGains 7 = .ok (.if_icmp .ge 65, 3) := by decide +kernel
theorem dX0_reckonGains_10 : decode cX0_reckonGains 10 = .ok (.aload_n 0, 1) := by decide +kernel
theorem dX0_reckonGains_11 : decode cX0_reckonGains 11 = .ok (.getfield 18, 3) := by decide +kernel
theorem dX0_reckonGains_14 : decode cX0_reckonGains 14 = .ok (.iload_n 3, 1) := by decide +kernel
theorem dX0_reckonGains_15 : decode cX0_reckonGains 15 = .ok (.iaload, 1) := by decide +kernel
theorem dX0_reckonGains_16 : decode cX0_reckonGains 16 = .ok (.aload_n 1, 1) := by decide +kernel
theorem dX0_reckonGains_17 : decode cX0_reckonGains 17 = .ok (.getfield 99, 3) := by decide +kernel
theorem dX0_reckonGains_20 : decode cX0_reckonGains 20 = .ok (.iload_n 3, 1) := by decide +kernel
theorem dX0_reckonGains_21 : decode cX0_reckonGains 21 = .ok (.aaload, 1) := by decide +kernel
theorem dX0_reckonGains_22 : decode cX0_reckonGains 22 = .ok (.iload_n 2, 1) := by decide +kernel
theorem dX0_reckonGains_23 : decode cX0_reckonGains 23 = .ok (.iaload, 1) := by decide +kernel
theorem dX0_reckonGains_24 : decode cX0_reckonGains 24 = .ok (.imul, 1) := by decide +kernel
theorem dX0_reckonGains_25 : decode cX0_reckonGains 25 = .ok (.i2l, 1) := by decide +kernel
theorem dX0_reckonGains_26 : decode cX0_reckonGains 26 = .ok (.lstore 4, 2) := by decide +kernel
theorem dX0_reckonGains_28 : decode cX0_reckonGains 28 = .ok (.aload_n 0, 1) := by decide +kernel
theorem dX0_reckonGains_29 : decode cX0_reckonGains 29 = .ok (.getfield 15, 3) := by decide +kernel
theorem dX0_reckonGains_32 : decode cX0_reckonGains 32 = .ok (.iload_n 3, 1) := by decide +kernel
theorem dX0_reckonGains_33 : decode cX0_reckonGains 33 = .ok (.aload_n 1, 1) := by decide +kernel
theorem dX0_reckonGains_34 : decode cX0_reckonGains 34 = .ok (.iload_n 3, 1) := by decide +kernel
theorem dX0_reckonGains_35 : decode cX0_reckonGains 35 = .ok (.iload_n 2, 1) := by decide +kernel
theorem dX0_reckonGains_36 : decode cX0_reckonGains 36 = .ok (.invokevirtual 103, 3) := by decide +kernel
theorem dX0_reckonGains_39 : decode cX0_reckonGains 39 = .ok (.ifCond .eq 23, 3) := by decide +kernel
theorem dX0_reckonGains_42 : decode cX0_reckonGains 42 = .ok (.lload 4, 2) := by decide +kernel
theorem dX0_reckonGains_44 : decode cX0_reckonGains 44 = .ok (.ldc2_w 78, 3) := by decide +kernel
theorem dX0_reckonGains_47 : decode cX0_reckonGains 47 = .ok (.lmul, 1) := by decide +kernel
theorem dX0_reckonGains_48 : decode cX0_reckonGains 48 = .ok (.bipush 9, 2) := by decide +kernel
theorem dX0_reckonGains_50 : decode cX0_reckonGains 50 = .ok (.iload_n 2, 1) := by decide +kernel
theorem dX0_reckonGains_51 : decode cX0_reckonGains 51 = .ok (.isub, 1) := by decide +kernel
theorem dX0_reckonGains_52 : decode cX0_reckonGains 52 = .ok (.i2l, 1) := by decide +kernel
theorem dX0_reckonGains_53 : decode cX0_reckonGains 53 = .ok (.iload_n 3, 1) := by decide +kernel
theorem dX0_reckonGains_54 : decode cX0_reckonGains 54 = .ok (.invokestatic 80, 3) := by decide +kernel
theorem dX0_reckonGains_57 : decode cX0_reckonGains 57 = .ok (.lmul, 1) := by decide +kernel
theorem dX0_reckonGains_58 : decode cX0_reckonGains 58 = .ok (.ladd, 1) := by decide +kernel
theorem dX0_reckonGains_59 : decode cX0_reckonGains 59 = .ok (.goto 6, 3) := by decide +kernel
theorem dX0_reckonGains_62 : decode cX0_reckonGains 62 = .ok (.ldc2_w 26, 3) := by decide +kernel
theorem dX0_reckonGains_65 : decode cX0_reckonGains 65 = .ok (.lastore, 1) := by decide +kernel
theorem dX0_reckonGains_66 : decode cX0_reckonGains 66 = .ok (.iinc 3 1, 3) := by decide +kernel
theorem dX0_reckonGains_69 : decode cX0_reckonGains 69 = .ok (.goto (-67), 3) := by decide +kernel
theorem dX0_reckonGains_72 : decode cX0_reckonGains 72 = .ok (.return_, 1) := by decide +kernel
theorem dX0_serve_0 : decode cX0_serve 0 = .ok (.iconst 1, 1) := by decide +kernel
theorem dX0_serve_1 : decode cX0_serve 1 = .ok (.iload_n 1, 1) := by decide +kernel
theorem dX0_serve_2 : decode cX0_serve 2 = .ok (.ishl, 1) := by decide +kernel
theorem dX0_serve_3 : decode cX0_serve 3 = .ok (.iconst 1, 1) := by decide +kernel
theorem dX0_serve_4 : decode cX0_serve 4 = .ok (.isub, 1) := by decide +kernel
theorem dX0_serve_5 : decode cX0_serve 5 = .ok (.istore_n 2, 1) := by decide +kernel
theorem dX0_serve_6 : decode cX0_serve 6 = .ok (.iload_n 2, 1) := by decide +kernel
theorem dX0_serve_7 : decode cX0_serve 7 = .ok (.ifCond .le 89, 3) := by decide +kernel
theorem dX0_serve_10 : decode cX0_serve 10 = .ok (.iconst 0, 1) := by decide +kernel
theorem dX0_serve_11 : decode cX0_serve 11 = .ok (.istore_n 3, 1) := by decide +kernel
theorem dX0_serve_12 : decode cX0_serve 12 = .ok (.iload_n 3, 1) := by decide +kernel
theorem dX0_serve_13 : decode cX0_serve 13 = .ok (.iload_n 1, 1) := by decide +kernel
theorem dX0_serve_14 : decode cX0_serve 14 = .ok (.if_icmp .ge 76, 3) := by decide +kernel
theorem dX0_serve_17 : decode cX0_serve 17 = .ok (.iload_n 2, 1) := by decide +kernel
theorem dX0_serve_18 : decode cX0_serve 18 = .ok (.iconst 1, 1) := by decide +kernel
theorem dX0_serve_19 : decode cX0_serve 19 = .ok (.iload_n 3, 1) := by decide +kernel
theorem dX0_serve_20 : decode cX0_serve 20 = .ok (.ishl, 1) := by decide +kernel
theorem dX0_serve_21 : decode cX0_serve 21 = .ok (.iconst (-1), 1) := by decide +kernel
theorem dX0_serve_22 : decode cX0_serve 22 = .ok (.ixor, 1) := by decide +kernel
theorem dX0_serve_23 : decode cX0_serve 23 = .ok (.iand, 1) := by decide +kernel
theorem dX0_serve_24 : decode cX0_serve 24 = .ok (.istore 4, 2) := by decide +kernel
theorem dX0_serve_26 : decode cX0_serve 26 = .ok (.iload 4, 2) := by decide +kernel
theorem dX0_serve_28 : decode cX0_serve 28 = .ok (.iload_n 2, 1) := by decide +kernel
theorem dX0_serve_29 : decode cX0_serve 29 = .ok (.if_icmp .eq 55, 3) := by decide +kernel
theorem dX0_serve_32 : decode cX0_serve 32 = .ok (.aload_n 0, 1) := by decide +kernel
theorem dX0_serve_33 : decode cX0_serve 33 = .ok (.getfield 15, 3) := by decide +kernel
theorem dX0_serve_36 : decode cX0_serve 36 = .ok (.iload_n 3, 1) := by decide +kernel
theorem dX0_serve_37 : decode cX0_serve 37 = .ok (.laload, 1) := by decide +kernel
theorem dX0_serve_38 : decode cX0_serve 38 = .ok (.lconst 0, 1) := by decide +kernel
theorem dX0_serve_39 : decode cX0_serve 39 = .ok (.lcmp, 1) := by decide +kernel
theorem dX0_serve_40 : decode cX0_serve 40 = .ok (.ifCond .lt 44, 3) := by decide +kernel
theorem dX0_serve_43 : decode cX0_serve 43 = .ok (.aload_n 0, 1) := by decide +kernel
theorem dX0_serve_44 : decode cX0_serve 44 = .ok (.getfield 9, 3) := by decide +kernel
theorem dX0_serve_47 : decode cX0_serve 47 = .ok (.iload 4, 2) := by decide +kernel
theorem dX0_serve_49 : decode cX0_serve 49 = .ok (.laload, 1) := by decide +kernel
theorem dX0_serve_50 : decode cX0_serve 50 = .ok (.lconst 0, 1) := by decide +kernel
theorem dX0_serve_51 : decode cX0_serve 51 = .ok (.lcmp, 1) := by decide +kernel
theorem dX0_serve_52 : decode cX0_serve 52 = .ok (.ifCond .lt 32, 3) := by decide +kernel
theorem dX0_serve_55 : decode cX0_serve 55 = .ok (.aload_n 0, 1) := by decide +kernel
theorem dX0_serve_56 : decode cX0_serve 56 = .ok (.getfield 9, 3) := by decide +kernel
theorem dX0_serve_59 : decode cX0_serve 59 = .ok (.iload_n 2, 1) := by decide +kernel
theorem dX0_serve_60 : decode cX0_serve 60 = .ok (.aload_n 0, 1) := by decide +kernel
theorem dX0_serve_61 : decode cX0_serve 61 = .ok (.getfield 9, 3) := by decide +kernel
theorem dX0_serve_64 : decode cX0_serve 64 = .ok (.iload_n 2, 1) := by decide +kernel
theorem dX0_serve_65 : decode cX0_serve 65 = .ok (.laload, 1) := by decide +kernel
theorem dX0_serve_66 : decode cX0_serve 66 = .ok (.aload_n 0, 1) := by decide +kernel
theorem dX0_serve_67 : decode cX0_serve 67 = .ok (.getfield 9, 3) := by decide +kernel
theorem dX0_serve_70 : decode cX0_serve 70 = .ok (.iload 4, 2) := by decide +kernel
theorem dX0_serve_72 : decode cX0_serve 72 = .ok (.laload, 1) := by decide +kernel
theorem dX0_serve_73 : decode cX0_serve 73 = .ok (.aload_n 0, 1) := by decide +kernel
theorem dX0_serve_74 : decode cX0_serve 74 = .ok (.getfield 15, 3) := by decide +kernel
theorem dX0_serve_77 : decode cX0_serve 77 = .ok (.iload_n 3, 1) := by decide +kernel
theorem dX0_serve_78 : decode cX0_serve 78 = .ok (.laload, 1) := by decide +kernel
theorem dX0_serve_79 : decode cX0_serve 79 = .ok (.ladd, 1) := by decide +kernel
theorem dX0_serve_80 : decode cX0_serve 80 = .ok (.invokestatic 70, 3) := by decide +kernel
theorem dX0_serve_83 : decode cX0_serve 83 = .ok (.lastore, 1) := by decide +kernel
theorem dX0_serve_84 : decode cX0_serve 84 = .ok (.iinc 3 1, 3) := by decide +kernel
theorem dX0_serve_87 : decode cX0_serve 87 = .ok (.goto (-75), 3) := by decide +kernel
theorem dX0_serve_90 : decode cX0_serve 90 = .ok (.iinc 2 (-1), 3) := by decide +kernel
theorem dX0_serve_93 : decode cX0_serve 93 = .ok (.goto (-87), 3) := by decide +kernel
theorem dX0_serve_96 : decode cX0_serve 96 = .ok (.return_, 1) := by decide +kernel
theorem dX0_unit_0 : decode cX0_unit 0 = .ok (.lconst 1, 1) := by decide +kernel
theorem dX0_unit_1 : decode cX0_unit 1 = .ok (.lstore_n 1, 1) := by decide +kernel
theorem dX0_unit_2 : decode cX0_unit 2 = .ok (.iload_n 0, 1) := by decide +kernel
theorem dX0_unit_3 : decode cX0_unit 3 = .ok (.istore_n 3, 1) := by decide +kernel
theorem dX0_unit_4 : decode cX0_unit 4 = .ok (.iload_n 3, 1) := by decide +kernel
theorem dX0_unit_5 : decode cX0_unit 5 = .ok (.bipush 6, 2) := by decide +kernel
theorem dX0_unit_7 : decode cX0_unit 7 = .ok (.if_icmp .ge 15, 3) := by decide +kernel
theorem dX0_unit_10 : decode cX0_unit 10 = .ok (.lload_n 1, 1) := by decide +kernel
theorem dX0_unit_11 : decode cX0_unit 11 = .ok (.ldc2_w 84, 3) := by decide +kernel
theorem dX0_unit_14 : decode cX0_unit 14 = .ok (.lmul, 1) := by decide +kernel
theorem dX0_unit_15 : decode cX0_unit 15 = .ok (.lstore_n 1, 1) := by decide +kernel
theorem dX0_unit_16 : decode cX0_unit 16 = .ok (.iinc 3 1, 3) := by decide +kernel
theorem dX0_unit_19 : decode cX0_unit 19 = .ok (.goto (-15), 3) := by decide +kernel
theorem dX0_unit_22 : decode cX0_unit 22 = .ok (.lload_n 1, 1) := by decide +kernel
theorem dX0_unit_23 : decode cX0_unit 23 = .ok (.lreturn, 1) := by decide +kernel
theorem dX1_init_0 : decode cX1_init 0 = .ok (.aload_n 0, 1) := by decide +kernel
theorem dX1_init_1 : decode cX1_init 1 = .ok (.invokespecial 3, 3) := by decide +kernel
theorem dX1_init_4 : decode cX1_init 4 = .ok (.aload_n 0, 1) := by decide +kernel
theorem dX1_init_5 : decode cX1_init 5 = .ok (.bipush 7, 2) := by decide +kernel
theorem dX1_init_7 : decode cX1_init 7 = .ok (.newarray .int, 2) := by decide +kernel
theorem dX1_init_9 : decode cX1_init 9 = .ok (.putfield 9, 3) := by decide +kernel
theorem dX1_init_12 : decode cX1_init 12 = .ok (.aload_n 0, 1) := by decide +kernel
theorem dX1_init_13 : decode cX1_init 13 = .ok (.sipush 201, 3) := by decide +kernel
theorem dX1_init_16 : decode cX1_init 16 = .ok (.newarray .int, 2) := by decide +kernel
theorem dX1_init_18 : decode cX1_init 18 = .ok (.putfield 15, 3) := by decide +kernel
theorem dX1_init_21 : decode cX1_init 21 = .ok (.aload_n 0, 1) := by decide +kernel
theorem dX1_init_22 : decode cX1_init 22 = .ok (.iconst 1, 1) := by decide +kernel
theorem dX1_init_23 : decode cX1_init 23 = .ok (.putfield 18, 3) := by decide +kernel
theorem dX1_init_26 : decode cX1_init 26 = .ok (.return_, 1) := by decide +kernel
theorem dX1_walk_0 : decode cX1_walk 0 = .ok (.aload_n 0, 1) := by decide +kernel
theorem dX1_walk_1 : decode cX1_walk 1 = .ok (.aload_n 1, 1) := by decide +kernel
theorem dX1_walk_2 : decode cX1_walk 2 = .ok (.invokevirtual 22, 3) := by decide +kernel
theorem dX1_walk_5 : decode cX1_walk 5 = .ok (.aload_n 0, 1) := by decide +kernel
theorem dX1_walk_6 : decode cX1_walk 6 = .ok (.getfield 9, 3) := by decide +kernel
theorem dX1_walk_9 : decode cX1_walk 9 = .ok (.iconst 0, 1) := by decide +kernel
theorem dX1_walk_10 : decode cX1_walk 10 = .ok (.invokestatic 26, 3) := by decide +kernel
theorem dX1_walk_13 : decode cX1_walk 13 = .ok (.iconst 0, 1) := by decide +kernel
theorem dX1_walk_14 : decode cX1_walk 14 = .ok (.istore_n 2, 1) := by decide +kernel
theorem dX1_walk_15 : decode cX1_walk 15 = .ok (.iload_n 2, 1) := by decide +kernel
theorem dX1_walk_16 : decode cX1_walk 16 = .ok (.aload_n 0, 1) := by decide +kernel
theorem dX1_walk_17 : decode cX1_walk 17 = .ok (.getfield 18, 3) := by decide +kernel
theorem dX1_walk_20 : decode cX1_walk 20 = .ok (.if_icmp .ge 42, 3) := by decide +kernel
theorem dX1_walk_23 : decode cX1_walk 23 = .ok (.aload_n 1, 1) := by decide +kernel
theorem dX1_walk_24 : decode cX1_walk 24 = .ok (.invokevirtual 32, 3) := by decide +kernel
theorem dX1_walk_27 : decode cX1_walk 27 = .ok (.iconst 0, 1) := by decide +kernel
theorem dX1_walk_28 : decode cX1_walk 28 = .ok (.istore_n 3, 1) := by decide +kernel
theorem dX1_walk_29 : decode cX1_walk 29 = .ok (.iload_n 3, 1) := by decide +kernel
theorem dX1_walk_30 : decode cX1_walk 30 = .ok (.bipush 7, 2) := by decide +kernel
theorem dX1_walk_32 : decode cX1_walk 32 = .ok (.if_icmp .ge 24, 3) := by decide +kernel
theorem dX1_walk_35 : decode cX1_walk 35 = .ok (.aload_n 0, 1) := by decide +kernel
theorem dX1_walk_36 : decode cX1_walk 36 = .ok (.getfield 9, 3) := by decide +kernel
theorem dX1_walk_39 : decode cX1_walk 39 = .ok (.iload_n 3, 1) := by decide +kernel
theorem dX1_walk_40 : decode cX1_walk 40 = .ok (.dup2, 1) := by decide +kernel
theorem dX1_walk_41 : decode cX1_walk 41 = .ok (.iaload, 1) := by decide +kernel
theorem dX1_walk_42 : decode cX1_walk 42 = .ok (.aload_n 1, 1) := by decide +kernel
theorem dX1_walk_43 : decode cX1_walk 43 = .ok (.getfield 37, 3) := by decide +kernel
theorem dX1_walk_46 : decode cX1_walk 46 = .ok (.iload_n 3, 1) := by decide +kernel
theorem dX1_walk_47 : decode cX1_walk 47 = .ok (.iaload, 1) := by decide +kernel
theorem dX1_walk_48 : decode cX1_walk 48 = .ok (.iadd, 1) := by decide +kernel
theorem dX1_walk_49 : decode cX1_walk 49 = .ok (.iastore, 1) := by decide +kernel
theorem dX1_walk_50 : decode cX1_walk 50 = .ok (.iinc 3 1, 3) := by decide +kernel
theorem dX1_walk_53 : decode cX1_walk 53 = .ok (.goto (-24), 3) := by decide +kernel
theorem dX1_walk_56 : decode cX1_walk 56 = .ok (.iinc 2 1, 3) := by decide +kernel
theorem dX1_walk_59 : decode cX1_walk 59 = .ok (.goto (-44), 3) := by decide +kernel
theorem dX1_walk_62 : decode cX1_walk 62 = .ok (.return_, 1) := by decide +kernel
theorem dX1_findRing_0 : decode cX1_findRing 0 = .ok (.aload_n 0, 1) := by decide +kernel
theorem dX1_findRing_1 : decode cX1_findRing 1 = .ok (.iconst 0, 1) := by decide +kernel
theorem dX1_findRing_2 : decode cX1_findRing 2 = .ok (.putfield 38, 3) := by decide +kernel
theorem dX1_findRing_5 : decode cX1_findRing 5 = .ok (.aload_n 0, 1) := by decide +kernel
theorem dX1_findRing_6 : decode cX1_findRing 6 = .ok (.iconst 1, 1) := by decide +kernel
theorem dX1_findRing_7 : decode cX1_findRing 7 = .ok (.putfield 18, 3) := by decide +kernel
theorem dX1_findRing_10 : decode cX1_findRing 10 = .ok (.aload_n 0, 1) := by decide +kernel
theorem dX1_findRing_11 : decode cX1_findRing 11 = .ok (.getfield 15, 3) := by decide +kernel
theorem dX1_findRing_14 : decode cX1_findRing 14 = .ok (.iconst 0, 1) := by decide +kernel
theorem dX1_findRing_15 : decode cX1_findRing 15 = .ok (.aload_n 1, 1) := by decide +kernel
theorem dX1_findRing_16 : decode cX1_findRing 16 = .ok (.invokevirtual 41, 3) := by decide +kernel
theorem dX1_findRing_19 : decode cX1_findRing 19 = .ok (.iastore, 1) := by decide +kernel
theorem dX1_findRing_20 : decode cX1_findRing 20 = .ok (.iconst 1, 1) := by decide +kernel
theorem dX1_findRing_21 : decode cX1_findRing 21 = .ok (.istore_n 2, 1) := by decide +kernel
theorem dX1_findRing_22 : decode cX1_findRing 22 = .ok (.iload_n 2, 1) := by decide +kernel
theorem dX1_findRing_23 : decode cX1_findRing 23 = .ok (.sipush 200, 3) := by decide +kernel
theorem dX1_findRing_26 : decode cX1_findRing 26 = .ok (.if_icmp .gt 47, 3) := by decide +kernel
theorem dX1_findRing_29 : decode cX1_findRing 29 = .ok (.aload_n 1, 1) := by decide +kernel
theorem dX1_findRing_30 : decode cX1_findRing 30 = .ok (.invokevirtual 32, 3) := by decide +kernel
theorem dX1_findRing_33 : decode cX1_findRing 33 = .ok (.aload_n 0, 1) := by decide +kernel
theorem dX1_findRing_34 : decode cX1_findRing 34 = .ok (.getfield 15, 3) := by decide +kernel
theorem dX1_findRing_37 : decode cX1_findRing 37 = .ok (.iload_n 2, 1) := by decide +kernel
theorem dX1_findRing_38 : decode cX1_findRing 38 = .ok (.aload_n 1, 1) := by decide +kernel
theorem dX1_findRing_39 : decode cX1_findRing 39 = .ok (.invokevirtual 41, 3) := by decide +kernel
theorem dX1_findRing_42 : decode cX1_findRing 42 = .ok (.iastore, 1) := by decide +kernel
theorem dX1_findRing_43 : decode cX1_findRing 43 = .ok (.aload_n 0, 1) := by decide +kernel
theorem dX1_findRing_44 : decode cX1_findRing 44 = .ok (.iload_n 2, 1) := by decide +kernel
theorem dX1_findRing_45 : decode cX1_findRing 45 = .ok (.invokevirtual 45, 3) := by decide +kernel
theorem dX1_findRing_48 : decode cX1_findRing 48 = .ok (.istore_n 3, 1) := by decide +kernel
theorem dX1_findRing_49 : decode cX1_findRing 49 = .ok (.iload_n 3, 1) := by decide +kernel
theorem dX1_findRing_50 : decode cX1_findRing 50 = .ok (.iload_n 2, 1) := by decide +kernel
theorem dX1_findRing_51 : decode cX1_findRing 51 = .ok (.if_icmp .ge 16, 3) := by decide +kernel
theorem dX1_findRing_54 : decode cX1_findRing 54 = .ok (.aload_n 0, 1) := by decide +kernel
theorem dX1_findRing_55 : decode cX1_findRing 55 = .ok (.iload_n 3, 1) := by decide +kernel
theorem dX1_findRing_56 : decode cX1_findRing 56 = .ok (.putfield 38, 3) := by decide +kernel
theorem dX1_findRing_59 : decode cX1_findRing 59 = .ok (.aload_n 0, 1) := by decide +kernel
theorem dX1_findRing_60 : decode cX1_findRing 60 = .ok (.iload_n 2, 1) := by decide +kernel
theorem dX1_findRing_61 : decode cX1_findRing 61 = .ok (.iload_n 3, 1) := by decide +kernel
theorem dX1_findRing_62 : decode cX1_findRing 62 = .ok (.isub, 1) := by decide +kernel
theorem dX1_findRing_63 : decode cX1_findRing 63 = .ok (.putfield 18, 3) := by decide +kernel
theorem dX1_findRing_66 : decode cX1_findRing 66 = .ok (.return_, 1) := by decide +kernel
theorem dX1_findRing_67 : decode cX1_findRing 67 = .ok (.iinc 2 1, 3) := by decide +kernel
theorem dX1_findRing_70 : decode cX1_findRing 70 = .ok (.goto (-48), 3) := by decide +kernel
theorem dX1_findRing_73 : decode cX1_findRing 73 = .ok (.return_, 1) := by decide +kernel
theorem dX1_placeBefore_0 : decode cX1_placeBefore 0 = .ok (.iconst 0, 1) := by decide +kernel
theorem dX1_placeBefore_1 : decode cX1_placeBefore 1 = .ok (.istore_n 2, 1) := by decide +kernel
theorem dX1_placeBefore_2 : decode cX1_placeBefore 2 = .ok (.iload_n 2, 1) := by decide +kernel
theorem dX1_placeBefore_3 : decode cX1_placeBefore 3 = .ok (.iload_n 1, 1) := by decide +kernel
theorem dX1_placeBefore_4 : decode cX1_placeBefore 4 = .ok (.if_icmp .ge 24, 3) := by decide +kernel
theorem dX1_placeBefore_7 : decode cX1_placeBefore 7 = .ok (.aload_n 0, 1) := by decide +kernel
theorem dX1_placeBefore_8 : decode cX1_placeBefore 8 = .ok (.getfield 15, 3) := by decide +kernel
theorem dX1_placeBefore_11 : decode cX1_placeBefore 11 = .ok (.iload_n 2, 1) := by decide +kernel
theorem dX1_placeBefore_12 : decode cX1_placeBefore 12 = .ok (.iaload, 1) := by decide +kernel
theorem dX1_placeBefore_13 : decode cX1_placeBefore 13 = .ok (.aload_n 0, 1) := by decide +kernel
theorem dX1_placeBefore_14 : decode cX1_placeBefore 14 = .ok (.getfield 15, 3) := by decide +kernel
theorem dX1_placeBefore_17 : decode cX1_placeBefore 17 = .ok (.iload_n 1, 1) := by decide +kernel
theorem dX1_placeBefore_18 : decode cX1_placeBefore 18 = .ok (.iaload, 1) := by decide +kernel
theorem dX1_placeBefore_19 : decode cX1_placeBefore 19 = .ok (.if_icmp .eq 9, 3) := by decide +kernel
theorem dX1_placeBefore_22 : decode cX1_placeBefore 22 = .ok (.iinc 2 1, 3) := by decide +kernel
theorem dX1_placeBefore_25 : decode cX1_placeBefore 25 = .ok (.goto (-23), 3) := by decide +kernel
theorem dX1_placeBefore_28 : decode cX1_placeBefore 28 = .ok (.iload_n 2, 1) := by decide +kernel
theorem dX1_placeBefore_29 : decode cX1_placeBefore 29 = .ok (.ireturn, 1) := by decide +kernel
theorem dX2_init_0 : decode cX2_init 0 = .ok (.aload_n 0, 1) := by decide +kernel
theorem dX2_init_1 : decode cX2_init 1 = .ok (.invokespecial 3, 3) := by decide +kernel
theorem dX2_init_4 : decode cX2_init 4 = .ok (.aload_n 0, 1) := by decide +kernel
theorem dX2_init_5 : decode cX2_init 5 = .ok (.iconst 2, 1) := by decide +kernel
theorem dX2_init_6 : decode cX2_init 6 = .ok (.newarray .int, 2) := by decide +kernel
theorem dX2_init_8 : decode cX2_init 8 = .ok (.putfield 11, 3) := by decide +kernel
theorem dX2_init_11 : decode cX2_init 11 = .ok (.aload_n 0, 1) := by decide +kernel
theorem dX2_init_12 : decode cX2_init 12 = .ok (.iconst 2, 1) := by decide +kernel
theorem dX2_init_13 : decode cX2_init 13 = .ok (.bipush 7, 2) := by decide +kernel
theorem dX2_init_15 : decode cX2_init 15 = .ok (.multianewarray 15 2, 4) := by decide +kernel
theorem dX2_init_19 : decode cX2_init 19 = .ok (.putfield 17, 3) := by decide +kernel
theorem dX2_init_22 : decode cX2_init 22 = .ok (.return_, 1) := by decide +kernel
theorem dX2_find_0 : decode cX2_find 0 = .ok (.aload_n 0, 1) := by decide +kernel
theorem dX2_find_1 : decode cX2_find 1 = .ok (.getfield 11, 3) := by decide +kernel
theorem dX2_find_4 : decode cX2_find 4 = .ok (.iconst (-1), 1) := by decide +kernel
theorem dX2_find_5 : decode cX2_find 5 = .ok (.invokestatic 20, 3) := by decide +kernel
theorem dX2_find_8 : decode cX2_find 8 = .ok (.iconst 0, 1) := by decide +kernel
theorem dX2_find_9 : decode cX2_find 9 = .ok (.istore_n 2, 1) := by decide +kernel
theorem dX2_find_10 : decode cX2_find 10 = .ok (.iload_n 2, 1) := by decide +kernel
theorem dX2_find_11 : decode cX2_find 11 = .ok (.aload_n 1, 1) := by decide +kernel
theorem dX2_find_12 : decode cX2_find 12 = .ok (.getfield 26, 3) := by decide +kernel
theorem dX2_find_15 : decode cX2_find 15 = .ok (.if_icmp .ge 16, 3) := by decide +kernel
theorem dX2_find_18 : decode cX2_find 18 = .ok (.aload_n 1, 1) := by decide +kernel
theorem dX2_find_19 : decode cX2_find 19 = .ok (.getfield 32, 3) := by decide +kernel
theorem dX2_find_22 : decode cX2_find 22 = .ok (.iload_n 2, 1) := by decide +kernel
theorem dX2_find_23 : decode cX2_find 23 = .ok (.iload_n 2, 1) := by decide +kernel
theorem dX2_find_24 : decode cX2_find 24 = .ok (.iastore, 1) := by decide +kernel
theorem dX2_find_25 : decode cX2_find 25 = .ok (.iinc 2 1, 3) := by decide +kernel
theorem dX2_find_28 : decode cX2_find 28 = .ok (.goto (-18), 3) := by decide +kernel
theorem dX2_find_31 : decode cX2_find 31 = .ok (.iconst 1, 1) := by decide +kernel
theorem dX2_find_32 : decode cX2_find 32 = .ok (.istore_n 2, 1) := by decide +kernel
theorem dX2_find_33 : decode cX2_find 33 = .ok (.iconst 0, 1) := by decide +kernel
theorem dX2_find_34 : decode cX2_find 34 = .ok (.istore_n 3, 1) := by decide +kernel
theorem dX2_find_35 : decode cX2_find 35 = .ok (.iload_n 3, 1) := by decide +kernel
theorem dX2_find_36 : decode cX2_find 36 = .ok (.sipush 720, 3) := by decide +kernel
theorem dX2_find_39 : decode cX2_find 39 = .ok (.if_icmp .ge 59, 3) := by decide +kernel
theorem dX2_find_42 : decode cX2_find 42 = .ok (.iload_n 2, 1) := by decide +kernel
theorem dX2_find_43 : decode cX2_find 43 = .ok (.ifCond .eq 55, 3) := by decide +kernel
theorem dX2_find_46 : decode cX2_find 46 = .ok (.aload_n 1, 1) := by decide +kernel
theorem dX2_find_47 : decode cX2_find 47 = .ok (.invokevirtual 35, 3) := by decide +kernel
theorem dX2_find_50 : decode cX2_find 50 = .ok (.aload_n 1, 1) := by decide +kernel
theorem dX2_find_51 : decode cX2_find 51 = .ok (.invokevirtual 38, 3) := by decide +kernel
theorem dX2_find_54 : decode cX2_find 54 = .ok (.aload_n 0, 1) := by decide +kernel
theorem dX2_find_55 : decode cX2_find 55 = .ok (.iconst 0, 1) := by decide +kernel
theorem dX2_find_56 : decode cX2_find 56 = .ok (.aload_n 1, 1) := by decide +kernel
theorem dX2_find_57 : decode cX2_find 57 = .ok (.invokevirtual 41, 3) := by decide +kernel
theorem dX2_find_60 : decode cX2_find 60 = .ok (.aload_n 1, 1) := by decide +kernel
theorem dX2_find_61 : decode cX2_find 61 = .ok (.getfield 32, 3) := by decide +kernel
theorem dX2_find_64 : decode cX2_find 64 = .ok (.invokevirtual 45, 3) := by decide +kernel
theorem dX2_find_67 : decode cX2_find 67 = .ok (.aload_n 0, 1) := by decide +kernel
theorem dX2_find_68 : decode cX2_find 68 = .ok (.iconst 1, 1) := by decide +kernel
theorem dX2_find_69 : decode cX2_find 69 = .ok (.aload_n 1, 1) := by decide +kernel
theorem dX2_find_70 : decode cX2_find 70 = .ok (.invokevirtual 49, 3) := by decide +kernel
theorem dX2_find_73 : decode cX2_find 73 = .ok (.aload_n 1, 1) := by decide +kernel
theorem dX2_find_74 : decode cX2_find 74 = .ok (.getfield 32, 3) := by decide +kernel
theorem dX2_find_77 : decode cX2_find 77 = .ok (.invokevirtual 45, 3) := by decide +kernel
theorem dX2_find_80 : decode cX2_find 80 = .ok (.aload_n 1, 1) := by decide +kernel
theorem dX2_find_81 : decode cX2_find 81 = .ok (.getfield 32, 3) := by decide +kernel
theorem dX2_find_84 : decode cX2_find 84 = .ok (.aload_n 1, 1) := by decide +kernel
theorem dX2_find_85 : decode cX2_find 85 = .ok (.getfield 26, 3) := by decide +kernel
theorem dX2_find_88 : decode cX2_find 88 = .ok (.invokestatic 52, 3) := by decide +kernel
theorem dX2_find_91 : decode cX2_find 91 = .ok (.istore_n 2, 1) := by decide +kernel
theorem dX2_find_92 : decode cX2_find 92 = .ok (.iinc 3 1, 3) := by decide +kernel
theorem dX2_find_95 : decode cX2_find 95 = .ok (.goto (-60), 3) := by decide +kernel
theorem dX2_find_98 : decode cX2_find 98 = .ok (.aload_n 0, 1) := by decide +kernel
theorem dX2_find_99 : decode cX2_find 99 = .ok (.iconst 1, 1) := by decide +kernel
theorem dX2_find_100 : decode cX2_find 100 = .ok (.putfield 56, 3) := by decide +kernel
theorem dX2_find_103 : decode cX2_find 103 = .ok (.return_, 1) := by decide +kernel
theorem dX2_weigh_0 : decode cX2_weigh 0 = .ok (.iload_n 2, 1) := by decide +kernel
theorem dX2_weigh_1 : decode cX2_weigh 1 = .ok (.aload_n 0, 1) := by decide +kernel
theorem dX2_weigh_2 : decode cX2_weigh 2 = .ok (.getfield 11, 3) := by decide +kernel
theorem dX2_weigh_5 : decode cX2_weigh 5 = .ok (.iload_n 1, 1) := by decide +kernel
theorem dX2_weigh_6 : decode cX2_weigh 6 = .ok (.iaload, 1) := by decide +kernel
theorem dX2_weigh_7 : decode cX2_weigh 7 = .ok (.if_icmp .le 24, 3) := by decide +kernel
theorem dX2_weigh_10 : decode cX2_weigh 10 = .ok (.aload_n 0, 1) := by decide +kernel
theorem dX2_weigh_11 : decode cX2_weigh 11 = .ok (.getfield 11, 3) := by decide +kernel
theorem dX2_weigh_14 : decode cX2_weigh 14 = .ok (.iload_n 1, 1) := by decide +kernel
theorem dX2_weigh_15 : decode cX2_weigh 15 = .ok (.iload_n 2, 1) := by decide +kernel
theorem dX2_weigh_16 : decode cX2_weigh 16 = .ok (.iastore, 1) := by decide +kernel
theorem dX2_weigh_17 : decode cX2_weigh 17 = .ok (.aload_n 3, 1) := by decide +kernel
theorem dX2_weigh_18 : decode cX2_weigh 18 = .ok (.iconst 0, 1) := by decide +kernel
theorem dX2_weigh_19 : decode cX2_weigh 19 = .ok (.aload_n 0, 1) := by decide +kernel
theorem dX2_weigh_20 : decode cX2_weigh 20 = .ok (.getfield 17, 3) := by decide +kernel
theorem dX2_weigh_23 : decode cX2_weigh 23 = .ok (.iload_n 1, 1) := by decide +kernel
theorem dX2_weigh_24 : decode cX2_weigh 24 = .ok (.aaload, 1) := by decide +kernel
theorem dX2_weigh_25 : decode cX2_weigh 25 = .ok (.iconst 0, 1) := by decide +kernel
theorem dX2_weigh_26 : decode cX2_weigh 26 = .ok (.bipush 7, 2) := by decide +kernel
theorem dX2_weigh_28 : decode cX2_weigh 28 = .ok (.invokestatic 60, 3) := by decide +kernel
theorem dX2_weigh_31 : decode cX2_weigh 31 = .ok (.return_, 1) := by decide +kernel
theorem dX2_isNextRow_0 : decode cX2_isNextRow 0 = .ok (.iload_n 1, 1) := by decide +kernel
theorem dX2_isNextRow_1 : decode cX2_isNextRow 1 = .ok (.iconst 2, 1) := by decide +kernel
theorem dX2_isNextRow_2 : decode cX2_isNextRow 2 = .ok (.isub, 1) := by decide +kernel
theorem dX2_isNextRow_3 : decode cX2_isNextRow 3 = .ok (.istore_n 2, 1) := by decide +kernel
theorem dX2_isNextRow_4 : decode cX2_isNextRow 4 = .ok (.iload_n 2, 1) := by decide +kernel
theorem dX2_isNextRow_5 : decode cX2_isNextRow 5 = .ok (.ifCond .le 20, 3) := by decide +kernel
theorem dX2_isNextRow_8 : decode cX2_isNextRow 8 = .ok (.aload_n 0, 1) := by decide +kernel
theorem dX2_isNextRow_9 : decode cX2_isNextRow 9 = .ok (.iload_n 2, 1) := by decide +kernel
theorem dX2_isNextRow_10 : decode cX2_isNextRow 10 = .ok (.iaload, 1) := by decide +kernel
theorem dX2_isNextRow_11 : decode cX2_isNextRow 11 = .ok (.aload_n 0, 1) := by decide +kernel
theorem dX2_isNextRow_12 : decode cX2_isNextRow 12 = .ok (.iload_n 2, 1) := by decide +kernel
theorem dX2_isNextRow_13 : decode cX2_isNextRow 13 = .ok (.iconst 1, 1) := by decide +kernel
theorem dX2_isNextRow_14 : decode cX2_isNextRow 14 = .ok (.iadd, 1) := by decide +kernel
theorem dX2_isNextRow_15 : decode cX2_isNextRow 15 = .ok (.iaload, 1) := by decide +kernel
theorem dX2_isNextRow_16 : decode cX2_isNextRow 16 = .ok (.if_icmp .le 9, 3) := by decide +kernel
theorem dX2_isNextRow_19 : decode cX2_isNextRow 19 = .ok (.iinc 2 (-1), 3) := by decide +kernel
theorem dX2_isNextRow_22 : decode cX2_isNextRow 22 = .ok (.goto (-18), 3) := by decide +kernel
theorem dX2_isNextRow_25 : decode cX2_isNextRow 25 = .ok (.iload_n 2, 1) := by decide +kernel
theorem dX2_isNextRow_26 : decode cX2_isNextRow 26 = .ok (.ifCond .gt 5, 3) := by decide +kernel
theorem dX2_isNextRow_29 : decode cX2_isNextRow 29 = .ok (.iconst 0, 1) := by decide +kernel
theorem dX2_isNextRow_30 : decode cX2_isNextRow 30 = .ok (.ireturn, 1) := by decide +kernel
theorem dX2_isNextRow_31 : decode cX2_isNextRow 31 = .ok (.iload_n 1, 1) := by decide +kernel
theorem dX2_isNextRow_32 : decode cX2_isNextRow 32 = .ok (.iconst 1, 1) := by decide +kernel
theorem dX2_isNextRow_33 : decode cX2_isNextRow 33 = .ok (.isub, 1) := by decide +kernel
theorem dX2_isNextRow_34 : decode cX2_isNextRow 34 = .ok (.istore_n 3, 1) := by decide +kernel
theorem dX2_isNextRow_35 : decode cX2_isNextRow 35 = .ok (.iload_n 3, 1) := by decide +kernel
theorem dX2_isNextRow_36 : decode cX2_isNextRow 36 = .ok (.iload_n 2, 1) := by decide +kernel
theorem dX2_isNextRow_37 : decode cX2_isNextRow 37 = .ok (.iconst 1, 1) := by decide +kernel
theorem dX2_isNextRow_38 : decode cX2_isNextRow 38 = .ok (.iadd, 1) := by decide +kernel
theorem dX2_isNextRow_39 : decode cX2_isNextRow 39 = .ok (.if_icmp .le 18, 3) := by decide +kernel
theorem dX2_isNextRow_42 : decode cX2_isNextRow 42 = .ok (.aload_n 0, 1) := by decide +kernel
theorem dX2_isNextRow_43 : decode cX2_isNextRow 43 = .ok (.iload_n 3, 1) := by decide +kernel
theorem dX2_isNextRow_44 : decode cX2_isNextRow 44 = .ok (.iaload, 1) := by decide +kernel
theorem dX2_isNextRow_45 : decode cX2_isNextRow 45 = .ok (.aload_n 0, 1) := by decide +kernel
theorem dX2_isNextRow_46 : decode cX2_isNextRow 46 = .ok (.iload_n 2, 1) := by decide +kernel
theorem dX2_isNextRow_47 : decode cX2_isNextRow 47 = .ok (.iaload, 1) := by decide +kernel
theorem dX2_isNextRow_48 : decode cX2_isNextRow 48 = .ok (.if_icmp .ge 9, 3) := by decide +kernel
theorem dX2_isNextRow_51 : decode cX2_isNextRow 51 = .ok (.iinc 3 (-1), 3) := by decide +kernel
theorem dX2_isNextRow_54 : decode cX2_isNextRow 54 = .ok (.goto (-19), 3) := by decide +kernel
theorem dX2_isNextRow_57 : decode cX2_isNextRow 57 = .ok (.aload_n 0, 1) := by decide +kernel
theorem dX2_isNextRow_58 : decode cX2_isNextRow 58 = .ok (.iload_n 2, 1) := by decide +kernel
theorem dX2_isNextRow_59 : decode cX2_isNextRow 59 = .ok (.iload_n 3, 1) := by decide +kernel
theorem dX2_isNextRow_60 : decode cX2_isNextRow 60 = .ok (.invokestatic 66, 3) := by decide +kernel
theorem dX2_isNextRow_63 : decode cX2_isNextRow 63 = .ok (.iload_n 2, 1) := by decide +kernel
theorem dX2_isNextRow_64 : decode cX2_isNextRow 64 = .ok (.iconst 1, 1) := by decide +kernel
theorem dX2_isNextRow_65 : decode cX2_isNextRow 65 = .ok (.iadd, 1) := by decide +kernel
theorem dX2_isNextRow_66 : decode cX2_isNextRow 66 = .ok (.istore 4, 2) := by decide +kernel
theorem dX2_isNextRow_68 : decode cX2_isNextRow 68 = .ok (.iload_n 1, 1) := by decide +kernel
theorem dX2_isNextRow_69 : decode cX2_isNextRow 69 = .ok (.iconst 1, 1) := by decide +kernel
theorem dX2_isNextRow_70 : decode cX2_isNextRow 70 = .ok (.isub, 1) := by decide +kernel
theorem dX2_isNextRow_71 : decode cX2_isNextRow 71 = .ok (.istore 5, 2) := by decide +kernel
theorem dX2_isNextRow_73 : decode cX2_isNextRow 73 = .ok (.iload 4, 2) := by decide +kernel
theorem dX2_isNextRow_75 : decode cX2_isNextRow 75 = .ok (.iload 5, 2) := by decide +kernel
theorem dX2_isNextRow_77 : decode cX2_isNextRow 77 = .ok (.if_icmp .ge 20, 3) := by decide +kernel
theorem dX2_isNextRow_80 : decode cX2_isNextRow 80 = .ok (.aload_n 0, 1) := by decide +kernel
theorem dX2_isNextRow_81 : decode cX2_isNextRow 81 = .ok (.iload 4, 2) := by decide +kernel
theorem dX2_isNextRow_83 : decode cX2_isNextRow 83 = .ok (.iload 5, 2) := by decide +kernel
theorem dX2_isNextRow_85 : decode cX2_isNextRow 85 = .ok (.invokestatic 66, 3) := by decide +kernel
theorem dX2_isNextRow_88 : decode cX2_isNextRow 88 = .ok (.iinc 4 1, 3) := by decide +kernel
theorem dX2_isNextRow_91 : decode cX2_isNextRow 91 = .ok (.iinc 5 (-1), 3) := by decide +kernel
theorem dX2_isNextRow_94 : decode cX2_isNextRow 94 = .ok (.goto (-21), 3) := by decide +kernel
theorem dX2_isNextRow_97 : decode cX2_isNextRow 97 = .ok (.iconst 1, 1) := by decide +kernel
theorem dX2_isNextRow_98 : decode cX2_isNextRow 98 = .ok (.ireturn, 1) := by decide +kernel
theorem dX2_exchange_0 : decode cX2_exchange 0 = .ok (.aload_n 0, 1) := by decide +kernel
theorem dX2_exchange_1 : decode cX2_exchange 1 = .ok (.iload_n 1, 1) := by decide +kernel
theorem dX2_exchange_2 : decode cX2_exchange 2 = .ok (.iaload, 1) := by decide +kernel
theorem dX2_exchange_3 : decode cX2_exchange 3 = .ok (.istore_n 3, 1) := by decide +kernel
theorem dX2_exchange_4 : decode cX2_exchange 4 = .ok (.aload_n 0, 1) := by decide +kernel
theorem dX2_exchange_5 : decode cX2_exchange 5 = .ok (.iload_n 1, 1) := by decide +kernel
theorem dX2_exchange_6 : decode cX2_exchange 6 = .ok (.aload_n 0, 1) := by decide +kernel
theorem dX2_exchange_7 : decode cX2_exchange 7 = .ok (.iload_n 2, 1) := by decide +kernel
theorem dX2_exchange_8 : decode cX2_exchange 8 = .ok (.iaload, 1) := by decide +kernel
theorem dX2_exchange_9 : decode cX2_exchange 9 = .ok (.iastore, 1) := by decide +kernel
theorem dX2_exchange_10 : decode cX2_exchange 10 = .ok (.aload_n 0, 1) := by decide +kernel
theorem dX2_exchange_11 : decode cX2_exchange 11 = .ok (.iload_n 2, 1) := by decide +kernel
theorem dX2_exchange_12 : decode cX2_exchange 12 = .ok (.iload_n 3, 1) := by decide +kernel
theorem dX2_exchange_13 : decode cX2_exchange 13 = .ok (.iastore, 1) := by decide +kernel
theorem dX2_exchange_14 : decode cX2_exchange 14 = .ok (.return_, 1) := by decide +kernel
theorem dX3_init_0 : decode cX3_init 0 = .ok (.aload_n 0, 1) := by decide +kernel
theorem dX3_init_1 : decode cX3_init 1 = .ok (.invokespecial 3, 3) := by decide +kernel
theorem dX3_init_4 : decode cX3_init 4 = .ok (.aload_n 0, 1) := by decide +kernel
theorem dX3_init_5 : decode cX3_init 5 = .ok (.bipush 100, 2) := by decide +kernel
theorem dX3_init_7 : decode cX3_init 7 = .ok (.newarray .int, 2) := by decide +kernel
theorem dX3_init_9 : decode cX3_init 9 = .ok (.putfield 9, 3) := by decide +kernel
theorem dX3_init_12 : decode cX3_init 12 = .ok (.return_, 1) := by decide +kernel
theorem dX3_renew_0 : decode cX3_renew 0 = .ok (.aload_n 0, 1) := by decide +kernel
theorem dX3_renew_1 : decode cX3_renew 1 = .ok (.iconst 1, 1) := by decide +kernel
theorem dX3_renew_2 : decode cX3_renew 2 = .ok (.putfield 15, 3) := by decide +kernel
theorem dX3_renew_5 : decode cX3_renew 5 = .ok (.aload_n 0, 1) := by decide +kernel
theorem dX3_renew_6 : decode cX3_renew 6 = .ok (.iload_n 1, 1) := by decide +kernel
theorem dX3_renew_7 : decode cX3_renew 7 = .ok (.putfield 19, 3) := by decide +kernel
theorem dX3_renew_10 : decode cX3_renew 10 = .ok (.aload_n 0, 1) := by decide +kernel
theorem dX3_renew_11 : decode cX3_renew 11 = .ok (.iload_n 2, 1) := by decide +kernel
theorem dX3_renew_12 : decode cX3_renew 12 = .ok (.putfield 23, 3) := by decide +kernel
theorem dX3_renew_15 : decode cX3_renew 15 = .ok (.aload_n 0, 1) := by decide +kernel
theorem dX3_renew_16 : decode cX3_renew 16 = .ok (.getfield 9, 3) := by decide +kernel
theorem dX3_renew_19 : decode cX3_renew 19 = .ok (.iconst 0, 1) := by decide +kernel
theorem dX3_renew_20 : decode cX3_renew 20 = .ok (.invokestatic 26, 3) := by decide +kernel
theorem dX3_renew_23 : decode cX3_renew 23 = .ok (.return_, 1) := by decide +kernel
theorem dX3_holds_0 : decode cX3_holds 0 = .ok (.iload_n 1, 1) := by decide +kernel
theorem dX3_holds_1 : decode cX3_holds 1 = .ok (.ifCond .lt 29, 3) := by decide +kernel
theorem dX3_holds_4 : decode cX3_holds 4 = .ok (.iload_n 1, 1) := by decide +kernel
theorem dX3_holds_5 : decode cX3_holds 5 = .ok (.aload_n 0, 1) := by decide +kernel
theorem dX3_holds_6 : decode cX3_holds 6 = .ok (.getfield 23, 3) := by decide +kernel
theorem dX3_holds_9 : decode cX3_holds 9 = .ok (.if_icmp .gt 21, 3) := by decide +kernel
theorem dX3_holds_12 : decode cX3_holds 12 = .ok (.iload_n 2, 1) := by decide +kernel
theorem dX3_holds_13 : decode cX3_holds 13 = .ok (.ifCond .lt 17, 3) := by decide +kernel
theorem dX3_holds_16 : decode cX3_holds 16 = .ok (.iload_n 2, 1) := by decide +kernel
theorem dX3_holds_17 : decode cX3_holds 17 = .ok (.aload_n 0, 1) := by decide +kernel
theorem dX3_holds_18 : decode cX3_holds 18 = .ok (.getfield 23, 3) := by decide +kernel
theorem dX3_holds_21 : decode cX3_holds 21 = .ok (.iload_n 1, 1) := by decide +kernel
theorem dX3_holds_22 : decode cX3_holds 22 = .ok (.isub, 1) := by decide +kernel
theorem dX3_holds_23 : decode cX3_holds 23 = .ok (.if_icmp .gt 7, 3) := by decide +kernel
theorem dX3_holds_26 : decode cX3_holds 26 = .ok (.iconst 1, 1) := by decide +kernel
theorem dX3_holds_27 : decode cX3_holds 27 = .ok (.goto 4, 3) := by decide +kernel
theorem dX3_holds_30 : decode cX3_holds 30 = .ok (.iconst 0, 1) := by decide +kernel
theorem dX3_holds_31 : decode cX3_holds 31 = .ok (.ireturn, 1) := by decide +kernel
theorem dX3_write_0 : decode cX3_write 0 = .ok (.aload_n 0, 1) := by decide +kernel
theorem dX3_write_1 : decode cX3_write 1 = .ok (.getfield 19, 3) := by decide +kernel
theorem dX3_write_4 : decode cX3_write 4 = .ok (.lookupswitch 50 #[(0, 28), (1, 39)], 28) := by decide +kernel
theorem dX3_write_32 : decode cX3_write 32 = .ok (.aload_n 0, 1) := by decide +kernel
theorem dX3_write_33 : decode cX3_write 33 = .ok (.getfield 9, 3) := by decide +kernel
theorem dX3_write_36 : decode cX3_write 36 = .ok (.iload_n 1, 1) := by decide +kernel
theorem dX3_write_37 : decode cX3_write 37 = .ok (.iload_n 2, 1) := by decide +kernel
theorem dX3_write_38 : decode cX3_write 38 = .ok (.i2b, 1) := by decide +kernel
theorem dX3_write_39 : decode cX3_write 39 = .ok (.iastore, 1) := by decide +kernel
theorem dX3_write_40 : decode cX3_write 40 = .ok (.goto 21, 3) := by decide +kernel
theorem dX3_write_43 : decode cX3_write 43 = .ok (.aload_n 0, 1) := by decide +kernel
theorem dX3_write_44 : decode cX3_write 44 = .ok (.getfield 9, 3) := by decide +kernel
theorem dX3_write_47 : decode cX3_write 47 = .ok (.iload_n 1, 1) := by decide +kernel
theorem dX3_write_48 : decode cX3_write 48 = .ok (.iload_n 2, 1) := by decide +kernel
theorem dX3_write_49 : decode cX3_write 49 = .ok (.i2s, 1) := by decide +kernel
theorem dX3_write_50 : decode cX3_write 50 = .ok (.iastore, 1) := by decide +kernel
theorem dX3_write_51 : decode cX3_write 51 = .ok (.goto 10, 3) := by decide +kernel
theorem dX3_write_54 : decode cX3_write 54 = .ok (.aload_n 0, 1) := by decide +kernel
theorem dX3_write_55 : decode cX3_write 55 = .ok (.getfield 9, 3) := by decide +kernel
theorem dX3_write_58 : decode cX3_write 58 = .ok (.iload_n 1, 1) := by decide +kernel
theorem dX3_write_59 : decode cX3_write 59 = .ok (.iload_n 2, 1) := by decide +kernel
theorem dX3_write_60 : decode cX3_write 60 = .ok (.iastore, 1) := by decide +kernel
theorem dX3_write_61 : decode cX3_write 61 = .ok (.return_, 1) := by decide +kernel
theorem dX4_init_0 : decode cX4_init 0 = .ok (.aload_n 0, 1) := by decide +kernel
theorem dX4_init_1 : decode cX4_init 1 = .ok (.invokespecial 3, 3) := by decide +kernel
theorem dX4_init_4 : decode cX4_init 4 = .ok (.aload_n 0, 1) := by decide +kernel
theorem dX4_init_5 : decode cX4_init 5 = .ok (.new 9, 3) := by decide +kernel
theorem dX4_init_8 : decode cX4_init 8 = .ok (.dup, 1) := by decide +kernel
theorem dX4_init_9 : decode cX4_init 9 = .ok (.invokespecial 11, 3) := by decide +kernel
theorem dX4_init_12 : decode cX4_init 12 = .ok (.putfield 12, 3) := by decide +kernel
theorem dX4_init_15 : decode cX4_init 15 = .ok (.aload_n 0, 1) := by decide +kernel
theorem dX4_init_16 : decode cX4_init 16 = .ok (.bipush 7, 2) := by decide +kernel
theorem dX4_init_18 : decode cX4_init 18 = .ok (.newarray .int, 2) := by decide +kernel
theorem dX4_init_20 : decode cX4_init 20 = .ok (.putfield 18, 3) := by decide +kernel
theorem dX4_init_23 : decode cX4_init 23 = .ok (.aload_n 0, 1) := by decide +kernel
theorem dX4_init_24 : decode cX4_init 24 = .ok (.bipush 7, 2) := by decide +kernel
theorem dX4_init_26 : decode cX4_init 26 = .ok (.newarray .int, 2) := by decide +kernel
theorem dX4_init_28 : decode cX4_init 28 = .ok (.putfield 22, 3) := by decide +kernel
theorem dX4_init_31 : decode cX4_init 31 = .ok (.aload_n 0, 1) := by decide +kernel
theorem dX4_init_32 : decode cX4_init 32 = .ok (.bipush 7, 2) := by decide +kernel
theorem dX4_init_34 : decode cX4_init 34 = .ok (.newarray .int, 2) := by decide +kernel
theorem dX4_init_36 : decode cX4_init 36 = .ok (.putfield 25, 3) := by decide +kernel
theorem dX4_init_39 : decode cX4_init 39 = .ok (.aload_n 0, 1) := by decide +kernel
theorem dX4_init_40 : decode cX4_init 40 = .ok (.bipush 7, 2) := by decide +kernel
theorem dX4_init_42 : decode cX4_init 42 = .ok (.bipush 6, 2) := by decide +kernel
theorem dX4_init_44 : decode cX4_init 44 = .ok (.multianewarray 28 2, 4) := by decide +kernel
theorem dX4_init_48 : decode cX4_init 48 = .ok (.putfield 30, 3) := by decide +kernel
theorem dX4_init_51 : decode cX4_init 51 = .ok (.aload_n 0, 1) := by decide +kernel
theorem dX4_init_52 : decode cX4_init 52 = .ok (.iconst (-1), 1) := by decide +kernel
theorem dX4_init_53 : decode cX4_init 53 = .ok (.putfield 33, 3) := by decide +kernel
theorem dX4_init_56 : decode cX4_init 56 = .ok (.aload_n 0, 1) := by decide +kernel
theorem dX4_init_57 : decode cX4_init 57 = .ok (.bipush 6, 2) := by decide +kernel
theorem dX4_init_59 : decode cX4_init 59 = .ok (.newarray .int, 2) := by decide +kernel
theorem dX4_init_61 : decode cX4_init 61 = .ok (.putfield 37, 3) := by decide +kernel
theorem dX4_init_64 : decode cX4_init 64 = .ok (.aload_n 0, 1) := by decide +kernel
theorem dX4_init_65 : decode cX4_init 65 = .ok (.bipush 8, 2) := by decide +kernel
theorem dX4_init_67 : decode cX4_init 67 = .ok (.bipush 7, 2) := by decide +kernel
theorem dX4_init_69 : decode cX4_init 69 = .ok (.multianewarray 28 2, 4) := by decide +kernel
theorem dX4_init_73 : decode cX4_init 73 = .ok (.putfield 40, 3) := by decide +kernel
theorem dX4_init_76 : decode cX4_init 76 = .ok (.aload_n 0, 1) := by decide +kernel
theorem dX4_init_77 : decode cX4_init 77 = .ok (.bipush 7, 2) := by decide +kernel
theorem dX4_init_79 : decode cX4_init 79 = .ok (.newarray .int, 2) := by decide +kernel
theorem dX4_init_81 : decode cX4_init 81 = .ok (.putfield 43, 3) := by decide +kernel
theorem dX4_init_84 : decode cX4_init 84 = .ok (.aload_n 0, 1) := by decide +kernel
theorem dX4_init_85 : decode cX4_init 85 = .ok (.bipush 7, 2) := by decide +kernel
theorem dX4_init_87 : decode cX4_init 87 = .ok (.newarray .int, 2) := by decide +kernel
theorem dX4_init_89 : decode cX4_init 89 = .ok (.putfield 46, 3) := by decide +kernel
theorem dX4_init_92 : decode cX4_init 92 = .ok (.return_, 1) := by decide +kernel
theorem dX4_begin_0 : decode cX4_begin 0 = .ok (.aload_n 0, 1) := by decide +kernel
theorem dX4_begin_1 : decode cX4_begin 1 = .ok (.aload_n 1, 1) := by decide +kernel
theorem dX4_begin_2 : decode cX4_begin 2 = .ok (.putfield 12, 3) := by decide +kernel
theorem dX4_begin_5 : decode cX4_begin 5 = .ok (.aload_n 0, 1) := by decide +kernel
theorem dX4_begin_6 : decode cX4_begin 6 = .ok (.aload_n 1, 1) := by decide +kernel
theorem dX4_begin_7 : decode cX4_begin 7 = .ok (.getfield 49, 3) := by decide +kernel
theorem dX4_begin_10 : decode cX4_begin 10 = .ok (.putfield 52, 3) := by decide +kernel
theorem dX4_begin_13 : decode cX4_begin 13 = .ok (.aload_n 0, 1) := by decide +kernel
theorem dX4_begin_14 : decode cX4_begin 14 = .ok (.iconst 1, 1) := by decide +kernel
theorem dX4_begin_15 : decode cX4_begin 15 = .ok (.putfield 55, 3) := by decide +kernel
theorem dX4_begin_18 : decode cX4_begin 18 = .ok (.aload_n 0, 1) := by decide +kernel
theorem dX4_begin_19 : decode cX4_begin 19 = .ok (.iconst 1, 1) := by decide +kernel
theorem dX4_begin_20 : decode cX4_begin 20 = .ok (.putfield 58, 3) := by decide +kernel
theorem dX4_begin_23 : decode cX4_begin 23 = .ok (.aload_n 0, 1) := by decide +kernel
theorem dX4_begin_24 : decode cX4_begin 24 = .ok (.iconst (-1), 1) := by decide +kernel
theorem dX4_begin_25 : decode cX4_begin 25 = .ok (.putfield 33, 3) := by decide +kernel
theorem dX4_begin_28 : decode cX4_begin 28 = .ok (.iconst 0, 1) := by decide +kernel
theorem dX4_begin_29 : decode cX4_begin 29 = .ok (.istore_n 2, 1) := by decide +kernel
theorem dX4_begin_30 : decode cX4_begin 30 = .ok (.iload_n 2, 1) := by decide +kernel
theorem dX4_begin_31 : decode cX4_begin 31 = .ok (.aload_n 0, 1) := by decide +kernel
theorem dX4_begin_32 : decode cX4_begin 32 = .ok (.getfield 52, 3) := by decide +kernel
theorem dX4_begin_35 : decode cX4_begin 35 = .ok (.if_icmp .ge 47, 3) := by decide +kernel
theorem dX4_begin_38 : decode cX4_begin 38 = .ok (.aload_n 0, 1) := by decide +kernel
theorem dX4_begin_39 : decode cX4_begin 39 = .ok (.getfield 18, 3) := by decide +kernel
theorem dX4_begin_42 : decode cX4_begin 42 = .ok (.iload_n 2, 1) := by decide +kernel
theorem dX4_begin_43 : decode cX4_begin 43 = .ok (.iload_n 2, 1) := by decide +kernel
theorem dX4_begin_44 : decode cX4_begin 44 = .ok (.iastore, 1) := by decide +kernel
theorem dX4_begin_45 : decode cX4_begin 45 = .ok (.aload_n 0, 1) := by decide +kernel
theorem dX4_begin_46 : decode cX4_begin 46 = .ok (.getfield 22, 3) := by decide +kernel
theorem dX4_begin_49 : decode cX4_begin 49 = .ok (.iload_n 2, 1) := by decide +kernel
theorem dX4_begin_50 : decode cX4_begin 50 = .ok (.aload_n 1, 1) := by decide +kernel
theorem dX4_begin_51 : decode cX4_begin 51 = .ok (.getfield 61, 3) := by decide +kernel
theorem dX4_begin_54 : decode cX4_begin 54 = .ok (.iload_n 2, 1) := by decide +kernel
theorem dX4_begin_55 : decode cX4_begin 55 = .ok (.iaload, 1) := by decide +kernel
theorem dX4_begin_56 : decode cX4_begin 56 = .ok (.iastore, 1) := by decide +kernel
theorem dX4_begin_57 : decode cX4_begin 57 = .ok (.aload_n 1, 1) := by decide +kernel
theorem dX4_begin_58 : decode cX4_begin 58 = .ok (.getfield 62, 3) := by decide +kernel
theorem dX4_begin_61 : decode cX4_begin 61 = .ok (.iload_n 2, 1) := by decide +kernel
theorem dX4_begin_62 : decode cX4_begin 62 = .ok (.aaload, 1) := by decide +kernel
theorem dX4_begin_63 : decode cX4_begin 63 = .ok (.iconst 0, 1) := by decide +kernel
theorem dX4_begin_64 : decode cX4_begin 64 = .ok (.aload_n 0, 1) := by decide +kernel
theorem dX4_begin_65 : decode cX4_begin 65 = .ok (.getfield 30, 3) := by decide +kernel
theorem dX4_begin_68 : decode cX4_begin 68 = .ok (.iload_n 2, 1) := by decide +kernel
theorem dX4_begin_69 : decode cX4_begin 69 = .ok (.aaload, 1) := by decide +kernel
theorem dX4_begin_70 : decode cX4_begin 70 = .ok (.iconst 0, 1) := by decide +kernel
theorem dX4_begin_71 : decode cX4_begin 71 = .ok (.bipush 6, 2) := by decide +kernel
theorem dX4_begin_73 : decode cX4_begin 73 = .ok (.invokestatic 65, 3) := by decide +kernel
theorem dX4_begin_76 : decode cX4_begin 76 = .ok (.iinc 2 1, 3) := by decide +kernel
theorem dX4_begin_79 : decode cX4_begin 79 = .ok (.goto (-49), 3) := by decide +kernel
theorem dX4_begin_82 : decode cX4_begin 82 = .ok (.aload_n 0, 1) := by decide +kernel
theorem dX4_begin_83 : decode cX4_begin 83 = .ok (.invokevirtual 71, 3) := by decide +kernel
theorem dX4_begin_86 : decode cX4_begin 86 = .ok (.return_, 1) := by decide +kernel
theorem dX4_become_0 : decode cX4_become 0 = .ok (.aload_n 0, 1) := by decide +kernel
theorem dX4_become_1 : decode cX4_become 1 = .ok (.aload_n 1, 1) := by decide +kernel
theorem dX4_become_2 : decode cX4_become 2 = .ok (.getfield 12, 3) := by decide +kernel
theorem dX4_become_5 : decode cX4_become 5 = .ok (.putfield 12, 3) := by decide +kernel
theorem dX4_become_8 : decode cX4_become 8 = .ok (.aload_n 0, 1) := by decide +kernel
theorem dX4_become_9 : decode cX4_become 9 = .ok (.aload_n 1, 1) := by decide +kernel
theorem dX4_become_10 : decode cX4_become 10 = .ok (.getfield 52, 3) := by decide +kernel
theorem dX4_become_13 : decode cX4_become 13 = .ok (.putfield 52, 3) := by decide +kernel
theorem dX4_become_16 : decode cX4_become 16 = .ok (.aload_n 0, 1) := by decide +kernel
theorem dX4_become_17 : decode cX4_become 17 = .ok (.aload_n 1, 1) := by decide +kernel
theorem dX4_become_18 : decode cX4_become 18 = .ok (.getfield 55, 3) := by decide +kernel
theorem dX4_become_21 : decode cX4_become 21 = .ok (.putfield 55, 3) := by decide +kernel
theorem dX4_become_24 : decode cX4_become 24 = .ok (.aload_n 0, 1) := by decide +kernel
theorem dX4_become_25 : decode cX4_become 25 = .ok (.aload_n 1, 1) := by decide +kernel
theorem dX4_become_26 : decode cX4_become 26 = .ok (.getfield 58, 3) := by decide +kernel
theorem dX4_become_29 : decode cX4_become 29 = .ok (.putfield 58, 3) := by decide +kernel
theorem dX4_become_32 : decode cX4_become 32 = .ok (.aload_n 0, 1) := by decide +kernel
theorem dX4_become_33 : decode cX4_become 33 = .ok (.aload_n 1, 1) := by decide +kernel
theorem dX4_become_34 : decode cX4_become 34 = .ok (.getfield 33, 3) := by decide +kernel
theorem dX4_become_37 : decode cX4_become 37 = .ok (.putfield 33, 3) := by decide +kernel
theorem dX4_become_40 : decode cX4_become 40 = .ok (.aload_n 1, 1) := by decide +kernel
theorem dX4_become_41 : decode cX4_become 41 = .ok (.getfield 18, 3) := by decide +kernel
theorem dX4_become_44 : decode cX4_become 44 = .ok (.iconst 0, 1) := by decide +kernel
theorem dX4_become_45 : decode cX4_become 45 = .ok (.aload_n 0, 1) := by decide +kernel
theorem dX4_become_46 : decode cX4_become 46 = .ok (.getfield 18, 3) := by decide +kernel
theorem dX4_become_49 : decode cX4_become 49 = .ok (.iconst 0, 1) := by decide +kernel
theorem dX4_become_50 : decode cX4_become 50 = .ok (.bipush 7, 2) := by decide +kernel
theorem dX4_become_52 : decode cX4_become 52 = .ok (.invokestatic 65, 3) := by decide +kernel
theorem dX4_become_55 : decode cX4_become 55 = .ok (.aload_n 1, 1) := by decide +kernel
theorem dX4_become_56 : decode cX4_become 56 = .ok (.getfield 22, 3) := by decide +kernel
theorem dX4_become_59 : decode cX4_become 59 = .ok (.iconst 0, 1) := by decide +kernel
theorem dX4_become_60 : decode cX4_become 60 = .ok (.aload_n 0, 1) := by decide +kernel
theorem dX4_become_61 : decode cX4_become 61 = .ok (.getfield 22, 3) := by decide +kernel
theorem dX4_become_64 : decode cX4_become 64 = .ok (.iconst 0, 1) := by decide +kernel
theorem dX4_become_65 : decode cX4_become 65 = .ok (.bipush 7, 2) := by decide +kernel
theorem dX4_become_67 : decode cX4_become 67 = .ok (.invokestatic 65, 3) := by decide +kernel
theorem dX4_become_70 : decode cX4_become 70 = .ok (.aload_n 1, 1) := by decide +kernel
theorem dX4_become_71 : decode cX4_become 71 = .ok (.getfield 25, 3) := by decide +kernel
theorem dX4_become_74 : decode cX4_become 74 = .ok (.iconst 0, 1) := by decide +kernel
theorem dX4_become_75 : decode cX4_become 75 = .ok (.aload_n 0, 1) := by decide +kernel
theorem dX4_become_76 : decode cX4_become 76 = .ok (.getfield 25, 3) := by decide +kernel
theorem dX4_become_79 : decode cX4_become 79 = .ok (.iconst 0, 1) := by decide +kernel
theorem dX4_become_80 : decode cX4_become 80 = .ok (.bipush 7, 2) := by decide +kernel
theorem dX4_become_82 : decode cX4_become 82 = .ok (.invokestatic 65, 3) := by decide +kernel
theorem dX4_become_85 : decode cX4_become 85 = .ok (.iconst 0, 1) := by decide +kernel
theorem dX4_become_86 : decode cX4_become 86 = .ok (.istore_n 2, 1) := by decide +kernel
theorem dX4_become_87 : decode cX4_become 87 = .ok (.iload_n 2, 1) := by decide +kernel
theorem dX4_become_88 : decode cX4_become 88 = .ok (.aload_n 0, 1) := by decide +kernel
theorem dX4_become_89 : decode cX4_become 89 = .ok (.getfield 12, 3) := by decide +kernel
theorem dX4_become_92 : decode cX4_become 92 = .ok (.getfield 49, 3) := by decide +kernel
theorem dX4_become_95 : decode cX4_become 95 = .ok (.if_icmp .ge 28, 3) := by decide +kernel
theorem dX4_become_98 : decode cX4_become 98 = .ok (.aload_n 1, 1) := by decide +kernel
theorem dX4_become_99 : decode cX4_become 99 = .ok (.getfield 30, 3) := by decide +kernel
theorem dX4_become_102 : decode cX4_become 102 = .ok (.iload_n 2, 1) := by decide +kernel
theorem dX4_become_103 : decode cX4_become 103 = .ok (.aaload, 1) := by decide +kernel
theorem dX4_become_104 : decode cX4_become 104 = .ok (.iconst 0, 1) := by decide +kernel
theorem dX4_become_105 : decode cX4_become 105 = .ok (.aload_n 0, 1) := by decide +kernel
theorem dX4_become_106 : decode cX4_become 106 = .ok (.getfield 30, 3) := by decide +kernel
theorem dX4_become_109 : decode cX4_become 109 = .ok (.iload_n 2, 1) := by decide +kernel
theorem dX4_become_110 : decode cX4_become 110 = .ok (.aaload, 1) := by decide +kernel
theorem dX4_become_111 : decode cX4_become 111 = .ok (.iconst 0, 1) := by decide +kernel
theorem dX4_become_112 : decode cX4_become 112 = .ok (.bipush 6, 2) := by decide +kernel
theorem dX4_become_114 : decode cX4_become 114 = .ok (.invokestatic 65, 3) := by decide +kernel
theorem dX4_become_117 : decode cX4_become 117 = .ok (.iinc 2 1, 3) := by decide +kernel
theorem dX4_become_120 : decode cX4_become 120 = .ok (.goto (-33), 3) := by decide +kernel
theorem dX4_become_123 : decode cX4_become 123 = .ok (.return_, 1) := by decide +kernel
theorem dX4_clearMemory_0 : decode cX4_clearMemory 0 = .ok (.aload_n 0, 1) := by decide +kernel
theorem dX4_clearMemory_1 : decode cX4_clearMemory 1 = .ok (.getfield 25, 3) := by decide +kernel
theorem dX4_clearMemory_4 : decode cX4_clearMemory 4 = .ok (.bipush (-8), 2) := by decide +kernel
theorem dX4_clearMemory_6 : decode cX4_clearMemory 6 = .ok (.invokestatic 74, 3) := by decide +kernel
theorem dX4_clearMemory_9 : decode cX4_clearMemory 9 = .ok (.return_, 1) := by decide +kernel
theorem dX4_sayOnly_0 : decode cX4_sayOnly 0 = .ok (.iconst 0, 1) := by decide +kernel
theorem dX4_sayOnly_1 : decode cX4_sayOnly 1 = .ok (.istore_n 3, 1) := by decide +kernel
theorem dX4_sayOnly_2 : decode cX4_sayOnly 2 = .ok (.iload_n 3, 1) := by decide +kernel
theorem dX4_sayOnly_3 : decode cX4_sayOnly 3 = .ok (.aload_n 0, 1) := by decide +kernel
theorem dX4_sayOnly_4 : decode cX4_sayOnly 4 = .ok (.getfield 12, 3) := by decide +kernel
theorem dX4_sayOnly_7 : decode cX4_sayOnly 7 = .ok (.getfield 80, 3) := by decide +kernel
theorem dX4_sayOnly_10 : decode cX4_sayOnly 10 = .ok (.if_icmp .ge 40, 3) := by decide +kernel
theorem dX4_sayOnly_13 : decode cX4_sayOnly 13 = .ok (.aload_n 0, 1) := by decide +kernel
theorem dX4_sayOnly_14 : decode cX4_sayOnly 14 = .ok (.getfield 12, 3) := by decide +kernel
theorem dX4_sayOnly_17 : decode cX4_sayOnly 17 = .ok (.iload_n 1, 1) := by decide +kernel
theorem dX4_sayOnly_18 : decode cX4_sayOnly 18 = .ok (.iload_n 3, 1) := by decide +kernel
theorem dX4_sayOnly_19 : decode cX4_sayOnly 19 = .ok (.invokevirtual 83, 3) := by decide +kernel
theorem dX4_sayOnly_22 : decode cX4_sayOnly 22 = .ok (.ifCond .eq 22, 3) := by decide +kernel
theorem dX4_sayOnly_25 : decode cX4_sayOnly 25 = .ok (.aload_n 0, 1) := by decide +kernel
theorem dX4_sayOnly_26 : decode cX4_sayOnly 26 = .ok (.getfield 30, 3) := by decide +kernel
theorem dX4_sayOnly_29 : decode cX4_sayOnly 29 = .ok (.iload_n 1, 1) := by decide +kernel
theorem dX4_sayOnly_30 : decode cX4_sayOnly 30 = .ok (.aaload, 1) := by decide +kernel
theorem dX4_sayOnly_31 : decode cX4_sayOnly 31 = .ok (.iload_n 3, 1) := by decide +kernel
theorem dX4_sayOnly_32 : decode cX4_sayOnly 32 = .ok (.iload_n 3, 1) := by decide +kernel
theorem dX4_sayOnly_33 : decode cX4_sayOnly 33 = .ok (.iload_n 2, 1) := by decide +kernel
theorem dX4_sayOnly_34 : decode cX4_sayOnly 34 = .ok (.if_icmp .ne 8, 3) := by decide +kernel
theorem dX4_sayOnly_37 : decode cX4_sayOnly 37 = .ok (.bipush 9, 2) := by decide +kernel
theorem dX4_sayOnly_39 : decode cX4_sayOnly 39 = .ok (.goto 4, 3) := by decide +kernel
theorem dX4_sayOnly_42 : decode cX4_sayOnly 42 = .ok (.iconst 0, 1) := by decide +kernel
theorem dX4_sayOnly_43 : decode cX4_sayOnly 43 = .ok (.iastore, 1) := by decide +kernel
theorem dX4_sayOnly_44 : decode cX4_sayOnly 44 = .ok (.iinc 3 1, 3) := by decide +kernel
theorem dX4_sayOnly_47 : decode cX4_sayOnly 47 = .ok (.goto (-45), 3) := by decide +kernel
theorem dX4_sayOnly_50 : decode cX4_sayOnly 50 = .ok (.return_, 1) := by decide +kernel
theorem dX4_takeAway_0 : decode cX4_takeAway 0 = .ok (.aload_n 0, 1) := by decide +kernel
theorem dX4_takeAway_1 : decode cX4_takeAway 1 = .ok (.iload_n 1, 1) := by decide +kernel
theorem dX4_takeAway_2 : decode cX4_takeAway 2 = .ok (.invokevirtual 87, 3) := by decide +kernel
theorem dX4_takeAway_5 : decode cX4_takeAway 5 = .ok (.istore_n 2, 1) := by decide +kernel
theorem dX4_takeAway_6 : decode cX4_takeAway 6 = .ok (.iload_n 2, 1) := by decide +kernel
theorem dX4_takeAway_7 : decode cX4_takeAway 7 = .ok (.aload_n 0, 1) := by decide +kernel
theorem dX4_takeAway_8 : decode cX4_takeAway 8 = .ok (.getfield 52, 3) := by decide +kernel
theorem dX4_takeAway_11 : decode cX4_takeAway 11 = .ok (.iconst 1, 1) := by decide +kernel
theorem dX4_takeAway_12 : decode cX4_takeAway 12 = .ok (.isub, 1) := by decide +kernel
theorem dX4_takeAway_13 : decode cX4_takeAway 13 = .ok (.if_icmp .ge 23, 3) := by decide +kernel
theorem dX4_takeAway_16 : decode cX4_takeAway 16 = .ok (.aload_n 0, 1) := by decide +kernel
theorem dX4_takeAway_17 : decode cX4_takeAway 17 = .ok (.getfield 18, 3) := by decide +kernel
theorem dX4_takeAway_20 : decode cX4_takeAway 20 = .ok (.iload_n 2, 1) := by decide +kernel
theorem dX4_takeAway_21 : decode cX4_takeAway 21 = .ok (.aload_n 0, 1) := by decide +kernel
theorem dX4_takeAway_22 : decode cX4_takeAway 22 = .ok (.getfield 18, 3) := by decide +kernel
theorem dX4_takeAway_25 : decode cX4_takeAway 25 = .ok (.iload_n 2, 1) := by decide +kernel
theorem dX4_takeAway_26 : decode cX4_takeAway 26 = .ok (.iconst 1, 1) := by decide +kernel
theorem dX4_takeAway_27 : decode cX4_takeAway 27 = .ok (.iadd, 1) := by decide +kernel
theorem dX4_takeAway_28 : decode cX4_takeAway 28 = .ok (.iaload, 1) := by decide +kernel
theorem dX4_takeAway_29 : decode cX4_takeAway 29 = .ok (.iastore, 1) := by decide +kernel
theorem dX4_takeAway_30 : decode cX4_takeAway 30 = .ok (.iinc 2 1, 3) := by decide +kernel
theorem dX4_takeAway_33 : decode cX4_takeAway 33 = .ok (.goto (-27), 3) := by decide +kernel
theorem dX4_takeAway_36 : decode cX4_takeAway 36 = .ok (.aload_n 0, 1) := by decide +kernel
theorem dX4_takeAway_37 : decode cX4_takeAway 37 = .ok (.dup, 1) := by decide +kernel
theorem dX4_takeAway_38 : decode cX4_takeAway 38 = .ok (.getfield 52, 3) := by decide +kernel
theorem dX4_takeAway_41 : decode cX4_takeAway 41 = .ok (.iconst 1, 1) := by decide +kernel
theorem dX4_takeAway_42 : decode cX4_takeAway 42 = .ok (.isub, 1) := by decide +kernel
theorem dX4_takeAway_43 : decode cX4_takeAway 43 = .ok (.putfield 52, 3) := by decide +kernel
theorem dX4_takeAway_46 : decode cX4_takeAway 46 = .ok (.return_, 1) := by decide +kernel
theorem dX4_seatOf_0 : decode cX4_seatOf 0 = .ok (.iconst 0, 1) := by decide +kernel
theorem dX4_seatOf_1 : decode cX4_seatOf 1 = .ok (.istore_n 2, 1) := by decide +kernel
theorem dX4_seatOf_2 : decode cX4_seatOf 2 = .ok (.iconst 0, 1) := by decide +kernel
theorem dX4_seatOf_3 : decode cX4_seatOf 3 = .ok (.istore_n 3, 1) := by decide +kernel
theorem dX4_seatOf_4 : decode cX4_seatOf 4 = .ok (.iload_n 3, 1) := by decide +kernel
theorem dX4_seatOf_5 : decode cX4_seatOf 5 = .ok (.aload_n 0, 1) := by decide +kernel
theorem dX4_seatOf_6 : decode cX4_seatOf 6 = .ok (.getfield 52, 3) := by decide +kernel
theorem dX4_seatOf_9 : decode cX4_seatOf 9 = .ok (.if_icmp .ge 21, 3) := by decide +kernel
theorem dX4_seatOf_12 : decode cX4_seatOf 12 = .ok (.aload_n 0, 1) := by decide +kernel
theorem dX4_seatOf_13 : decode cX4_seatOf 13 = .ok (.getfield 18, 3) := by decide +kernel
theorem dX4_seatOf_16 : decode cX4_seatOf 16 = .ok (.iload_n 3, 1) := by decide +kernel
theorem dX4_seatOf_17 : decode cX4_seatOf 17 = .ok (.iaload, 1) := by decide +kernel
theorem dX4_seatOf_18 : decode cX4_seatOf 18 = .ok (.iload_n 1, 1) := by decide +kernel
theorem dX4_seatOf_19 : decode cX4_seatOf 19 = .ok (.if_icmp .ne 5, 3) := by decide +kernel
theorem dX4_seatOf_22 : decode cX4_seatOf 22 = .ok (.iload_n 3, 1) := by decide +kernel
theorem dX4_seatOf_23 : decode cX4_seatOf 23 = .ok (.istore_n 2, 1) := by decide +kernel
theorem dX4_seatOf_24 : decode cX4_seatOf 24 = .ok (.iinc 3 1, 3) := by decide +kernel
theorem dX4_seatOf_27 : decode cX4_seatOf 27 = .ok (.goto (-23), 3) := by decide +kernel
theorem dX4_seatOf_30 : decode cX4_seatOf 30 = .ok (.iload_n 2, 1) := by decide +kernel
theorem dX4_seatOf_31 : decode cX4_seatOf 31 = .ok (.ireturn, 1) := by decide +kernel
theorem dX4_askedFor_0 : decode cX4_askedFor 0 = .ok (.aload_n 0, 1) := by decide +kernel
theorem dX4_askedFor_1 : decode cX4_askedFor 1 = .ok (.getfield 52, 3) := by decide +kernel
theorem dX4_askedFor_4 : decode cX4_askedFor 4 = .ok (.ifCond .le 22, 3) := by decide +kernel
theorem dX4_askedFor_7 : decode cX4_askedFor 7 = .ok (.aload_n 0, 1) := by decide +kernel
theorem dX4_askedFor_8 : decode cX4_askedFor 8 = .ok (.getfield 18, 3) := by decide +kernel
theorem dX4_askedFor_11 : decode cX4_askedFor 11 = .ok (.iload_n 1, 1) := by decide +kernel
theorem dX4_askedFor_12 : decode cX4_askedFor 12 = .ok (.aload_n 0, 1) := by decide +kernel
theorem dX4_askedFor_13 : decode cX4_askedFor 13 = .ok (.getfield 55, 3) := by decide +kernel
theorem dX4_askedFor_16 : decode cX4_askedFor 16 = .ok (.iadd, 1) := by decide +kernel
theorem dX4_askedFor_17 : decode cX4_askedFor 17 = .ok (.aload_n 0, 1) := by decide +kernel
theorem dX4_askedFor_18 : decode cX4_askedFor 18 = .ok (.getfield 52, 3) := by decide +kernel
theorem dX4_askedFor_21 : decode cX4_askedFor 21 = .ok (.irem, 1) := by decide +kernel
theorem dX4_askedFor_22 : decode cX4_askedFor 22 = .ok (.iaload, 1) := by decide +kernel
theorem dX4_askedFor_23 : decode cX4_askedFor 23 = .ok (.goto 4, 3) := by decide +kernel
theorem dX4_askedFor_26 : decode cX4_askedFor 26 = .ok (.iconst 0, 1) := by decide +kernel
theorem dX4_askedFor_27 : decode cX4_askedFor 27 = .ok (.ireturn, 1) := by decide +kernel
theorem dX4_layOut_0 : decode cX4_layOut 0 = .ok (.aload_n 0, 1) := by decide +kernel
theorem dX4_layOut_1 : decode cX4_layOut 1 = .ok (.getfield 12, 3) := by decide +kernel
theorem dX4_layOut_4 : decode cX4_layOut 4 = .ok (.getfield 91, 3) := by decide +kernel
theorem dX4_layOut_7 : decode cX4_layOut 7 = .ok (.iconst 0, 1) := by decide +kernel
theorem dX4_layOut_8 : decode cX4_layOut 8 = .ok (.aload_n 0, 1) := by decide +kernel
theorem dX4_layOut_9 : decode cX4_layOut 9 = .ok (.getfield 37, 3) := by decide +kernel
theorem dX4_layOut_12 : decode cX4_layOut 12 = .ok (.iconst 0, 1) := by decide +kernel
theorem dX4_layOut_13 : decode cX4_layOut 13 = .ok (.bipush 6, 2) := by decide +kernel
theorem dX4_layOut_15 : decode cX4_layOut 15 = .ok (.invokestatic 65, 3) := by decide +kernel
theorem dX4_layOut_18 : decode cX4_layOut 18 = .ok (.return_, 1) := by decide +kernel
theorem dX4_isFor_0 : decode cX4_isFor 0 = .ok (.aload_n 0, 1) := by decide +kernel
theorem dX4_isFor_1 : decode cX4_isFor 1 = .ok (.getfield 37, 3) := by decide +kernel
theorem dX4_isFor_4 : decode cX4_isFor 4 = .ok (.iload_n 2, 1) := by decide +kernel
theorem dX4_isFor_5 : decode cX4_isFor 5 = .ok (.iaload, 1) := by decide +kernel
theorem dX4_isFor_6 : decode cX4_isFor 6 = .ok (.ifCond .le 19, 3) := by decide +kernel
theorem dX4_isFor_9 : decode cX4_isFor 9 = .ok (.aload_n 0, 1) := by decide +kernel
theorem dX4_isFor_10 : decode cX4_isFor 10 = .ok (.getfield 12, 3) := by decide +kernel
theorem dX4_isFor_13 : decode cX4_isFor 13 = .ok (.iload_n 1, 1) := by decide +kernel
theorem dX4_isFor_14 : decode cX4_isFor 14 = .ok (.iload_n 2, 1) := by decide +kernel
theorem dX4_isFor_15 : decode cX4_isFor 15 = .ok (.invokevirtual 83, 3) := by decide +kernel
theorem dX4_isFor_18 : decode cX4_isFor 18 = .ok (.ifCond .eq 7, 3) := by decide +kernel
theorem dX4_isFor_21 : decode cX4_isFor 21 = .ok (.iconst 1, 1) := by decide +kernel
theorem dX4_isFor_22 : decode cX4_isFor 22 = .ok (.goto 4, 3) := by decide +kernel
theorem dX4_isFor_25 : decode cX4_isFor 25 = .ok (.iconst 0, 1) := by decide +kernel
theorem dX4_isFor_26 : decode cX4_isFor 26 = .ok (.ireturn, 1) := by decide +kernel
theorem dX4_isAnyFor_0 : decode cX4_isAnyFor 0 = .ok (.iconst 0, 1) := by decide +kernel
theorem dX4_isAnyFor_1 : decode cX4_isAnyFor 1 = .ok (.istore_n 2, 1) := by decide +kernel
theorem dX4_isAnyFor_2 : decode cX4_isAnyFor 2 = .ok (.iconst 0, 1) := by decide +kernel
theorem dX4_isAnyFor_3 : decode cX4_isAnyFor 3 = .ok (.istore_n 3, 1) := by decide +kernel
theorem dX4_isAnyFor_4 : decode cX4_isAnyFor 4 = .ok (.iload_n 3, 1) := by decide +kernel
theorem dX4_isAnyFor_5 : decode cX4_isAnyFor 5 = .ok (.aload_n 0, 1) := by decide +kernel
theorem dX4_isAnyFor_6 : decode cX4_isAnyFor 6 = .ok (.getfield 12, 3) := by decide +kernel
theorem dX4_isAnyFor_9 : decode cX4_isAnyFor 9 = .ok (.getfield 80, 3) := by decide +kernel
theorem dX4_isAnyFor_12 : decode cX4_isAnyFor 12 = .ok (.if_icmp .ge 28, 3) := by decide +kernel
theorem dX4_isAnyFor_15 : decode cX4_isAnyFor 15 = .ok (.iload_n 2, 1) := by decide +kernel
theorem dX4_isAnyFor_16 : decode cX4_isAnyFor 16 = .ok (.ifCond .ne 12, 3) := by decide +kernel
theorem dX4_isAnyFor_19 : decode cX4_isAnyFor 19 = .ok (.aload_n 0, 1) := by decide +kernel
theorem dX4_isAnyFor_20 : decode cX4_isAnyFor 20 = .ok (.iload_n 1, 1) := by decide +kernel
theorem dX4_isAnyFor_21 : decode cX4_isAnyFor 21 = .ok (.iload_n 3, 1) := by decide +kernel
theorem dX4_isAnyFor_22 : decode cX4_isAnyFor 22 = .ok (.invokevirtual 94, 3) := by decide +kernel
theorem dX4_isAnyFor_25 : decode cX4_isAnyFor 25 = .ok (.ifCond .eq 7, 3) := by decide +kernel
theorem dX4_isAnyFor_28 : decode cX4_isAnyFor 28 = .ok (.iconst 1, 1) := by decide +kernel
theorem dX4_isAnyFor_29 : decode cX4_isAnyFor 29 = .ok (.goto 4, 3) := by decide +kernel
theorem dX4_isAnyFor_32 : decode cX4_isAnyFor 32 = .ok (.iconst 0, 1) := by decide +kernel
theorem dX4_isAnyFor_33 : decode cX4_isAnyFor 33 = .ok (.istore_n 2, 1) := by decide +kernel
theorem dX4_isAnyFor_34 : decode cX4_isAnyFor 34 = .ok (.iinc 3 1, 3) := by decide +kernel
theorem dX4_isAnyFor_37 : decode cX4_isAnyFor 37 = .ok (.goto (-33), 3) := by decide +kernel
theorem dX4_isAnyFor_40 : decode cX4_isAnyFor 40 = .ok (.iload_n 2, 1) := by decide +kernel
theorem dX4_isAnyFor_41 : decode cX4_isAnyFor 41 = .ok (.ireturn, 1) := by decide +kernel
theorem dX4_evening_0 : decode cX4_evening 0 = .ok (.aload_n 0, 1) := by decide +kernel
theorem dX4_evening_1 : decode cX4_evening 1 = .ok (.invokevirtual 97, 3) := by decide +kernel
theorem dX4_evening_4 : decode cX4_evening 4 = .ok (.aload_n 0, 1) := by decide +kernel
theorem dX4_evening_5 : decode cX4_evening 5 = .ok (.getfield 43, 3) := by decide +kernel
theorem dX4_evening_8 : decode cX4_evening 8 = .ok (.iconst 0, 1) := by decide +kernel
theorem dX4_evening_9 : decode cX4_evening 9 = .ok (.invokestatic 74, 3) := by decide +kernel
theorem dX4_evening_12 : decode cX4_evening 12 = .ok (.aload_n 0, 1) := by decide +kernel
theorem dX4_evening_13 : decode cX4_evening 13 = .ok (.getfield 46, 3) := by decide +kernel
theorem dX4_evening_16 : decode cX4_evening 16 = .ok (.iconst 0, 1) := by decide +kernel
theorem dX4_evening_17 : decode cX4_evening 17 = .ok (.invokestatic 74, 3) := by decide +kernel
theorem dX4_evening_20 : decode cX4_evening 20 = .ok (.iconst 0, 1) := by decide +kernel
theorem dX4_evening_21 : decode cX4_evening 21 = .ok (.istore_n 1, 1) := by decide +kernel
theorem dX4_evening_22 : decode cX4_evening 22 = .ok (.iload_n 1, 1) := by decide +kernel
theorem dX4_evening_23 : decode cX4_evening 23 = .ok (.aload_n 0, 1) := by decide +kernel
theorem dX4_evening_24 : decode cX4_evening 24 = .ok (.getfield 58, 3) := by decide +kernel
theorem dX4_evening_27 : decode cX4_evening 27 = .ok (.if_icmp .ge 46, 3) := by decide +kernel
theorem dX4_evening_30 : decode cX4_evening 30 = .ok (.iconst 0, 1) := by decide +kernel
theorem dX4_evening_31 : decode cX4_evening 31 = .ok (.istore_n 2, 1) := by decide +kernel
theorem dX4_evening_32 : decode cX4_evening 32 = .ok (.iload_n 2, 1) := by decide +kernel
theorem dX4_evening_33 : decode cX4_evening 33 = .ok (.aload_n 0, 1) := by decide +kernel
theorem dX4_evening_34 : decode cX4_evening 34 = .ok (.getfield 52, 3) := by decide +kernel
theorem dX4_evening_37 : decode cX4_evening 37 = .ok (.if_icmp .ge 25, 3) := by decide +kernel
theorem dX4_evening_40 : decode cX4_evening 40 = .ok (.aload_n 0, 1) := by decide +kernel
theorem dX4_evening_41 : decode cX4_evening 41 = .ok (.iload_n 1, 1) := by decide +kernel
theorem dX4_evening_42 : decode cX4_evening 42 = .ok (.aload_n 0, 1) := by decide +kernel
theorem dX4_evening_43 : decode cX4_evening 43 = .ok (.getfield 18, 3) := by decide +kernel
theorem dX4_evening_46 : decode cX4_evening 46 = .ok (.iload_n 2, 1) := by decide +kernel
theorem dX4_evening_47 : decode cX4_evening 47 = .ok (.iaload, 1) := by decide +kernel
theorem dX4_evening_48 : decode cX4_evening 48 = .ok (.aload_n 0, 1) := by decide +kernel
theorem dX4_evening_49 : decode cX4_evening 49 = .ok (.iload_n 2, 1) := by decide +kernel
theorem dX4_evening_50 : decode cX4_evening 50 = .ok (.invokevirtual 100, 3) := by decide +kernel
theorem dX4_evening_53 : decode cX4_evening 53 = .ok (.invokevirtual 103, 3) := by decide +kernel
theorem dX4_evening_56 : decode cX4_evening 56 = .ok (.iinc 2 1, 3) := by decide +kernel
theorem dX4_evening_59 : decode cX4_evening 59 = .ok (.goto (-27), 3) := by decide +kernel
theorem dX4_evening_62 : decode cX4_evening 62 = .ok (.aload_n 0, 1) := by decide +kernel
theorem dX4_evening_63 : decode cX4_evening 63 = .ok (.iconst (-1), 1) := by decide +kernel
theorem dX4_evening_64 : decode cX4_evening 64 = .ok (.putfield 33, 3) := by decide +kernel
theorem dX4_evening_67 : decode cX4_evening 67 = .ok (.iinc 1 1, 3) := by decide +kernel
theorem dX4_evening_70 : decode cX4_evening 70 = .ok (.goto (-48), 3) := by decide +kernel
theorem dX4_evening_73 : decode cX4_evening 73 = .ok (.return_, 1) := by decide +kernel
theorem dX4_ask_0 : decode cX4_ask 0 = .ok (.aload_n 0, 1) := by decide +kernel
theorem dX4_ask_1 : decode cX4_ask 1 = .ok (.aload_n 0, 1) := by decide +kernel
theorem dX4_ask_2 : decode cX4_ask 2 = .ok (.iload_n 2, 1) := by decide +kernel
theorem dX4_ask_3 : decode cX4_ask 3 = .ok (.invokevirtual 107, 3) := by decide +kernel
theorem dX4_ask_6 : decode cX4_ask 6 = .ok (.iload_n 3, 1) := by decide +kernel
theorem dX4_ask_7 : decode cX4_ask 7 = .ok (.invokevirtual 110, 3) := by decide +kernel
theorem dX4_ask_10 : decode cX4_ask 10 = .ok (.istore 4, 2) := by decide +kernel
theorem dX4_ask_12 : decode cX4_ask 12 = .ok (.aload_n 0, 1) := by decide +kernel
theorem dX4_ask_13 : decode cX4_ask 13 = .ok (.getfield 40, 3) := by decide +kernel
theorem dX4_ask_16 : decode cX4_ask 16 = .ok (.iload_n 1, 1) := by decide +kernel
theorem dX4_ask_17 : decode cX4_ask 17 = .ok (.aaload, 1) := by decide +kernel
theorem dX4_ask_18 : decode cX4_ask 18 = .ok (.iload_n 3, 1) := by decide +kernel
theorem dX4_ask_19 : decode cX4_ask 19 = .ok (.iload 4, 2) := by decide +kernel
theorem dX4_ask_21 : decode cX4_ask 21 = .ok (.iastore, 1) := by decide +kernel
theorem dX4_ask_22 : decode cX4_ask 22 = .ok (.aload_n 0, 1) := by decide +kernel
theorem dX4_ask_23 : decode cX4_ask 23 = .ok (.getfield 25, 3) := by decide +kernel
theorem dX4_ask_26 : decode cX4_ask 26 = .ok (.iload_n 3, 1) := by decide +kernel
theorem dX4_ask_27 : decode cX4_ask 27 = .ok (.iload 4, 2) := by decide +kernel
theorem dX4_ask_29 : decode cX4_ask 29 = .ok (.iastore, 1) := by decide +kernel
theorem dX4_ask_30 : decode cX4_ask 30 = .ok (.iload 4, 2) := by decide +kernel
theorem dX4_ask_32 : decode cX4_ask 32 = .ok (.ifCond .lt 82, 3) := by decide +kernel
theorem dX4_ask_35 : decode cX4_ask 35 = .ok (.aload_n 0, 1) := by decide +kernel
theorem dX4_ask_36 : decode cX4_ask 36 = .ok (.getfield 12, 3) := by decide +kernel
theorem dX4_ask_39 : decode cX4_ask 39 = .ok (.getfield 62, 3) := by decide +kernel
theorem dX4_ask_42 : decode cX4_ask 42 = .ok (.iload_n 3, 1) := by decide +kernel
theorem dX4_ask_43 : decode cX4_ask 43 = .ok (.aaload, 1) := by decide +kernel
theorem dX4_ask_44 : decode cX4_ask 44 = .ok (.iload 4, 2) := by decide +kernel
theorem dX4_ask_46 : decode cX4_ask 46 = .ok (.iaload, 1) := by decide +kernel
theorem dX4_ask_47 : decode cX4_ask 47 = .ok (.istore 5, 2) := by decide +kernel
theorem dX4_ask_49 : decode cX4_ask 49 = .ok (.aload_n 0, 1) := by decide +kernel
theorem dX4_ask_50 : decode cX4_ask 50 = .ok (.getfield 37, 3) := by decide +kernel
theorem dX4_ask_53 : decode cX4_ask 53 = .ok (.iload 4, 2) := by decide +kernel
theorem dX4_ask_55 : decode cX4_ask 55 = .ok (.dup2, 1) := by decide +kernel
theorem dX4_ask_56 : decode cX4_ask 56 = .ok (.iaload, 1) := by decide +kernel
theorem dX4_ask_57 : decode cX4_ask 57 = .ok (.iconst 1, 1) := by decide +kernel
theorem dX4_ask_58 : decode cX4_ask 58 = .ok (.isub, 1) := by decide +kernel
theorem dX4_ask_59 : decode cX4_ask 59 = .ok (.iastore, 1) := by decide +kernel
theorem dX4_ask_60 : decode cX4_ask 60 = .ok (.aload_n 0, 1) := by decide +kernel
theorem dX4_ask_61 : decode cX4_ask 61 = .ok (.getfield 43, 3) := by decide +kernel
theorem dX4_ask_64 : decode cX4_ask 64 = .ok (.iload_n 3, 1) := by decide +kernel
theorem dX4_ask_65 : decode cX4_ask 65 = .ok (.dup2, 1) := by decide +kernel
theorem dX4_ask_66 : decode cX4_ask 66 = .ok (.iaload, 1) := by decide +kernel
theorem dX4_ask_67 : decode cX4_ask 67 = .ok (.bipush 10, 2) := by decide +kernel
theorem dX4_ask_69 : decode cX4_ask 69 = .ok (.iload 5, 2) := by decide +kernel
theorem dX4_ask_71 : decode cX4_ask 71 = .ok (.imul, 1) := by decide +kernel
theorem dX4_ask_72 : decode cX4_ask 72 = .ok (.iadd, 1) := by decide +kernel
theorem dX4_ask_73 : decode cX4_ask 73 = .ok (.iastore, 1) := by decide +kernel
theorem dX4_ask_74 : decode cX4_ask 74 = .ok (.aload_n 0, 1) := by decide +kernel
theorem dX4_ask_75 : decode cX4_ask 75 = .ok (.getfield 43, 3) := by decide +kernel
theorem dX4_ask_78 : decode cX4_ask 78 = .ok (.iload_n 2, 1) := by decide +kernel
theorem dX4_ask_79 : decode cX4_ask 79 = .ok (.dup2, 1) := by decide +kernel
theorem dX4_ask_80 : decode cX4_ask 80 = .ok (.iaload, 1) := by decide +kernel
theorem dX4_ask_81 : decode cX4_ask 81 = .ok (.aload_n 0, 1) := by decide +kernel
theorem dX4_ask_82 : decode cX4_ask 82 = .ok (.getfield 12, 3) := by decide +kernel
theorem dX4_ask_85 : decode cX4_ask 85 = .ok (.getfield 114, 3) := by decide +kernel
theorem dX4_ask_88 : decode cX4_ask 88 = .ok (.iload_n 2, 1) := by decide +kernel
theorem dX4_ask_89 : decode cX4_ask 89 = .ok (.iaload, 1) := by decide +kernel
theorem dX4_ask_90 : decode cX4_ask 90 = .ok (.iload 5, 2) := by decide +kernel
theorem dX4_ask_92 : decode cX4_ask 92 = .ok (.imul, 1) := by decide +kernel
theorem dX4_ask_93 : decode cX4_ask 93 = .ok (.iadd, 1) := by decide +kernel
theorem dX4_ask_94 : decode cX4_ask 94 = .ok (.iastore, 1) := by decide +kernel
theorem dX4_ask_95 : decode cX4_ask 95 = .ok (.aload_n 0, 1) := by decide +kernel
theorem dX4_ask_96 : decode cX4_ask 96 = .ok (.getfield 46, 3) := by decide +kernel
theorem dX4_ask_99 : decode cX4_ask 99 = .ok (.iload_n 2, 1) := by decide +kernel
theorem dX4_ask_100 : decode cX4_ask 100 = .ok (.dup2, 1) := by decide +kernel
theorem dX4_ask_101 : decode cX4_ask 101 = .ok (.iaload, 1) := by decide +kernel
theorem dX4_ask_102 : decode cX4_ask 102 = .ok (.aload_n 0, 1) := by decide +kernel
theorem dX4_ask_103 : decode cX4_ask 103 = .ok (.getfield 12, 3) := by decide +kernel
theorem dX4_ask_106 : decode cX4_ask 106 = .ok (.getfield 117, 3) := by decide +kernel
theorem dX4_ask_109 : decode cX4_ask 109 = .ok (.iload 4, 2) := by decide +kernel
theorem dX4_ask_111 : decode cX4_ask 111 = .ok (.iaload, 1) := by decide +kernel
theorem dX4_ask_112 : decode cX4_ask 112 = .ok (.iadd, 1) := by decide +kernel
theorem dX4_ask_113 : decode cX4_ask 113 = .ok (.iastore, 1) := by decide +kernel
theorem dX4_ask_114 : decode cX4_ask 114 = .ok (.return_, 1) := by decide +kernel
theorem dX4_mannerOf_0 : decode cX4_mannerOf 0 = .ok (.iload_n 1, 1) := by decide +kernel
theorem dX4_mannerOf_1 : decode cX4_mannerOf 1 = .ok (.aload_n 0, 1) := by decide +kernel
theorem dX4_mannerOf_2 : decode cX4_mannerOf 2 = .ok (.getfield 33, 3) := by decide +kernel
theorem dX4_mannerOf_5 : decode cX4_mannerOf 5 = .ok (.if_icmp .ne 5, 3) := by decide +kernel
theorem dX4_mannerOf_8 : decode cX4_mannerOf 8 = .ok (.iconst 2, 1) := by decide +kernel
theorem dX4_mannerOf_9 : decode cX4_mannerOf 9 = .ok (.ireturn, 1) := by decide +kernel
theorem dX4_mannerOf_10 : decode cX4_mannerOf 10 = .ok (.aload_n 0, 1) := by decide +kernel
theorem dX4_mannerOf_11 : decode cX4_mannerOf 11 = .ok (.getfield 22, 3) := by decide +kernel
theorem dX4_mannerOf_14 : decode cX4_mannerOf 14 = .ok (.iload_n 1, 1) := by decide +kernel
theorem dX4_mannerOf_15 : decode cX4_mannerOf 15 = .ok (.iaload, 1) := by decide +kernel
theorem dX4_mannerOf_16 : decode cX4_mannerOf 16 = .ok (.iconst 2, 1) := by decide +kernel
theorem dX4_mannerOf_17 : decode cX4_mannerOf 17 = .ok (.if_icmp .eq 10, 3) := by decide +kernel
theorem dX4_mannerOf_20 : decode cX4_mannerOf 20 = .ok (.aload_n 0, 1) := by decide +kernel
theorem dX4_mannerOf_21 : decode cX4_mannerOf 21 = .ok (.getfield 22, 3) := by decide +kernel
theorem dX4_mannerOf_24 : decode cX4_mannerOf 24 = .ok (.iload_n 1, 1) := by decide +kernel
theorem dX4_mannerOf_25 : decode cX4_mannerOf 25 = .ok (.iaload, 1) := by decide +kernel
theorem dX4_mannerOf_26 : decode cX4_mannerOf 26 = .ok (.ireturn, 1) := by decide +kernel
theorem dX4_mannerOf_27 : decode cX4_mannerOf 27 = .ok (.aload_n 0, 1) := by decide +kernel
theorem dX4_mannerOf_28 : decode cX4_mannerOf 28 = .ok (.getfield 25, 3) := by decide +kernel
theorem dX4_mannerOf_31 : decode cX4_mannerOf 31 = .ok (.iload_n 1, 1) := by decide +kernel
theorem dX4_mannerOf_32 : decode cX4_mannerOf 32 = .ok (.iaload, 1) := by decide +kernel
theorem dX4_mannerOf_33 : decode cX4_mannerOf 33 = .ok (.bipush (-8), 2) := by decide +kernel
theorem dX4_mannerOf_35 : decode cX4_mannerOf 35 = .ok (.if_icmp .eq 29, 3) := by decide +kernel
theorem dX4_mannerOf_38 : decode cX4_mannerOf 38 = .ok (.aload_n 0, 1) := by decide +kernel
theorem dX4_mannerOf_39 : decode cX4_mannerOf 39 = .ok (.getfield 12, 3) := by decide +kernel
theorem dX4_mannerOf_42 : decode cX4_mannerOf 42 = .ok (.iload_n 1, 1) := by decide +kernel
theorem dX4_mannerOf_43 : decode cX4_mannerOf 43 = .ok (.aload_n 0, 1) := by decide +kernel
theorem dX4_mannerOf_44 : decode cX4_mannerOf 44 = .ok (.getfield 25, 3) := by decide +kernel
theorem dX4_mannerOf_47 : decode cX4_mannerOf 47 = .ok (.iload_n 1, 1) := by decide +kernel
theorem dX4_mannerOf_48 : decode cX4_mannerOf 48 = .ok (.iaload, 1) := by decide +kernel
theorem dX4_mannerOf_49 : decode cX4_mannerOf 49 = .ok (.invokevirtual 120, 3) := by decide +kernel
theorem dX4_mannerOf_52 : decode cX4_mannerOf 52 = .ok (.aload_n 0, 1) := by decide +kernel
theorem dX4_mannerOf_53 : decode cX4_mannerOf 53 = .ok (.getfield 12, 3) := by decide +kernel
theorem dX4_mannerOf_56 : decode cX4_mannerOf 56 = .ok (.getfield 123, 3) := by decide +kernel
theorem dX4_mannerOf_59 : decode cX4_mannerOf 59 = .ok (.iload_n 1, 1) := by decide +kernel
theorem dX4_mannerOf_60 : decode cX4_mannerOf 60 = .ok (.iaload, 1) := by decide +kernel
theorem dX4_mannerOf_61 : decode cX4_mannerOf 61 = .ok (.if_icmp .lt 7, 3) := by decide +kernel
theorem dX4_mannerOf_64 : decode cX4_mannerOf 64 = .ok (.iconst 1, 1) := by decide +kernel
theorem dX4_mannerOf_65 : decode cX4_mannerOf 65 = .ok (.goto 4, 3) := by decide +kernel
theorem dX4_mannerOf_68 : decode cX4_mannerOf 68 = .ok (.iconst 0, 1) := by decide +kernel
theorem dX4_mannerOf_69 : decode cX4_mannerOf 69 = .ok (.istore_n 2, 1) := by decide +kernel
theorem dX4_mannerOf_70 : decode cX4_mannerOf 70 = .ok (.iload_n 2, 1) := by decide +kernel
theorem dX4_mannerOf_71 : decode cX4_mannerOf 71 = .ok (.ifCond .eq 7, 3) := by decide +kernel
theorem dX4_mannerOf_74 : decode cX4_mannerOf 74 = .ok (.iconst 0, 1) := by decide +kernel
theorem dX4_mannerOf_75 : decode cX4_mannerOf 75 = .ok (.goto 4, 3) := by decide +kernel
theorem dX4_mannerOf_78 : decode cX4_mannerOf 78 = .ok (.iconst 2, 1) := by decide +kernel
theorem dX4_mannerOf_79 : decode cX4_mannerOf 79 = .ok (.ireturn, 1) := by decide +kernel
theorem dX4_wish_0 : decode cX4_wish 0 = .ok (.iload_n 1, 1) := by decide +kernel
theorem dX4_wish_1 : decode cX4_wish 1 = .ok (.ifCond .ne 8, 3) := by decide +kernel
theorem dX4_wish_4 : decode cX4_wish 4 = .ok (.bipush (-10), 2) := by decide +kernel
theorem dX4_wish_6 : decode cX4_wish 6 = .ok (.goto 14, 3) := by decide +kernel
theorem dX4_wish_9 : decode cX4_wish 9 = .ok (.iload_n 1, 1) := by decide +kernel
theorem dX4_wish_10 : decode cX4_wish 10 = .ok (.iconst 1, 1) := by decide +kernel
theorem dX4_wish_11 : decode cX4_wish 11 = .ok (.if_icmp .ne 7, 3) := by decide +kernel
theorem dX4_wish_14 : decode cX4_wish 14 = .ok (.iconst (-1), 1) := by decide +kernel
theorem dX4_wish_15 : decode cX4_wish 15 = .ok (.goto 5, 3) := by decide +kernel
theorem dX4_wish_18 : decode cX4_wish 18 = .ok (.bipush 10, 2) := by decide +kernel
theorem dX4_wish_20 : decode cX4_wish 20 = .ok (.istore_n 3, 1) := by decide +kernel
theorem dX4_wish_21 : decode cX4_wish 21 = .ok (.iload_n 1, 1) := by decide +kernel
theorem dX4_wish_22 : decode cX4_wish 22 = .ok (.iconst 1, 1) := by decide +kernel
theorem dX4_wish_23 : decode cX4_wish 23 = .ok (.if_icmp .ne 8, 3) := by decide +kernel
theorem dX4_wish_26 : decode cX4_wish 26 = .ok (.bipush 10, 2) := by decide +kernel
theorem dX4_wish_28 : decode cX4_wish 28 = .ok (.goto 4, 3) := by decide +kernel
theorem dX4_wish_31 : decode cX4_wish 31 = .ok (.iconst 1, 1) := by decide +kernel
theorem dX4_wish_32 : decode cX4_wish 32 = .ok (.istore 4, 2) := by decide +kernel
theorem dX4_wish_34 : decode cX4_wish 34 = .ok (.aload_n 0, 1) := by decide +kernel
theorem dX4_wish_35 : decode cX4_wish 35 = .ok (.getfield 30, 3) := by decide +kernel
theorem dX4_wish_38 : decode cX4_wish 38 = .ok (.iload_n 2, 1) := by decide +kernel
theorem dX4_wish_39 : decode cX4_wish 39 = .ok (.aaload, 1) := by decide +kernel
theorem dX4_wish_40 : decode cX4_wish 40 = .ok (.astore 5, 2) := by decide +kernel
theorem dX4_wish_42 : decode cX4_wish 42 = .ok (.bipush (-9), 2) := by decide +kernel
theorem dX4_wish_44 : decode cX4_wish 44 = .ok (.istore 6, 2) := by decide +kernel
theorem dX4_wish_46 : decode cX4_wish 46 = .ok (.iconst 0, 1) := by decide +kernel
theorem dX4_wish_47 : decode cX4_wish 47 = .ok (.istore 7, 2) := by decide +kernel
theorem dX4_wish_49 : decode cX4_wish 49 = .ok (.iconst 0, 1) := by decide +kernel
theorem dX4_wish_50 : decode cX4_wish 50 = .ok (.istore 8, 2) := by decide +kernel
theorem dX4_wish_52 : decode cX4_wish 52 = .ok (.iload 8, 2) := by decide +kernel
theorem dX4_wish_54 : decode cX4_wish 54 = .ok (.aload_n 0, 1) := by decide +kernel
theorem dX4_wish_55 : decode cX4_wish 55 = .ok (.getfield 12, 3) := by decide +kernel
theorem dX4_wish_58 : decode cX4_wish 58 = .ok (.getfield 80, 3) := by decide +kernel
theorem dX4_wish_61 : decode cX4_wish 61 = .ok (.if_icmp .ge 73, 3) := by decide +kernel
theorem dX4_wish_64 : decode cX4_wish 64 = .ok (.aload_n 0, 1) := by decide +kernel
theorem dX4_wish_65 : decode cX4_wish 65 = .ok (.getfield 37, 3) := by decide +kernel
theorem dX4_wish_68 : decode cX4_wish 68 = .ok (.iload 8, 2) := by decide +kernel
theorem dX4_wish_70 : decode cX4_wish 70 = .ok (.iaload, 1) := by decide +kernel
theorem dX4_wish_71 : decode cX4_wish 71 = .ok (.ifCond .le 57, 3) := by decide +kernel
theorem dX4_wish_74 : decode cX4_wish 74 = .ok (.aload 5, 2) := by decide +kernel
theorem dX4_wish_76 : decode cX4_wish 76 = .ok (.iload 8, 2) := by decide +kernel
theorem dX4_wish_78 : decode cX4_wish 78 = .ok (.iaload, 1) := by decide +kernel
theorem dX4_wish_79 : decode cX4_wish 79 = .ok (.iconst (-1), 1) := by decide +kernel
theorem dX4_wish_80 : decode cX4_wish 80 = .ok (.if_icmp .eq 48, 3) := by decide +kernel
theorem dX4_wish_83 : decode cX4_wish 83 = .ok (.iload_n 3, 1) := by decide +kernel
theorem dX4_wish_84 : decode cX4_wish 84 = .ok (.aload 5, 2) := by decide +kernel
theorem dX4_wish_86 : decode cX4_wish 86 = .ok (.iload 8, 2) := by decide +kernel
theorem dX4_wish_88 : decode cX4_wish 88 = .ok (.iaload, 1) := by decide +kernel
theorem dX4_wish_89 : decode cX4_wish 89 = .ok (.imul, 1) := by decide +kernel
theorem dX4_wish_90 : decode cX4_wish 90 = .ok (.iload 4, 2) := by decide +kernel
theorem dX4_wish_92 : decode cX4_wish 92 = .ok (.aload_n 0, 1) := by decide +kernel
theorem dX4_wish_93 : decode cX4_wish 93 = .ok (.getfield 12, 3) := by decide +kernel
theorem dX4_wish_96 : decode cX4_wish 96 = .ok (.getfield 117, 3) := by decide +kernel
theorem dX4_wish_99 : decode cX4_wish 99 = .ok (.iload 8, 2) := by decide +kernel
theorem dX4_wish_101 : decode cX4_wish 101 = .ok (.iaload, 1) := by decide +kernel
theorem dX4_wish_102 : decode cX4_wish 102 = .ok (.imul, 1) := by decide +kernel
theorem dX4_wish_103 : decode cX4_wish 103 = .ok (.iadd, 1) := by decide +kernel
theorem dX4_wish_104 : decode cX4_wish 104 = .ok (.istore 9, 2) := by decide +kernel
theorem dX4_wish_106 : decode cX4_wish 106 = .ok (.iload 6, 2) := by decide +kernel
theorem dX4_wish_108 : decode cX4_wish 108 = .ok (.bipush (-9), 2) := by decide +kernel
theorem dX4_wish_110 : decode cX4_wish 110 = .ok (.if_icmp .eq 10, 3) := by decide +kernel
theorem dX4_wish_113 : decode cX4_wish 113 = .ok (.iload 9, 2) := by decide +kernel
theorem dX4_wish_115 : decode cX4_wish 115 = .ok (.iload 7, 2) := by decide +kernel
theorem dX4_wish_117 : decode cX4_wish 117 = .ok (.if_icmp .ge 11, 3) := by decide +kernel
theorem dX4_wish_120 : decode cX4_wish 120 = .ok (.iload 8, 2) := by decide +kernel
theorem dX4_wish_122 : decode cX4_wish 122 = .ok (.istore 6, 2) := by decide +kernel
theorem dX4_wish_124 : decode cX4_wish 124 = .ok (.iload 9, 2) := by decide +kernel
theorem dX4_wish_126 : decode cX4_wish 126 = .ok (.istore 7, 2) := by decide +kernel
theorem dX4_wish_128 : decode cX4_wish 128 = .ok (.iinc 8 1, 3) := by decide +kernel
theorem dX4_wish_131 : decode cX4_wish 131 = .ok (.goto (-79), 3) := by decide +kernel
theorem dX4_wish_134 : decode cX4_wish 134 = .ok (.iload 6, 2) := by decide +kernel
theorem dX4_wish_136 : decode cX4_wish 136 = .ok (.ireturn, 1) := by decide +kernel
theorem dX4_memory_0 : decode cX4_memory 0 = .ok (.iconst 0, 1) := by decide +kernel
theorem dX4_memory_1 : decode cX4_memory 1 = .ok (.istore_n 1, 1) := by decide +kernel
theorem dX4_memory_2 : decode cX4_memory 2 = .ok (.iconst 0, 1) := by decide +kernel
theorem dX4_memory_3 : decode cX4_memory 3 = .ok (.istore_n 2, 1) := by decide +kernel
theorem dX4_memory_4 : decode cX4_memory 4 = .ok (.iload_n 2, 1) := by decide +kernel
theorem dX4_memory_5 : decode cX4_memory 5 = .ok (.aload_n 0, 1) := by decide +kernel
theorem dX4_memory_6 : decode cX4_memory 6 = .ok (.getfield 12, 3) := by decide +kernel
theorem dX4_memory_9 : decode cX4_memory 9 = .ok (.getfield 49, 3) := by decide +kernel
theorem dX4_memory_12 : decode cX4_memory 12 = .ok (.if_icmp .ge 52, 3) := by decide +kernel
theorem dX4_memory_15 : decode cX4_memory 15 = .ok (.aload_n 0, 1) := by decide +kernel
theorem dX4_memory_16 : decode cX4_memory 16 = .ok (.getfield 25, 3) := by decide +kernel
theorem dX4_memory_19 : decode cX4_memory 19 = .ok (.iload_n 2, 1) := by decide +kernel
theorem dX4_memory_20 : decode cX4_memory 20 = .ok (.iaload, 1) := by decide +kernel
theorem dX4_memory_21 : decode cX4_memory 21 = .ok (.bipush (-8), 2) := by decide +kernel
theorem dX4_memory_23 : decode cX4_memory 23 = .ok (.if_icmp .ne 8, 3) := by decide +kernel
theorem dX4_memory_26 : decode cX4_memory 26 = .ok (.bipush 7, 2) := by decide +kernel
theorem dX4_memory_28 : decode cX4_memory 28 = .ok (.goto 23, 3) := by decide +kernel
theorem dX4_memory_31 : decode cX4_memory 31 = .ok (.aload_n 0, 1) := by decide +kernel
theorem dX4_memory_32 : decode cX4_memory 32 = .ok (.getfield 25, 3) := by decide +kernel
theorem dX4_memory_35 : decode cX4_memory 35 = .ok (.iload_n 2, 1) := by decide +kernel
theorem dX4_memory_36 : decode cX4_memory 36 = .ok (.iaload, 1) := by decide +kernel
theorem dX4_memory_37 : decode cX4_memory 37 = .ok (.ifCond .ge 8, 3) := by decide +kernel
theorem dX4_memory_40 : decode cX4_memory 40 = .ok (.bipush 6, 2) := by decide +kernel
theorem dX4_memory_42 : decode cX4_memory 42 = .ok (.goto 9, 3) := by decide +kernel
theorem dX4_memory_45 : decode cX4_memory 45 = .ok (.aload_n 0, 1) := by decide +kernel
theorem dX4_memory_46 : decode cX4_memory 46 = .ok (.getfield 25, 3) := by decide +kernel
theorem dX4_memory_49 : decode cX4_memory 49 = .ok (.iload_n 2, 1) := by decide +kernel
theorem dX4_memory_50 : decode cX4_memory 50 = .ok (.iaload, 1) := by decide +kernel
theorem dX4_memory_51 : decode cX4_memory 51 = .ok (.istore_n 3, 1) := by decide +kernel
theorem dX4_memory_52 : decode cX4_memory 52 = .ok (.iload_n 1, 1) := by decide +kernel
theorem dX4_memory_53 : decode cX4_memory 53 = .ok (.iconst 3, 1) := by decide +kernel
theorem dX4_memory_54 : decode cX4_memory 54 = .ok (.ishl, 1) := by decide +kernel
theorem dX4_memory_55 : decode cX4_memory 55 = .ok (.iload_n 3, 1) := by decide +kernel
theorem dX4_memory_56 : decode cX4_memory 56 = .ok (.ior, 1) := by decide +kernel
theorem dX4_memory_57 : decode cX4_memory 57 = .ok (.istore_n 1, 1) := by decide +kernel
theorem dX4_memory_58 : decode cX4_memory 58 = .ok (.iinc 2 1, 3) := by decide +kernel
theorem dX4_memory_61 : decode cX4_memory 61 = .ok (.goto (-57), 3) := by decide +kernel
theorem dX4_memory_64 : decode cX4_memory 64 = .ok (.iload_n 1, 1) := by decide +kernel
theorem dX4_memory_65 : decode cX4_memory 65 = .ok (.ireturn, 1) := by decide +kernel
theorem dX4_gladInAll_0 : decode cX4_gladInAll 0 = .ok (.aload_n 0, 1) := by decide +kernel
theorem dX4_gladInAll_1 : decode cX4_gladInAll 1 = .ok (.aload_n 0, 1) := by decide +kernel
theorem dX4_gladInAll_2 : decode cX4_gladInAll 2 = .ok (.getfield 43, 3) := by decide +kernel
theorem dX4_gladInAll_5 : decode cX4_gladInAll 5 = .ok (.invokevirtual 126, 3) := by decide +kernel
theorem dX4_gladInAll_8 : decode cX4_gladInAll 8 = .ok (.ireturn, 1) := by decide +kernel
theorem dX4_paidInAll_0 : decode cX4_paidInAll 0 = .ok (.aload_n 0, 1) := by decide +kernel
theorem dX4_paidInAll_1 : decode cX4_paidInAll 1 = .ok (.aload_n 0, 1) := by decide +kernel
theorem dX4_paidInAll_2 : decode cX4_paidInAll 2 = .ok (.getfield 46, 3) := by decide +kernel
theorem dX4_paidInAll_5 : decode cX4_paidInAll 5 = .ok (.invokevirtual 126, 3) := by decide +kernel
theorem dX4_paidInAll_8 : decode cX4_paidInAll 8 = .ok (.ireturn, 1) := by decide +kernel
theorem dX4_gladOfLeast_0 : decode cX4_gladOfLeast 0 = .ok (.aload_n 0, 1) := by decide +kernel
theorem dX4_gladOfLeast_1 : decode cX4_gladOfLeast 1 = .ok (.getfield 43, 3) := by decide +kernel
theorem dX4_gladOfLeast_4 : decode cX4_gladOfLeast 4 = .ok (.iconst 0, 1) := by decide +kernel
theorem dX4_gladOfLeast_5 : decode cX4_gladOfLeast 5 = .ok (.iaload, 1) := by decide +kernel
theorem dX4_gladOfLeast_6 : decode cX4_gladOfLeast 6 = .ok (.istore_n 1, 1) := by decide +kernel
theorem dX4_gladOfLeast_7 : decode cX4_gladOfLeast 7 = .ok (.iconst 1, 1) := by decide +kernel
theorem dX4_gladOfLeast_8 : decode cX4_gladOfLeast 8 = .ok (.istore_n 2, 1) := by decide +kernel
theorem dX4_gladOfLeast_9 : decode cX4_gladOfLeast 9 = .ok (.iload_n 2, 1) := by decide +kernel
theorem dX4_gladOfLeast_10 : decode cX4_gladOfLeast 10 = .ok (.aload_n 0, 1) := by decide +kernel
theorem dX4_gladOfLeast_11 : decode cX4_gladOfLeast 11 = .ok (.getfield 12, 3) := by decide +kernel
theorem dX4_gladOfLeast_14 : decode cX4_gladOfLeast 14 = .ok (.getfield 49, 3) := by decide +kernel
theorem dX4_gladOfLeast_17 : decode cX4_gladOfLeast 17 = .ok (.if_icmp .ge 20, 3) := by decide +kernel
theorem dX4_gladOfLeast_20 : decode cX4_gladOfLeast 20 = .ok (.iload_n 1, 1) := by decide +kernel
theorem dX4_gladOfLeast_21 : decode cX4_gladOfLeast 21 = .ok (.aload_n 0, 1) := by decide +kernel
theorem dX4_gladOfLeast_22 : decode cX4_gladOfLeast 22 = .ok (.getfield 43, 3) := by decide +kernel
theorem dX4_gladOfLeast_25 : decode cX4_gladOfLeast 25 = .ok (.iload_n 2, 1) := by decide +kernel
theorem dX4_gladOfLeast_26 : decode cX4_gladOfLeast 26 = .ok (.iaload, 1) := by decide +kernel
theorem dX4_gladOfLeast_27 : decode cX4_gladOfLeast 27 = .ok (.invokestatic 130, 3) := by decide +kernel
theorem dX4_gladOfLeast_30 : decode cX4_gladOfLeast 30 = .ok (.istore_n 1, 1) := by decide +kernel
theorem dX4_gladOfLeast_31 : decode cX4_gladOfLeast 31 = .ok (.iinc 2 1, 3) := by decide +kernel
theorem dX4_gladOfLeast_34 : decode cX4_gladOfLeast 34 = .ok (.goto (-25), 3) := by decide +kernel
theorem dX4_gladOfLeast_37 : decode cX4_gladOfLeast 37 = .ok (.iload_n 1, 1) := by decide +kernel
theorem dX4_gladOfLeast_38 : decode cX4_gladOfLeast 38 = .ok (.ireturn, 1) := by decide +kernel
theorem dX4_sum_0 : decode cX4_sum 0 = .ok (.iconst 0, 1) := by decide +kernel
theorem dX4_sum_1 : decode cX4_sum 1 = .ok (.istore_n 2, 1) := by decide +kernel
theorem dX4_sum_2 : decode cX4_sum 2 = .ok (.iconst 0, 1) := by decide +kernel
theorem dX4_sum_3 : decode cX4_sum 3 = .ok (.istore_n 3, 1) := by decide +kernel
theorem dX4_sum_4 : decode cX4_sum 4 = .ok (.iload_n 3, 1) := by decide +kernel
theorem dX4_sum_5 : decode cX4_sum 5 = .ok (.aload_n 0, 1) := by decide +kernel
theorem dX4_sum_6 : decode cX4_sum 6 = .ok (.getfield 12, 3) := by decide +kernel
theorem dX4_sum_9 : decode cX4_sum 9 = .ok (.getfield 49, 3) := by decide +kernel
theorem dX4_sum_12 : decode cX4_sum 12 = .ok (.if_icmp .ge 15, 3) := by decide +kernel
theorem dX4_sum_15 : decode cX4_sum 15 = .ok (.iload_n 2, 1) := by decide +kernel
theorem dX4_sum_16 : decode cX4_sum 16 = .ok (.aload_n 1, 1) := by decide +kernel
theorem dX4_sum_17 : decode cX4_sum 17 = .ok (.iload_n 3, 1) := by decide +kernel
theorem dX4_sum_18 : decode cX4_sum 18 = .ok (.iaload, 1) := by decide +kernel
theorem dX4_sum_19 : decode cX4_sum 19 = .ok (.iadd, 1) := by decide +kernel
theorem dX4_sum_20 : decode cX4_sum 20 = .ok (.istore_n 2, 1) := by decide +kernel
theorem dX4_sum_21 : decode cX4_sum 21 = .ok (.iinc 3 1, 3) := by decide +kernel
theorem dX4_sum_24 : decode cX4_sum 24 = .ok (.goto (-20), 3) := by decide +kernel
theorem dX4_sum_27 : decode cX4_sum 27 = .ok (.iload_n 2, 1) := by decide +kernel
theorem dX4_sum_28 : decode cX4_sum 28 = .ok (.ireturn, 1) := by decide +kernel
theorem dX5_init_0 : decode cX5_init 0 = .ok (.aload_n 0, 1) := by decide +kernel
theorem dX5_init_1 : decode cX5_init 1 = .ok (.invokespecial 3, 3) := by decide +kernel
theorem dX5_init_4 : decode cX5_init 4 = .ok (.aload_n 0, 1) := by decide +kernel
theorem dX5_init_5 : decode cX5_init 5 = .ok (.bipush 6, 2) := by decide +kernel
theorem dX5_init_7 : decode cX5_init 7 = .ok (.newarray .int, 2) := by decide +kernel
theorem dX5_init_9 : decode cX5_init 9 = .ok (.putfield 9, 3) := by decide +kernel
theorem dX5_init_12 : decode cX5_init 12 = .ok (.aload_n 0, 1) := by decide +kernel
theorem dX5_init_13 : decode cX5_init 13 = .ok (.bipush 6, 2) := by decide +kernel
theorem dX5_init_15 : decode cX5_init 15 = .ok (.newarray .int, 2) := by decide +kernel
theorem dX5_init_17 : decode cX5_init 17 = .ok (.putfield 15, 3) := by decide +kernel
theorem dX5_init_20 : decode cX5_init 20 = .ok (.aload_n 0, 1) := by decide +kernel
theorem dX5_init_21 : decode cX5_init 21 = .ok (.bipush 7, 2) := by decide +kernel
theorem dX5_init_23 : decode cX5_init 23 = .ok (.newarray .int, 2) := by decide +kernel
theorem dX5_init_25 : decode cX5_init 25 = .ok (.putfield 18, 3) := by decide +kernel
theorem dX5_init_28 : decode cX5_init 28 = .ok (.aload_n 0, 1) := by decide +kernel
theorem dX5_init_29 : decode cX5_init 29 = .ok (.bipush 7, 2) := by decide +kernel
theorem dX5_init_31 : decode cX5_init 31 = .ok (.newarray .int, 2) := by decide +kernel
theorem dX5_init_33 : decode cX5_init 33 = .ok (.putfield 21, 3) := by decide +kernel
theorem dX5_init_36 : decode cX5_init 36 = .ok (.aload_n 0, 1) := by decide +kernel
theorem dX5_init_37 : decode cX5_init 37 = .ok (.bipush 7, 2) := by decide +kernel
theorem dX5_init_39 : decode cX5_init 39 = .ok (.newarray .int, 2) := by decide +kernel
theorem dX5_init_41 : decode cX5_init 41 = .ok (.putfield 24, 3) := by decide +kernel
theorem dX5_init_44 : decode cX5_init 44 = .ok (.aload_n 0, 1) := by decide +kernel
theorem dX5_init_45 : decode cX5_init 45 = .ok (.bipush 7, 2) := by decide +kernel
theorem dX5_init_47 : decode cX5_init 47 = .ok (.bipush 6, 2) := by decide +kernel
theorem dX5_init_49 : decode cX5_init 49 = .ok (.multianewarray 27 2, 4) := by decide +kernel
theorem dX5_init_53 : decode cX5_init 53 = .ok (.putfield 29, 3) := by decide +kernel
theorem dX5_init_56 : decode cX5_init 56 = .ok (.return_, 1) := by decide +kernel
theorem dX5_isRead_0 : decode cX5_isRead 0 = .ok (.aload_n 0, 1) := by decide +kernel
theorem dX5_isRead_1 : decode cX5_isRead 1 = .ok (.iload_n 2, 1) := by decide +kernel
theorem dX5_isRead_2 : decode cX5_isRead 2 = .ok (.putfield 32, 3) := by decide +kernel
theorem dX5_isRead_5 : decode cX5_isRead 5 = .ok (.aload_n 0, 1) := by decide +kernel
theorem dX5_isRead_6 : decode cX5_isRead 6 = .ok (.iload_n 2, 1) := by decide +kernel
theorem dX5_isRead_7 : decode cX5_isRead 7 = .ok (.iload_n 3, 1) := by decide +kernel
theorem dX5_isRead_8 : decode cX5_isRead 8 = .ok (.iadd, 1) := by decide +kernel
theorem dX5_isRead_9 : decode cX5_isRead 9 = .ok (.putfield 36, 3) := by decide +kernel
theorem dX5_isRead_12 : decode cX5_isRead 12 = .ok (.aload_n 0, 1) := by decide +kernel
theorem dX5_isRead_13 : decode cX5_isRead 13 = .ok (.iload_n 2, 1) := by decide +kernel
theorem dX5_isRead_14 : decode cX5_isRead 14 = .ok (.putfield 39, 3) := by decide +kernel
theorem dX5_isRead_17 : decode cX5_isRead 17 = .ok (.aload_n 0, 1) := by decide +kernel
theorem dX5_isRead_18 : decode cX5_isRead 18 = .ok (.iconst 0, 1) := by decide +kernel
theorem dX5_isRead_19 : decode cX5_isRead 19 = .ok (.putfield 42, 3) := by decide +kernel
theorem dX5_isRead_22 : decode cX5_isRead 22 = .ok (.aload_n 0, 1) := by decide +kernel
theorem dX5_isRead_23 : decode cX5_isRead 23 = .ok (.aload_n 1, 1) := by decide +kernel
theorem dX5_isRead_24 : decode cX5_isRead 24 = .ok (.bipush 100, 2) := by decide +kernel
theorem dX5_isRead_26 : decode cX5_isRead 26 = .ok (.invokevirtual 45, 3) := by decide +kernel
theorem dX5_isRead_29 : decode cX5_isRead 29 = .ok (.ifCond .eq 23, 3) := by decide +kernel
theorem dX5_isRead_32 : decode cX5_isRead 32 = .ok (.aload_n 0, 1) := by decide +kernel
theorem dX5_isRead_33 : decode cX5_isRead 33 = .ok (.aload_n 1, 1) := by decide +kernel
theorem dX5_isRead_34 : decode cX5_isRead 34 = .ok (.invokevirtual 49, 3) := by decide +kernel
theorem dX5_isRead_37 : decode cX5_isRead 37 = .ok (.ifCond .eq 15, 3) := by decide +kernel
theorem dX5_isRead_40 : decode cX5_isRead 40 = .ok (.aload_n 0, 1) := by decide +kernel
theorem dX5_isRead_41 : decode cX5_isRead 41 = .ok (.aload_n 1, 1) := by decide +kernel
theorem dX5_isRead_42 : decode cX5_isRead 42 = .ok (.invokevirtual 53, 3) := by decide +kernel
theorem dX5_isRead_45 : decode cX5_isRead 45 = .ok (.ifCond .eq 7, 3) := by decide +kernel
theorem dX5_isRead_48 : decode cX5_isRead 48 = .ok (.iconst 1, 1) := by decide +kernel
theorem dX5_isRead_49 : decode cX5_isRead 49 = .ok (.goto 4, 3) := by decide +kernel
theorem dX5_isRead_52 : decode cX5_isRead 52 = .ok (.iconst 0, 1) := by decide +kernel
theorem dX5_isRead_53 : decode cX5_isRead 53 = .ok (.ireturn, 1) := by decide +kernel
theorem dX5_place_0 : decode cX5_place 0 = .ok (.aload_n 0, 1) := by decide +kernel
theorem dX5_place_1 : decode cX5_place 1 = .ok (.getfield 39, 3) := by decide +kernel
theorem dX5_place_4 : decode cX5_place 4 = .ok (.aload_n 0, 1) := by decide +kernel
theorem dX5_place_5 : decode cX5_place 5 = .ok (.getfield 32, 3) := by decide +kernel
theorem dX5_place_8 : decode cX5_place 8 = .ok (.isub, 1) := by decide +kernel
theorem dX5_place_9 : decode cX5_place 9 = .ok (.ireturn, 1) := by decide +kernel
theorem dX5_mayHave_0 : decode cX5_mayHave 0 = .ok (.aload_n 0, 1) := by decide +kernel
theorem dX5_mayHave_1 : decode cX5_mayHave 1 = .ok (.getfield 29, 3) := by decide +kernel
theorem dX5_mayHave_4 : decode cX5_mayHave 4 = .ok (.iload_n 1, 1) := by decide +kernel
theorem dX5_mayHave_5 : decode cX5_mayHave 5 = .ok (.aaload, 1) := by decide +kernel
theorem dX5_mayHave_6 : decode cX5_mayHave 6 = .ok (.iload_n 2, 1) := by decide +kernel
theorem dX5_mayHave_7 : decode cX5_mayHave 7 = .ok (.iaload, 1) := by decide +kernel
theorem dX5_mayHave_8 : decode cX5_mayHave 8 = .ok (.iconst (-1), 1) := by decide +kernel
theorem dX5_mayHave_9 : decode cX5_mayHave 9 = .ok (.if_icmp .eq 7, 3) := by decide +kernel
theorem dX5_mayHave_12 : decode cX5_mayHave 12 = .ok (.iconst 1, 1) := by decide +kernel
theorem dX5_mayHave_13 : decode cX5_mayHave 13 = .ok (.goto 4, 3) := by decide +kernel
theorem dX5_mayHave_16 : decode cX5_mayHave 16 = .ok (.iconst 0, 1) := by decide +kernel
theorem dX5_mayHave_17 : decode cX5_mayHave 17 = .ok (.ireturn, 1) := by decide +kernel
theorem dX5_truly_0 : decode cX5_truly 0 = .ok (.iload_n 2, 1) := by decide +kernel
theorem dX5_truly_1 : decode cX5_truly 1 = .ok (.ifCond .ge 7, 3) := by decide +kernel
theorem dX5_truly_4 : decode cX5_truly 4 = .ok (.iconst 0, 1) := by decide +kernel
theorem dX5_truly_5 : decode cX5_truly 5 = .ok (.goto 11, 3) := by decide +kernel
theorem dX5_truly_8 : decode cX5_truly 8 = .ok (.aload_n 0, 1) := by decide +kernel
theorem dX5_truly_9 : decode cX5_truly 9 = .ok (.getfield 29, 3) := by decide +kernel
theorem dX5_truly_12 : decode cX5_truly 12 = .ok (.iload_n 1, 1) := by decide +kernel
theorem dX5_truly_13 : decode cX5_truly 13 = .ok (.aaload, 1) := by decide +kernel
theorem dX5_truly_14 : decode cX5_truly 14 = .ok (.iload_n 2, 1) := by decide +kernel
theorem dX5_truly_15 : decode cX5_truly 15 = .ok (.iaload, 1) := by decide +kernel
theorem dX5_truly_16 : decode cX5_truly 16 = .ok (.ireturn, 1) := by decide +kernel
theorem dX5_areDishesRead_0 : decode cX5_areDishesRead 0 = .ok (.aload_n 0, 1) := by decide +kernel
theorem dX5_areDishesRead_1 : decode cX5_areDishesRead 1 = .ok (.aload_n 0, 1) := by decide +kernel
theorem dX5_areDishesRead_2 : decode cX5_areDishesRead 2 = .ok (.aload_n 1, 1) := by decide +kernel
theorem dX5_areDishesRead_3 : decode cX5_areDishesRead 3 = .ok (.iconst 2, 1) := by decide +kernel
theorem dX5_areDishesRead_4 : decode cX5_areDishesRead 4 = .ok (.bipush 6, 2) := by decide +kernel
theorem dX5_areDishesRead_6 : decode cX5_areDishesRead 6 = .ok (.invokevirtual 56, 3) := by decide +kernel
theorem dX5_areDishesRead_9 : decode cX5_areDishesRead 9 = .ok (.putfield 60, 3) := by decide +kernel
theorem dX5_areDishesRead_12 : decode cX5_areDishesRead 12 = .ok (.iconst 0, 1) := by decide +kernel
theorem dX5_areDishesRead_13 : decode cX5_areDishesRead 13 = .ok (.istore_n 2, 1) := by decide +kernel
theorem dX5_areDishesRead_14 : decode cX5_areDishesRead 14 = .ok (.iload_n 2, 1) := by decide +kernel
theorem dX5_areDishesRead_15 : decode cX5_areDishesRead 15 = .ok (.aload_n 0, 1) := by decide +kernel
theorem dX5_areDishesRead_16 : decode cX5_areDishesRead 16 = .ok (.getfield 60, 3) := by decide +kernel
theorem dX5_areDishesRead_19 : decode cX5_areDishesRead 19 = .ok (.if_icmp .ge 59, 3) := by decide +kernel
theorem dX5_areDishesRead_22 : decode cX5_areDishesRead 22 = .ok (.aload_n 0, 1) := by decide +kernel
theorem dX5_areDishesRead_23 : decode cX5_areDishesRead 23 = .ok (.getfield 9, 3) := by decide +kernel
theorem dX5_areDishesRead_26 : decode cX5_areDishesRead 26 = .ok (.iload_n 2, 1) := by decide +kernel
theorem dX5_areDishesRead_27 : decode cX5_areDishesRead 27 = .ok (.aload_n 0, 1) := by decide +kernel
theorem dX5_areDishesRead_28 : decode cX5_areDishesRead 28 = .ok (.aload_n 1, 1) := by decide +kernel
theorem dX5_areDishesRead_29 : decode cX5_areDishesRead 29 = .ok (.iconst 1, 1) := by decide +kernel
theorem dX5_areDishesRead_30 : decode cX5_areDishesRead 30 = .ok (.bipush 9, 2) := by decide +kernel
theorem dX5_areDishesRead_32 : decode cX5_areDishesRead 32 = .ok (.invokevirtual 56, 3) := by decide +kernel
theorem dX5_areDishesRead_35 : decode cX5_areDishesRead 35 = .ok (.iastore, 1) := by decide +kernel
theorem dX5_areDishesRead_36 : decode cX5_areDishesRead 36 = .ok (.aload_n 0, 1) := by decide +kernel
theorem dX5_areDishesRead_37 : decode cX5_areDishesRead 37 = .ok (.getfield 9, 3) := by decide +kernel
theorem dX5_areDishesRead_40 : decode cX5_areDishesRead 40 = .ok (.iload_n 2, 1) := by decide +kernel
theorem dX5_areDishesRead_41 : decode cX5_areDishesRead 41 = .ok (.iaload, 1) := by decide +kernel
theorem dX5_areDishesRead_42 : decode cX5_areDishesRead 42 = .ok (.ifCond .ge 5, 3) := by decide +kernel
theorem dX5_areDishesRead_45 : decode cX5_areDishesRead 45 = .ok (.iconst 0, 1) := by decide +kernel
theorem dX5_areDishesRead_46 : decode cX5_areDishesRead 46 = .ok (.ireturn, 1) := by decide +kernel
theorem dX5_areDishesRead_47 : decode cX5_areDishesRead 47 = .ok (.aload_n 0, 1) := by decide +kernel
theorem dX5_areDishesRead_48 : decode cX5_areDishesRead 48 = .ok (.getfield 15, 3) := by decide +kernel
theorem dX5_areDishesRead_51 : decode cX5_areDishesRead 51 = .ok (.iload_n 2, 1) := by decide +kernel
theorem dX5_areDishesRead_52 : decode cX5_areDishesRead 52 = .ok (.aload_n 0, 1) := by decide +kernel
theorem dX5_areDishesRead_53 : decode cX5_areDishesRead 53 = .ok (.aload_n 1, 1) := by decide +kernel
theorem dX5_areDishesRead_54 : decode cX5_areDishesRead 54 = .ok (.iconst 0, 1) := by decide +kernel
theorem dX5_areDishesRead_55 : decode cX5_areDishesRead 55 = .ok (.bipush 9, 2) := by decide +kernel
theorem dX5_areDishesRead_57 : decode cX5_areDishesRead 57 = .ok (.invokevirtual 56, 3) := by decide +kernel
theorem dX5_areDishesRead_60 : decode cX5_areDishesRead 60 = .ok (.iastore, 1) := by decide +kernel
theorem dX5_areDishesRead_61 : decode cX5_areDishesRead 61 = .ok (.aload_n 0, 1) := by decide +kernel
theorem dX5_areDishesRead_62 : decode cX5_areDishesRead 62 = .ok (.getfield 15, 3) := by decide +kernel
theorem dX5_areDishesRead_65 : decode cX5_areDishesRead 65 = .ok (.iload_n 2, 1) := by decide +kernel
theorem dX5_areDishesRead_66 : decode cX5_areDishesRead 66 = .ok (.iaload, 1) := by decide +kernel
theorem dX5_areDishesRead_67 : decode cX5_areDishesRead 67 = .ok (.ifCond .ge 5, 3) := by decide +kernel
theorem dX5_areDishesRead_70 : decode cX5_areDishesRead 70 = .ok (.iconst 0, 1) := by decide +kernel
theorem dX5_areDishesRead_71 : decode cX5_areDishesRead 71 = .ok (.ireturn, 1) := by decide +kernel
theorem dX5_areDishesRead_72 : decode cX5_areDishesRead 72 = .ok (.iinc 2 1, 3) := by decide +kernel
theorem dX5_areDishesRead_75 : decode cX5_areDishesRead 75 = .ok (.goto (-61), 3) := by decide +kernel
theorem dX5_areDishesRead_78 : decode cX5_areDishesRead 78 = .ok (.aload_n 0, 1) := by decide +kernel
theorem dX5_areDishesRead_79 : decode cX5_areDishesRead 79 = .ok (.getfield 60, 3) := by decide +kernel
theorem dX5_areDishesRead_82 : decode cX5_areDishesRead 82 = .ok (.ifCond .le 7, 3) := by decide +kernel
theorem dX5_areDishesRead_85 : decode cX5_areDishesRead 85 = .ok (.iconst 1, 1) := by decide +kernel
theorem dX5_areDishesRead_86 : decode cX5_areDishesRead 86 = .ok (.goto 4, 3) := by decide +kernel
theorem dX5_areDishesRead_89 : decode cX5_areDishesRead 89 = .ok (.iconst 0, 1) := by decide +kernel
theorem dX5_areDishesRead_90 : decode cX5_areDishesRead 90 = .ok (.ireturn, 1) := by decide +kernel
theorem dX5_areGuestsRead_0 : decode cX5_areGuestsRead 0 = .ok (.iconst 0, 1) := by decide +kernel
theorem dX5_areGuestsRead_1 : decode cX5_areGuestsRead 1 = .ok (.istore_n 2, 1) := by decide +kernel
theorem dX5_areGuestsRead_2 : decode cX5_areGuestsRead 2 = .ok (.iload_n 2, 1) := by decide +kernel
theorem dX5_areGuestsRead_3 : decode cX5_areGuestsRead 3 = .ok (.bipush 7, 2) := by decide +kernel
theorem dX5_areGuestsRead_5 : decode cX5_areGuestsRead 5 = .ok (.if_icmp .ge 38, 3) := by decide +kernel
theorem dX5_areGuestsRead_8 : decode cX5_areGuestsRead 8 = .ok (.aload_n 0, 1) := by decide +kernel
theorem dX5_areGuestsRead_9 : decode cX5_areGuestsRead 9 = .ok (.getfield 39, 3) := by decide +kernel
theorem dX5_areGuestsRead_12 : decode cX5_areGuestsRead 12 = .ok (.aload_n 0, 1) := by decide +kernel
theorem dX5_areGuestsRead_13 : decode cX5_areGuestsRead 13 = .ok (.getfield 36, 3) := by decide +kernel
theorem dX5_areGuestsRead_16 : decode cX5_areGuestsRead 16 = .ok (.if_icmp .ge 27, 3) := by decide +kernel
theorem dX5_areGuestsRead_19 : decode cX5_areGuestsRead 19 = .ok (.aload_n 0, 1) := by decide +kernel
theorem dX5_areGuestsRead_20 : decode cX5_areGuestsRead 20 = .ok (.aload_n 1, 1) := by decide +kernel
theorem dX5_areGuestsRead_21 : decode cX5_areGuestsRead 21 = .ok (.iload_n 2, 1) := by decide +kernel
theorem dX5_areGuestsRead_22 : decode cX5_areGuestsRead 22 = .ok (.invokevirtual 63, 3) := by decide +kernel
theorem dX5_areGuestsRead_25 : decode cX5_areGuestsRead 25 = .ok (.ifCond .ne 5, 3) := by decide +kernel
theorem dX5_areGuestsRead_28 : decode cX5_areGuestsRead 28 = .ok (.iconst 0, 1) := by decide +kernel
theorem dX5_areGuestsRead_29 : decode cX5_areGuestsRead 29 = .ok (.ireturn, 1) := by decide +kernel
theorem dX5_areGuestsRead_30 : decode cX5_areGuestsRead 30 = .ok (.aload_n 0, 1) := by decide +kernel
theorem dX5_areGuestsRead_31 : decode cX5_areGuestsRead 31 = .ok (.iload_n 2, 1) := by decide +kernel
theorem dX5_areGuestsRead_32 : decode cX5_areGuestsRead 32 = .ok (.iconst 1, 1) := by decide +kernel
theorem dX5_areGuestsRead_33 : decode cX5_areGuestsRead 33 = .ok (.iadd, 1) := by decide +kernel
theorem dX5_areGuestsRead_34 : decode cX5_areGuestsRead 34 = .ok (.putfield 42, 3) := by decide +kernel
theorem dX5_areGuestsRead_37 : decode cX5_areGuestsRead 37 = .ok (.iinc 2 1, 3) := by decide +kernel
theorem dX5_areGuestsRead_40 : decode cX5_areGuestsRead 40 = .ok (.goto (-38), 3) := by decide +kernel
theorem dX5_areGuestsRead_43 : decode cX5_areGuestsRead 43 = .ok (.aload_n 0, 1) := by decide +kernel
theorem dX5_areGuestsRead_44 : decode cX5_areGuestsRead 44 = .ok (.getfield 42, 3) := by decide +kernel
theorem dX5_areGuestsRead_47 : decode cX5_areGuestsRead 47 = .ok (.iconst 2, 1) := by decide +kernel
theorem dX5_areGuestsRead_48 : decode cX5_areGuestsRead 48 = .ok (.if_icmp .lt 18, 3) := by decide +kernel
theorem dX5_areGuestsRead_51 : decode cX5_areGuestsRead 51 = .ok (.aload_n 0, 1) := by decide +kernel
theorem dX5_areGuestsRead_52 : decode cX5_areGuestsRead 52 = .ok (.getfield 39, 3) := by decide +kernel
theorem dX5_areGuestsRead_55 : decode cX5_areGuestsRead 55 = .ok (.aload_n 0, 1) := by decide +kernel
theorem dX5_areGuestsRead_56 : decode cX5_areGuestsRead 56 = .ok (.getfield 36, 3) := by decide +kernel
theorem dX5_areGuestsRead_59 : decode cX5_areGuestsRead 59 = .ok (.if_icmp .ne 7, 3) := by decide +kernel
theorem dX5_areGuestsRead_62 : decode cX5_areGuestsRead 62 = .ok (.iconst 1, 1) := by decide +kernel
theorem dX5_areGuestsRead_63 : decode cX5_areGuestsRead 63 = .ok (.goto 4, 3) := by decide +kernel
theorem dX5_areGuestsRead_66 : decode cX5_areGuestsRead 66 = .ok (.iconst 0, 1) := by decide +kernel
theorem dX5_areGuestsRead_67 : decode cX5_areGuestsRead 67 = .ok (.ireturn, 1) := by decide +kernel
theorem dX5_isGuestRead_0 : decode cX5_isGuestRead 0 = .ok (.aload_n 0, 1) := by decide +kernel
theorem dX5_isGuestRead_1 : decode cX5_isGuestRead 1 = .ok (.aload_n 1, 1) := by decide +kernel
theorem dX5_isGuestRead_2 : decode cX5_isGuestRead 2 = .ok (.bipush 59, 2) := by decide +kernel
theorem dX5_isGuestRead_4 : decode cX5_isGuestRead 4 = .ok (.invokevirtual 45, 3) := by decide +kernel
theorem dX5_isGuestRead_7 : decode cX5_isGuestRead 7 = .ok (.ifCond .ne 5, 3) := by decide +kernel
theorem dX5_isGuestRead_10 : decode cX5_isGuestRead 10 = .ok (.iconst 0, 1) := by decide +kernel
theorem dX5_isGuestRead_11 : decode cX5_isGuestRead 11 = .ok (.ireturn, 1) := by decide +kernel
theorem dX5_isGuestRead_12 : decode cX5_isGuestRead 12 = .ok (.aload_n 0, 1) := by decide +kernel
theorem dX5_isGuestRead_13 : decode cX5_isGuestRead 13 = .ok (.getfield 18, 3) := by decide +kernel
theorem dX5_isGuestRead_16 : decode cX5_isGuestRead 16 = .ok (.iload_n 2, 1) := by decide +kernel
theorem dX5_isGuestRead_17 : decode cX5_isGuestRead 17 = .ok (.aload_n 0, 1) := by decide +kernel
theorem dX5_isGuestRead_18 : decode cX5_isGuestRead 18 = .ok (.aload_n 1, 1) := by decide +kernel
theorem dX5_isGuestRead_19 : decode cX5_isGuestRead 19 = .ok (.invokevirtual 67, 3) := by decide +kernel
theorem dX5_isGuestRead_22 : decode cX5_isGuestRead 22 = .ok (.iastore, 1) := by decide +kernel
theorem dX5_isGuestRead_23 : decode cX5_isGuestRead 23 = .ok (.aload_n 0, 1) := by decide +kernel
theorem dX5_isGuestRead_24 : decode cX5_isGuestRead 24 = .ok (.getfield 18, 3) := by decide +kernel
theorem dX5_isGuestRead_27 : decode cX5_isGuestRead 27 = .ok (.iload_n 2, 1) := by decide +kernel
theorem dX5_isGuestRead_28 : decode cX5_isGuestRead 28 = .ok (.iaload, 1) := by decide +kernel
theorem dX5_isGuestRead_29 : decode cX5_isGuestRead 29 = .ok (.ifCond .ge 5, 3) := by decide +kernel
theorem dX5_isGuestRead_32 : decode cX5_isGuestRead 32 = .ok (.iconst 0, 1) := by decide +kernel
theorem dX5_isGuestRead_33 : decode cX5_isGuestRead 33 = .ok (.ireturn, 1) := by decide +kernel
theorem dX5_isGuestRead_34 : decode cX5_isGuestRead 34 = .ok (.aload_n 0, 1) := by decide +kernel
theorem dX5_isGuestRead_35 : decode cX5_isGuestRead 35 = .ok (.getfield 21, 3) := by decide +kernel
theorem dX5_isGuestRead_38 : decode cX5_isGuestRead 38 = .ok (.iload_n 2, 1) := by decide +kernel
theorem dX5_isGuestRead_39 : decode cX5_isGuestRead 39 = .ok (.aload_n 0, 1) := by decide +kernel
theorem dX5_isGuestRead_40 : decode cX5_isGuestRead 40 = .ok (.aload_n 1, 1) := by decide +kernel
theorem dX5_isGuestRead_41 : decode cX5_isGuestRead 41 = .ok (.iconst 0, 1) := by decide +kernel
theorem dX5_isGuestRead_42 : decode cX5_isGuestRead 42 = .ok (.bipush 9, 2) := by decide +kernel
theorem dX5_isGuestRead_44 : decode cX5_isGuestRead 44 = .ok (.invokevirtual 56, 3) := by decide +kernel
theorem dX5_isGuestRead_47 : decode cX5_isGuestRead 47 = .ok (.iastore, 1) := by decide +kernel
theorem dX5_isGuestRead_48 : decode cX5_isGuestRead 48 = .ok (.aload_n 0, 1) := by decide +kernel
theorem dX5_isGuestRead_49 : decode cX5_isGuestRead 49 = .ok (.getfield 21, 3) := by decide +kernel
theorem dX5_isGuestRead_52 : decode cX5_isGuestRead 52 = .ok (.iload_n 2, 1) := by decide +kernel
theorem dX5_isGuestRead_53 : decode cX5_isGuestRead 53 = .ok (.iaload, 1) := by decide +kernel
theorem dX5_isGuestRead_54 : decode cX5_isGuestRead 54 = .ok (.ifCond .ge 5, 3) := by decide +kernel
theorem dX5_isGuestRead_57 : decode cX5_isGuestRead 57 = .ok (.iconst 0, 1) := by decide +kernel
theorem dX5_isGuestRead_58 : decode cX5_isGuestRead 58 = .ok (.ireturn, 1) := by decide +kernel
theorem dX5_isGuestRead_59 : decode cX5_isGuestRead 59 = .ok (.aload_n 0, 1) := by decide +kernel
theorem dX5_isGuestRead_60 : decode cX5_isGuestRead 60 = .ok (.getfield 24, 3) := by decide +kernel
theorem dX5_isGuestRead_63 : decode cX5_isGuestRead 63 = .ok (.iload_n 2, 1) := by decide +kernel
theorem dX5_isGuestRead_64 : decode cX5_isGuestRead 64 = .ok (.aload_n 0, 1) := by decide +kernel
theorem dX5_isGuestRead_65 : decode cX5_isGuestRead 65 = .ok (.getfield 18, 3) := by decide +kernel
theorem dX5_isGuestRead_68 : decode cX5_isGuestRead 68 = .ok (.iload_n 2, 1) := by decide +kernel
theorem dX5_isGuestRead_69 : decode cX5_isGuestRead 69 = .ok (.iaload, 1) := by decide +kernel
theorem dX5_isGuestRead_70 : decode cX5_isGuestRead 70 = .ok (.iconst 2, 1) := by decide +kernel
theorem dX5_isGuestRead_71 : decode cX5_isGuestRead 71 = .ok (.if_icmp .ne 14, 3) := by decide +kernel
theorem dX5_isGuestRead_74 : decode cX5_isGuestRead 74 = .ok (.aload_n 0, 1) := by decide +kernel
theorem dX5_isGuestRead_75 : decode cX5_isGuestRead 75 = .ok (.aload_n 1, 1) := by decide +kernel
theorem dX5_isGuestRead_76 : decode cX5_isGuestRead 76 = .ok (.iconst 0, 1) := by decide +kernel
theorem dX5_isGuestRead_77 : decode cX5_isGuestRead 77 = .ok (.bipush 9, 2) := by decide +kernel
theorem dX5_isGuestRead_79 : decode cX5_isGuestRead 79 = .ok (.invokevirtual 56, 3) := by decide +kernel
theorem dX5_isGuestRead_82 : decode cX5_isGuestRead 82 = .ok (.goto 4, 3) := by decide +kernel
theorem dX5_isGuestRead_85 : decode cX5_isGuestRead 85 = .ok (.iconst 0, 1) := by decide +kernel
theorem dX5_isGuestRead_86 : decode cX5_isGuestRead 86 = .ok (.iastore, 1) := by decide +kernel
theorem dX5_isGuestRead_87 : decode cX5_isGuestRead 87 = .ok (.aload_n 0, 1) := by decide +kernel
theorem dX5_isGuestRead_88 : decode cX5_isGuestRead 88 = .ok (.getfield 24, 3) := by decide +kernel
theorem dX5_isGuestRead_91 : decode cX5_isGuestRead 91 = .ok (.iload_n 2, 1) := by decide +kernel
theorem dX5_isGuestRead_92 : decode cX5_isGuestRead 92 = .ok (.iaload, 1) := by decide +kernel
theorem dX5_isGuestRead_93 : decode cX5_isGuestRead 93 = .ok (.ifCond .lt 16, 3) := by decide +kernel
theorem dX5_isGuestRead_96 : decode cX5_isGuestRead 96 = .ok (.aload_n 0, 1) := by decide +kernel
theorem dX5_isGuestRead_97 : decode cX5_isGuestRead 97 = .ok (.aload_n 1, 1) := by decide +kernel
theorem dX5_isGuestRead_98 : decode cX5_isGuestRead 98 = .ok (.iload_n 2, 1) := by decide +kernel
theorem dX5_isGuestRead_99 : decode cX5_isGuestRead 99 = .ok (.invokevirtual 71, 3) := by decide +kernel
theorem dX5_isGuestRead_102 : decode cX5_isGuestRead 102 = .ok (.ifCond .eq 7, 3) := by decide +kernel
theorem dX5_isGuestRead_105 : decode cX5_isGuestRead 105 = .ok (.iconst 1, 1) := by decide +kernel
theorem dX5_isGuestRead_106 : decode cX5_isGuestRead 106 = .ok (.goto 4, 3) := by decide +kernel
theorem dX5_isGuestRead_109 : decode cX5_isGuestRead 109 = .ok (.iconst 0, 1) := by decide +kernel
theorem dX5_isGuestRead_110 : decode cX5_isGuestRead 110 = .ok (.ireturn, 1) := by decide +kernel
theorem dX5_kindOfLetter_0 : decode cX5_kindOfLetter 0 = .ok (.aload_n 0, 1) := by decide +kernel
theorem dX5_kindOfLetter_1 : decode cX5_kindOfLetter 1 = .ok (.aload_n 1, 1) := by decide +kernel
theorem dX5_kindOfLetter_2 : decode cX5_kindOfLetter 2 = .ok (.bipush 107, 2) := by decide +kernel
theorem dX5_kindOfLetter_4 : decode cX5_kindOfLetter 4 = .ok (.invokevirtual 45, 3) := by decide +kernel
theorem dX5_kindOfLetter_7 : decode cX5_kindOfLetter 7 = .ok (.ifCond .eq 5, 3) := by decide +kernel
theorem dX5_kindOfLetter_10 : decode cX5_kindOfLetter 10 = .ok (.iconst 0, 1) := by decide +kernel
theorem dX5_kindOfLetter_11 : decode cX5_kindOfLetter 11 = .ok (.ireturn, 1) := by decide +kernel
theorem dX5_kindOfLetter_12 : decode cX5_kindOfLetter 12 = .ok (.aload_n 0, 1) := by decide +kernel
theorem dX5_kindOfLetter_13 : decode cX5_kindOfLetter 13 = .ok (.aload_n 1, 1) := by decide +kernel
theorem dX5_kindOfLetter_14 : decode cX5_kindOfLetter 14 = .ok (.bipush 99, 2) := by decide +kernel
theorem dX5_kindOfLetter_16 : decode cX5_kindOfLetter 16 = .ok (.invokevirtual 45, 3) := by decide +kernel
theorem dX5_kindOfLetter_19 : decode cX5_kindOfLetter 19 = .ok (.ifCond .eq 5, 3) := by decide +kernel
theorem dX5_kindOfLetter_22 : decode cX5_kindOfLetter 22 = .ok (.iconst 1, 1) := by decide +kernel
theorem dX5_kindOfLetter_23 : decode cX5_kindOfLetter 23 = .ok (.ireturn, 1) := by decide +kernel
theorem dX5_kindOfLetter_24 : decode cX5_kindOfLetter 24 = .ok (.aload_n 0, 1) := by decide +kernel
theorem dX5_kindOfLetter_25 : decode cX5_kindOfLetter 25 = .ok (.aload_n 1, 1) := by decide +kernel
theorem dX5_kindOfLetter_26 : decode cX5_kindOfLetter 26 = .ok (.bipush 112, 2) := by decide +kernel
theorem dX5_kindOfLetter_28 : decode cX5_kindOfLetter 28 = .ok (.invokevirtual 45, 3) := by decide +kernel
theorem dX5_kindOfLetter_31 : decode cX5_kindOfLetter 31 = .ok (.ifCond .eq 7, 3) := by decide +kernel
theorem dX5_kindOfLetter_34 : decode cX5_kindOfLetter 34 = .ok (.iconst 2, 1) := by decide +kernel
theorem dX5_kindOfLetter_35 : decode cX5_kindOfLetter 35 = .ok (.goto 4, 3) := by decide +kernel
theorem dX5_kindOfLetter_38 : decode cX5_kindOfLetter 38 = .ok (.iconst (-1), 1) := by decide +kernel
theorem dX5_kindOfLetter_39 : decode cX5_kindOfLetter 39 = .ok (.ireturn, 1) := by decide +kernel
theorem dX5_isWorthRead_0 : decode cX5_isWorthRead 0 = .ok (.iconst 0, 1) := by decide +kernel
theorem dX5_isWorthRead_1 : decode cX5_isWorthRead 1 = .ok (.istore_n 3, 1) := by decide +kernel
theorem dX5_isWorthRead_2 : decode cX5_isWorthRead 2 = .ok (.iconst 0, 1) := by decide +kernel
theorem dX5_isWorthRead_3 : decode cX5_isWorthRead 3 = .ok (.istore 4, 2) := by decide +kernel
theorem dX5_isWorthRead_5 : decode cX5_isWorthRead 5 = .ok (.iload 4, 2) := by decide +kernel
theorem dX5_isWorthRead_7 : decode cX5_isWorthRead 7 = .ok (.aload_n 0, 1) := by decide +kernel
theorem dX5_isWorthRead_8 : decode cX5_isWorthRead 8 = .ok (.getfield 60, 3) := by decide +kernel
theorem dX5_isWorthRead_11 : decode cX5_isWorthRead 11 = .ok (.if_icmp .ge 80, 3) := by decide +kernel
theorem dX5_isWorthRead_14 : decode cX5_isWorthRead 14 = .ok (.aload_n 0, 1) := by decide +kernel
theorem dX5_isWorthRead_15 : decode cX5_isWorthRead 15 = .ok (.getfield 29, 3) := by decide +kernel
theorem dX5_isWorthRead_18 : decode cX5_isWorthRead 18 = .ok (.iload_n 2, 1) := by decide +kernel
theorem dX5_isWorthRead_19 : decode cX5_isWorthRead 19 = .ok (.aaload, 1) := by decide +kernel
theorem dX5_isWorthRead_20 : decode cX5_isWorthRead 20 = .ok (.iload 4, 2) := by decide +kernel
theorem dX5_isWorthRead_22 : decode cX5_isWorthRead 22 = .ok (.aload_n 0, 1) := by decide +kernel
theorem dX5_isWorthRead_23 : decode cX5_isWorthRead 23 = .ok (.aload_n 1, 1) := by decide +kernel
theorem dX5_isWorthRead_24 : decode cX5_isWorthRead 24 = .ok (.iconst 0, 1) := by decide +kernel
theorem dX5_isWorthRead_25 : decode cX5_isWorthRead 25 = .ok (.bipush 9, 2) := by decide +kernel
theorem dX5_isWorthRead_27 : decode cX5_isWorthRead 27 = .ok (.invokevirtual 56, 3) := by decide +kernel
theorem dX5_isWorthRead_30 : decode cX5_isWorthRead 30 = .ok (.iastore, 1) := by decide +kernel
theorem dX5_isWorthRead_31 : decode cX5_isWorthRead 31 = .ok (.aload_n 0, 1) := by decide +kernel
theorem dX5_isWorthRead_32 : decode cX5_isWorthRead 32 = .ok (.getfield 29, 3) := by decide +kernel
theorem dX5_isWorthRead_35 : decode cX5_isWorthRead 35 = .ok (.iload_n 2, 1) := by decide +kernel
theorem dX5_isWorthRead_36 : decode cX5_isWorthRead 36 = .ok (.aaload, 1) := by decide +kernel
theorem dX5_isWorthRead_37 : decode cX5_isWorthRead 37 = .ok (.iload 4, 2) := by decide +kernel
theorem dX5_isWorthRead_39 : decode cX5_isWorthRead 39 = .ok (.iaload, 1) := by decide +kernel
theorem dX5_isWorthRead_40 : decode cX5_isWorthRead 40 = .ok (.ifCond .lt 8, 3) := by decide +kernel
theorem dX5_isWorthRead_43 : decode cX5_isWorthRead 43 = .ok (.iconst 1, 1) := by decide +kernel
theorem dX5_isWorthRead_44 : decode cX5_isWorthRead 44 = .ok (.istore_n 3, 1) := by decide +kernel
theorem dX5_isWorthRead_45 : decode cX5_isWorthRead 45 = .ok (.goto 40, 3) := by decide +kernel
theorem dX5_isWorthRead_48 : decode cX5_isWorthRead 48 = .ok (.iload 4, 2) := by decide +kernel
theorem dX5_isWorthRead_50 : decode cX5_isWorthRead 50 = .ok (.aload_n 0, 1) := by decide +kernel
theorem dX5_isWorthRead_51 : decode cX5_isWorthRead 51 = .ok (.getfield 60, 3) := by decide +kernel
theorem dX5_isWorthRead_54 : decode cX5_isWorthRead 54 = .ok (.iconst 1, 1) := by decide +kernel
theorem dX5_isWorthRead_55 : decode cX5_isWorthRead 55 = .ok (.isub, 1) := by decide +kernel
theorem dX5_isWorthRead_56 : decode cX5_isWorthRead 56 = .ok (.if_icmp .ne 7, 3) := by decide +kernel
theorem dX5_isWorthRead_59 : decode cX5_isWorthRead 59 = .ok (.iload_n 3, 1) := by decide +kernel
theorem dX5_isWorthRead_60 : decode cX5_isWorthRead 60 = .ok (.ifCond .eq 13, 3) := by decide +kernel
theorem dX5_isWorthRead_63 : decode cX5_isWorthRead 63 = .ok (.aload_n 0, 1) := by decide +kernel
theorem dX5_isWorthRead_64 : decode cX5_isWorthRead 64 = .ok (.aload_n 1, 1) := by decide +kernel
theorem dX5_isWorthRead_65 : decode cX5_isWorthRead 65 = .ok (.bipush 120, 2) := by decide +kernel
theorem dX5_isWorthRead_67 : decode cX5_isWorthRead 67 = .ok (.invokevirtual 45, 3) := by decide +kernel
theorem dX5_isWorthRead_70 : decode cX5_isWorthRead 70 = .ok (.ifCond .ne 5, 3) := by decide +kernel
theorem dX5_isWorthRead_73 : decode cX5_isWorthRead 73 = .ok (.iconst 0, 1) := by decide +kernel
theorem dX5_isWorthRead_74 : decode cX5_isWorthRead 74 = .ok (.ireturn, 1) := by decide +kernel
theorem dX5_isWorthRead_75 : decode cX5_isWorthRead 75 = .ok (.aload_n 0, 1) := by decide +kernel
theorem dX5_isWorthRead_76 : decode cX5_isWorthRead 76 = .ok (.getfield 29, 3) := by decide +kernel
theorem dX5_isWorthRead_79 : decode cX5_isWorthRead 79 = .ok (.iload_n 2, 1) := by decide +kernel
theorem dX5_isWorthRead_80 : decode cX5_isWorthRead 80 = .ok (.aaload, 1) := by decide +kernel
theorem dX5_isWorthRead_81 : decode cX5_isWorthRead 81 = .ok (.iload 4, 2) := by decide +kernel
theorem dX5_isWorthRead_83 : decode cX5_isWorthRead 83 = .ok (.iconst (-1), 1) := by decide +kernel
theorem dX5_isWorthRead_84 : decode cX5_isWorthRead 84 = .ok (.iastore, 1) := by decide +kernel
theorem dX5_isWorthRead_85 : decode cX5_isWorthRead 85 = .ok (.iinc 4 1, 3) := by decide +kernel
theorem dX5_isWorthRead_88 : decode cX5_isWorthRead 88 = .ok (.goto (-83), 3) := by decide +kernel
theorem dX5_isWorthRead_91 : decode cX5_isWorthRead 91 = .ok (.iconst 1, 1) := by decide +kernel
theorem dX5_isWorthRead_92 : decode cX5_isWorthRead 92 = .ok (.ireturn, 1) := by decide +kernel
theorem dX5_isSign_0 : decode cX5_isSign 0 = .ok (.aload_n 0, 1) := by decide +kernel
theorem dX5_isSign_1 : decode cX5_isSign 1 = .ok (.getfield 39, 3) := by decide +kernel
theorem dX5_isSign_4 : decode cX5_isSign 4 = .ok (.aload_n 0, 1) := by decide +kernel
theorem dX5_isSign_5 : decode cX5_isSign 5 = .ok (.getfield 36, 3) := by decide +kernel
theorem dX5_isSign_8 : decode cX5_isSign 8 = .ok (.if_icmp .ge 16, 3) := by decide +kernel
theorem dX5_isSign_11 : decode cX5_isSign 11 = .ok (.aload_n 1, 1) := by decide +kernel
theorem dX5_isSign_12 : decode cX5_isSign 12 = .ok (.getfield 74, 3) := by decide +kernel
theorem dX5_isSign_15 : decode cX5_isSign 15 = .ok (.aload_n 0, 1) := by decide +kernel
theorem dX5_isSign_16 : decode cX5_isSign 16 = .ok (.getfield 39, 3) := by decide +kernel
theorem dX5_isSign_19 : decode cX5_isSign 19 = .ok (.iaload, 1) := by decide +kernel
theorem dX5_isSign_20 : decode cX5_isSign 20 = .ok (.iload_n 2, 1) := by decide +kernel
theorem dX5_isSign_21 : decode cX5_isSign 21 = .ok (.if_icmp .eq 5, 3) := by decide +kernel
theorem dX5_isSign_24 : decode cX5_isSign 24 = .ok (.iconst 0, 1) := by decide +kernel
theorem dX5_isSign_25 : decode cX5_isSign 25 = .ok (.ireturn, 1) := by decide +kernel
theorem dX5_isSign_26 : decode cX5_isSign 26 = .ok (.aload_n 0, 1) := by decide +kernel
theorem dX5_isSign_27 : decode cX5_isSign 27 = .ok (.dup, 1) := by decide +kernel
theorem dX5_isSign_28 : decode cX5_isSign 28 = .ok (.getfield 39, 3) := by decide +kernel
theorem dX5_isSign_31 : decode cX5_isSign 31 = .ok (.iconst 1, 1) := by decide +kernel
theorem dX5_isSign_32 : decode cX5_isSign 32 = .ok (.iadd, 1) := by decide +kernel
theorem dX5_isSign_33 : decode cX5_isSign 33 = .ok (.putfield 39, 3) := by decide +kernel
theorem dX5_isSign_36 : decode cX5_isSign 36 = .ok (.iconst 1, 1) := by decide +kernel
theorem dX5_isSign_37 : decode cX5_isSign 37 = .ok (.ireturn, 1) := by decide +kernel
theorem dX5_digit_0 : decode cX5_digit 0 = .ok (.aload_n 0, 1) := by decide +kernel
theorem dX5_digit_1 : decode cX5_digit 1 = .ok (.getfield 39, 3) := by decide +kernel
theorem dX5_digit_4 : decode cX5_digit 4 = .ok (.aload_n 0, 1) := by decide +kernel
theorem dX5_digit_5 : decode cX5_digit 5 = .ok (.getfield 36, 3) := by decide +kernel
theorem dX5_digit_8 : decode cX5_digit 8 = .ok (.if_icmp .ge 35, 3) := by decide +kernel
theorem dX5_digit_11 : decode cX5_digit 11 = .ok (.aload_n 1, 1) := by decide +kernel
theorem dX5_digit_12 : decode cX5_digit 12 = .ok (.getfield 74, 3) := by decide +kernel
theorem dX5_digit_15 : decode cX5_digit 15 = .ok (.aload_n 0, 1) := by decide +kernel
theorem dX5_digit_16 : decode cX5_digit 16 = .ok (.getfield 39, 3) := by decide +kernel
theorem dX5_digit_19 : decode cX5_digit 19 = .ok (.iaload, 1) := by decide +kernel
theorem dX5_digit_20 : decode cX5_digit 20 = .ok (.bipush 48, 2) := by decide +kernel
theorem dX5_digit_22 : decode cX5_digit 22 = .ok (.iload_n 2, 1) := by decide +kernel
theorem dX5_digit_23 : decode cX5_digit 23 = .ok (.iadd, 1) := by decide +kernel
theorem dX5_digit_24 : decode cX5_digit 24 = .ok (.if_icmp .lt 19, 3) := by decide +kernel
theorem dX5_digit_27 : decode cX5_digit 27 = .ok (.aload_n 1, 1) := by decide +kernel
theorem dX5_digit_28 : decode cX5_digit 28 = .ok (.getfield 74, 3) := by decide +kernel
theorem dX5_digit_31 : decode cX5_digit 31 = .ok (.aload_n 0, 1) := by decide +kernel
theorem dX5_digit_32 : decode cX5_digit 32 = .ok (.getfield 39, 3) := by decide +kernel
theorem dX5_digit_35 : decode cX5_digit 35 = .ok (.iaload, 1) := by decide +kernel
theorem dX5_digit_36 : decode cX5_digit 36 = .ok (.bipush 48, 2) := by decide +kernel
theorem dX5_digit_38 : decode cX5_digit 38 = .ok (.iload_n 3, 1) := by decide +kernel
theorem dX5_digit_39 : decode cX5_digit 39 = .ok (.iadd, 1) := by decide +kernel
theorem dX5_digit_40 : decode cX5_digit 40 = .ok (.if_icmp .le 5, 3) := by decide +kernel
theorem dX5_digit_43 : decode cX5_digit 43 = .ok (.iconst (-1), 1) := by decide +kernel
theorem dX5_digit_44 : decode cX5_digit 44 = .ok (.ireturn, 1) := by decide +kernel
theorem dX5_digit_45 : decode cX5_digit 45 = .ok (.aload_n 1, 1) := by decide +kernel
theorem dX5_digit_46 : decode cX5_digit 46 = .ok (.getfield 74, 3) := by decide +kernel
theorem dX5_digit_49 : decode cX5_digit 49 = .ok (.aload_n 0, 1) := by decide +kernel
theorem dX5_digit_50 : decode cX5_digit 50 = .ok (.dup, 1) := by decide +kernel
theorem dX5_digit_51 : decode cX5_digit 51 = .ok (.getfield 39, 3) := by decide +kernel
theorem dX5_digit_54 : decode cX5_digit 54 = .ok (.dup_x1, 1) := by decide +kernel
theorem dX5_digit_55 : decode cX5_digit 55 = .ok (.iconst 1, 1) := by decide +kernel
theorem dX5_digit_56 : decode cX5_digit 56 = .ok (.iadd, 1) := by decide +kernel
theorem dX5_digit_57 : decode cX5_digit 57 = .ok (.putfield 39, 3) := by decide +kernel
theorem dX5_digit_60 : decode cX5_digit 60 = .ok (.iaload, 1) := by decide +kernel
theorem dX5_digit_61 : decode cX5_digit 61 = .ok (.bipush 48, 2) := by decide +kernel
theorem dX5_digit_63 : decode cX5_digit 63 = .ok (.isub, 1) := by decide +kernel
theorem dX5_digit_64 : decode cX5_digit 64 = .ok (.ireturn, 1) := by decide +kernel
theorem dJ7_fill_d0a16_0 : decode cJ7_fill_d0a16 0 = .ok (.iconst 0, 1) := by decide +kernel
theorem dJ7_fill_d0a16_1 : decode cJ7_fill_d0a16 1 = .ok (.istore_n 3, 1) := by decide +kernel
theorem dJ7_fill_d0a16_2 : decode cJ7_fill_d0a16 2 = .ok (.aload_n 0, 1) := by decide +kernel
theorem dJ7_fill_d0a16_3 : decode cJ7_fill_d0a16 3 = .ok (.arraylength, 1) := by decide +kernel
theorem dJ7_fill_d0a16_4 : decode cJ7_fill_d0a16 4 = .ok (.istore 4, 2) := by decide +kernel
theorem dJ7_fill_d0a16_6 : decode cJ7_fill_d0a16 6 = .ok (.iload_n 3, 1) := by decide +kernel
theorem dJ7_fill_d0a16_7 : decode cJ7_fill_d0a16 7 = .ok (.iload 4, 2) := by decide +kernel
theorem dJ7_fill_d0a16_9 : decode cJ7_fill_d0a16 9 = .ok (.if_icmp .ge 13, 3) := by decide +kernel
theorem dJ7_fill_d0a16_12 : decode cJ7_fill_d0a16 12 = .ok (.aload_n 0, 1) := by decide +kernel
theorem dJ7_fill_d0a16_13 : decode cJ7_fill_d0a16 13 = .ok (.iload_n 3, 1) := by decide +kernel
theorem dJ7_fill_d0a16_14 : decode cJ7_fill_d0a16 14 = .ok (.lload_n 1, 1) := by decide +kernel
theorem dJ7_fill_d0a16_15 : decode cJ7_fill_d0a16 15 = .ok (.lastore, 1) := by decide +kernel
theorem dJ7_fill_d0a16_16 : decode cJ7_fill_d0a16 16 = .ok (.iinc 3 1, 3) := by decide +kernel
theorem dJ7_fill_d0a16_19 : decode cJ7_fill_d0a16 19 = .ok (.goto (-13), 3) := by decide +kernel
theorem dJ7_fill_d0a16_22 : decode cJ7_fill_d0a16 22 = .ok (.return_, 1) := by decide +kernel
theorem dJ7_fill_53178_0 : decode cJ7_fill_53178 0 = .ok (.iconst 0, 1) := by decide +kernel
theorem dJ7_fill_53178_1 : decode cJ7_fill_53178 1 = .ok (.istore_n 2, 1) := by decide +kernel
theorem dJ7_fill_53178_2 : decode cJ7_fill_53178 2 = .ok (.aload_n 0, 1) := by decide +kernel
theorem dJ7_fill_53178_3 : decode cJ7_fill_53178 3 = .ok (.arraylength, 1) := by decide +kernel
theorem dJ7_fill_53178_4 : decode cJ7_fill_53178 4 = .ok (.istore_n 3, 1) := by decide +kernel
theorem dJ7_fill_53178_5 : decode cJ7_fill_53178 5 = .ok (.iload_n 2, 1) := by decide +kernel
theorem dJ7_fill_53178_6 : decode cJ7_fill_53178 6 = .ok (.iload_n 3, 1) := by decide +kernel
theorem dJ7_fill_53178_7 : decode cJ7_fill_53178 7 = .ok (.if_icmp .ge 13, 3) := by decide +kernel
theorem dJ7_fill_53178_10 : decode cJ7_fill_53178 10 = .ok (.aload_n 0, 1) := by decide +kernel
theorem dJ7_fill_53178_11 : decode cJ7_fill_53178 11 = .ok (.iload_n 2, 1) := by decide +kernel
theorem dJ7_fill_53178_12 : decode cJ7_fill_53178 12 = .ok (.iload_n 1, 1) := by decide +kernel
theorem dJ7_fill_53178_13 : decode cJ7_fill_53178 13 = .ok (.iastore, 1) := by decide +kernel
theorem dJ7_fill_53178_14 : decode cJ7_fill_53178 14 = .ok (.iinc 2 1, 3) := by decide +kernel
theorem dJ7_fill_53178_17 : decode cJ7_fill_53178 17 = .ok (.goto (-12), 3) := by decide +kernel
theorem dJ7_fill_53178_20 : decode cJ7_fill_53178 20 = .ok (.return_, 1) := by decide +kernel
end
section
theorem dX6_init_0 : decode cX6_init 0 = .ok (.aload_n 0, 1) := by decide +kernel
theorem dX6_init_1 : decode cX6_init 1 = .ok (.invokespecial 3, 3) := by decide +kernel
theorem dX6_init_4 : decode cX6_init 4 = .ok (.aload_n 0, 1) := by decide +kernel
theorem dX6_init_5 : decode cX6_init 5 = .ok (.iconst 4, 1) := by decide +kernel
theorem dX6_init_6 : decode cX6_init 6 = .ok (.anewarray 11, 3) := by decide +kernel
theorem dX6_init_9 : decode cX6_init 9 = .ok (.putfield 13, 3) := by decide +kernel
theorem dX6_init_12 : decode cX6_init 12 = .ok (.aload_n 0, 1) := by decide +kernel
theorem dX6_init_13 : decode cX6_init 13 = .ok (.new 17, 3) := by decide +kernel
theorem dX6_init_16 : decode cX6_init 16 = .ok (.dup, 1) := by decide +kernel
theorem dX6_init_17 : decode cX6_init 17 = .ok (.invokespecial 19, 3) := by decide +kernel
theorem dX6_init_20 : decode cX6_init 20 = .ok (.putfield 20, 3) := by decide +kernel
theorem dX6_init_23 : decode cX6_init 23 = .ok (.aload_n 0, 1) := by decide +kernel
theorem dX6_init_24 : decode cX6_init 24 = .ok (.new 17, 3) := by decide +kernel
theorem dX6_init_27 : decode cX6_init 27 = .ok (.dup, 1) := by decide +kernel
theorem dX6_init_28 : decode cX6_init 28 = .ok (.invokespecial 19, 3) := by decide +kernel
theorem dX6_init_31 : decode cX6_init 31 = .ok (.putfield 24, 3) := by decide +kernel
theorem dX6_init_34 : decode cX6_init 34 = .ok (.aload_n 0, 1) := by decide +kernel
theorem dX6_init_35 : decode cX6_init 35 = .ok (.new 27, 3) := by decide +kernel
theorem dX6_init_38 : decode cX6_init 38 = .ok (.dup, 1) := by decide +kernel
theorem dX6_init_39 : decode cX6_init 39 = .ok (.invokespecial 29, 3) := by decide +kernel
theorem dX6_init_42 : decode cX6_init 42 = .ok (.putfield 30, 3) := by decide +kernel
theorem dX6_init_45 : decode cX6_init 45 = .ok (.aload_n 0, 1) := by decide +kernel
theorem dX6_init_46 : decode cX6_init 46 = .ok (.new 27, 3) := by decide +kernel
theorem dX6_init_49 : decode cX6_init 49 = .ok (.dup, 1) := by decide +kernel
theorem dX6_init_50 : decode cX6_init 50 = .ok (.invokespecial 29, 3) := by decide +kernel
theorem dX6_init_53 : decode cX6_init 53 = .ok (.putfield 34, 3) := by decide +kernel
theorem dX6_init_56 : decode cX6_init 56 = .ok (.aload_n 0, 1) := by decide +kernel
theorem dX6_init_57 : decode cX6_init 57 = .ok (.new 27, 3) := by decide +kernel
theorem dX6_init_60 : decode cX6_init 60 = .ok (.dup, 1) := by decide +kernel
theorem dX6_init_61 : decode cX6_init 61 = .ok (.invokespecial 29, 3) := by decide +kernel
theorem dX6_init_64 : decode cX6_init 64 = .ok (.putfield 37, 3) := by decide +kernel
theorem dX6_init_67 : decode cX6_init 67 = .ok (.aload_n 0, 1) := by decide +kernel
theorem dX6_init_68 : decode cX6_init 68 = .ok (.new 40, 3) := by decide +kernel
theorem dX6_init_71 : decode cX6_init 71 = .ok (.dup, 1) := by decide +kernel
theorem dX6_init_72 : decode cX6_init 72 = .ok (.invokespecial 42, 3) := by decide +kernel
theorem dX6_init_75 : decode cX6_init 75 = .ok (.putfield 43, 3) := by decide +kernel
theorem dX6_init_78 : decode cX6_init 78 = .ok (.aload_n 0, 1) := by decide +kernel
theorem dX6_init_79 : decode cX6_init 79 = .ok (.new 40, 3) := by decide +kernel
theorem dX6_init_82 : decode cX6_init 82 = .ok (.dup, 1) := by decide +kernel
theorem dX6_init_83 : decode cX6_init 83 = .ok (.invokespecial 42, 3) := by decide +kernel
theorem dX6_init_86 : decode cX6_init 86 = .ok (.putfield 47, 3) := by decide +kernel
theorem dX6_init_89 : decode cX6_init 89 = .ok (.aload_n 0, 1) := by decide +kernel
theorem dX6_init_90 : decode cX6_init 90 = .ok (.new 50, 3) := by decide +kernel
theorem dX6_init_93 : decode cX6_init 93 = .ok (.dup, 1) := by decide +kernel
theorem dX6_init_94 : decode cX6_init 94 = .ok (.invokespecial 52, 3) := by decide +kernel
theorem dX6_init_97 : decode cX6_init 97 = .ok (.putfield 53, 3) := by decide +kernel
theorem dX6_init_100 : decode cX6_init 100 = .ok (.aload_n 0, 1) := by decide +kernel
theorem dX6_init_101 : decode cX6_init 101 = .ok (.new 57, 3) := by decide +kernel
theorem dX6_init_104 : decode cX6_init 104 = .ok (.dup, 1) := by decide +kernel
theorem dX6_init_105 : decode cX6_init 105 = .ok (.invokespecial 59, 3) := by decide +kernel
theorem dX6_init_108 : decode cX6_init 108 = .ok (.putfield 60, 3) := by decide +kernel
theorem dX6_init_111 : decode cX6_init 111 = .ok (.iconst 0, 1) := by decide +kernel
theorem dX6_init_112 : decode cX6_init 112 = .ok (.istore_n 1, 1) := by decide +kernel
theorem dX6_init_113 : decode cX6_init 113 = .ok (.iload_n 1, 1) := by decide +kernel
theorem dX6_init_114 : decode cX6_init 114 = .ok (.iconst 4, 1) := by decide +kernel
theorem dX6_init_115 : decode cX6_init 115 = .ok (.if_icmp .ge 22, 3) := by decide +kernel
theorem dX6_init_118 : decode cX6_init 118 = .ok (.aload_n 0, 1) := by decide +kernel
theorem dX6_init_119 : decode cX6_init 119 = .ok (.getfield 13, 3) := by decide +kernel
theorem dX6_init_122 : decode cX6_init 122 = .ok (.iload_n 1, 1) := by decide +kernel
theorem dX6_init_123 : decode cX6_init 123 = .ok (.new 11, 3) := by decide +kernel
theorem dX6_init_126 : decode cX6_init 126 = .ok (.dup, 1) := by decide +kernel
theorem dX6_init_127 : decode cX6_init 127 = .ok (.invokespecial 64, 3) := by decide +kernel
theorem dX6_init_130 : decode cX6_init 130 = .ok (.aastore, 1) := by decide +kernel
theorem dX6_init_131 : decode cX6_init 131 = .ok (.iinc 1 1, 3) := by decide +kernel
theorem dX6_init_134 : decode cX6_init 134 = .ok (.goto (-21), 3) := by decide +kernel
theorem dX6_init_137 : decode cX6_init 137 = .ok (.return_, 1) := by decide +kernel
theorem dX6_table_0 : decode cX6_table 0 = .ok (.aload_n 0, 1) := by decide +kernel
theorem dX6_table_1 : decode cX6_table 1 = .ok (.iload_n 1, 1) := by decide +kernel
theorem dX6_table_2 : decode cX6_table 2 = .ok (.iload_n 2, 1) := by decide +kernel
theorem dX6_table_3 : decode cX6_table 3 = .ok (.iload_n 3, 1) := by decide +kernel
theorem dX6_table_4 : decode cX6_table 4 = .ok (.iload 4, 2) := by decide +kernel
theorem dX6_table_6 : decode cX6_table 6 = .ok (.invokevirtual 65, 3) := by decide +kernel
theorem dX6_table_9 : decode cX6_table 9 = .ok (.istore 5, 2) := by decide +kernel
theorem dX6_table_11 : decode cX6_table 11 = .ok (.iload 5, 2) := by decide +kernel
theorem dX6_table_13 : decode cX6_table 13 = .ok (.ifCond .eq 6, 3) := by decide +kernel
theorem dX6_table_16 : decode cX6_table 16 = .ok (.iload 5, 2) := by decide +kernel
theorem dX6_table_18 : decode cX6_table 18 = .ok (.ireturn, 1) := by decide +kernel
theorem dX6_table_19 : decode cX6_table 19 = .ok (.aload_n 0, 1) := by decide +kernel
theorem dX6_table_20 : decode cX6_table 20 = .ok (.getfield 24, 3) := by decide +kernel
theorem dX6_table_23 : decode cX6_table 23 = .ok (.aload_n 0, 1) := by decide +kernel
theorem dX6_table_24 : decode cX6_table 24 = .ok (.getfield 13, 3) := by decide +kernel
theorem dX6_table_27 : decode cX6_table 27 = .ok (.iload_n 1, 1) := by decide +kernel
theorem dX6_table_28 : decode cX6_table 28 = .ok (.aaload, 1) := by decide +kernel
theorem dX6_table_29 : decode cX6_table 29 = .ok (.iload_n 3, 1) := by decide +kernel
theorem dX6_table_30 : decode cX6_table 30 = .ok (.iload 4, 2) := by decide +kernel
theorem dX6_table_32 : decode cX6_table 32 = .ok (.invokevirtual 69, 3) := by decide +kernel
theorem dX6_table_35 : decode cX6_table 35 = .ok (.ifCond .ne 14, 3) := by decide +kernel
theorem dX6_table_38 : decode cX6_table 38 = .ok (.bipush (-100), 2) := by decide +kernel
theorem dX6_table_40 : decode cX6_table 40 = .ok (.aload_n 0, 1) := by decide +kernel
theorem dX6_table_41 : decode cX6_table 41 = .ok (.getfield 24, 3) := by decide +kernel
theorem dX6_table_44 : decode cX6_table 44 = .ok (.invokevirtual 73, 3) := by decide +kernel
theorem dX6_table_47 : decode cX6_table 47 = .ok (.isub, 1) := by decide +kernel
theorem dX6_table_48 : decode cX6_table 48 = .ok (.ireturn, 1) := by decide +kernel
theorem dX6_table_49 : decode cX6_table 49 = .ok (.aload_n 0, 1) := by decide +kernel
theorem dX6_table_50 : decode cX6_table 50 = .ok (.getfield 20, 3) := by decide +kernel
theorem dX6_table_53 : decode cX6_table 53 = .ok (.astore 6, 2) := by decide +kernel
theorem dX6_table_55 : decode cX6_table 55 = .ok (.aload_n 0, 1) := by decide +kernel
theorem dX6_table_56 : decode cX6_table 56 = .ok (.aload_n 0, 1) := by decide +kernel
theorem dX6_table_57 : decode cX6_table 57 = .ok (.getfield 24, 3) := by decide +kernel
theorem dX6_table_60 : decode cX6_table 60 = .ok (.putfield 20, 3) := by decide +kernel
theorem dX6_table_63 : decode cX6_table 63 = .ok (.aload_n 0, 1) := by decide +kernel
theorem dX6_table_64 : decode cX6_table 64 = .ok (.aload 6, 2) := by decide +kernel
theorem dX6_table_66 : decode cX6_table 66 = .ok (.putfield 24, 3) := by decide +kernel
theorem dX6_table_69 : decode cX6_table 69 = .ok (.aload_n 0, 1) := by decide +kernel
theorem dX6_table_70 : decode cX6_table 70 = .ok (.getfield 30, 3) := by decide +kernel
theorem dX6_table_73 : decode cX6_table 73 = .ok (.aload_n 0, 1) := by decide +kernel
theorem dX6_table_74 : decode cX6_table 74 = .ok (.getfield 20, 3) := by decide +kernel
theorem dX6_table_77 : decode cX6_table 77 = .ok (.invokevirtual 77, 3) := by decide +kernel
theorem dX6_table_80 : decode cX6_table 80 = .ok (.aload_n 0, 1) := by decide +kernel
theorem dX6_table_81 : decode cX6_table 81 = .ok (.iconst 0, 1) := by decide +kernel
theorem dX6_table_82 : decode cX6_table 82 = .ok (.putfield 81, 3) := by decide +kernel
theorem dX6_table_85 : decode cX6_table 85 = .ok (.aload_n 0, 1) := by decide +kernel
theorem dX6_table_86 : decode cX6_table 86 = .ok (.invokevirtual 85, 3) := by decide +kernel
theorem dX6_table_89 : decode cX6_table 89 = .ok (.aload_n 0, 1) := by decide +kernel
theorem dX6_table_90 : decode cX6_table 90 = .ok (.getfield 20, 3) := by decide +kernel
theorem dX6_table_93 : decode cX6_table 93 = .ok (.getfield 88, 3) := by decide +kernel
theorem dX6_table_96 : decode cX6_table 96 = .ok (.ireturn, 1) := by decide +kernel
theorem dX6_ofDish_0 : decode cX6_ofDish 0 = .ok (.aload_n 0, 1) := by decide +kernel
theorem dX6_ofDish_1 : decode cX6_ofDish 1 = .ok (.iload_n 1, 1) := by decide +kernel
theorem dX6_ofDish_2 : decode cX6_ofDish 2 = .ok (.invokevirtual 91, 3) := by decide +kernel
theorem dX6_ofDish_5 : decode cX6_ofDish 5 = .ok (.ifCond .ne 5, 3) := by decide +kernel
theorem dX6_ofDish_8 : decode cX6_ofDish 8 = .ok (.iconst (-1), 1) := by decide +kernel
theorem dX6_ofDish_9 : decode cX6_ofDish 9 = .ok (.ireturn, 1) := by decide +kernel
theorem dX6_ofDish_10 : decode cX6_ofDish 10 = .ok (.iload_n 2, 1) := by decide +kernel
theorem dX6_ofDish_11 : decode cX6_ofDish 11 = .ok (.lookupswitch 45 #[(0, 25), (1, 35)], 25) := by decide +kernel
theorem dX6_ofDish_36 : decode cX6_ofDish 36 = .ok (.aload_n 0, 1) := by decide +kernel
theorem dX6_ofDish_37 : decode cX6_ofDish 37 = .ok (.getfield 20, 3) := by decide +kernel
theorem dX6_ofDish_40 : decode cX6_ofDish 40 = .ok (.getfield 95, 3) := by decide +kernel
theorem dX6_ofDish_43 : decode cX6_ofDish 43 = .ok (.iload_n 1, 1) := by decide +kernel
theorem dX6_ofDish_44 : decode cX6_ofDish 44 = .ok (.iaload, 1) := by decide +kernel
theorem dX6_ofDish_45 : decode cX6_ofDish 45 = .ok (.ireturn, 1) := by decide +kernel
theorem dX6_ofDish_46 : decode cX6_ofDish 46 = .ok (.aload_n 0, 1) := by decide +kernel
theorem dX6_ofDish_47 : decode cX6_ofDish 47 = .ok (.getfield 20, 3) := by decide +kernel
theorem dX6_ofDish_50 : decode cX6_ofDish 50 = .ok (.getfield 99, 3) := by decide +kernel
theorem dX6_ofDish_53 : decode cX6_ofDish 53 = .ok (.iload_n 1, 1) := by decide +kernel
theorem dX6_ofDish_54 : decode cX6_ofDish 54 = .ok (.iaload, 1) := by decide +kernel
theorem dX6_ofDish_55 : decode cX6_ofDish 55 = .ok (.ireturn, 1) := by decide +kernel
theorem dX6_ofDish_56 : decode cX6_ofDish 56 = .ok (.bipush (-2), 2) := by decide +kernel
theorem dX6_ofDish_58 : decode cX6_ofDish 58 = .ok (.ireturn, 1) := by decide +kernel
theorem dX6_ofGuest_0 : decode cX6_ofGuest 0 = .ok (.aload_n 0, 1) := by decide +kernel
theorem dX6_ofGuest_1 : decode cX6_ofGuest 1 = .ok (.iload_n 1, 1) := by decide +kernel
theorem dX6_ofGuest_2 : decode cX6_ofGuest 2 = .ok (.invokevirtual 102, 3) := by decide +kernel
theorem dX6_ofGuest_5 : decode cX6_ofGuest 5 = .ok (.ifCond .ne 5, 3) := by decide +kernel
theorem dX6_ofGuest_8 : decode cX6_ofGuest 8 = .ok (.iconst (-1), 1) := by decide +kernel
theorem dX6_ofGuest_9 : decode cX6_ofGuest 9 = .ok (.ireturn, 1) := by decide +kernel
theorem dX6_ofGuest_10 : decode cX6_ofGuest 10 = .ok (.iload_n 2, 1) := by decide +kernel
theorem dX6_ofGuest_11 : decode cX6_ofGuest 11 = .ok (.tableswitch 82 0 4 #[33, 43, 53, 63, 72], 33) := by decide +kernel
theorem dX6_ofGuest_44 : decode cX6_ofGuest 44 = .ok (.aload_n 0, 1) := by decide +kernel
theorem dX6_ofGuest_45 : decode cX6_ofGuest 45 = .ok (.getfield 20, 3) := by decide +kernel
theorem dX6_ofGuest_48 : decode cX6_ofGuest 48 = .ok (.getfield 105, 3) := by decide +kernel
theorem dX6_ofGuest_51 : decode cX6_ofGuest 51 = .ok (.iload_n 1, 1) := by decide +kernel
theorem dX6_ofGuest_52 : decode cX6_ofGuest 52 = .ok (.iaload, 1) := by decide +kernel
theorem dX6_ofGuest_53 : decode cX6_ofGuest 53 = .ok (.ireturn, 1) := by decide +kernel
theorem dX6_ofGuest_54 : decode cX6_ofGuest 54 = .ok (.aload_n 0, 1) := by decide +kernel
theorem dX6_ofGuest_55 : decode cX6_ofGuest 55 = .ok (.getfield 20, 3) := by decide +kernel
theorem dX6_ofGuest_58 : decode cX6_ofGuest 58 = .ok (.getfield 108, 3) := by decide +kernel
theorem dX6_ofGuest_61 : decode cX6_ofGuest 61 = .ok (.iload_n 1, 1) := by decide +kernel
theorem dX6_ofGuest_62 : decode cX6_ofGuest 62 = .ok (.iaload, 1) := by decide +kernel
theorem dX6_ofGuest_63 : decode cX6_ofGuest 63 = .ok (.ireturn, 1) := by decide +kernel
theorem dX6_ofGuest_64 : decode cX6_ofGuest 64 = .ok (.aload_n 0, 1) := by decide +kernel
theorem dX6_ofGuest_65 : decode cX6_ofGuest 65 = .ok (.getfield 20, 3) := by decide +kernel
theorem dX6_ofGuest_68 : decode cX6_ofGuest 68 = .ok (.getfield 111, 3) := by decide +kernel
theorem dX6_ofGuest_71 : decode cX6_ofGuest 71 = .ok (.iload_n 1, 1) := by decide +kernel
theorem dX6_ofGuest_72 : decode cX6_ofGuest 72 = .ok (.iaload, 1) := by decide +kernel
theorem dX6_ofGuest_73 : decode cX6_ofGuest 73 = .ok (.ireturn, 1) := by decide +kernel
theorem dX6_ofGuest_74 : decode cX6_ofGuest 74 = .ok (.aload_n 0, 1) := by decide +kernel
theorem dX6_ofGuest_75 : decode cX6_ofGuest 75 = .ok (.getfield 30, 3) := by decide +kernel
theorem dX6_ofGuest_78 : decode cX6_ofGuest 78 = .ok (.iload_n 1, 1) := by decide +kernel
theorem dX6_ofGuest_79 : decode cX6_ofGuest 79 = .ok (.invokevirtual 114, 3) := by decide +kernel
theorem dX6_ofGuest_82 : decode cX6_ofGuest 82 = .ok (.ireturn, 1) := by decide +kernel
theorem dX6_ofGuest_83 : decode cX6_ofGuest 83 = .ok (.aload_n 0, 1) := by decide +kernel
theorem dX6_ofGuest_84 : decode cX6_ofGuest 84 = .ok (.getfield 30, 3) := by decide +kernel
theorem dX6_ofGuest_87 : decode cX6_ofGuest 87 = .ok (.getfield 118, 3) := by decide +kernel
theorem dX6_ofGuest_90 : decode cX6_ofGuest 90 = .ok (.iload_n 1, 1) := by decide +kernel
theorem dX6_ofGuest_91 : decode cX6_ofGuest 91 = .ok (.iaload, 1) := by decide +kernel
theorem dX6_ofGuest_92 : decode cX6_ofGuest 92 = .ok (.ireturn, 1) := by decide +kernel
theorem dX6_ofGuest_93 : decode cX6_ofGuest 93 = .ok (.bipush (-2), 2) := by decide +kernel
theorem dX6_ofGuest_95 : decode cX6_ofGuest 95 = .ok (.ireturn, 1) := by decide +kernel
theorem dX6_worth_0 : decode cX6_worth 0 = .ok (.aload_n 0, 1) := by decide +kernel
theorem dX6_worth_1 : decode cX6_worth 1 = .ok (.iload_n 1, 1) := by decide +kernel
theorem dX6_worth_2 : decode cX6_worth 2 = .ok (.invokevirtual 102, 3) := by decide +kernel
theorem dX6_worth_5 : decode cX6_worth 5 = .ok (.ifCond .eq 11, 3) := by decide +kernel
theorem dX6_worth_8 : decode cX6_worth 8 = .ok (.aload_n 0, 1) := by decide +kernel
theorem dX6_worth_9 : decode cX6_worth 9 = .ok (.iload_n 2, 1) := by decide +kernel
theorem dX6_worth_10 : decode cX6_worth 10 = .ok (.invokevirtual 91, 3) := by decide +kernel
theorem dX6_worth_13 : decode cX6_worth 13 = .ok (.ifCond .ne 6, 3) := by decide +kernel
theorem dX6_worth_16 : decode cX6_worth 16 = .ok (.bipush (-5), 2) := by decide +kernel
theorem dX6_worth_18 : decode cX6_worth 18 = .ok (.ireturn, 1) := by decide +kernel
theorem dX6_worth_19 : decode cX6_worth 19 = .ok (.iload_n 3, 1) := by decide +kernel
theorem dX6_worth_20 : decode cX6_worth 20 = .ok (.ifCond .eq 17, 3) := by decide +kernel
theorem dX6_worth_23 : decode cX6_worth 23 = .ok (.aload_n 0, 1) := by decide +kernel
theorem dX6_worth_24 : decode cX6_worth 24 = .ok (.getfield 30, 3) := by decide +kernel
theorem dX6_worth_27 : decode cX6_worth 27 = .ok (.getfield 121, 3) := by decide +kernel
theorem dX6_worth_30 : decode cX6_worth 30 = .ok (.iload_n 1, 1) := by decide +kernel
theorem dX6_worth_31 : decode cX6_worth 31 = .ok (.aaload, 1) := by decide +kernel
theorem dX6_worth_32 : decode cX6_worth 32 = .ok (.iload_n 2, 1) := by decide +kernel
theorem dX6_worth_33 : decode cX6_worth 33 = .ok (.iaload, 1) := by decide +kernel
theorem dX6_worth_34 : decode cX6_worth 34 = .ok (.goto 14, 3) := by decide +kernel
theorem dX6_worth_37 : decode cX6_worth 37 = .ok (.aload_n 0, 1) := by decide +kernel
theorem dX6_worth_38 : decode cX6_worth 38 = .ok (.getfield 20, 3) := by decide +kernel
theorem dX6_worth_41 : decode cX6_worth 41 = .ok (.getfield 125, 3) := by decide +kernel
theorem dX6_worth_44 : decode cX6_worth 44 = .ok (.iload_n 1, 1) := by decide +kernel
theorem dX6_worth_45 : decode cX6_worth 45 = .ok (.aaload, 1) := by decide +kernel
theorem dX6_worth_46 : decode cX6_worth 46 = .ok (.iload_n 2, 1) := by decide +kernel
theorem dX6_worth_47 : decode cX6_worth 47 = .ok (.iaload, 1) := by decide +kernel
theorem dX6_worth_48 : decode cX6_worth 48 = .ok (.ireturn, 1) := by decide +kernel
theorem dX6_say_0 : decode cX6_say 0 = .ok (.aload_n 0, 1) := by decide +kernel
theorem dX6_say_1 : decode cX6_say 1 = .ok (.iload_n 1, 1) := by decide +kernel
theorem dX6_say_2 : decode cX6_say 2 = .ok (.invokevirtual 102, 3) := by decide +kernel
theorem dX6_say_5 : decode cX6_say 5 = .ok (.ifCond .eq 11, 3) := by decide +kernel
theorem dX6_say_8 : decode cX6_say 8 = .ok (.aload_n 0, 1) := by decide +kernel
theorem dX6_say_9 : decode cX6_say 9 = .ok (.iload_n 2, 1) := by decide +kernel
theorem dX6_say_10 : decode cX6_say 10 = .ok (.invokevirtual 91, 3) := by decide +kernel
theorem dX6_say_13 : decode cX6_say 13 = .ok (.ifCond .ne 5, 3) := by decide +kernel
theorem dX6_say_16 : decode cX6_say 16 = .ok (.iconst (-1), 1) := by decide +kernel
theorem dX6_say_17 : decode cX6_say 17 = .ok (.ireturn, 1) := by decide +kernel
theorem dX6_say_18 : decode cX6_say 18 = .ok (.iload_n 3, 1) := by decide +kernel
theorem dX6_say_19 : decode cX6_say 19 = .ok (.ifCond .lt 9, 3) := by decide +kernel
theorem dX6_say_22 : decode cX6_say 22 = .ok (.iload_n 3, 1) := by decide +kernel
theorem dX6_say_23 : decode cX6_say 23 = .ok (.bipush 9, 2) := by decide +kernel
theorem dX6_say_25 : decode cX6_say 25 = .ok (.if_icmp .le 6, 3) := by decide +kernel
theorem dX6_say_28 : decode cX6_say 28 = .ok (.bipush (-2), 2) := by decide +kernel
theorem dX6_say_30 : decode cX6_say 30 = .ok (.ireturn, 1) := by decide +kernel
theorem dX6_say_31 : decode cX6_say 31 = .ok (.aload_n 0, 1) := by decide +kernel
theorem dX6_say_32 : decode cX6_say 32 = .ok (.getfield 20, 3) := by decide +kernel
theorem dX6_say_35 : decode cX6_say 35 = .ok (.iload_n 1, 1) := by decide +kernel
theorem dX6_say_36 : decode cX6_say 36 = .ok (.iload_n 2, 1) := by decide +kernel
theorem dX6_say_37 : decode cX6_say 37 = .ok (.invokevirtual 128, 3) := by decide +kernel
theorem dX6_say_40 : decode cX6_say 40 = .ok (.ifCond .ne 6, 3) := by decide +kernel
theorem dX6_say_43 : decode cX6_say 43 = .ok (.bipush (-3), 2) := by decide +kernel
theorem dX6_say_45 : decode cX6_say 45 = .ok (.ireturn, 1) := by decide +kernel
theorem dX6_say_46 : decode cX6_say 46 = .ok (.aload_n 0, 1) := by decide +kernel
theorem dX6_say_47 : decode cX6_say 47 = .ok (.getfield 30, 3) := by decide +kernel
theorem dX6_say_50 : decode cX6_say 50 = .ok (.getfield 121, 3) := by decide +kernel
theorem dX6_say_53 : decode cX6_say 53 = .ok (.iload_n 1, 1) := by decide +kernel
theorem dX6_say_54 : decode cX6_say 54 = .ok (.aaload, 1) := by decide +kernel
theorem dX6_say_55 : decode cX6_say 55 = .ok (.iload_n 2, 1) := by decide +kernel
theorem dX6_say_56 : decode cX6_say 56 = .ok (.iaload, 1) := by decide +kernel
theorem dX6_say_57 : decode cX6_say 57 = .ok (.istore 4, 2) := by decide +kernel
theorem dX6_say_59 : decode cX6_say 59 = .ok (.aload_n 0, 1) := by decide +kernel
theorem dX6_say_60 : decode cX6_say 60 = .ok (.getfield 30, 3) := by decide +kernel
theorem dX6_say_63 : decode cX6_say 63 = .ok (.getfield 121, 3) := by decide +kernel
theorem dX6_say_66 : decode cX6_say 66 = .ok (.iload_n 1, 1) := by decide +kernel
theorem dX6_say_67 : decode cX6_say 67 = .ok (.aaload, 1) := by decide +kernel
theorem dX6_say_68 : decode cX6_say 68 = .ok (.iload_n 2, 1) := by decide +kernel
theorem dX6_say_69 : decode cX6_say 69 = .ok (.iload_n 3, 1) := by decide +kernel
theorem dX6_say_70 : decode cX6_say 70 = .ok (.iastore, 1) := by decide +kernel
theorem dX6_say_71 : decode cX6_say 71 = .ok (.aload_n 0, 1) := by decide +kernel
theorem dX6_say_72 : decode cX6_say 72 = .ok (.invokevirtual 85, 3) := by decide +kernel
theorem dX6_say_75 : decode cX6_say 75 = .ok (.iload 4, 2) := by decide +kernel
theorem dX6_say_77 : decode cX6_say 77 = .ok (.ireturn, 1) := by decide +kernel
theorem dX6_swap_0 : decode cX6_swap 0 = .ok (.aload_n 0, 1) := by decide +kernel
theorem dX6_swap_1 : decode cX6_swap 1 = .ok (.iload_n 1, 1) := by decide +kernel
theorem dX6_swap_2 : decode cX6_swap 2 = .ok (.invokevirtual 102, 3) := by decide +kernel
theorem dX6_swap_5 : decode cX6_swap 5 = .ok (.ifCond .eq 11, 3) := by decide +kernel
theorem dX6_swap_8 : decode cX6_swap 8 = .ok (.aload_n 0, 1) := by decide +kernel
theorem dX6_swap_9 : decode cX6_swap 9 = .ok (.iload_n 2, 1) := by decide +kernel
theorem dX6_swap_10 : decode cX6_swap 10 = .ok (.invokevirtual 102, 3) := by decide +kernel
theorem dX6_swap_13 : decode cX6_swap 13 = .ok (.ifCond .ne 5, 3) := by decide +kernel
theorem dX6_swap_16 : decode cX6_swap 16 = .ok (.iconst (-1), 1) := by decide +kernel
theorem dX6_swap_17 : decode cX6_swap 17 = .ok (.ireturn, 1) := by decide +kernel
theorem dX6_swap_18 : decode cX6_swap 18 = .ok (.aload_n 0, 1) := by decide +kernel
theorem dX6_swap_19 : decode cX6_swap 19 = .ok (.getfield 30, 3) := by decide +kernel
theorem dX6_swap_22 : decode cX6_swap 22 = .ok (.iload_n 1, 1) := by decide +kernel
theorem dX6_swap_23 : decode cX6_swap 23 = .ok (.invokevirtual 114, 3) := by decide +kernel
theorem dX6_swap_26 : decode cX6_swap 26 = .ok (.istore_n 3, 1) := by decide +kernel
theorem dX6_swap_27 : decode cX6_swap 27 = .ok (.aload_n 0, 1) := by decide +kernel
theorem dX6_swap_28 : decode cX6_swap 28 = .ok (.getfield 30, 3) := by decide +kernel
theorem dX6_swap_31 : decode cX6_swap 31 = .ok (.iload_n 2, 1) := by decide +kernel
theorem dX6_swap_32 : decode cX6_swap 32 = .ok (.invokevirtual 114, 3) := by decide +kernel
theorem dX6_swap_35 : decode cX6_swap 35 = .ok (.istore 4, 2) := by decide +kernel
theorem dX6_swap_37 : decode cX6_swap 37 = .ok (.aload_n 0, 1) := by decide +kernel
theorem dX6_swap_38 : decode cX6_swap 38 = .ok (.getfield 30, 3) := by decide +kernel
theorem dX6_swap_41 : decode cX6_swap 41 = .ok (.getfield 132, 3) := by decide +kernel
theorem dX6_swap_44 : decode cX6_swap 44 = .ok (.iload_n 3, 1) := by decide +kernel
theorem dX6_swap_45 : decode cX6_swap 45 = .ok (.iload_n 2, 1) := by decide +kernel
theorem dX6_swap_46 : decode cX6_swap 46 = .ok (.iastore, 1) := by decide +kernel
theorem dX6_swap_47 : decode cX6_swap 47 = .ok (.aload_n 0, 1) := by decide +kernel
theorem dX6_swap_48 : decode cX6_swap 48 = .ok (.getfield 30, 3) := by decide +kernel
theorem dX6_swap_51 : decode cX6_swap 51 = .ok (.getfield 132, 3) := by decide +kernel
theorem dX6_swap_54 : decode cX6_swap 54 = .ok (.iload 4, 2) := by decide +kernel
theorem dX6_swap_56 : decode cX6_swap 56 = .ok (.iload_n 1, 1) := by decide +kernel
theorem dX6_swap_57 : decode cX6_swap 57 = .ok (.iastore, 1) := by decide +kernel
theorem dX6_swap_58 : decode cX6_swap 58 = .ok (.aload_n 0, 1) := by decide +kernel
theorem dX6_swap_59 : decode cX6_swap 59 = .ok (.invokevirtual 85, 3) := by decide +kernel
theorem dX6_swap_62 : decode cX6_swap 62 = .ok (.iconst 1, 1) := by decide +kernel
theorem dX6_swap_63 : decode cX6_swap 63 = .ok (.ireturn, 1) := by decide +kernel
theorem dX6_step_0 : decode cX6_step 0 = .ok (.iload_n 1, 1) := by decide +kernel
theorem dX6_step_1 : decode cX6_step 1 = .ok (.iconst 1, 1) := by decide +kernel
theorem dX6_step_2 : decode cX6_step 2 = .ok (.if_icmp .lt 16, 3) := by decide +kernel
theorem dX6_step_5 : decode cX6_step 5 = .ok (.iload_n 1, 1) := by decide +kernel
theorem dX6_step_6 : decode cX6_step 6 = .ok (.aload_n 0, 1) := by decide +kernel
theorem dX6_step_7 : decode cX6_step 7 = .ok (.getfield 20, 3) := by decide +kernel
theorem dX6_step_10 : decode cX6_step 10 = .ok (.getfield 88, 3) := by decide +kernel
theorem dX6_step_13 : decode cX6_step 13 = .ok (.iconst 1, 1) := by decide +kernel
theorem dX6_step_14 : decode cX6_step 14 = .ok (.isub, 1) := by decide +kernel
theorem dX6_step_15 : decode cX6_step 15 = .ok (.if_icmp .le 6, 3) := by decide +kernel
theorem dX6_step_18 : decode cX6_step 18 = .ok (.bipush (-2), 2) := by decide +kernel
theorem dX6_step_20 : decode cX6_step 20 = .ok (.ireturn, 1) := by decide +kernel
theorem dX6_step_21 : decode cX6_step 21 = .ok (.aload_n 0, 1) := by decide +kernel
theorem dX6_step_22 : decode cX6_step 22 = .ok (.getfield 30, 3) := by decide +kernel
theorem dX6_step_25 : decode cX6_step 25 = .ok (.getfield 135, 3) := by decide +kernel
theorem dX6_step_28 : decode cX6_step 28 = .ok (.istore_n 2, 1) := by decide +kernel
theorem dX6_step_29 : decode cX6_step 29 = .ok (.aload_n 0, 1) := by decide +kernel
theorem dX6_step_30 : decode cX6_step 30 = .ok (.getfield 30, 3) := by decide +kernel
theorem dX6_step_33 : decode cX6_step 33 = .ok (.iload_n 1, 1) := by decide +kernel
theorem dX6_step_34 : decode cX6_step 34 = .ok (.putfield 135, 3) := by decide +kernel
theorem dX6_step_37 : decode cX6_step 37 = .ok (.aload_n 0, 1) := by decide +kernel
theorem dX6_step_38 : decode cX6_step 38 = .ok (.invokevirtual 85, 3) := by decide +kernel
theorem dX6_step_41 : decode cX6_step 41 = .ok (.iload_n 2, 1) := by decide +kernel
theorem dX6_step_42 : decode cX6_step 42 = .ok (.ireturn, 1) := by decide +kernel
theorem dX6_courses_0 : decode cX6_courses 0 = .ok (.iload_n 1, 1) := by decide +kernel
theorem dX6_courses_1 : decode cX6_courses 1 = .ok (.iconst 1, 1) := by decide +kernel
theorem dX6_courses_2 : decode cX6_courses 2 = .ok (.if_icmp .lt 9, 3) := by decide +kernel
theorem dX6_courses_5 : decode cX6_courses 5 = .ok (.iload_n 1, 1) := by decide +kernel
theorem dX6_courses_6 : decode cX6_courses 6 = .ok (.bipush 8, 2) := by decide +kernel
theorem dX6_courses_8 : decode cX6_courses 8 = .ok (.if_icmp .le 6, 3) := by decide +kernel
theorem dX6_courses_11 : decode cX6_courses 11 = .ok (.bipush (-2), 2) := by decide +kernel
theorem dX6_courses_13 : decode cX6_courses 13 = .ok (.ireturn, 1) := by decide +kernel
theorem dX6_courses_14 : decode cX6_courses 14 = .ok (.aload_n 0, 1) := by decide +kernel
theorem dX6_courses_15 : decode cX6_courses 15 = .ok (.invokevirtual 138, 3) := by decide +kernel
theorem dX6_courses_18 : decode cX6_courses 18 = .ok (.ifCond .ne 6, 3) := by decide +kernel
theorem dX6_courses_21 : decode cX6_courses 21 = .ok (.bipush (-3), 2) := by decide +kernel
theorem dX6_courses_23 : decode cX6_courses 23 = .ok (.ireturn, 1) := by decide +kernel
theorem dX6_courses_24 : decode cX6_courses 24 = .ok (.aload_n 0, 1) := by decide +kernel
theorem dX6_courses_25 : decode cX6_courses 25 = .ok (.getfield 30, 3) := by decide +kernel
theorem dX6_courses_28 : decode cX6_courses 28 = .ok (.getfield 142, 3) := by decide +kernel
theorem dX6_courses_31 : decode cX6_courses 31 = .ok (.istore_n 2, 1) := by decide +kernel
theorem dX6_courses_32 : decode cX6_courses 32 = .ok (.aload_n 0, 1) := by decide +kernel
theorem dX6_courses_33 : decode cX6_courses 33 = .ok (.getfield 30, 3) := by decide +kernel
theorem dX6_courses_36 : decode cX6_courses 36 = .ok (.iload_n 1, 1) := by decide +kernel
theorem dX6_courses_37 : decode cX6_courses 37 = .ok (.putfield 142, 3) := by decide +kernel
theorem dX6_courses_40 : decode cX6_courses 40 = .ok (.aload_n 0, 1) := by decide +kernel
theorem dX6_courses_41 : decode cX6_courses 41 = .ok (.invokevirtual 85, 3) := by decide +kernel
theorem dX6_courses_44 : decode cX6_courses 44 = .ok (.iload_n 2, 1) := by decide +kernel
theorem dX6_courses_45 : decode cX6_courses 45 = .ok (.ireturn, 1) := by decide +kernel
theorem dX6_dine_0 : decode cX6_dine 0 = .ok (.aload_n 0, 1) := by decide +kernel
theorem dX6_dine_1 : decode cX6_dine 1 = .ok (.invokevirtual 138, 3) := by decide +kernel
theorem dX6_dine_4 : decode cX6_dine 4 = .ok (.ifCond .ne 6, 3) := by decide +kernel
theorem dX6_dine_7 : decode cX6_dine 7 = .ok (.bipush (-3), 2) := by decide +kernel
theorem dX6_dine_9 : decode cX6_dine 9 = .ok (.ireturn, 1) := by decide +kernel
theorem dX6_dine_10 : decode cX6_dine 10 = .ok (.aload_n 0, 1) := by decide +kernel
theorem dX6_dine_11 : decode cX6_dine 11 = .ok (.getfield 30, 3) := by decide +kernel
theorem dX6_dine_14 : decode cX6_dine 14 = .ok (.invokevirtual 145, 3) := by decide +kernel
theorem dX6_dine_17 : decode cX6_dine 17 = .ok (.aload_n 0, 1) := by decide +kernel
theorem dX6_dine_18 : decode cX6_dine 18 = .ok (.dup, 1) := by decide +kernel
theorem dX6_dine_19 : decode cX6_dine 19 = .ok (.getfield 81, 3) := by decide +kernel
theorem dX6_dine_22 : decode cX6_dine 22 = .ok (.iconst 1, 1) := by decide +kernel
theorem dX6_dine_23 : decode cX6_dine 23 = .ok (.iadd, 1) := by decide +kernel
theorem dX6_dine_24 : decode cX6_dine 24 = .ok (.putfield 81, 3) := by decide +kernel
theorem dX6_dine_27 : decode cX6_dine 27 = .ok (.aload_n 0, 1) := by decide +kernel
theorem dX6_dine_28 : decode cX6_dine 28 = .ok (.getfield 30, 3) := by decide +kernel
theorem dX6_dine_31 : decode cX6_dine 31 = .ok (.invokevirtual 148, 3) := by decide +kernel
theorem dX6_dine_34 : decode cX6_dine 34 = .ok (.ireturn, 1) := by decide +kernel
theorem dX6_forget_0 : decode cX6_forget 0 = .ok (.iconst 0, 1) := by decide +kernel
theorem dX6_forget_1 : decode cX6_forget 1 = .ok (.istore_n 1, 1) := by decide +kernel
theorem dX6_forget_2 : decode cX6_forget 2 = .ok (.iconst 0, 1) := by decide +kernel
theorem dX6_forget_3 : decode cX6_forget 3 = .ok (.istore_n 2, 1) := by decide +kernel
theorem dX6_forget_4 : decode cX6_forget 4 = .ok (.iload_n 2, 1) := by decide +kernel
theorem dX6_forget_5 : decode cX6_forget 5 = .ok (.aload_n 0, 1) := by decide +kernel
theorem dX6_forget_6 : decode cX6_forget 6 = .ok (.getfield 20, 3) := by decide +kernel
theorem dX6_forget_9 : decode cX6_forget 9 = .ok (.getfield 88, 3) := by decide +kernel
theorem dX6_forget_12 : decode cX6_forget 12 = .ok (.if_icmp .ge 26, 3) := by decide +kernel
theorem dX6_forget_15 : decode cX6_forget 15 = .ok (.aload_n 0, 1) := by decide +kernel
theorem dX6_forget_16 : decode cX6_forget 16 = .ok (.getfield 30, 3) := by decide +kernel
theorem dX6_forget_19 : decode cX6_forget 19 = .ok (.getfield 118, 3) := by decide +kernel
theorem dX6_forget_22 : decode cX6_forget 22 = .ok (.iload_n 2, 1) := by decide +kernel
theorem dX6_forget_23 : decode cX6_forget 23 = .ok (.iaload, 1) := by decide +kernel
theorem dX6_forget_24 : decode cX6_forget 24 = .ok (.bipush (-8), 2) := by decide +kernel
theorem dX6_forget_26 : decode cX6_forget 26 = .ok (.if_icmp .eq 6, 3) := by decide +kernel
theorem dX6_forget_29 : decode cX6_forget 29 = .ok (.iinc 1 1, 3) := by decide +kernel
theorem dX6_forget_32 : decode cX6_forget 32 = .ok (.iinc 2 1, 3) := by decide +kernel
theorem dX6_forget_35 : decode cX6_forget 35 = .ok (.goto (-31), 3) := by decide +kernel
theorem dX6_forget_38 : decode cX6_forget 38 = .ok (.aload_n 0, 1) := by decide +kernel
theorem dX6_forget_39 : decode cX6_forget 39 = .ok (.getfield 30, 3) := by decide +kernel
theorem dX6_forget_42 : decode cX6_forget 42 = .ok (.invokevirtual 151, 3) := by decide +kernel
theorem dX6_forget_45 : decode cX6_forget 45 = .ok (.iload_n 1, 1) := by decide +kernel
theorem dX6_forget_46 : decode cX6_forget 46 = .ok (.ireturn, 1) := by decide +kernel
theorem dX6_gets_0 : decode cX6_gets 0 = .ok (.aload_n 0, 1) := by decide +kernel
theorem dX6_gets_1 : decode cX6_gets 1 = .ok (.iload_n 1, 1) := by decide +kernel
theorem dX6_gets_2 : decode cX6_gets 2 = .ok (.invokevirtual 102, 3) := by decide +kernel
theorem dX6_gets_5 : decode cX6_gets 5 = .ok (.ifCond .eq 18, 3) := by decide +kernel
theorem dX6_gets_8 : decode cX6_gets 8 = .ok (.iload_n 2, 1) := by decide +kernel
theorem dX6_gets_9 : decode cX6_gets 9 = .ok (.ifCond .lt 14, 3) := by decide +kernel
theorem dX6_gets_12 : decode cX6_gets 12 = .ok (.iload_n 2, 1) := by decide +kernel
theorem dX6_gets_13 : decode cX6_gets 13 = .ok (.aload_n 0, 1) := by decide +kernel
theorem dX6_gets_14 : decode cX6_gets 14 = .ok (.getfield 30, 3) := by decide +kernel
theorem dX6_gets_17 : decode cX6_gets 17 = .ok (.getfield 142, 3) := by decide +kernel
theorem dX6_gets_20 : decode cX6_gets 20 = .ok (.if_icmp .lt 5, 3) := by decide +kernel
theorem dX6_gets_23 : decode cX6_gets 23 = .ok (.iconst (-1), 1) := by decide +kernel
theorem dX6_gets_24 : decode cX6_gets 24 = .ok (.ireturn, 1) := by decide +kernel
theorem dX6_gets_25 : decode cX6_gets 25 = .ok (.aload_n 0, 1) := by decide +kernel
theorem dX6_gets_26 : decode cX6_gets 26 = .ok (.invokevirtual 154, 3) := by decide +kernel
theorem dX6_gets_29 : decode cX6_gets 29 = .ok (.aload_n 0, 1) := by decide +kernel
theorem dX6_gets_30 : decode cX6_gets 30 = .ok (.getfield 34, 3) := by decide +kernel
theorem dX6_gets_33 : decode cX6_gets 33 = .ok (.getfield 157, 3) := by decide +kernel
theorem dX6_gets_36 : decode cX6_gets 36 = .ok (.iload_n 2, 1) := by decide +kernel
theorem dX6_gets_37 : decode cX6_gets 37 = .ok (.aaload, 1) := by decide +kernel
theorem dX6_gets_38 : decode cX6_gets 38 = .ok (.iload_n 1, 1) := by decide +kernel
theorem dX6_gets_39 : decode cX6_gets 39 = .ok (.iaload, 1) := by decide +kernel
theorem dX6_gets_40 : decode cX6_gets 40 = .ok (.ireturn, 1) := by decide +kernel
theorem dX6_glad_0 : decode cX6_glad 0 = .ok (.aload_n 0, 1) := by decide +kernel
theorem dX6_glad_1 : decode cX6_glad 1 = .ok (.iload_n 1, 1) := by decide +kernel
theorem dX6_glad_2 : decode cX6_glad 2 = .ok (.invokevirtual 102, 3) := by decide +kernel
theorem dX6_glad_5 : decode cX6_glad 5 = .ok (.ifCond .ne 5, 3) := by decide +kernel
theorem dX6_glad_8 : decode cX6_glad 8 = .ok (.iconst (-1), 1) := by decide +kernel
theorem dX6_glad_9 : decode cX6_glad 9 = .ok (.ireturn, 1) := by decide +kernel
theorem dX6_glad_10 : decode cX6_glad 10 = .ok (.aload_n 0, 1) := by decide +kernel
theorem dX6_glad_11 : decode cX6_glad 11 = .ok (.invokevirtual 154, 3) := by decide +kernel
theorem dX6_glad_14 : decode cX6_glad 14 = .ok (.aload_n 0, 1) := by decide +kernel
theorem dX6_glad_15 : decode cX6_glad 15 = .ok (.getfield 34, 3) := by decide +kernel
theorem dX6_glad_18 : decode cX6_glad 18 = .ok (.getfield 160, 3) := by decide +kernel
theorem dX6_glad_21 : decode cX6_glad 21 = .ok (.iload_n 1, 1) := by decide +kernel
theorem dX6_glad_22 : decode cX6_glad 22 = .ok (.iaload, 1) := by decide +kernel
theorem dX6_glad_23 : decode cX6_glad 23 = .ok (.ireturn, 1) := by decide +kernel
theorem dX6_pays_0 : decode cX6_pays 0 = .ok (.aload_n 0, 1) := by decide +kernel
theorem dX6_pays_1 : decode cX6_pays 1 = .ok (.iload_n 1, 1) := by decide +kernel
theorem dX6_pays_2 : decode cX6_pays 2 = .ok (.invokevirtual 102, 3) := by decide +kernel
theorem dX6_pays_5 : decode cX6_pays 5 = .ok (.ifCond .eq 10, 3) := by decide +kernel
theorem dX6_pays_8 : decode cX6_pays 8 = .ok (.iload_n 3, 1) := by decide +kernel
theorem dX6_pays_9 : decode cX6_pays 9 = .ok (.invokestatic 163, 3) := by decide +kernel
theorem dX6_pays_12 : decode cX6_pays 12 = .ok (.ifCond .ne 7, 3) := by decide +kernel
theorem dX6_pays_15 : decode cX6_pays 15 = .ok (.ldc2_w 166, 3) := by decide +kernel
theorem dX6_pays_18 : decode cX6_pays 18 = .ok (.lreturn, 1) := by decide +kernel
theorem dX6_pays_19 : decode cX6_pays 19 = .ok (.aload_n 0, 1) := by decide +kernel
theorem dX6_pays_20 : decode cX6_pays 20 = .ok (.invokevirtual 154, 3) := by decide +kernel
theorem dX6_pays_23 : decode cX6_pays 23 = .ok (.iload_n 2, 1) := by decide +kernel
theorem dX6_pays_24 : decode cX6_pays 24 = .ok (.ifCond .eq 24, 3) := by decide +kernel
theorem dX6_pays_27 : decode cX6_pays 27 = .ok (.aload_n 0, 1) := by decide +kernel
theorem dX6_pays_28 : decode cX6_pays 28 = .ok (.getfield 34, 3) := by decide +kernel
theorem dX6_pays_31 : decode cX6_pays 31 = .ok (.invokevirtual 168, 3) := by decide +kernel
theorem dX6_pays_34 : decode cX6_pays 34 = .ok (.aload_n 0, 1) := by decide +kernel
theorem dX6_pays_35 : decode cX6_pays 35 = .ok (.getfield 20, 3) := by decide +kernel
theorem dX6_pays_38 : decode cX6_pays 38 = .ok (.getfield 88, 3) := by decide +kernel
theorem dX6_pays_41 : decode cX6_pays 41 = .ok (.iload_n 3, 1) := by decide +kernel
theorem dX6_pays_42 : decode cX6_pays 42 = .ok (.invokestatic 171, 3) := by decide +kernel
theorem dX6_pays_45 : decode cX6_pays 45 = .ok (.goto 17, 3) := by decide +kernel
theorem dX6_pays_48 : decode cX6_pays 48 = .ok (.aload_n 0, 1) := by decide +kernel
theorem dX6_pays_49 : decode cX6_pays 49 = .ok (.getfield 34, 3) := by decide +kernel
theorem dX6_pays_52 : decode cX6_pays 52 = .ok (.getfield 175, 3) := by decide +kernel
theorem dX6_pays_55 : decode cX6_pays 55 = .ok (.iload_n 1, 1) := by decide +kernel
theorem dX6_pays_56 : decode cX6_pays 56 = .ok (.iaload, 1) := by decide +kernel
theorem dX6_pays_57 : decode cX6_pays 57 = .ok (.iconst 1, 1) := by decide +kernel
theorem dX6_pays_58 : decode cX6_pays 58 = .ok (.iload_n 3, 1) := by decide +kernel
theorem dX6_pays_59 : decode cX6_pays 59 = .ok (.invokestatic 171, 3) := by decide +kernel
theorem dX6_pays_62 : decode cX6_pays 62 = .ok (.lreturn, 1) := by decide +kernel
theorem dX6_judge_0 : decode cX6_judge 0 = .ok (.aload_n 0, 1) := by decide +kernel
theorem dX6_judge_1 : decode cX6_judge 1 = .ok (.iload_n 1, 1) := by decide +kernel
theorem dX6_judge_2 : decode cX6_judge 2 = .ok (.iload_n 2, 1) := by decide +kernel
theorem dX6_judge_3 : decode cX6_judge 3 = .ok (.iload_n 3, 1) := by decide +kernel
theorem dX6_judge_4 : decode cX6_judge 4 = .ok (.iload 4, 2) := by decide +kernel
theorem dX6_judge_6 : decode cX6_judge 6 = .ok (.invokevirtual 65, 3) := by decide +kernel
theorem dX6_judge_9 : decode cX6_judge 9 = .ok (.istore 5, 2) := by decide +kernel
theorem dX6_judge_11 : decode cX6_judge 11 = .ok (.iload 5, 2) := by decide +kernel
theorem dX6_judge_13 : decode cX6_judge 13 = .ok (.ifCond .eq 6, 3) := by decide +kernel
theorem dX6_judge_16 : decode cX6_judge 16 = .ok (.iload 5, 2) := by decide +kernel
theorem dX6_judge_18 : decode cX6_judge 18 = .ok (.ireturn, 1) := by decide +kernel
theorem dX6_judge_19 : decode cX6_judge 19 = .ok (.aload_n 0, 1) := by decide +kernel
theorem dX6_judge_20 : decode cX6_judge 20 = .ok (.invokevirtual 138, 3) := by decide +kernel
theorem dX6_judge_23 : decode cX6_judge 23 = .ok (.ifCond .ne 6, 3) := by decide +kernel
theorem dX6_judge_26 : decode cX6_judge 26 = .ok (.bipush (-3), 2) := by decide +kernel
theorem dX6_judge_28 : decode cX6_judge 28 = .ok (.ireturn, 1) := by decide +kernel
theorem dX6_judge_29 : decode cX6_judge 29 = .ok (.iload 4, 2) := by decide +kernel
theorem dX6_judge_31 : decode cX6_judge 31 = .ok (.aload_n 0, 1) := by decide +kernel
theorem dX6_judge_32 : decode cX6_judge 32 = .ok (.getfield 30, 3) := by decide +kernel
theorem dX6_judge_35 : decode cX6_judge 35 = .ok (.getfield 142, 3) := by decide +kernel
theorem dX6_judge_38 : decode cX6_judge 38 = .ok (.aload_n 0, 1) := by decide +kernel
theorem dX6_judge_39 : decode cX6_judge 39 = .ok (.getfield 20, 3) := by decide +kernel
theorem dX6_judge_42 : decode cX6_judge 42 = .ok (.getfield 88, 3) := by decide +kernel
theorem dX6_judge_45 : decode cX6_judge 45 = .ok (.imul, 1) := by decide +kernel
theorem dX6_judge_46 : decode cX6_judge 46 = .ok (.if_icmp .le 6, 3) := by decide +kernel
theorem dX6_judge_49 : decode cX6_judge 49 = .ok (.bipush (-2), 2) := by decide +kernel
theorem dX6_judge_51 : decode cX6_judge 51 = .ok (.ireturn, 1) := by decide +kernel
theorem dX6_judge_52 : decode cX6_judge 52 = .ok (.aload_n 0, 1) := by decide +kernel
theorem dX6_judge_53 : decode cX6_judge 53 = .ok (.getfield 13, 3) := by decide +kernel
theorem dX6_judge_56 : decode cX6_judge 56 = .ok (.iload_n 1, 1) := by decide +kernel
theorem dX6_judge_57 : decode cX6_judge 57 = .ok (.aaload, 1) := by decide +kernel
theorem dX6_judge_58 : decode cX6_judge 58 = .ok (.getfield 178, 3) := by decide +kernel
theorem dX6_judge_61 : decode cX6_judge 61 = .ok (.astore 6, 2) := by decide +kernel
theorem dX6_judge_63 : decode cX6_judge 63 = .ok (.iload_n 3, 1) := by decide +kernel
theorem dX6_judge_64 : decode cX6_judge 64 = .ok (.istore 7, 2) := by decide +kernel
theorem dX6_judge_66 : decode cX6_judge 66 = .ok (.iload 7, 2) := by decide +kernel
theorem dX6_judge_68 : decode cX6_judge 68 = .ok (.iload_n 3, 1) := by decide +kernel
theorem dX6_judge_69 : decode cX6_judge 69 = .ok (.iload 4, 2) := by decide +kernel
theorem dX6_judge_71 : decode cX6_judge 71 = .ok (.iadd, 1) := by decide +kernel
theorem dX6_judge_72 : decode cX6_judge 72 = .ok (.if_icmp .ge 33, 3) := by decide +kernel
theorem dX6_judge_75 : decode cX6_judge 75 = .ok (.aload 6, 2) := by decide +kernel
theorem dX6_judge_77 : decode cX6_judge 77 = .ok (.iload 7, 2) := by decide +kernel
theorem dX6_judge_79 : decode cX6_judge 79 = .ok (.iaload, 1) := by decide +kernel
theorem dX6_judge_80 : decode cX6_judge 80 = .ok (.bipush (-9), 2) := by decide +kernel
theorem dX6_judge_82 : decode cX6_judge 82 = .ok (.if_icmp .eq 17, 3) := by decide +kernel
theorem dX6_judge_85 : decode cX6_judge 85 = .ok (.aload_n 0, 1) := by decide +kernel
theorem dX6_judge_86 : decode cX6_judge 86 = .ok (.aload 6, 2) := by decide +kernel
theorem dX6_judge_88 : decode cX6_judge 88 = .ok (.iload 7, 2) := by decide +kernel
theorem dX6_judge_90 : decode cX6_judge 90 = .ok (.iaload, 1) := by decide +kernel
theorem dX6_judge_91 : decode cX6_judge 91 = .ok (.invokevirtual 91, 3) := by decide +kernel
theorem dX6_judge_94 : decode cX6_judge 94 = .ok (.ifCond .ne 5, 3) := by decide +kernel
theorem dX6_judge_97 : decode cX6_judge 97 = .ok (.iconst (-1), 1) := by decide +kernel
theorem dX6_judge_98 : decode cX6_judge 98 = .ok (.ireturn, 1) := by decide +kernel
theorem dX6_judge_99 : decode cX6_judge 99 = .ok (.iinc 7 1, 3) := by decide +kernel
theorem dX6_judge_102 : decode cX6_judge 102 = .ok (.goto (-36), 3) := by decide +kernel
theorem dX6_judge_105 : decode cX6_judge 105 = .ok (.aload_n 0, 1) := by decide +kernel
theorem dX6_judge_106 : decode cX6_judge 106 = .ok (.aload 6, 2) := by decide +kernel
theorem dX6_judge_108 : decode cX6_judge 108 = .ok (.iload_n 3, 1) := by decide +kernel
theorem dX6_judge_109 : decode cX6_judge 109 = .ok (.iload 4, 2) := by decide +kernel
theorem dX6_judge_111 : decode cX6_judge 111 = .ok (.invokevirtual 181, 3) := by decide +kernel
theorem dX6_judge_114 : decode cX6_judge 114 = .ok (.ireturn, 1) := by decide +kernel
theorem dX6_best_0 : decode cX6_best 0 = .ok (.iload_n 1, 1) := by decide +kernel
theorem dX6_best_1 : decode cX6_best 1 = .ok (.iconst (-1), 1) := by decide +kernel
theorem dX6_best_2 : decode cX6_best 2 = .ok (.if_icmp .lt 14, 3) := by decide +kernel
theorem dX6_best_5 : decode cX6_best 5 = .ok (.iload_n 1, 1) := by decide +kernel
theorem dX6_best_6 : decode cX6_best 6 = .ok (.aload_n 0, 1) := by decide +kernel
theorem dX6_best_7 : decode cX6_best 7 = .ok (.getfield 20, 3) := by decide +kernel
theorem dX6_best_10 : decode cX6_best 10 = .ok (.getfield 88, 3) := by decide +kernel
theorem dX6_best_13 : decode cX6_best 13 = .ok (.if_icmp .lt 5, 3) := by decide +kernel
theorem dX6_best_16 : decode cX6_best 16 = .ok (.iconst (-1), 1) := by decide +kernel
theorem dX6_best_17 : decode cX6_best 17 = .ok (.ireturn, 1) := by decide +kernel
theorem dX6_best_18 : decode cX6_best 18 = .ok (.aload_n 0, 1) := by decide +kernel
theorem dX6_best_19 : decode cX6_best 19 = .ok (.invokevirtual 138, 3) := by decide +kernel
theorem dX6_best_22 : decode cX6_best 22 = .ok (.ifCond .ne 6, 3) := by decide +kernel
theorem dX6_best_25 : decode cX6_best 25 = .ok (.bipush (-3), 2) := by decide +kernel
theorem dX6_best_27 : decode cX6_best 27 = .ok (.ireturn, 1) := by decide +kernel
theorem dX6_best_28 : decode cX6_best 28 = .ok (.aload_n 0, 1) := by decide +kernel
theorem dX6_best_29 : decode cX6_best 29 = .ok (.getfield 53, 3) := by decide +kernel
theorem dX6_best_32 : decode cX6_best 32 = .ok (.getfield 185, 3) := by decide +kernel
theorem dX6_best_35 : decode cX6_best 35 = .ok (.ifCond .ne 14, 3) := by decide +kernel
theorem dX6_best_38 : decode cX6_best 38 = .ok (.aload_n 0, 1) := by decide +kernel
theorem dX6_best_39 : decode cX6_best 39 = .ok (.getfield 53, 3) := by decide +kernel
theorem dX6_best_42 : decode cX6_best 42 = .ok (.aload_n 0, 1) := by decide +kernel
theorem dX6_best_43 : decode cX6_best 43 = .ok (.getfield 30, 3) := by decide +kernel
theorem dX6_best_46 : decode cX6_best 46 = .ok (.invokevirtual 189, 3) := by decide +kernel
theorem dX6_best_49 : decode cX6_best 49 = .ok (.iload_n 1, 1) := by decide +kernel
theorem dX6_best_50 : decode cX6_best 50 = .ok (.iconst (-1), 1) := by decide +kernel
theorem dX6_best_51 : decode cX6_best 51 = .ok (.if_icmp .ne 13, 3) := by decide +kernel
theorem dX6_best_54 : decode cX6_best 54 = .ok (.aload_n 0, 1) := by decide +kernel
theorem dX6_best_55 : decode cX6_best 55 = .ok (.getfield 53, 3) := by decide +kernel
theorem dX6_best_58 : decode cX6_best 58 = .ok (.invokevirtual 193, 3) := by decide +kernel
theorem dX6_best_61 : decode cX6_best 61 = .ok (.goto 11, 3) := by decide +kernel
theorem dX6_best_64 : decode cX6_best 64 = .ok (.aload_n 0, 1) := by decide +kernel
theorem dX6_best_65 : decode cX6_best 65 = .ok (.getfield 53, 3) := by decide +kernel
theorem dX6_best_68 : decode cX6_best 68 = .ok (.iload_n 1, 1) := by decide +kernel
theorem dX6_best_69 : decode cX6_best 69 = .ok (.invokevirtual 194, 3) := by decide +kernel
theorem dX6_best_72 : decode cX6_best 72 = .ok (.ireturn, 1) := by decide +kernel
theorem dX6_seats_0 : decode cX6_seats 0 = .ok (.iload_n 1, 1) := by decide +kernel
theorem dX6_seats_1 : decode cX6_seats 1 = .ok (.ifCond .lt 8, 3) := by decide +kernel
theorem dX6_seats_4 : decode cX6_seats 4 = .ok (.iload_n 1, 1) := by decide +kernel
theorem dX6_seats_5 : decode cX6_seats 5 = .ok (.iconst 2, 1) := by decide +kernel
theorem dX6_seats_6 : decode cX6_seats 6 = .ok (.if_icmp .lt 6, 3) := by decide +kernel
theorem dX6_seats_9 : decode cX6_seats 9 = .ok (.bipush (-2), 2) := by decide +kernel
theorem dX6_seats_11 : decode cX6_seats 11 = .ok (.ireturn, 1) := by decide +kernel
theorem dX6_seats_12 : decode cX6_seats 12 = .ok (.iload_n 2, 1) := by decide +kernel
theorem dX6_seats_13 : decode cX6_seats 13 = .ok (.iconst (-1), 1) := by decide +kernel
theorem dX6_seats_14 : decode cX6_seats 14 = .ok (.if_icmp .lt 14, 3) := by decide +kernel
theorem dX6_seats_17 : decode cX6_seats 17 = .ok (.iload_n 2, 1) := by decide +kernel
theorem dX6_seats_18 : decode cX6_seats 18 = .ok (.aload_n 0, 1) := by decide +kernel
theorem dX6_seats_19 : decode cX6_seats 19 = .ok (.getfield 20, 3) := by decide +kernel
theorem dX6_seats_22 : decode cX6_seats 22 = .ok (.getfield 88, 3) := by decide +kernel
theorem dX6_seats_25 : decode cX6_seats 25 = .ok (.if_icmp .lt 5, 3) := by decide +kernel
theorem dX6_seats_28 : decode cX6_seats 28 = .ok (.iconst (-1), 1) := by decide +kernel
theorem dX6_seats_29 : decode cX6_seats 29 = .ok (.ireturn, 1) := by decide +kernel
theorem dX6_seats_30 : decode cX6_seats 30 = .ok (.aload_n 0, 1) := by decide +kernel
theorem dX6_seats_31 : decode cX6_seats 31 = .ok (.invokevirtual 138, 3) := by decide +kernel
theorem dX6_seats_34 : decode cX6_seats 34 = .ok (.ifCond .ne 6, 3) := by decide +kernel
theorem dX6_seats_37 : decode cX6_seats 37 = .ok (.bipush (-3), 2) := by decide +kernel
theorem dX6_seats_39 : decode cX6_seats 39 = .ok (.ireturn, 1) := by decide +kernel
theorem dX6_seats_40 : decode cX6_seats 40 = .ok (.aload_n 0, 1) := by decide +kernel
theorem dX6_seats_41 : decode cX6_seats 41 = .ok (.getfield 60, 3) := by decide +kernel
theorem dX6_seats_44 : decode cX6_seats 44 = .ok (.getfield 197, 3) := by decide +kernel
theorem dX6_seats_47 : decode cX6_seats 47 = .ok (.ifCond .ne 25, 3) := by decide +kernel
theorem dX6_seats_50 : decode cX6_seats 50 = .ok (.aload_n 0, 1) := by decide +kernel
theorem dX6_seats_51 : decode cX6_seats 51 = .ok (.getfield 34, 3) := by decide +kernel
theorem dX6_seats_54 : decode cX6_seats 54 = .ok (.aload_n 0, 1) := by decide +kernel
theorem dX6_seats_55 : decode cX6_seats 55 = .ok (.getfield 30, 3) := by decide +kernel
theorem dX6_seats_58 : decode cX6_seats 58 = .ok (.invokevirtual 198, 3) := by decide +kernel
theorem dX6_seats_61 : decode cX6_seats 61 = .ok (.aload_n 0, 1) := by decide +kernel
theorem dX6_seats_62 : decode cX6_seats 62 = .ok (.getfield 60, 3) := by decide +kernel
theorem dX6_seats_65 : decode cX6_seats 65 = .ok (.aload_n 0, 1) := by decide +kernel
theorem dX6_seats_66 : decode cX6_seats 66 = .ok (.getfield 34, 3) := by decide +kernel
theorem dX6_seats_69 : decode cX6_seats 69 = .ok (.invokevirtual 201, 3) := by decide +kernel
theorem dX6_seats_72 : decode cX6_seats 72 = .ok (.iload_n 2, 1) := by decide +kernel
theorem dX6_seats_73 : decode cX6_seats 73 = .ok (.iconst (-1), 1) := by decide +kernel
theorem dX6_seats_74 : decode cX6_seats 74 = .ok (.if_icmp .ne 15, 3) := by decide +kernel
theorem dX6_seats_77 : decode cX6_seats 77 = .ok (.aload_n 0, 1) := by decide +kernel
theorem dX6_seats_78 : decode cX6_seats 78 = .ok (.getfield 60, 3) := by decide +kernel
theorem dX6_seats_81 : decode cX6_seats 81 = .ok (.getfield 202, 3) := by decide +kernel
theorem dX6_seats_84 : decode cX6_seats 84 = .ok (.iload_n 1, 1) := by decide +kernel
theorem dX6_seats_85 : decode cX6_seats 85 = .ok (.iaload, 1) := by decide +kernel
theorem dX6_seats_86 : decode cX6_seats 86 = .ok (.goto 14, 3) := by decide +kernel
theorem dX6_seats_89 : decode cX6_seats 89 = .ok (.aload_n 0, 1) := by decide +kernel
theorem dX6_seats_90 : decode cX6_seats 90 = .ok (.getfield 60, 3) := by decide +kernel
theorem dX6_seats_93 : decode cX6_seats 93 = .ok (.getfield 205, 3) := by decide +kernel
theorem dX6_seats_96 : decode cX6_seats 96 = .ok (.iload_n 1, 1) := by decide +kernel
theorem dX6_seats_97 : decode cX6_seats 97 = .ok (.aaload, 1) := by decide +kernel
theorem dX6_seats_98 : decode cX6_seats 98 = .ok (.iload_n 2, 1) := by decide +kernel
theorem dX6_seats_99 : decode cX6_seats 99 = .ok (.iaload, 1) := by decide +kernel
theorem dX6_seats_100 : decode cX6_seats 100 = .ok (.ireturn, 1) := by decide +kernel
theorem dX6_ever_0 : decode cX6_ever 0 = .ok (.iload_n 1, 1) := by decide +kernel
theorem dX6_ever_1 : decode cX6_ever 1 = .ok (.invokestatic 163, 3) := by decide +kernel
theorem dX6_ever_4 : decode cX6_ever 4 = .ok (.ifCond .ne 6, 3) := by decide +kernel
theorem dX6_ever_7 : decode cX6_ever 7 = .ok (.bipush (-2), 2) := by decide +kernel
theorem dX6_ever_9 : decode cX6_ever 9 = .ok (.ireturn, 1) := by decide +kernel
theorem dX6_ever_10 : decode cX6_ever 10 = .ok (.aload_n 0, 1) := by decide +kernel
theorem dX6_ever_11 : decode cX6_ever 11 = .ok (.invokevirtual 138, 3) := by decide +kernel
theorem dX6_ever_14 : decode cX6_ever 14 = .ok (.ifCond .ne 6, 3) := by decide +kernel
theorem dX6_ever_17 : decode cX6_ever 17 = .ok (.bipush (-3), 2) := by decide +kernel
theorem dX6_ever_19 : decode cX6_ever 19 = .ok (.ireturn, 1) := by decide +kernel
theorem dX6_ever_20 : decode cX6_ever 20 = .ok (.aload_n 0, 1) := by decide +kernel
theorem dX6_ever_21 : decode cX6_ever 21 = .ok (.invokevirtual 208, 3) := by decide +kernel
theorem dX6_ever_24 : decode cX6_ever 24 = .ok (.iload_n 1, 1) := by decide +kernel
theorem dX6_ever_25 : decode cX6_ever 25 = .ok (.ifCond .ne 13, 3) := by decide +kernel
theorem dX6_ever_28 : decode cX6_ever 28 = .ok (.aload_n 0, 1) := by decide +kernel
theorem dX6_ever_29 : decode cX6_ever 29 = .ok (.getfield 43, 3) := by decide +kernel
theorem dX6_ever_32 : decode cX6_ever 32 = .ok (.getfield 211, 3) := by decide +kernel
theorem dX6_ever_35 : decode cX6_ever 35 = .ok (.goto 10, 3) := by decide +kernel
theorem dX6_ever_38 : decode cX6_ever 38 = .ok (.aload_n 0, 1) := by decide +kernel
theorem dX6_ever_39 : decode cX6_ever 39 = .ok (.getfield 43, 3) := by decide +kernel
theorem dX6_ever_42 : decode cX6_ever 42 = .ok (.getfield 214, 3) := by decide +kernel
theorem dX6_ever_45 : decode cX6_ever 45 = .ok (.ireturn, 1) := by decide +kernel
theorem dX6_mean_0 : decode cX6_mean 0 = .ok (.aload_n 0, 1) := by decide +kernel
theorem dX6_mean_1 : decode cX6_mean 1 = .ok (.iload_n 1, 1) := by decide +kernel
theorem dX6_mean_2 : decode cX6_mean 2 = .ok (.invokevirtual 102, 3) := by decide +kernel
theorem dX6_mean_5 : decode cX6_mean 5 = .ok (.ifCond .eq 10, 3) := by decide +kernel
theorem dX6_mean_8 : decode cX6_mean 8 = .ok (.iload_n 2, 1) := by decide +kernel
theorem dX6_mean_9 : decode cX6_mean 9 = .ok (.invokestatic 163, 3) := by decide +kernel
theorem dX6_mean_12 : decode cX6_mean 12 = .ok (.ifCond .ne 7, 3) := by decide +kernel
theorem dX6_mean_15 : decode cX6_mean 15 = .ok (.ldc2_w 166, 3) := by decide +kernel
theorem dX6_mean_18 : decode cX6_mean 18 = .ok (.lreturn, 1) := by decide +kernel
theorem dX6_mean_19 : decode cX6_mean 19 = .ok (.aload_n 0, 1) := by decide +kernel
theorem dX6_mean_20 : decode cX6_mean 20 = .ok (.invokevirtual 208, 3) := by decide +kernel
theorem dX6_mean_23 : decode cX6_mean 23 = .ok (.aload_n 0, 1) := by decide +kernel
theorem dX6_mean_24 : decode cX6_mean 24 = .ok (.getfield 43, 3) := by decide +kernel
theorem dX6_mean_27 : decode cX6_mean 27 = .ok (.getfield 217, 3) := by decide +kernel
theorem dX6_mean_30 : decode cX6_mean 30 = .ok (.iload_n 1, 1) := by decide +kernel
theorem dX6_mean_31 : decode cX6_mean 31 = .ok (.iaload, 1) := by decide +kernel
theorem dX6_mean_32 : decode cX6_mean 32 = .ok (.aload_n 0, 1) := by decide +kernel
theorem dX6_mean_33 : decode cX6_mean 33 = .ok (.getfield 43, 3) := by decide +kernel
theorem dX6_mean_36 : decode cX6_mean 36 = .ok (.getfield 214, 3) := by decide +kernel
theorem dX6_mean_39 : decode cX6_mean 39 = .ok (.iload_n 2, 1) := by decide +kernel
theorem dX6_mean_40 : decode cX6_mean 40 = .ok (.invokestatic 171, 3) := by decide +kernel
theorem dX6_mean_43 : decode cX6_mean 43 = .ok (.lreturn, 1) := by decide +kernel
theorem dX6_leaves_0 : decode cX6_leaves 0 = .ok (.aload_n 0, 1) := by decide +kernel
theorem dX6_leaves_1 : decode cX6_leaves 1 = .ok (.invokevirtual 138, 3) := by decide +kernel
theorem dX6_leaves_4 : decode cX6_leaves 4 = .ok (.ifCond .ne 6, 3) := by decide +kernel
theorem dX6_leaves_7 : decode cX6_leaves 7 = .ok (.bipush (-3), 2) := by decide +kernel
theorem dX6_leaves_9 : decode cX6_leaves 9 = .ok (.ireturn, 1) := by decide +kernel
theorem dX6_leaves_10 : decode cX6_leaves 10 = .ok (.aload_n 0, 1) := by decide +kernel
theorem dX6_leaves_11 : decode cX6_leaves 11 = .ok (.invokevirtual 208, 3) := by decide +kernel
theorem dX6_leaves_14 : decode cX6_leaves 14 = .ok (.iconst 0, 1) := by decide +kernel
theorem dX6_leaves_15 : decode cX6_leaves 15 = .ok (.istore_n 1, 1) := by decide +kernel
theorem dX6_leaves_16 : decode cX6_leaves 16 = .ok (.iconst 0, 1) := by decide +kernel
theorem dX6_leaves_17 : decode cX6_leaves 17 = .ok (.istore_n 2, 1) := by decide +kernel
theorem dX6_leaves_18 : decode cX6_leaves 18 = .ok (.iload_n 2, 1) := by decide +kernel
theorem dX6_leaves_19 : decode cX6_leaves 19 = .ok (.aload_n 0, 1) := by decide +kernel
theorem dX6_leaves_20 : decode cX6_leaves 20 = .ok (.getfield 20, 3) := by decide +kernel
theorem dX6_leaves_23 : decode cX6_leaves 23 = .ok (.getfield 88, 3) := by decide +kernel
theorem dX6_leaves_26 : decode cX6_leaves 26 = .ok (.if_icmp .ge 85, 3) := by decide +kernel
theorem dX6_leaves_29 : decode cX6_leaves 29 = .ok (.iconst 0, 1) := by decide +kernel
theorem dX6_leaves_30 : decode cX6_leaves 30 = .ok (.istore_n 3, 1) := by decide +kernel
theorem dX6_leaves_31 : decode cX6_leaves 31 = .ok (.iload_n 3, 1) := by decide +kernel
theorem dX6_leaves_32 : decode cX6_leaves 32 = .ok (.iconst 2, 1) := by decide +kernel
theorem dX6_leaves_33 : decode cX6_leaves 33 = .ok (.if_icmp .gt 72, 3) := by decide +kernel
theorem dX6_leaves_36 : decode cX6_leaves 36 = .ok (.iload_n 3, 1) := by decide +kernel
theorem dX6_leaves_37 : decode cX6_leaves 37 = .ok (.aload_n 0, 1) := by decide +kernel
theorem dX6_leaves_38 : decode cX6_leaves 38 = .ok (.getfield 20, 3) := by decide +kernel
theorem dX6_leaves_41 : decode cX6_leaves 41 = .ok (.getfield 105, 3) := by decide +kernel
theorem dX6_leaves_44 : decode cX6_leaves 44 = .ok (.iload_n 2, 1) := by decide +kernel
theorem dX6_leaves_45 : decode cX6_leaves 45 = .ok (.iaload, 1) := by decide +kernel
theorem dX6_leaves_46 : decode cX6_leaves 46 = .ok (.if_icmp .eq 53, 3) := by decide +kernel
theorem dX6_leaves_49 : decode cX6_leaves 49 = .ok (.aload_n 0, 1) := by decide +kernel
theorem dX6_leaves_50 : decode cX6_leaves 50 = .ok (.getfield 34, 3) := by decide +kernel
theorem dX6_leaves_53 : decode cX6_leaves 53 = .ok (.aload_n 0, 1) := by decide +kernel
theorem dX6_leaves_54 : decode cX6_leaves 54 = .ok (.getfield 30, 3) := by decide +kernel
theorem dX6_leaves_57 : decode cX6_leaves 57 = .ok (.invokevirtual 198, 3) := by decide +kernel
theorem dX6_leaves_60 : decode cX6_leaves 60 = .ok (.aload_n 0, 1) := by decide +kernel
theorem dX6_leaves_61 : decode cX6_leaves 61 = .ok (.getfield 34, 3) := by decide +kernel
theorem dX6_leaves_64 : decode cX6_leaves 64 = .ok (.getfield 218, 3) := by decide +kernel
theorem dX6_leaves_67 : decode cX6_leaves 67 = .ok (.iload_n 2, 1) := by decide +kernel
theorem dX6_leaves_68 : decode cX6_leaves 68 = .ok (.iload_n 3, 1) := by decide +kernel
theorem dX6_leaves_69 : decode cX6_leaves 69 = .ok (.iastore, 1) := by decide +kernel
theorem dX6_leaves_70 : decode cX6_leaves 70 = .ok (.aload_n 0, 1) := by decide +kernel
theorem dX6_leaves_71 : decode cX6_leaves 71 = .ok (.getfield 47, 3) := by decide +kernel
theorem dX6_leaves_74 : decode cX6_leaves 74 = .ok (.aload_n 0, 1) := by decide +kernel
theorem dX6_leaves_75 : decode cX6_leaves 75 = .ok (.getfield 34, 3) := by decide +kernel
theorem dX6_leaves_78 : decode cX6_leaves 78 = .ok (.invokevirtual 219, 3) := by decide +kernel
theorem dX6_leaves_81 : decode cX6_leaves 81 = .ok (.iload_n 1, 1) := by decide +kernel
theorem dX6_leaves_82 : decode cX6_leaves 82 = .ok (.aload_n 0, 1) := by decide +kernel
theorem dX6_leaves_83 : decode cX6_leaves 83 = .ok (.iload_n 2, 1) := by decide +kernel
theorem dX6_leaves_84 : decode cX6_leaves 84 = .ok (.invokevirtual 222, 3) := by decide +kernel
theorem dX6_leaves_87 : decode cX6_leaves 87 = .ok (.ifCond .eq 9, 3) := by decide +kernel
theorem dX6_leaves_90 : decode cX6_leaves 90 = .ok (.iconst 1, 1) := by decide +kernel
theorem dX6_leaves_91 : decode cX6_leaves 91 = .ok (.iload_n 2, 1) := by decide +kernel
theorem dX6_leaves_92 : decode cX6_leaves 92 = .ok (.ishl, 1) := by decide +kernel
theorem dX6_leaves_93 : decode cX6_leaves 93 = .ok (.goto 4, 3) := by decide +kernel
theorem dX6_leaves_96 : decode cX6_leaves 96 = .ok (.iconst 0, 1) := by decide +kernel
theorem dX6_leaves_97 : decode cX6_leaves 97 = .ok (.ior, 1) := by decide +kernel
theorem dX6_leaves_98 : decode cX6_leaves 98 = .ok (.istore_n 1, 1) := by decide +kernel
theorem dX6_leaves_99 : decode cX6_leaves 99 = .ok (.iinc 3 1, 3) := by decide +kernel
theorem dX6_leaves_102 : decode cX6_leaves 102 = .ok (.goto (-71), 3) := by decide +kernel
theorem dX6_leaves_105 : decode cX6_leaves 105 = .ok (.iinc 2 1, 3) := by decide +kernel
theorem dX6_leaves_108 : decode cX6_leaves 108 = .ok (.goto (-90), 3) := by decide +kernel
theorem dX6_leaves_111 : decode cX6_leaves 111 = .ok (.iload_n 1, 1) := by decide +kernel
theorem dX6_leaves_112 : decode cX6_leaves 112 = .ok (.ireturn, 1) := by decide +kernel
theorem dX6_spite_0 : decode cX6_spite 0 = .ok (.aload_n 0, 1) := by decide +kernel
theorem dX6_spite_1 : decode cX6_spite 1 = .ok (.iload_n 1, 1) := by decide +kernel
theorem dX6_spite_2 : decode cX6_spite 2 = .ok (.invokevirtual 102, 3) := by decide +kernel
theorem dX6_spite_5 : decode cX6_spite 5 = .ok (.ifCond .ne 5, 3) := by decide +kernel
theorem dX6_spite_8 : decode cX6_spite 8 = .ok (.iconst (-1), 1) := by decide +kernel
theorem dX6_spite_9 : decode cX6_spite 9 = .ok (.ireturn, 1) := by decide +kernel
theorem dX6_spite_10 : decode cX6_spite 10 = .ok (.iload_n 2, 1) := by decide +kernel
theorem dX6_spite_11 : decode cX6_spite 11 = .ok (.invokestatic 163, 3) := by decide +kernel
theorem dX6_spite_14 : decode cX6_spite 14 = .ok (.ifCond .ne 6, 3) := by decide +kernel
theorem dX6_spite_17 : decode cX6_spite 17 = .ok (.bipush (-2), 2) := by decide +kernel
theorem dX6_spite_19 : decode cX6_spite 19 = .ok (.ireturn, 1) := by decide +kernel
theorem dX6_spite_20 : decode cX6_spite 20 = .ok (.aload_n 0, 1) := by decide +kernel
theorem dX6_spite_21 : decode cX6_spite 21 = .ok (.getfield 34, 3) := by decide +kernel
theorem dX6_spite_24 : decode cX6_spite 24 = .ok (.aload_n 0, 1) := by decide +kernel
theorem dX6_spite_25 : decode cX6_spite 25 = .ok (.getfield 30, 3) := by decide +kernel
theorem dX6_spite_28 : decode cX6_spite 28 = .ok (.invokevirtual 198, 3) := by decide +kernel
theorem dX6_spite_31 : decode cX6_spite 31 = .ok (.aload_n 0, 1) := by decide +kernel
theorem dX6_spite_32 : decode cX6_spite 32 = .ok (.getfield 37, 3) := by decide +kernel
theorem dX6_spite_35 : decode cX6_spite 35 = .ok (.aload_n 0, 1) := by decide +kernel
theorem dX6_spite_36 : decode cX6_spite 36 = .ok (.getfield 30, 3) := by decide +kernel
theorem dX6_spite_39 : decode cX6_spite 39 = .ok (.invokevirtual 198, 3) := by decide +kernel
theorem dX6_spite_42 : decode cX6_spite 42 = .ok (.aload_n 0, 1) := by decide +kernel
theorem dX6_spite_43 : decode cX6_spite 43 = .ok (.getfield 37, 3) := by decide +kernel
theorem dX6_spite_46 : decode cX6_spite 46 = .ok (.iload_n 1, 1) := by decide +kernel
theorem dX6_spite_47 : decode cX6_spite 47 = .ok (.putfield 225, 3) := by decide +kernel
theorem dX6_spite_50 : decode cX6_spite 50 = .ok (.bipush (-9), 2) := by decide +kernel
theorem dX6_spite_52 : decode cX6_spite 52 = .ok (.istore_n 3, 1) := by decide +kernel
theorem dX6_spite_53 : decode cX6_spite 53 = .ok (.iconst 0, 1) := by decide +kernel
theorem dX6_spite_54 : decode cX6_spite 54 = .ok (.istore 4, 2) := by decide +kernel
theorem dX6_spite_56 : decode cX6_spite 56 = .ok (.iload 4, 2) := by decide +kernel
theorem dX6_spite_58 : decode cX6_spite 58 = .ok (.sipush 200, 3) := by decide +kernel
theorem dX6_spite_61 : decode cX6_spite 61 = .ok (.if_icmp .ge 67, 3) := by decide +kernel
theorem dX6_spite_64 : decode cX6_spite 64 = .ok (.aload_n 0, 1) := by decide +kernel
theorem dX6_spite_65 : decode cX6_spite 65 = .ok (.getfield 34, 3) := by decide +kernel
theorem dX6_spite_68 : decode cX6_spite 68 = .ok (.invokevirtual 145, 3) := by decide +kernel
theorem dX6_spite_71 : decode cX6_spite 71 = .ok (.aload_n 0, 1) := by decide +kernel
theorem dX6_spite_72 : decode cX6_spite 72 = .ok (.getfield 37, 3) := by decide +kernel
theorem dX6_spite_75 : decode cX6_spite 75 = .ok (.invokevirtual 145, 3) := by decide +kernel
theorem dX6_spite_78 : decode cX6_spite 78 = .ok (.iload_n 3, 1) := by decide +kernel
theorem dX6_spite_79 : decode cX6_spite 79 = .ok (.bipush (-9), 2) := by decide +kernel
theorem dX6_spite_81 : decode cX6_spite 81 = .ok (.if_icmp .ne 11, 3) := by decide +kernel
theorem dX6_spite_84 : decode cX6_spite 84 = .ok (.aload_n 0, 1) := by decide +kernel
theorem dX6_spite_85 : decode cX6_spite 85 = .ok (.iload_n 1, 1) := by decide +kernel
theorem dX6_spite_86 : decode cX6_spite 86 = .ok (.iload 4, 2) := by decide +kernel
theorem dX6_spite_88 : decode cX6_spite 88 = .ok (.invokevirtual 228, 3) := by decide +kernel
theorem dX6_spite_91 : decode cX6_spite 91 = .ok (.istore_n 3, 1) := by decide +kernel
theorem dX6_spite_92 : decode cX6_spite 92 = .ok (.aload_n 0, 1) := by decide +kernel
theorem dX6_spite_93 : decode cX6_spite 93 = .ok (.getfield 34, 3) := by decide +kernel
theorem dX6_spite_96 : decode cX6_spite 96 = .ok (.invokevirtual 232, 3) := by decide +kernel
theorem dX6_spite_99 : decode cX6_spite 99 = .ok (.aload_n 0, 1) := by decide +kernel
theorem dX6_spite_100 : decode cX6_spite 100 = .ok (.getfield 37, 3) := by decide +kernel
theorem dX6_spite_103 : decode cX6_spite 103 = .ok (.invokevirtual 232, 3) := by decide +kernel
theorem dX6_spite_106 : decode cX6_spite 106 = .ok (.if_icmp .ne 16, 3) := by decide +kernel
theorem dX6_spite_109 : decode cX6_spite 109 = .ok (.iload_n 2, 1) := by decide +kernel
theorem dX6_spite_110 : decode cX6_spite 110 = .ok (.ifCond .ne 10, 3) := by decide +kernel
theorem dX6_spite_113 : decode cX6_spite 113 = .ok (.iload 4, 2) := by decide +kernel
theorem dX6_spite_115 : decode cX6_spite 115 = .ok (.iconst 1, 1) := by decide +kernel
theorem dX6_spite_116 : decode cX6_spite 116 = .ok (.iadd, 1) := by decide +kernel
theorem dX6_spite_117 : decode cX6_spite 117 = .ok (.goto 4, 3) := by decide +kernel
theorem dX6_spite_120 : decode cX6_spite 120 = .ok (.iload_n 3, 1) := by decide +kernel
theorem dX6_spite_121 : decode cX6_spite 121 = .ok (.ireturn, 1) := by decide +kernel
theorem dX6_spite_122 : decode cX6_spite 122 = .ok (.iinc 4 1, 3) := by decide +kernel
theorem dX6_spite_125 : decode cX6_spite 125 = .ok (.goto (-69), 3) := by decide +kernel
theorem dX6_spite_128 : decode cX6_spite 128 = .ok (.iload_n 2, 1) := by decide +kernel
theorem dX6_spite_129 : decode cX6_spite 129 = .ok (.ifCond .ne 8, 3) := by decide +kernel
theorem dX6_spite_132 : decode cX6_spite 132 = .ok (.bipush (-9), 2) := by decide +kernel
theorem dX6_spite_134 : decode cX6_spite 134 = .ok (.goto 4, 3) := by decide +kernel
theorem dX6_spite_137 : decode cX6_spite 137 = .ok (.iload_n 3, 1) := by decide +kernel
theorem dX6_spite_138 : decode cX6_spite 138 = .ok (.ireturn, 1) := by decide +kernel
theorem dX6_lies_0 : decode cX6_lies 0 = .ok (.aload_n 0, 1) := by decide +kernel
theorem dX6_lies_1 : decode cX6_lies 1 = .ok (.iload_n 1, 1) := by decide +kernel
theorem dX6_lies_2 : decode cX6_lies 2 = .ok (.invokevirtual 102, 3) := by decide +kernel
theorem dX6_lies_5 : decode cX6_lies 5 = .ok (.ifCond .ne 5, 3) := by decide +kernel
theorem dX6_lies_8 : decode cX6_lies 8 = .ok (.iconst (-1), 1) := by decide +kernel
theorem dX6_lies_9 : decode cX6_lies 9 = .ok (.ireturn, 1) := by decide +kernel
theorem dX6_lies_10 : decode cX6_lies 10 = .ok (.iload_n 2, 1) := by decide +kernel
theorem dX6_lies_11 : decode cX6_lies 11 = .ok (.invokestatic 163, 3) := by decide +kernel
theorem dX6_lies_14 : decode cX6_lies 14 = .ok (.ifCond .ne 6, 3) := by decide +kernel
theorem dX6_lies_17 : decode cX6_lies 17 = .ok (.bipush (-2), 2) := by decide +kernel
theorem dX6_lies_19 : decode cX6_lies 19 = .ok (.ireturn, 1) := by decide +kernel
theorem dX6_lies_20 : decode cX6_lies 20 = .ok (.aload_n 0, 1) := by decide +kernel
theorem dX6_lies_21 : decode cX6_lies 21 = .ok (.invokevirtual 154, 3) := by decide +kernel
theorem dX6_lies_24 : decode cX6_lies 24 = .ok (.aload_n 0, 1) := by decide +kernel
theorem dX6_lies_25 : decode cX6_lies 25 = .ok (.getfield 34, 3) := by decide +kernel
theorem dX6_lies_28 : decode cX6_lies 28 = .ok (.getfield 160, 3) := by decide +kernel
theorem dX6_lies_31 : decode cX6_lies 31 = .ok (.iload_n 1, 1) := by decide +kernel
theorem dX6_lies_32 : decode cX6_lies 32 = .ok (.iaload, 1) := by decide +kernel
theorem dX6_lies_33 : decode cX6_lies 33 = .ok (.istore_n 3, 1) := by decide +kernel
theorem dX6_lies_34 : decode cX6_lies 34 = .ok (.bipush (-9), 2) := by decide +kernel
theorem dX6_lies_36 : decode cX6_lies 36 = .ok (.istore 4, 2) := by decide +kernel
theorem dX6_lies_38 : decode cX6_lies 38 = .ok (.iconst 0, 1) := by decide +kernel
theorem dX6_lies_39 : decode cX6_lies 39 = .ok (.istore 5, 2) := by decide +kernel
theorem dX6_lies_41 : decode cX6_lies 41 = .ok (.iload 5, 2) := by decide +kernel
theorem dX6_lies_43 : decode cX6_lies 43 = .ok (.aload_n 0, 1) := by decide +kernel
theorem dX6_lies_44 : decode cX6_lies 44 = .ok (.getfield 20, 3) := by decide +kernel
theorem dX6_lies_47 : decode cX6_lies 47 = .ok (.getfield 235, 3) := by decide +kernel
theorem dX6_lies_50 : decode cX6_lies 50 = .ok (.if_icmp .ge 77, 3) := by decide +kernel
theorem dX6_lies_53 : decode cX6_lies 53 = .ok (.aload_n 0, 1) := by decide +kernel
theorem dX6_lies_54 : decode cX6_lies 54 = .ok (.getfield 20, 3) := by decide +kernel
theorem dX6_lies_57 : decode cX6_lies 57 = .ok (.iload_n 1, 1) := by decide +kernel
theorem dX6_lies_58 : decode cX6_lies 58 = .ok (.iload 5, 2) := by decide +kernel
theorem dX6_lies_60 : decode cX6_lies 60 = .ok (.invokevirtual 128, 3) := by decide +kernel
theorem dX6_lies_63 : decode cX6_lies 63 = .ok (.ifCond .eq 58, 3) := by decide +kernel
theorem dX6_lies_66 : decode cX6_lies 66 = .ok (.aload_n 0, 1) := by decide +kernel
theorem dX6_lies_67 : decode cX6_lies 67 = .ok (.getfield 34, 3) := by decide +kernel
theorem dX6_lies_70 : decode cX6_lies 70 = .ok (.aload_n 0, 1) := by decide +kernel
theorem dX6_lies_71 : decode cX6_lies 71 = .ok (.getfield 30, 3) := by decide +kernel
theorem dX6_lies_74 : decode cX6_lies 74 = .ok (.invokevirtual 198, 3) := by decide +kernel
theorem dX6_lies_77 : decode cX6_lies 77 = .ok (.aload_n 0, 1) := by decide +kernel
theorem dX6_lies_78 : decode cX6_lies 78 = .ok (.getfield 34, 3) := by decide +kernel
theorem dX6_lies_81 : decode cX6_lies 81 = .ok (.iload_n 1, 1) := by decide +kernel
theorem dX6_lies_82 : decode cX6_lies 82 = .ok (.iload 5, 2) := by decide +kernel
theorem dX6_lies_84 : decode cX6_lies 84 = .ok (.invokevirtual 238, 3) := by decide +kernel
theorem dX6_lies_87 : decode cX6_lies 87 = .ok (.aload_n 0, 1) := by decide +kernel
theorem dX6_lies_88 : decode cX6_lies 88 = .ok (.getfield 34, 3) := by decide +kernel
theorem dX6_lies_91 : decode cX6_lies 91 = .ok (.invokevirtual 145, 3) := by decide +kernel
theorem dX6_lies_94 : decode cX6_lies 94 = .ok (.aload_n 0, 1) := by decide +kernel
theorem dX6_lies_95 : decode cX6_lies 95 = .ok (.getfield 34, 3) := by decide +kernel
theorem dX6_lies_98 : decode cX6_lies 98 = .ok (.getfield 160, 3) := by decide +kernel
theorem dX6_lies_101 : decode cX6_lies 101 = .ok (.iload_n 1, 1) := by decide +kernel
theorem dX6_lies_102 : decode cX6_lies 102 = .ok (.iaload, 1) := by decide +kernel
theorem dX6_lies_103 : decode cX6_lies 103 = .ok (.iload_n 3, 1) := by decide +kernel
theorem dX6_lies_104 : decode cX6_lies 104 = .ok (.if_icmp .le 17, 3) := by decide +kernel
theorem dX6_lies_107 : decode cX6_lies 107 = .ok (.aload_n 0, 1) := by decide +kernel
theorem dX6_lies_108 : decode cX6_lies 108 = .ok (.getfield 34, 3) := by decide +kernel
theorem dX6_lies_111 : decode cX6_lies 111 = .ok (.getfield 160, 3) := by decide +kernel
theorem dX6_lies_114 : decode cX6_lies 114 = .ok (.iload_n 1, 1) := by decide +kernel
theorem dX6_lies_115 : decode cX6_lies 115 = .ok (.iaload, 1) := by decide +kernel
theorem dX6_lies_116 : decode cX6_lies 116 = .ok (.istore_n 3, 1) := by decide +kernel
theorem dX6_lies_117 : decode cX6_lies 117 = .ok (.iload 5, 2) := by decide +kernel
theorem dX6_lies_119 : decode cX6_lies 119 = .ok (.istore 4, 2) := by decide +kernel
theorem dX6_lies_121 : decode cX6_lies 121 = .ok (.iinc 5 1, 3) := by decide +kernel
theorem dX6_lies_124 : decode cX6_lies 124 = .ok (.goto (-83), 3) := by decide +kernel
theorem dX6_lies_127 : decode cX6_lies 127 = .ok (.iload_n 2, 1) := by decide +kernel
theorem dX6_lies_128 : decode cX6_lies 128 = .ok (.ifCond .ne 8, 3) := by decide +kernel
theorem dX6_lies_131 : decode cX6_lies 131 = .ok (.iload 4, 2) := by decide +kernel
theorem dX6_lies_133 : decode cX6_lies 133 = .ok (.goto 4, 3) := by decide +kernel
theorem dX6_lies_136 : decode cX6_lies 136 = .ok (.iload_n 3, 1) := by decide +kernel
theorem dX6_lies_137 : decode cX6_lies 137 = .ok (.ireturn, 1) := by decide +kernel
theorem dX6_chair_0 : decode cX6_chair 0 = .ok (.aload_n 0, 1) := by decide +kernel
theorem dX6_chair_1 : decode cX6_chair 1 = .ok (.iload_n 1, 1) := by decide +kernel
theorem dX6_chair_2 : decode cX6_chair 2 = .ok (.invokevirtual 102, 3) := by decide +kernel
theorem dX6_chair_5 : decode cX6_chair 5 = .ok (.ifCond .eq 33, 3) := by decide +kernel
theorem dX6_chair_8 : decode cX6_chair 8 = .ok (.aload_n 0, 1) := by decide +kernel
theorem dX6_chair_9 : decode cX6_chair 9 = .ok (.getfield 20, 3) := by decide +kernel
theorem dX6_chair_12 : decode cX6_chair 12 = .ok (.getfield 88, 3) := by decide +kernel
theorem dX6_chair_15 : decode cX6_chair 15 = .ok (.iconst 3, 1) := by decide +kernel
theorem dX6_chair_16 : decode cX6_chair 16 = .ok (.if_icmp .lt 22, 3) := by decide +kernel
theorem dX6_chair_19 : decode cX6_chair 19 = .ok (.aload_n 0, 1) := by decide +kernel
theorem dX6_chair_20 : decode cX6_chair 20 = .ok (.getfield 30, 3) := by decide +kernel
theorem dX6_chair_23 : decode cX6_chair 23 = .ok (.getfield 135, 3) := by decide +kernel
theorem dX6_chair_26 : decode cX6_chair 26 = .ok (.aload_n 0, 1) := by decide +kernel
theorem dX6_chair_27 : decode cX6_chair 27 = .ok (.getfield 20, 3) := by decide +kernel
theorem dX6_chair_30 : decode cX6_chair 30 = .ok (.getfield 88, 3) := by decide +kernel
theorem dX6_chair_33 : decode cX6_chair 33 = .ok (.iconst 1, 1) := by decide +kernel
theorem dX6_chair_34 : decode cX6_chair 34 = .ok (.isub, 1) := by decide +kernel
theorem dX6_chair_35 : decode cX6_chair 35 = .ok (.if_icmp .lt 7, 3) := by decide +kernel
theorem dX6_chair_38 : decode cX6_chair 38 = .ok (.ldc2_w 166, 3) := by decide +kernel
theorem dX6_chair_41 : decode cX6_chair 41 = .ok (.lreturn, 1) := by decide +kernel
theorem dX6_chair_42 : decode cX6_chair 42 = .ok (.aload_n 0, 1) := by decide +kernel
theorem dX6_chair_43 : decode cX6_chair 43 = .ok (.invokevirtual 154, 3) := by decide +kernel
theorem dX6_chair_46 : decode cX6_chair 46 = .ok (.aload_n 0, 1) := by decide +kernel
theorem dX6_chair_47 : decode cX6_chair 47 = .ok (.getfield 34, 3) := by decide +kernel
theorem dX6_chair_50 : decode cX6_chair 50 = .ok (.invokevirtual 148, 3) := by decide +kernel
theorem dX6_chair_53 : decode cX6_chair 53 = .ok (.aload_n 0, 1) := by decide +kernel
theorem dX6_chair_54 : decode cX6_chair 54 = .ok (.getfield 34, 3) := by decide +kernel
theorem dX6_chair_57 : decode cX6_chair 57 = .ok (.getfield 160, 3) := by decide +kernel
theorem dX6_chair_60 : decode cX6_chair 60 = .ok (.iload_n 1, 1) := by decide +kernel
theorem dX6_chair_61 : decode cX6_chair 61 = .ok (.iaload, 1) := by decide +kernel
theorem dX6_chair_62 : decode cX6_chair 62 = .ok (.isub, 1) := by decide +kernel
theorem dX6_chair_63 : decode cX6_chair 63 = .ok (.istore_n 2, 1) := by decide +kernel
theorem dX6_chair_64 : decode cX6_chair 64 = .ok (.aload_n 0, 1) := by decide +kernel
theorem dX6_chair_65 : decode cX6_chair 65 = .ok (.getfield 34, 3) := by decide +kernel
theorem dX6_chair_68 : decode cX6_chair 68 = .ok (.aload_n 0, 1) := by decide +kernel
theorem dX6_chair_69 : decode cX6_chair 69 = .ok (.getfield 30, 3) := by decide +kernel
theorem dX6_chair_72 : decode cX6_chair 72 = .ok (.invokevirtual 198, 3) := by decide +kernel
theorem dX6_chair_75 : decode cX6_chair 75 = .ok (.aload_n 0, 1) := by decide +kernel
theorem dX6_chair_76 : decode cX6_chair 76 = .ok (.getfield 34, 3) := by decide +kernel
theorem dX6_chair_79 : decode cX6_chair 79 = .ok (.iload_n 1, 1) := by decide +kernel
theorem dX6_chair_80 : decode cX6_chair 80 = .ok (.invokevirtual 242, 3) := by decide +kernel
theorem dX6_chair_83 : decode cX6_chair 83 = .ok (.aload_n 0, 1) := by decide +kernel
theorem dX6_chair_84 : decode cX6_chair 84 = .ok (.getfield 34, 3) := by decide +kernel
theorem dX6_chair_87 : decode cX6_chair 87 = .ok (.invokevirtual 145, 3) := by decide +kernel
theorem dX6_chair_90 : decode cX6_chair 90 = .ok (.aload_n 0, 1) := by decide +kernel
theorem dX6_chair_91 : decode cX6_chair 91 = .ok (.getfield 34, 3) := by decide +kernel
theorem dX6_chair_94 : decode cX6_chair 94 = .ok (.invokevirtual 148, 3) := by decide +kernel
theorem dX6_chair_97 : decode cX6_chair 97 = .ok (.iload_n 2, 1) := by decide +kernel
theorem dX6_chair_98 : decode cX6_chair 98 = .ok (.isub, 1) := by decide +kernel
theorem dX6_chair_99 : decode cX6_chair 99 = .ok (.i2l, 1) := by decide +kernel
theorem dX6_chair_100 : decode cX6_chair 100 = .ok (.lreturn, 1) := by decide +kernel
theorem dX6_law_0 : decode cX6_law 0 = .ok (.iload_n 1, 1) := by decide +kernel
theorem dX6_law_1 : decode cX6_law 1 = .ok (.invokestatic 163, 3) := by decide +kernel
theorem dX6_law_4 : decode cX6_law 4 = .ok (.ifCond .ne 6, 3) := by decide +kernel
theorem dX6_law_7 : decode cX6_law 7 = .ok (.bipush (-2), 2) := by decide +kernel
theorem dX6_law_9 : decode cX6_law 9 = .ok (.ireturn, 1) := by decide +kernel
theorem dX6_law_10 : decode cX6_law 10 = .ok (.aload_n 0, 1) := by decide +kernel
theorem dX6_law_11 : decode cX6_law 11 = .ok (.invokevirtual 138, 3) := by decide +kernel
theorem dX6_law_14 : decode cX6_law 14 = .ok (.ifCond .ne 6, 3) := by decide +kernel
theorem dX6_law_17 : decode cX6_law 17 = .ok (.bipush (-3), 2) := by decide +kernel
theorem dX6_law_19 : decode cX6_law 19 = .ok (.ireturn, 1) := by decide +kernel
theorem dX6_law_20 : decode cX6_law 20 = .ok (.iconst (-1), 1) := by decide +kernel
theorem dX6_law_21 : decode cX6_law 21 = .ok (.istore_n 2, 1) := by decide +kernel
theorem dX6_law_22 : decode cX6_law 22 = .ok (.iconst 0, 1) := by decide +kernel
theorem dX6_law_23 : decode cX6_law 23 = .ok (.istore_n 3, 1) := by decide +kernel
theorem dX6_law_24 : decode cX6_law 24 = .ok (.iconst 1, 1) := by decide +kernel
theorem dX6_law_25 : decode cX6_law 25 = .ok (.istore 4, 2) := by decide +kernel
theorem dX6_law_27 : decode cX6_law 27 = .ok (.iload 4, 2) := by decide +kernel
theorem dX6_law_29 : decode cX6_law 29 = .ok (.aload_n 0, 1) := by decide +kernel
theorem dX6_law_30 : decode cX6_law 30 = .ok (.getfield 20, 3) := by decide +kernel
theorem dX6_law_33 : decode cX6_law 33 = .ok (.getfield 88, 3) := by decide +kernel
theorem dX6_law_36 : decode cX6_law 36 = .ok (.if_icmp .ge 57, 3) := by decide +kernel
theorem dX6_law_39 : decode cX6_law 39 = .ok (.aload_n 0, 1) := by decide +kernel
theorem dX6_law_40 : decode cX6_law 40 = .ok (.getfield 34, 3) := by decide +kernel
theorem dX6_law_43 : decode cX6_law 43 = .ok (.aload_n 0, 1) := by decide +kernel
theorem dX6_law_44 : decode cX6_law 44 = .ok (.getfield 30, 3) := by decide +kernel
theorem dX6_law_47 : decode cX6_law 47 = .ok (.invokevirtual 198, 3) := by decide +kernel
theorem dX6_law_50 : decode cX6_law 50 = .ok (.aload_n 0, 1) := by decide +kernel
theorem dX6_law_51 : decode cX6_law 51 = .ok (.getfield 34, 3) := by decide +kernel
theorem dX6_law_54 : decode cX6_law 54 = .ok (.iload 4, 2) := by decide +kernel
theorem dX6_law_56 : decode cX6_law 56 = .ok (.putfield 135, 3) := by decide +kernel
theorem dX6_law_59 : decode cX6_law 59 = .ok (.aload_n 0, 1) := by decide +kernel
theorem dX6_law_60 : decode cX6_law 60 = .ok (.getfield 34, 3) := by decide +kernel
theorem dX6_law_63 : decode cX6_law 63 = .ok (.invokevirtual 145, 3) := by decide +kernel
theorem dX6_law_66 : decode cX6_law 66 = .ok (.aload_n 0, 1) := by decide +kernel
theorem dX6_law_67 : decode cX6_law 67 = .ok (.getfield 34, 3) := by decide +kernel
theorem dX6_law_70 : decode cX6_law 70 = .ok (.invokevirtual 148, 3) := by decide +kernel
theorem dX6_law_73 : decode cX6_law 73 = .ok (.istore 5, 2) := by decide +kernel
theorem dX6_law_75 : decode cX6_law 75 = .ok (.iload 5, 2) := by decide +kernel
theorem dX6_law_77 : decode cX6_law 77 = .ok (.iload_n 2, 1) := by decide +kernel
theorem dX6_law_78 : decode cX6_law 78 = .ok (.if_icmp .le 9, 3) := by decide +kernel
theorem dX6_law_81 : decode cX6_law 81 = .ok (.iload 5, 2) := by decide +kernel
theorem dX6_law_83 : decode cX6_law 83 = .ok (.istore_n 2, 1) := by decide +kernel
theorem dX6_law_84 : decode cX6_law 84 = .ok (.iload 4, 2) := by decide +kernel
theorem dX6_law_86 : decode cX6_law 86 = .ok (.istore_n 3, 1) := by decide +kernel
theorem dX6_law_87 : decode cX6_law 87 = .ok (.iinc 4 1, 3) := by decide +kernel
theorem dX6_law_90 : decode cX6_law 90 = .ok (.goto (-63), 3) := by decide +kernel
theorem dX6_law_93 : decode cX6_law 93 = .ok (.iload_n 1, 1) := by decide +kernel
theorem dX6_law_94 : decode cX6_law 94 = .ok (.ifCond .ne 7, 3) := by decide +kernel
theorem dX6_law_97 : decode cX6_law 97 = .ok (.iload_n 3, 1) := by decide +kernel
theorem dX6_law_98 : decode cX6_law 98 = .ok (.goto 4, 3) := by decide +kernel
theorem dX6_law_101 : decode cX6_law 101 = .ok (.iload_n 2, 1) := by decide +kernel
theorem dX6_law_102 : decode cX6_law 102 = .ok (.ireturn, 1) := by decide +kernel
theorem dX6_sheet_0 : decode cX6_sheet 0 = .ok (.aload_n 0, 1) := by decide +kernel
theorem dX6_sheet_1 : decode cX6_sheet 1 = .ok (.iconst 0, 1) := by decide +kernel
theorem dX6_sheet_2 : decode cX6_sheet 2 = .ok (.putfield 246, 3) := by decide +kernel
theorem dX6_sheet_5 : decode cX6_sheet 5 = .ok (.iload_n 1, 1) := by decide +kernel
theorem dX6_sheet_6 : decode cX6_sheet 6 = .ok (.invokestatic 249, 3) := by decide +kernel
theorem dX6_sheet_9 : decode cX6_sheet 9 = .ok (.ifCond .ne 5, 3) := by decide +kernel
theorem dX6_sheet_12 : decode cX6_sheet 12 = .ok (.iconst (-1), 1) := by decide +kernel
theorem dX6_sheet_13 : decode cX6_sheet 13 = .ok (.ireturn, 1) := by decide +kernel
theorem dX6_sheet_14 : decode cX6_sheet 14 = .ok (.iload_n 2, 1) := by decide +kernel
theorem dX6_sheet_15 : decode cX6_sheet 15 = .ok (.invokestatic 252, 3) := by decide +kernel
theorem dX6_sheet_18 : decode cX6_sheet 18 = .ok (.ifCond .eq 9, 3) := by decide +kernel
theorem dX6_sheet_21 : decode cX6_sheet 21 = .ok (.iload_n 3, 1) := by decide +kernel
theorem dX6_sheet_22 : decode cX6_sheet 22 = .ok (.bipush 100, 2) := by decide +kernel
theorem dX6_sheet_24 : decode cX6_sheet 24 = .ok (.if_icmp .le 6, 3) := by decide +kernel
theorem dX6_sheet_27 : decode cX6_sheet 27 = .ok (.bipush (-2), 2) := by decide +kernel
theorem dX6_sheet_29 : decode cX6_sheet 29 = .ok (.ireturn, 1) := by decide +kernel
theorem dX6_sheet_30 : decode cX6_sheet 30 = .ok (.iload_n 3, 1) := by decide +kernel
theorem dX6_sheet_31 : decode cX6_sheet 31 = .ok (.ifCond .ge 9, 3) := by decide +kernel
theorem dX6_sheet_34 : decode cX6_sheet 34 = .ok (.aload_n 0, 1) := by decide +kernel
theorem dX6_sheet_35 : decode cX6_sheet 35 = .ok (.iconst 4, 1) := by decide +kernel
theorem dX6_sheet_36 : decode cX6_sheet 36 = .ok (.invokevirtual 255, 3) := by decide +kernel
theorem dX6_sheet_39 : decode cX6_sheet 39 = .ok (.ireturn, 1) := by decide +kernel
theorem dX6_sheet_40 : decode cX6_sheet 40 = .ok (.aload_n 0, 1) := by decide +kernel
theorem dX6_sheet_41 : decode cX6_sheet 41 = .ok (.getfield 13, 3) := by decide +kernel
theorem dX6_sheet_44 : decode cX6_sheet 44 = .ok (.iload_n 1, 1) := by decide +kernel
theorem dX6_sheet_45 : decode cX6_sheet 45 = .ok (.aaload, 1) := by decide +kernel
theorem dX6_sheet_46 : decode cX6_sheet 46 = .ok (.iload_n 2, 1) := by decide +kernel
theorem dX6_sheet_47 : decode cX6_sheet 47 = .ok (.iload_n 3, 1) := by decide +kernel
theorem dX6_sheet_48 : decode cX6_sheet 48 = .ok (.invokevirtual 258, 3) := by decide +kernel
theorem dX6_sheet_51 : decode cX6_sheet 51 = .ok (.iconst 1, 1) := by decide +kernel
theorem dX6_sheet_52 : decode cX6_sheet 52 = .ok (.ireturn, 1) := by decide +kernel
theorem dX6_lose_0 : decode cX6_lose 0 = .ok (.iload_n 1, 1) := by decide +kernel
theorem dX6_lose_1 : decode cX6_lose 1 = .ok (.invokestatic 249, 3) := by decide +kernel
theorem dX6_lose_4 : decode cX6_lose 4 = .ok (.ifCond .ne 5, 3) := by decide +kernel
theorem dX6_lose_7 : decode cX6_lose 7 = .ok (.iconst (-1), 1) := by decide +kernel
theorem dX6_lose_8 : decode cX6_lose 8 = .ok (.ireturn, 1) := by decide +kernel
theorem dX6_lose_9 : decode cX6_lose 9 = .ok (.aload_n 0, 1) := by decide +kernel
theorem dX6_lose_10 : decode cX6_lose 10 = .ok (.getfield 13, 3) := by decide +kernel
theorem dX6_lose_13 : decode cX6_lose 13 = .ok (.iload_n 1, 1) := by decide +kernel
theorem dX6_lose_14 : decode cX6_lose 14 = .ok (.aaload, 1) := by decide +kernel
theorem dX6_lose_15 : decode cX6_lose 15 = .ok (.getfield 261, 3) := by decide +kernel
theorem dX6_lose_18 : decode cX6_lose 18 = .ok (.ifCond .ne 5, 3) := by decide +kernel
theorem dX6_lose_21 : decode cX6_lose 21 = .ok (.iconst 0, 1) := by decide +kernel
theorem dX6_lose_22 : decode cX6_lose 22 = .ok (.ireturn, 1) := by decide +kernel
theorem dX6_lose_23 : decode cX6_lose 23 = .ok (.aload_n 0, 1) := by decide +kernel
theorem dX6_lose_24 : decode cX6_lose 24 = .ok (.getfield 13, 3) := by decide +kernel
theorem dX6_lose_27 : decode cX6_lose 27 = .ok (.iload_n 1, 1) := by decide +kernel
theorem dX6_lose_28 : decode cX6_lose 28 = .ok (.aaload, 1) := by decide +kernel
theorem dX6_lose_29 : decode cX6_lose 29 = .ok (.iconst 0, 1) := by decide +kernel
theorem dX6_lose_30 : decode cX6_lose 30 = .ok (.putfield 261, 3) := by decide +kernel
theorem dX6_lose_33 : decode cX6_lose 33 = .ok (.iconst 1, 1) := by decide +kernel
theorem dX6_lose_34 : decode cX6_lose 34 = .ok (.ireturn, 1) := by decide +kernel
theorem dX6_put_0 : decode cX6_put 0 = .ok (.aload_n 0, 1) := by decide +kernel
theorem dX6_put_1 : decode cX6_put 1 = .ok (.iconst 0, 1) := by decide +kernel
theorem dX6_put_2 : decode cX6_put 2 = .ok (.putfield 246, 3) := by decide +kernel
theorem dX6_put_5 : decode cX6_put 5 = .ok (.iload_n 1, 1) := by decide +kernel
theorem dX6_put_6 : decode cX6_put 6 = .ok (.invokestatic 249, 3) := by decide +kernel
theorem dX6_put_9 : decode cX6_put 9 = .ok (.ifCond .ne 5, 3) := by decide +kernel
theorem dX6_put_12 : decode cX6_put 12 = .ok (.iconst (-1), 1) := by decide +kernel
theorem dX6_put_13 : decode cX6_put 13 = .ok (.ireturn, 1) := by decide +kernel
theorem dX6_put_14 : decode cX6_put 14 = .ok (.aload_n 0, 1) := by decide +kernel
theorem dX6_put_15 : decode cX6_put 15 = .ok (.getfield 13, 3) := by decide +kernel
theorem dX6_put_18 : decode cX6_put 18 = .ok (.iload_n 1, 1) := by decide +kernel
theorem dX6_put_19 : decode cX6_put 19 = .ok (.aaload, 1) := by decide +kernel
theorem dX6_put_20 : decode cX6_put 20 = .ok (.getfield 261, 3) := by decide +kernel
theorem dX6_put_23 : decode cX6_put 23 = .ok (.ifCond .ne 9, 3) := by decide +kernel
theorem dX6_put_26 : decode cX6_put 26 = .ok (.aload_n 0, 1) := by decide +kernel
theorem dX6_put_27 : decode cX6_put 27 = .ok (.iconst 1, 1) := by decide +kernel
theorem dX6_put_28 : decode cX6_put 28 = .ok (.invokevirtual 255, 3) := by decide +kernel
theorem dX6_put_31 : decode cX6_put 31 = .ok (.ireturn, 1) := by decide +kernel
theorem dX6_put_32 : decode cX6_put 32 = .ok (.aload_n 0, 1) := by decide +kernel
theorem dX6_put_33 : decode cX6_put 33 = .ok (.getfield 13, 3) := by decide +kernel
theorem dX6_put_36 : decode cX6_put 36 = .ok (.iload_n 1, 1) := by decide +kernel
theorem dX6_put_37 : decode cX6_put 37 = .ok (.aaload, 1) := by decide +kernel
theorem dX6_put_38 : decode cX6_put 38 = .ok (.iload_n 2, 1) := by decide +kernel
theorem dX6_put_39 : decode cX6_put 39 = .ok (.iconst 1, 1) := by decide +kernel
theorem dX6_put_40 : decode cX6_put 40 = .ok (.invokevirtual 264, 3) := by decide +kernel
theorem dX6_put_43 : decode cX6_put 43 = .ok (.ifCond .ne 9, 3) := by decide +kernel
theorem dX6_put_46 : decode cX6_put 46 = .ok (.aload_n 0, 1) := by decide +kernel
theorem dX6_put_47 : decode cX6_put 47 = .ok (.iconst 3, 1) := by decide +kernel
theorem dX6_put_48 : decode cX6_put 48 = .ok (.invokevirtual 255, 3) := by decide +kernel
theorem dX6_put_51 : decode cX6_put 51 = .ok (.ireturn, 1) := by decide +kernel
theorem dX6_put_52 : decode cX6_put 52 = .ok (.aload_n 0, 1) := by decide +kernel
theorem dX6_put_53 : decode cX6_put 53 = .ok (.getfield 13, 3) := by decide +kernel
theorem dX6_put_56 : decode cX6_put 56 = .ok (.iload_n 1, 1) := by decide +kernel
theorem dX6_put_57 : decode cX6_put 57 = .ok (.aaload, 1) := by decide +kernel
theorem dX6_put_58 : decode cX6_put 58 = .ok (.iload_n 2, 1) := by decide +kernel
theorem dX6_put_59 : decode cX6_put 59 = .ok (.iload_n 3, 1) := by decide +kernel
theorem dX6_put_60 : decode cX6_put 60 = .ok (.invokevirtual 267, 3) := by decide +kernel
theorem dX6_put_63 : decode cX6_put 63 = .ok (.iconst 1, 1) := by decide +kernel
theorem dX6_put_64 : decode cX6_put 64 = .ok (.ireturn, 1) := by decide +kernel
theorem dX6_cell_0 : decode cX6_cell 0 = .ok (.aload_n 0, 1) := by decide +kernel
theorem dX6_cell_1 : decode cX6_cell 1 = .ok (.iload_n 1, 1) := by decide +kernel
theorem dX6_cell_2 : decode cX6_cell 2 = .ok (.iload_n 3, 1) := by decide +kernel
theorem dX6_cell_3 : decode cX6_cell 3 = .ok (.iload_n 2, 1) := by decide +kernel
theorem dX6_cell_4 : decode cX6_cell 4 = .ok (.iconst 1, 1) := by decide +kernel
theorem dX6_cell_5 : decode cX6_cell 5 = .ok (.invokevirtual 65, 3) := by decide +kernel
theorem dX6_cell_8 : decode cX6_cell 8 = .ok (.istore 4, 2) := by decide +kernel
theorem dX6_cell_10 : decode cX6_cell 10 = .ok (.iload 4, 2) := by decide +kernel
theorem dX6_cell_12 : decode cX6_cell 12 = .ok (.ifCond .eq 9, 3) := by decide +kernel
theorem dX6_cell_15 : decode cX6_cell 15 = .ok (.ldc2_w 166, 3) := by decide +kernel
theorem dX6_cell_18 : decode cX6_cell 18 = .ok (.goto 15, 3) := by decide +kernel
theorem dX6_cell_21 : decode cX6_cell 21 = .ok (.aload_n 0, 1) := by decide +kernel
theorem dX6_cell_22 : decode cX6_cell 22 = .ok (.getfield 13, 3) := by decide +kernel
theorem dX6_cell_25 : decode cX6_cell 25 = .ok (.iload_n 1, 1) := by decide +kernel
theorem dX6_cell_26 : decode cX6_cell 26 = .ok (.aaload, 1) := by decide +kernel
theorem dX6_cell_27 : decode cX6_cell 27 = .ok (.getfield 178, 3) := by decide +kernel
theorem dX6_cell_30 : decode cX6_cell 30 = .ok (.iload_n 2, 1) := by decide +kernel
theorem dX6_cell_31 : decode cX6_cell 31 = .ok (.iaload, 1) := by decide +kernel
theorem dX6_cell_32 : decode cX6_cell 32 = .ok (.i2l, 1) := by decide +kernel
theorem dX6_cell_33 : decode cX6_cell 33 = .ok (.lreturn, 1) := by decide +kernel
theorem dX6_copy_0 : decode cX6_copy 0 = .ok (.aload_n 0, 1) := by decide +kernel
theorem dX6_copy_1 : decode cX6_copy 1 = .ok (.iconst 0, 1) := by decide +kernel
theorem dX6_copy_2 : decode cX6_copy 2 = .ok (.putfield 246, 3) := by decide +kernel
theorem dX6_copy_5 : decode cX6_copy 5 = .ok (.iload_n 1, 1) := by decide +kernel
theorem dX6_copy_6 : decode cX6_copy 6 = .ok (.invokestatic 249, 3) := by decide +kernel
theorem dX6_copy_9 : decode cX6_copy 9 = .ok (.ifCond .eq 10, 3) := by decide +kernel
theorem dX6_copy_12 : decode cX6_copy 12 = .ok (.iload_n 3, 1) := by decide +kernel
theorem dX6_copy_13 : decode cX6_copy 13 = .ok (.invokestatic 249, 3) := by decide +kernel
theorem dX6_copy_16 : decode cX6_copy 16 = .ok (.ifCond .ne 5, 3) := by decide +kernel
theorem dX6_copy_19 : decode cX6_copy 19 = .ok (.iconst (-1), 1) := by decide +kernel
theorem dX6_copy_20 : decode cX6_copy 20 = .ok (.ireturn, 1) := by decide +kernel
theorem dX6_copy_21 : decode cX6_copy 21 = .ok (.aload_n 0, 1) := by decide +kernel
theorem dX6_copy_22 : decode cX6_copy 22 = .ok (.getfield 13, 3) := by decide +kernel
theorem dX6_copy_25 : decode cX6_copy 25 = .ok (.iload_n 1, 1) := by decide +kernel
theorem dX6_copy_26 : decode cX6_copy 26 = .ok (.aaload, 1) := by decide +kernel
theorem dX6_copy_27 : decode cX6_copy 27 = .ok (.astore 6, 2) := by decide +kernel
theorem dX6_copy_29 : decode cX6_copy 29 = .ok (.aload_n 0, 1) := by decide +kernel
theorem dX6_copy_30 : decode cX6_copy 30 = .ok (.getfield 13, 3) := by decide +kernel
theorem dX6_copy_33 : decode cX6_copy 33 = .ok (.iload_n 3, 1) := by decide +kernel
theorem dX6_copy_34 : decode cX6_copy 34 = .ok (.aaload, 1) := by decide +kernel
theorem dX6_copy_35 : decode cX6_copy 35 = .ok (.astore 7, 2) := by decide +kernel
theorem dX6_copy_37 : decode cX6_copy 37 = .ok (.aload 6, 2) := by decide +kernel
theorem dX6_copy_39 : decode cX6_copy 39 = .ok (.getfield 261, 3) := by decide +kernel
theorem dX6_copy_42 : decode cX6_copy 42 = .ok (.ifCond .eq 11, 3) := by decide +kernel
theorem dX6_copy_45 : decode cX6_copy 45 = .ok (.aload 7, 2) := by decide +kernel
theorem dX6_copy_47 : decode cX6_copy 47 = .ok (.getfield 261, 3) := by decide +kernel
theorem dX6_copy_50 : decode cX6_copy 50 = .ok (.ifCond .ne 9, 3) := by decide +kernel
theorem dX6_copy_53 : decode cX6_copy 53 = .ok (.aload_n 0, 1) := by decide +kernel
theorem dX6_copy_54 : decode cX6_copy 54 = .ok (.iconst 1, 1) := by decide +kernel
theorem dX6_copy_55 : decode cX6_copy 55 = .ok (.invokevirtual 255, 3) := by decide +kernel
theorem dX6_copy_58 : decode cX6_copy 58 = .ok (.ireturn, 1) := by decide +kernel
theorem dX6_copy_59 : decode cX6_copy 59 = .ok (.aload 6, 2) := by decide +kernel
theorem dX6_copy_61 : decode cX6_copy 61 = .ok (.getfield 270, 3) := by decide +kernel
theorem dX6_copy_64 : decode cX6_copy 64 = .ok (.aload 7, 2) := by decide +kernel
theorem dX6_copy_66 : decode cX6_copy 66 = .ok (.getfield 270, 3) := by decide +kernel
theorem dX6_copy_69 : decode cX6_copy 69 = .ok (.if_icmp .eq 9, 3) := by decide +kernel
theorem dX6_copy_72 : decode cX6_copy 72 = .ok (.aload_n 0, 1) := by decide +kernel
theorem dX6_copy_73 : decode cX6_copy 73 = .ok (.iconst 2, 1) := by decide +kernel
theorem dX6_copy_74 : decode cX6_copy 74 = .ok (.invokevirtual 255, 3) := by decide +kernel
theorem dX6_copy_77 : decode cX6_copy 77 = .ok (.ireturn, 1) := by decide +kernel
theorem dX6_copy_78 : decode cX6_copy 78 = .ok (.aload 6, 2) := by decide +kernel
theorem dX6_copy_80 : decode cX6_copy 80 = .ok (.iload_n 2, 1) := by decide +kernel
theorem dX6_copy_81 : decode cX6_copy 81 = .ok (.iload 5, 2) := by decide +kernel
theorem dX6_copy_83 : decode cX6_copy 83 = .ok (.invokevirtual 264, 3) := by decide +kernel
theorem dX6_copy_86 : decode cX6_copy 86 = .ok (.ifCond .eq 15, 3) := by decide +kernel
theorem dX6_copy_89 : decode cX6_copy 89 = .ok (.aload 7, 2) := by decide +kernel
theorem dX6_copy_91 : decode cX6_copy 91 = .ok (.iload 4, 2) := by decide +kernel
theorem dX6_copy_93 : decode cX6_copy 93 = .ok (.iload 5, 2) := by decide +kernel
theorem dX6_copy_95 : decode cX6_copy 95 = .ok (.invokevirtual 264, 3) := by decide +kernel
theorem dX6_copy_98 : decode cX6_copy 98 = .ok (.ifCond .ne 9, 3) := by decide +kernel
theorem dX6_copy_101 : decode cX6_copy 101 = .ok (.aload_n 0, 1) := by decide +kernel
theorem dX6_copy_102 : decode cX6_copy 102 = .ok (.iconst 3, 1) := by decide +kernel
theorem dX6_copy_103 : decode cX6_copy 103 = .ok (.invokevirtual 255, 3) := by decide +kernel
theorem dX6_copy_106 : decode cX6_copy 106 = .ok (.ireturn, 1) := by decide +kernel
theorem dX6_copy_107 : decode cX6_copy 107 = .ok (.aload 6, 2) := by decide +kernel
theorem dX6_copy_109 : decode cX6_copy 109 = .ok (.getfield 178, 3) := by decide +kernel
theorem dX6_copy_112 : decode cX6_copy 112 = .ok (.iload_n 2, 1) := by decide +kernel
theorem dX6_copy_113 : decode cX6_copy 113 = .ok (.aload 7, 2) := by decide +kernel
theorem dX6_copy_115 : decode cX6_copy 115 = .ok (.getfield 178, 3) := by decide +kernel
theorem dX6_copy_118 : decode cX6_copy 118 = .ok (.iload 4, 2) := by decide +kernel
theorem dX6_copy_120 : decode cX6_copy 120 = .ok (.iload 5, 2) := by decide +kernel
theorem dX6_copy_122 : decode cX6_copy 122 = .ok (.invokestatic 273, 3) := by decide +kernel
theorem dX6_copy_125 : decode cX6_copy 125 = .ok (.iload 5, 2) := by decide +kernel
theorem dX6_copy_127 : decode cX6_copy 127 = .ok (.ireturn, 1) := by decide +kernel
theorem dX6_tell_0 : decode cX6_tell 0 = .ok (.aload_n 0, 1) := by decide +kernel
theorem dX6_tell_1 : decode cX6_tell 1 = .ok (.iload_n 1, 1) := by decide +kernel
theorem dX6_tell_2 : decode cX6_tell 2 = .ok (.invokevirtual 102, 3) := by decide +kernel
theorem dX6_tell_5 : decode cX6_tell 5 = .ok (.ifCond .ne 5, 3) := by decide +kernel
theorem dX6_tell_8 : decode cX6_tell 8 = .ok (.iconst (-1), 1) := by decide +kernel
theorem dX6_tell_9 : decode cX6_tell 9 = .ok (.ireturn, 1) := by decide +kernel
theorem dX6_tell_10 : decode cX6_tell 10 = .ok (.aload_n 0, 1) := by decide +kernel
theorem dX6_tell_11 : decode cX6_tell 11 = .ok (.getfield 20, 3) := by decide +kernel
theorem dX6_tell_14 : decode cX6_tell 14 = .ok (.getfield 105, 3) := by decide +kernel
theorem dX6_tell_17 : decode cX6_tell 17 = .ok (.iload_n 1, 1) := by decide +kernel
theorem dX6_tell_18 : decode cX6_tell 18 = .ok (.iaload, 1) := by decide +kernel
theorem dX6_tell_19 : decode cX6_tell 19 = .ok (.lookupswitch 37 #[(1, 31), (2, 25)], 25) := by decide +kernel
theorem dX6_tell_44 : decode cX6_tell 44 = .ok (.aload_n 0, 1) := by decide +kernel
theorem dX6_tell_45 : decode cX6_tell 45 = .ok (.iload_n 1, 1) := by decide +kernel
theorem dX6_tell_46 : decode cX6_tell 46 = .ok (.invokevirtual 279, 3) := by decide +kernel
theorem dX6_tell_49 : decode cX6_tell 49 = .ok (.ireturn, 1) := by decide +kernel
theorem dX6_tell_50 : decode cX6_tell 50 = .ok (.aload_n 0, 1) := by decide +kernel
theorem dX6_tell_51 : decode cX6_tell 51 = .ok (.iload_n 1, 1) := by decide +kernel
theorem dX6_tell_52 : decode cX6_tell 52 = .ok (.invokevirtual 282, 3) := by decide +kernel
theorem dX6_tell_55 : decode cX6_tell 55 = .ok (.ireturn, 1) := by decide +kernel
theorem dX6_tell_56 : decode cX6_tell 56 = .ok (.aload_n 0, 1) := by decide +kernel
theorem dX6_tell_57 : decode cX6_tell 57 = .ok (.iload_n 1, 1) := by decide +kernel
theorem dX6_tell_58 : decode cX6_tell 58 = .ok (.invokevirtual 285, 3) := by decide +kernel
theorem dX6_tell_61 : decode cX6_tell 61 = .ok (.ireturn, 1) := by decide +kernel
theorem dX6_greet_0 : decode cX6_greet 0 = .ok (.aload_n 0, 1) := by decide +kernel
theorem dX6_greet_1 : decode cX6_greet 1 = .ok (.iload_n 1, 1) := by decide +kernel
theorem dX6_greet_2 : decode cX6_greet 2 = .ok (.invokevirtual 102, 3) := by decide +kernel
theorem dX6_greet_5 : decode cX6_greet 5 = .ok (.ifCond .ne 5, 3) := by decide +kernel
theorem dX6_greet_8 : decode cX6_greet 8 = .ok (.iconst (-1), 1) := by decide +kernel
theorem dX6_greet_9 : decode cX6_greet 9 = .ok (.ireturn, 1) := by decide +kernel
theorem dX6_greet_10 : decode cX6_greet 10 = .ok (.aload_n 0, 1) := by decide +kernel
theorem dX6_greet_11 : decode cX6_greet 11 = .ok (.getfield 20, 3) := by decide +kernel
theorem dX6_greet_14 : decode cX6_greet 14 = .ok (.getfield 105, 3) := by decide +kernel
theorem dX6_greet_17 : decode cX6_greet 17 = .ok (.iload_n 1, 1) := by decide +kernel
theorem dX6_greet_18 : decode cX6_greet 18 = .ok (.iaload, 1) := by decide +kernel
theorem dX6_greet_19 : decode cX6_greet 19 = .ok (.iconst 2, 1) := by decide +kernel
theorem dX6_greet_20 : decode cX6_greet 20 = .ok (.if_icmp .ne 11, 3) := by decide +kernel
theorem dX6_greet_23 : decode cX6_greet 23 = .ok (.aload_n 0, 1) := by decide +kernel
theorem dX6_greet_24 : decode cX6_greet 24 = .ok (.iconst 5, 1) := by decide +kernel
theorem dX6_greet_25 : decode cX6_greet 25 = .ok (.invokevirtual 288, 3) := by decide +kernel
theorem dX6_greet_28 : decode cX6_greet 28 = .ok (.bipush 70, 2) := by decide +kernel
theorem dX6_greet_30 : decode cX6_greet 30 = .ok (.ireturn, 1) := by decide +kernel
theorem dX6_greet_31 : decode cX6_greet 31 = .ok (.aload_n 0, 1) := by decide +kernel
theorem dX6_greet_32 : decode cX6_greet 32 = .ok (.iconst 4, 1) := by decide +kernel
theorem dX6_greet_33 : decode cX6_greet 33 = .ok (.invokevirtual 288, 3) := by decide +kernel
theorem dX6_greet_36 : decode cX6_greet 36 = .ok (.iload_n 1, 1) := by decide +kernel
theorem dX6_greet_37 : decode cX6_greet 37 = .ok (.ireturn, 1) := by decide +kernel
theorem dX6_as_0 : decode cX6_as 0 = .ok (.aload_n 0, 1) := by decide +kernel
theorem dX6_as_1 : decode cX6_as 1 = .ok (.iconst 0, 1) := by decide +kernel
theorem dX6_as_2 : decode cX6_as 2 = .ok (.putfield 246, 3) := by decide +kernel
theorem dX6_as_5 : decode cX6_as 5 = .ok (.aload_n 0, 1) := by decide +kernel
theorem dX6_as_6 : decode cX6_as 6 = .ok (.iload_n 1, 1) := by decide +kernel
theorem dX6_as_7 : decode cX6_as 7 = .ok (.invokevirtual 102, 3) := by decide +kernel
theorem dX6_as_10 : decode cX6_as 10 = .ok (.ifCond .ne 5, 3) := by decide +kernel
theorem dX6_as_13 : decode cX6_as 13 = .ok (.iconst (-1), 1) := by decide +kernel
theorem dX6_as_14 : decode cX6_as 14 = .ok (.ireturn, 1) := by decide +kernel
theorem dX6_as_15 : decode cX6_as 15 = .ok (.iload_n 2, 1) := by decide +kernel
theorem dX6_as_16 : decode cX6_as 16 = .ok (.ifCond .lt 8, 3) := by decide +kernel
theorem dX6_as_19 : decode cX6_as 19 = .ok (.iload_n 2, 1) := by decide +kernel
theorem dX6_as_20 : decode cX6_as 20 = .ok (.iconst 2, 1) := by decide +kernel
theorem dX6_as_21 : decode cX6_as 21 = .ok (.if_icmp .le 6, 3) := by decide +kernel
theorem dX6_as_24 : decode cX6_as 24 = .ok (.bipush (-2), 2) := by decide +kernel
theorem dX6_as_26 : decode cX6_as 26 = .ok (.ireturn, 1) := by decide +kernel
theorem dX6_as_27 : decode cX6_as 27 = .ok (.iload_n 2, 1) := by decide +kernel
theorem dX6_as_28 : decode cX6_as 28 = .ok (.aload_n 0, 1) := by decide +kernel
theorem dX6_as_29 : decode cX6_as 29 = .ok (.getfield 20, 3) := by decide +kernel
theorem dX6_as_32 : decode cX6_as 32 = .ok (.getfield 105, 3) := by decide +kernel
theorem dX6_as_35 : decode cX6_as 35 = .ok (.iload_n 1, 1) := by decide +kernel
theorem dX6_as_36 : decode cX6_as 36 = .ok (.iaload, 1) := by decide +kernel
theorem dX6_as_37 : decode cX6_as 37 = .ok (.if_icmp .le 11, 3) := by decide +kernel
theorem dX6_as_40 : decode cX6_as 40 = .ok (.aload_n 0, 1) := by decide +kernel
theorem dX6_as_41 : decode cX6_as 41 = .ok (.iconst 2, 1) := by decide +kernel
theorem dX6_as_42 : decode cX6_as 42 = .ok (.invokevirtual 255, 3) := by decide +kernel
theorem dX6_as_45 : decode cX6_as 45 = .ok (.goto 4, 3) := by decide +kernel
theorem dX6_as_48 : decode cX6_as 48 = .ok (.iconst 1, 1) := by decide +kernel
theorem dX6_as_49 : decode cX6_as 49 = .ok (.ireturn, 1) := by decide +kernel
theorem dX6_trace_0 : decode cX6_trace 0 = .ok (.aload_n 0, 1) := by decide +kernel
theorem dX6_trace_1 : decode cX6_trace 1 = .ok (.getfield 291, 3) := by decide +kernel
theorem dX6_trace_4 : decode cX6_trace 4 = .ok (.ireturn, 1) := by decide +kernel
theorem dX6_fault_0 : decode cX6_fault 0 = .ok (.aload_n 0, 1) := by decide +kernel
theorem dX6_fault_1 : decode cX6_fault 1 = .ok (.getfield 246, 3) := by decide +kernel
theorem dX6_fault_4 : decode cX6_fault 4 = .ok (.ireturn, 1) := by decide +kernel
theorem dX6_many_0 : decode cX6_many 0 = .ok (.iload_n 1, 1) := by decide +kernel
theorem dX6_many_1 : decode cX6_many 1 = .ok (.tableswitch 72 0 4 #[35, 43, 51, 59, 67], 35) := by decide +kernel
theorem dX6_many_36 : decode cX6_many 36 = .ok (.aload_n 0, 1) := by decide +kernel
theorem dX6_many_37 : decode cX6_many 37 = .ok (.getfield 20, 3) := by decide +kernel
theorem dX6_many_40 : decode cX6_many 40 = .ok (.getfield 88, 3) := by decide +kernel
theorem dX6_many_43 : decode cX6_many 43 = .ok (.ireturn, 1) := by decide +kernel
theorem dX6_many_44 : decode cX6_many 44 = .ok (.aload_n 0, 1) := by decide +kernel
theorem dX6_many_45 : decode cX6_many 45 = .ok (.getfield 20, 3) := by decide +kernel
theorem dX6_many_48 : decode cX6_many 48 = .ok (.getfield 235, 3) := by decide +kernel
theorem dX6_many_51 : decode cX6_many 51 = .ok (.ireturn, 1) := by decide +kernel
theorem dX6_many_52 : decode cX6_many 52 = .ok (.aload_n 0, 1) := by decide +kernel
theorem dX6_many_53 : decode cX6_many 53 = .ok (.getfield 30, 3) := by decide +kernel
theorem dX6_many_56 : decode cX6_many 56 = .ok (.getfield 135, 3) := by decide +kernel
theorem dX6_many_59 : decode cX6_many 59 = .ok (.ireturn, 1) := by decide +kernel
theorem dX6_many_60 : decode cX6_many 60 = .ok (.aload_n 0, 1) := by decide +kernel
theorem dX6_many_61 : decode cX6_many 61 = .ok (.getfield 30, 3) := by decide +kernel
theorem dX6_many_64 : decode cX6_many 64 = .ok (.getfield 142, 3) := by decide +kernel
theorem dX6_many_67 : decode cX6_many 67 = .ok (.ireturn, 1) := by decide +kernel
theorem dX6_many_68 : decode cX6_many 68 = .ok (.aload_n 0, 1) := by decide +kernel
theorem dX6_many_69 : decode cX6_many 69 = .ok (.getfield 81, 3) := by decide +kernel
theorem dX6_many_72 : decode cX6_many 72 = .ok (.ireturn, 1) := by decide +kernel
theorem dX6_many_73 : decode cX6_many 73 = .ok (.bipush (-2), 2) := by decide +kernel
theorem dX6_many_75 : decode cX6_many 75 = .ok (.ireturn, 1) := by decide +kernel
theorem dX6_isTable_0 : decode cX6_isTable 0 = .ok (.aload_n 0, 1) := by decide +kernel
theorem dX6_isTable_1 : decode cX6_isTable 1 = .ok (.getfield 20, 3) := by decide +kernel
theorem dX6_isTable_4 : decode cX6_isTable 4 = .ok (.getfield 88, 3) := by decide +kernel
theorem dX6_isTable_7 : decode cX6_isTable 7 = .ok (.ifCond .le 7, 3) := by decide +kernel
theorem dX6_isTable_10 : decode cX6_isTable 10 = .ok (.iconst 1, 1) := by decide +kernel
theorem dX6_isTable_11 : decode cX6_isTable 11 = .ok (.goto 4, 3) := by decide +kernel
theorem dX6_isTable_14 : decode cX6_isTable 14 = .ok (.iconst 0, 1) := by decide +kernel
theorem dX6_isTable_15 : decode cX6_isTable 15 = .ok (.ireturn, 1) := by decide +kernel
theorem dX6_isGuest_0 : decode cX6_isGuest 0 = .ok (.iload_n 1, 1) := by decide +kernel
theorem dX6_isGuest_1 : decode cX6_isGuest 1 = .ok (.ifCond .lt 18, 3) := by decide +kernel
theorem dX6_isGuest_4 : decode cX6_isGuest 4 = .ok (.iload_n 1, 1) := by decide +kernel
theorem dX6_isGuest_5 : decode cX6_isGuest 5 = .ok (.aload_n 0, 1) := by decide +kernel
theorem dX6_isGuest_6 : decode cX6_isGuest 6 = .ok (.getfield 20, 3) := by decide +kernel
theorem dX6_isGuest_9 : decode cX6_isGuest 9 = .ok (.getfield 88, 3) := by decide +kernel
theorem dX6_isGuest_12 : decode cX6_isGuest 12 = .ok (.if_icmp .ge 7, 3) := by decide +kernel
theorem dX6_isGuest_15 : decode cX6_isGuest 15 = .ok (.iconst 1, 1) := by decide +kernel
theorem dX6_isGuest_16 : decode cX6_isGuest 16 = .ok (.goto 4, 3) := by decide +kernel
theorem dX6_isGuest_19 : decode cX6_isGuest 19 = .ok (.iconst 0, 1) := by decide +kernel
theorem dX6_isGuest_20 : decode cX6_isGuest 20 = .ok (.ireturn, 1) := by decide +kernel
theorem dX6_isDish_0 : decode cX6_isDish 0 = .ok (.iload_n 1, 1) := by decide +kernel
theorem dX6_isDish_1 : decode cX6_isDish 1 = .ok (.ifCond .lt 18, 3) := by decide +kernel
theorem dX6_isDish_4 : decode cX6_isDish 4 = .ok (.iload_n 1, 1) := by decide +kernel
theorem dX6_isDish_5 : decode cX6_isDish 5 = .ok (.aload_n 0, 1) := by decide +kernel
theorem dX6_isDish_6 : decode cX6_isDish 6 = .ok (.getfield 20, 3) := by decide +kernel
theorem dX6_isDish_9 : decode cX6_isDish 9 = .ok (.getfield 235, 3) := by decide +kernel
theorem dX6_isDish_12 : decode cX6_isDish 12 = .ok (.if_icmp .ge 7, 3) := by decide +kernel
theorem dX6_isDish_15 : decode cX6_isDish 15 = .ok (.iconst 1, 1) := by decide +kernel
theorem dX6_isDish_16 : decode cX6_isDish 16 = .ok (.goto 4, 3) := by decide +kernel
theorem dX6_isDish_19 : decode cX6_isDish 19 = .ok (.iconst 0, 1) := by decide +kernel
theorem dX6_isDish_20 : decode cX6_isDish 20 = .ok (.ireturn, 1) := by decide +kernel
theorem dX6_isSheet_0 : decode cX6_isSheet 0 = .ok (.iload_n 0, 1) := by decide +kernel
theorem dX6_isSheet_1 : decode cX6_isSheet 1 = .ok (.ifCond .lt 12, 3) := by decide +kernel
theorem dX6_isSheet_4 : decode cX6_isSheet 4 = .ok (.iload_n 0, 1) := by decide +kernel
theorem dX6_isSheet_5 : decode cX6_isSheet 5 = .ok (.iconst 4, 1) := by decide +kernel
theorem dX6_isSheet_6 : decode cX6_isSheet 6 = .ok (.if_icmp .ge 7, 3) := by decide +kernel
theorem dX6_isSheet_9 : decode cX6_isSheet 9 = .ok (.iconst 1, 1) := by decide +kernel
theorem dX6_isSheet_10 : decode cX6_isSheet 10 = .ok (.goto 4, 3) := by decide +kernel
theorem dX6_isSheet_13 : decode cX6_isSheet 13 = .ok (.iconst 0, 1) := by decide +kernel
theorem dX6_isSheet_14 : decode cX6_isSheet 14 = .ok (.ireturn, 1) := by decide +kernel
theorem dX6_isSort_0 : decode cX6_isSort 0 = .ok (.iload_n 0, 1) := by decide +kernel
theorem dX6_isSort_1 : decode cX6_isSort 1 = .ok (.ifCond .lt 12, 3) := by decide +kernel
theorem dX6_isSort_4 : decode cX6_isSort 4 = .ok (.iload_n 0, 1) := by decide +kernel
theorem dX6_isSort_5 : decode cX6_isSort 5 = .ok (.iconst 2, 1) := by decide +kernel
theorem dX6_isSort_6 : decode cX6_isSort 6 = .ok (.if_icmp .gt 7, 3) := by decide +kernel
theorem dX6_isSort_9 : decode cX6_isSort 9 = .ok (.iconst 1, 1) := by decide +kernel
theorem dX6_isSort_10 : decode cX6_isSort 10 = .ok (.goto 4, 3) := by decide +kernel
theorem dX6_isSort_13 : decode cX6_isSort 13 = .ok (.iconst 0, 1) := by decide +kernel
theorem dX6_isSort_14 : decode cX6_isSort 14 = .ok (.ireturn, 1) := by decide +kernel
theorem dX6_isOneOfTwo_0 : decode cX6_isOneOfTwo 0 = .ok (.iload_n 0, 1) := by decide +kernel
theorem dX6_isOneOfTwo_1 : decode cX6_isOneOfTwo 1 = .ok (.ifCond .eq 8, 3) := by decide +kernel
theorem dX6_isOneOfTwo_4 : decode cX6_isOneOfTwo 4 = .ok (.iload_n 0, 1) := by decide +kernel
theorem dX6_isOneOfTwo_5 : decode cX6_isOneOfTwo 5 = .ok (.iconst 1, 1) := by decide +kernel
theorem dX6_isOneOfTwo_6 : decode cX6_isOneOfTwo 6 = .ok (.if_icmp .ne 7, 3) := by decide +kernel
theorem dX6_isOneOfTwo_9 : decode cX6_isOneOfTwo 9 = .ok (.iconst 1, 1) := by decide +kernel
theorem dX6_isOneOfTwo_10 : decode cX6_isOneOfTwo 10 = .ok (.goto 4, 3) := by decide +kernel
theorem dX6_isOneOfTwo_13 : decode cX6_isOneOfTwo 13 = .ok (.iconst 0, 1) := by decide +kernel
theorem dX6_isOneOfTwo_14 : decode cX6_isOneOfTwo 14 = .ok (.ireturn, 1) := by decide +kernel
theorem dX6_faulty_0 : decode cX6_faulty 0 = .ok (.aload_n 0, 1) := by decide +kernel
theorem dX6_faulty_1 : decode cX6_faulty 1 = .ok (.iload_n 1, 1) := by decide +kernel
theorem dX6_faulty_2 : decode cX6_faulty 2 = .ok (.putfield 246, 3) := by decide +kernel
theorem dX6_faulty_5 : decode cX6_faulty 5 = .ok (.bipush (-10), 2) := by decide +kernel
theorem dX6_faulty_7 : decode cX6_faulty 7 = .ok (.iload_n 1, 1) := by decide +kernel
theorem dX6_faulty_8 : decode cX6_faulty 8 = .ok (.isub, 1) := by decide +kernel
theorem dX6_faulty_9 : decode cX6_faulty 9 = .ok (.ireturn, 1) := by decide +kernel
theorem dX6_refusalOfRow_0 : decode cX6_refusalOfRow 0 = .ok (.aload_n 0, 1) := by decide +kernel
theorem dX6_refusalOfRow_1 : decode cX6_refusalOfRow 1 = .ok (.iconst 0, 1) := by decide +kernel
theorem dX6_refusalOfRow_2 : decode cX6_refusalOfRow 2 = .ok (.putfield 246, 3) := by decide +kernel
theorem dX6_refusalOfRow_5 : decode cX6_refusalOfRow 5 = .ok (.iload_n 1, 1) := by decide +kernel
theorem dX6_refusalOfRow_6 : decode cX6_refusalOfRow 6 = .ok (.invokestatic 249, 3) := by decide +kernel
theorem dX6_refusalOfRow_9 : decode cX6_refusalOfRow 9 = .ok (.ifCond .ne 5, 3) := by decide +kernel
theorem dX6_refusalOfRow_12 : decode cX6_refusalOfRow 12 = .ok (.iconst (-1), 1) := by decide +kernel
theorem dX6_refusalOfRow_13 : decode cX6_refusalOfRow 13 = .ok (.ireturn, 1) := by decide +kernel
theorem dX6_refusalOfRow_14 : decode cX6_refusalOfRow 14 = .ok (.iload_n 2, 1) := by decide +kernel
theorem dX6_refusalOfRow_15 : decode cX6_refusalOfRow 15 = .ok (.invokestatic 252, 3) := by decide +kernel
theorem dX6_refusalOfRow_18 : decode cX6_refusalOfRow 18 = .ok (.ifCond .ne 6, 3) := by decide +kernel
theorem dX6_refusalOfRow_21 : decode cX6_refusalOfRow 21 = .ok (.bipush (-2), 2) := by decide +kernel
theorem dX6_refusalOfRow_23 : decode cX6_refusalOfRow 23 = .ok (.ireturn, 1) := by decide +kernel
theorem dX6_refusalOfRow_24 : decode cX6_refusalOfRow 24 = .ok (.aload_n 0, 1) := by decide +kernel
theorem dX6_refusalOfRow_25 : decode cX6_refusalOfRow 25 = .ok (.getfield 13, 3) := by decide +kernel
theorem dX6_refusalOfRow_28 : decode cX6_refusalOfRow 28 = .ok (.iload_n 1, 1) := by decide +kernel
theorem dX6_refusalOfRow_29 : decode cX6_refusalOfRow 29 = .ok (.aaload, 1) := by decide +kernel
theorem dX6_refusalOfRow_30 : decode cX6_refusalOfRow 30 = .ok (.getfield 261, 3) := by decide +kernel
theorem dX6_refusalOfRow_33 : decode cX6_refusalOfRow 33 = .ok (.ifCond .ne 9, 3) := by decide +kernel
theorem dX6_refusalOfRow_36 : decode cX6_refusalOfRow 36 = .ok (.aload_n 0, 1) := by decide +kernel
theorem dX6_refusalOfRow_37 : decode cX6_refusalOfRow 37 = .ok (.iconst 1, 1) := by decide +kernel
theorem dX6_refusalOfRow_38 : decode cX6_refusalOfRow 38 = .ok (.invokevirtual 255, 3) := by decide +kernel
theorem dX6_refusalOfRow_41 : decode cX6_refusalOfRow 41 = .ok (.ireturn, 1) := by decide +kernel
theorem dX6_refusalOfRow_42 : decode cX6_refusalOfRow 42 = .ok (.aload_n 0, 1) := by decide +kernel
theorem dX6_refusalOfRow_43 : decode cX6_refusalOfRow 43 = .ok (.getfield 13, 3) := by decide +kernel
theorem dX6_refusalOfRow_46 : decode cX6_refusalOfRow 46 = .ok (.iload_n 1, 1) := by decide +kernel
theorem dX6_refusalOfRow_47 : decode cX6_refusalOfRow 47 = .ok (.aaload, 1) := by decide +kernel
theorem dX6_refusalOfRow_48 : decode cX6_refusalOfRow 48 = .ok (.getfield 270, 3) := by decide +kernel
theorem dX6_refusalOfRow_51 : decode cX6_refusalOfRow 51 = .ok (.iload_n 2, 1) := by decide +kernel
theorem dX6_refusalOfRow_52 : decode cX6_refusalOfRow 52 = .ok (.if_icmp .eq 9, 3) := by decide +kernel
theorem dX6_refusalOfRow_55 : decode cX6_refusalOfRow 55 = .ok (.aload_n 0, 1) := by decide +kernel
theorem dX6_refusalOfRow_56 : decode cX6_refusalOfRow 56 = .ok (.iconst 2, 1) := by decide +kernel
theorem dX6_refusalOfRow_57 : decode cX6_refusalOfRow 57 = .ok (.invokevirtual 255, 3) := by decide +kernel
theorem dX6_refusalOfRow_60 : decode cX6_refusalOfRow 60 = .ok (.ireturn, 1) := by decide +kernel
theorem dX6_refusalOfRow_61 : decode cX6_refusalOfRow 61 = .ok (.iload 4, 2) := by decide +kernel
theorem dX6_refusalOfRow_63 : decode cX6_refusalOfRow 63 = .ok (.ifCond .ge 9, 3) := by decide +kernel
theorem dX6_refusalOfRow_66 : decode cX6_refusalOfRow 66 = .ok (.aload_n 0, 1) := by decide +kernel
theorem dX6_refusalOfRow_67 : decode cX6_refusalOfRow 67 = .ok (.iconst 4, 1) := by decide +kernel
theorem dX6_refusalOfRow_68 : decode cX6_refusalOfRow 68 = .ok (.invokevirtual 255, 3) := by decide +kernel
theorem dX6_refusalOfRow_71 : decode cX6_refusalOfRow 71 = .ok (.ireturn, 1) := by decide +kernel
theorem dX6_refusalOfRow_72 : decode cX6_refusalOfRow 72 = .ok (.aload_n 0, 1) := by decide +kernel
theorem dX6_refusalOfRow_73 : decode cX6_refusalOfRow 73 = .ok (.getfield 13, 3) := by decide +kernel
theorem dX6_refusalOfRow_76 : decode cX6_refusalOfRow 76 = .ok (.iload_n 1, 1) := by decide +kernel
theorem dX6_refusalOfRow_77 : decode cX6_refusalOfRow 77 = .ok (.aaload, 1) := by decide +kernel
theorem dX6_refusalOfRow_78 : decode cX6_refusalOfRow 78 = .ok (.iload_n 3, 1) := by decide +kernel
theorem dX6_refusalOfRow_79 : decode cX6_refusalOfRow 79 = .ok (.iload 4, 2) := by decide +kernel
theorem dX6_refusalOfRow_81 : decode cX6_refusalOfRow 81 = .ok (.invokevirtual 264, 3) := by decide +kernel
theorem dX6_refusalOfRow_84 : decode cX6_refusalOfRow 84 = .ok (.ifCond .eq 7, 3) := by decide +kernel
theorem dX6_refusalOfRow_87 : decode cX6_refusalOfRow 87 = .ok (.iconst 0, 1) := by decide +kernel
theorem dX6_refusalOfRow_88 : decode cX6_refusalOfRow 88 = .ok (.goto 8, 3) := by decide +kernel
theorem dX6_refusalOfRow_91 : decode cX6_refusalOfRow 91 = .ok (.aload_n 0, 1) := by decide +kernel
theorem dX6_refusalOfRow_92 : decode cX6_refusalOfRow 92 = .ok (.iconst 3, 1) := by decide +kernel
theorem dX6_refusalOfRow_93 : decode cX6_refusalOfRow 93 = .ok (.invokevirtual 255, 3) := by decide +kernel
theorem dX6_refusalOfRow_96 : decode cX6_refusalOfRow 96 = .ok (.ireturn, 1) := by decide +kernel
theorem dX6_unsettle_0 : decode cX6_unsettle 0 = .ok (.aload_n 0, 1) := by decide +kernel
theorem dX6_unsettle_1 : decode cX6_unsettle 1 = .ok (.getfield 53, 3) := by decide +kernel
theorem dX6_unsettle_4 : decode cX6_unsettle 4 = .ok (.iconst 0, 1) := by decide +kernel
theorem dX6_unsettle_5 : decode cX6_unsettle 5 = .ok (.putfield 185, 3) := by decide +kernel
theorem dX6_unsettle_8 : decode cX6_unsettle 8 = .ok (.aload_n 0, 1) := by decide +kernel
theorem dX6_unsettle_9 : decode cX6_unsettle 9 = .ok (.getfield 60, 3) := by decide +kernel
theorem dX6_unsettle_12 : decode cX6_unsettle 12 = .ok (.iconst 0, 1) := by decide +kernel
theorem dX6_unsettle_13 : decode cX6_unsettle 13 = .ok (.putfield 197, 3) := by decide +kernel
theorem dX6_unsettle_16 : decode cX6_unsettle 16 = .ok (.return_, 1) := by decide +kernel
theorem dX6_tryEvening_0 : decode cX6_tryEvening 0 = .ok (.aload_n 0, 1) := by decide +kernel
theorem dX6_tryEvening_1 : decode cX6_tryEvening 1 = .ok (.getfield 34, 3) := by decide +kernel
theorem dX6_tryEvening_4 : decode cX6_tryEvening 4 = .ok (.aload_n 0, 1) := by decide +kernel
theorem dX6_tryEvening_5 : decode cX6_tryEvening 5 = .ok (.getfield 30, 3) := by decide +kernel
theorem dX6_tryEvening_8 : decode cX6_tryEvening 8 = .ok (.invokevirtual 198, 3) := by decide +kernel
theorem dX6_tryEvening_11 : decode cX6_tryEvening 11 = .ok (.aload_n 0, 1) := by decide +kernel
theorem dX6_tryEvening_12 : decode cX6_tryEvening 12 = .ok (.getfield 34, 3) := by decide +kernel
theorem dX6_tryEvening_15 : decode cX6_tryEvening 15 = .ok (.invokevirtual 145, 3) := by decide +kernel
theorem dX6_tryEvening_18 : decode cX6_tryEvening 18 = .ok (.return_, 1) := by decide +kernel
theorem dX6_walkOn_0 : decode cX6_walkOn 0 = .ok (.aload_n 0, 1) := by decide +kernel
theorem dX6_walkOn_1 : decode cX6_walkOn 1 = .ok (.getfield 34, 3) := by decide +kernel
theorem dX6_walkOn_4 : decode cX6_walkOn 4 = .ok (.aload_n 0, 1) := by decide +kernel
theorem dX6_walkOn_5 : decode cX6_walkOn 5 = .ok (.getfield 30, 3) := by decide +kernel
theorem dX6_walkOn_8 : decode cX6_walkOn 8 = .ok (.invokevirtual 198, 3) := by decide +kernel
theorem dX6_walkOn_11 : decode cX6_walkOn 11 = .ok (.aload_n 0, 1) := by decide +kernel
theorem dX6_walkOn_12 : decode cX6_walkOn 12 = .ok (.getfield 43, 3) := by decide +kernel
theorem dX6_walkOn_15 : decode cX6_walkOn 15 = .ok (.aload_n 0, 1) := by decide +kernel
theorem dX6_walkOn_16 : decode cX6_walkOn 16 = .ok (.getfield 34, 3) := by decide +kernel
theorem dX6_walkOn_19 : decode cX6_walkOn 19 = .ok (.invokevirtual 219, 3) := by decide +kernel
theorem dX6_walkOn_22 : decode cX6_walkOn 22 = .ok (.return_, 1) := by decide +kernel
theorem dX6_isGladderOtherwise_0 : decode cX6_isGladderOtherwise 0 = .ok (.aload_n 0, 1) := by decide +kernel
theorem dX6_isGladderOtherwise_1 : decode cX6_isGladderOtherwise 1 = .ok (.getfield 47, 3) := by decide +kernel
theorem dX6_isGladderOtherwise_4 : decode cX6_isGladderOtherwise 4 = .ok (.getfield 217, 3) := by decide +kernel
theorem dX6_isGladderOtherwise_7 : decode cX6_isGladderOtherwise 7 = .ok (.iload_n 1, 1) := by decide +kernel
theorem dX6_isGladderOtherwise_8 : decode cX6_isGladderOtherwise 8 = .ok (.iaload, 1) := by decide +kernel
theorem dX6_isGladderOtherwise_9 : decode cX6_isGladderOtherwise 9 = .ok (.i2l, 1) := by decide +kernel
theorem dX6_isGladderOtherwise_10 : decode cX6_isGladderOtherwise 10 = .ok (.aload_n 0, 1) := by decide +kernel
theorem dX6_isGladderOtherwise_11 : decode cX6_isGladderOtherwise 11 = .ok (.getfield 43, 3) := by decide +kernel
theorem dX6_isGladderOtherwise_14 : decode cX6_isGladderOtherwise 14 = .ok (.getfield 214, 3) := by decide +kernel
theorem dX6_isGladderOtherwise_17 : decode cX6_isGladderOtherwise 17 = .ok (.i2l, 1) := by decide +kernel
theorem dX6_isGladderOtherwise_18 : decode cX6_isGladderOtherwise 18 = .ok (.lmul, 1) := by decide +kernel
theorem dX6_isGladderOtherwise_19 : decode cX6_isGladderOtherwise 19 = .ok (.aload_n 0, 1) := by decide +kernel
theorem dX6_isGladderOtherwise_20 : decode cX6_isGladderOtherwise 20 = .ok (.getfield 43, 3) := by decide +kernel
theorem dX6_isGladderOtherwise_23 : decode cX6_isGladderOtherwise 23 = .ok (.getfield 217, 3) := by decide +kernel
theorem dX6_isGladderOtherwise_26 : decode cX6_isGladderOtherwise 26 = .ok (.iload_n 1, 1) := by decide +kernel
theorem dX6_isGladderOtherwise_27 : decode cX6_isGladderOtherwise 27 = .ok (.iaload, 1) := by decide +kernel
theorem dX6_isGladderOtherwise_28 : decode cX6_isGladderOtherwise 28 = .ok (.i2l, 1) := by decide +kernel
theorem dX6_isGladderOtherwise_29 : decode cX6_isGladderOtherwise 29 = .ok (.aload_n 0, 1) := by decide +kernel
theorem dX6_isGladderOtherwise_30 : decode cX6_isGladderOtherwise 30 = .ok (.getfield 47, 3) := by decide +kernel
theorem dX6_isGladderOtherwise_33 : decode cX6_isGladderOtherwise 33 = .ok (.getfield 214, 3) := by decide +kernel
theorem dX6_isGladderOtherwise_36 : decode cX6_isGladderOtherwise 36 = .ok (.i2l, 1) := by decide +kernel
theorem dX6_isGladderOtherwise_37 : decode cX6_isGladderOtherwise 37 = .ok (.lmul, 1) := by decide +kernel
theorem dX6_isGladderOtherwise_38 : decode cX6_isGladderOtherwise 38 = .ok (.lcmp, 1) := by decide +kernel
theorem dX6_isGladderOtherwise_39 : decode cX6_isGladderOtherwise 39 = .ok (.ifCond .le 7, 3) := by decide +kernel
theorem dX6_isGladderOtherwise_42 : decode cX6_isGladderOtherwise 42 = .ok (.iconst 1, 1) := by decide +kernel
theorem dX6_isGladderOtherwise_43 : decode cX6_isGladderOtherwise 43 = .ok (.goto 4, 3) := by decide +kernel
theorem dX6_isGladderOtherwise_46 : decode cX6_isGladderOtherwise 46 = .ok (.iconst 0, 1) := by decide +kernel
theorem dX6_isGladderOtherwise_47 : decode cX6_isGladderOtherwise 47 = .ok (.ireturn, 1) := by decide +kernel
theorem dX6_firstWorse_0 : decode cX6_firstWorse 0 = .ok (.iconst 0, 1) := by decide +kernel
theorem dX6_firstWorse_1 : decode cX6_firstWorse 1 = .ok (.istore_n 3, 1) := by decide +kernel
theorem dX6_firstWorse_2 : decode cX6_firstWorse 2 = .ok (.iload_n 3, 1) := by decide +kernel
theorem dX6_firstWorse_3 : decode cX6_firstWorse 3 = .ok (.aload_n 0, 1) := by decide +kernel
theorem dX6_firstWorse_4 : decode cX6_firstWorse 4 = .ok (.getfield 30, 3) := by decide +kernel
theorem dX6_firstWorse_7 : decode cX6_firstWorse 7 = .ok (.getfield 142, 3) := by decide +kernel
theorem dX6_firstWorse_10 : decode cX6_firstWorse 10 = .ok (.if_icmp .ge 62, 3) := by decide +kernel
theorem dX6_firstWorse_13 : decode cX6_firstWorse 13 = .ok (.aload_n 0, 1) := by decide +kernel
theorem dX6_firstWorse_14 : decode cX6_firstWorse 14 = .ok (.getfield 20, 3) := by decide +kernel
theorem dX6_firstWorse_17 : decode cX6_firstWorse 17 = .ok (.iload_n 1, 1) := by decide +kernel
theorem dX6_firstWorse_18 : decode cX6_firstWorse 18 = .ok (.aload_n 0, 1) := by decide +kernel
theorem dX6_firstWorse_19 : decode cX6_firstWorse 19 = .ok (.getfield 37, 3) := by decide +kernel
theorem dX6_firstWorse_22 : decode cX6_firstWorse 22 = .ok (.getfield 157, 3) := by decide +kernel
theorem dX6_firstWorse_25 : decode cX6_firstWorse 25 = .ok (.iload_n 3, 1) := by decide +kernel
theorem dX6_firstWorse_26 : decode cX6_firstWorse 26 = .ok (.aaload, 1) := by decide +kernel
theorem dX6_firstWorse_27 : decode cX6_firstWorse 27 = .ok (.iload_n 1, 1) := by decide +kernel
theorem dX6_firstWorse_28 : decode cX6_firstWorse 28 = .ok (.iaload, 1) := by decide +kernel
theorem dX6_firstWorse_29 : decode cX6_firstWorse 29 = .ok (.invokevirtual 294, 3) := by decide +kernel
theorem dX6_firstWorse_32 : decode cX6_firstWorse 32 = .ok (.aload_n 0, 1) := by decide +kernel
theorem dX6_firstWorse_33 : decode cX6_firstWorse 33 = .ok (.getfield 20, 3) := by decide +kernel
theorem dX6_firstWorse_36 : decode cX6_firstWorse 36 = .ok (.iload_n 1, 1) := by decide +kernel
theorem dX6_firstWorse_37 : decode cX6_firstWorse 37 = .ok (.aload_n 0, 1) := by decide +kernel
theorem dX6_firstWorse_38 : decode cX6_firstWorse 38 = .ok (.getfield 34, 3) := by decide +kernel
theorem dX6_firstWorse_41 : decode cX6_firstWorse 41 = .ok (.getfield 157, 3) := by decide +kernel
theorem dX6_firstWorse_44 : decode cX6_firstWorse 44 = .ok (.iload_n 3, 1) := by decide +kernel
theorem dX6_firstWorse_45 : decode cX6_firstWorse 45 = .ok (.aaload, 1) := by decide +kernel
theorem dX6_firstWorse_46 : decode cX6_firstWorse 46 = .ok (.iload_n 1, 1) := by decide +kernel
theorem dX6_firstWorse_47 : decode cX6_firstWorse 47 = .ok (.iaload, 1) := by decide +kernel
theorem dX6_firstWorse_48 : decode cX6_firstWorse 48 = .ok (.invokevirtual 294, 3) := by decide +kernel
theorem dX6_firstWorse_51 : decode cX6_firstWorse 51 = .ok (.if_icmp .ge 15, 3) := by decide +kernel
theorem dX6_firstWorse_54 : decode cX6_firstWorse 54 = .ok (.iload_n 2, 1) := by decide +kernel
theorem dX6_firstWorse_55 : decode cX6_firstWorse 55 = .ok (.aload_n 0, 1) := by decide +kernel
theorem dX6_firstWorse_56 : decode cX6_firstWorse 56 = .ok (.getfield 30, 3) := by decide +kernel
theorem dX6_firstWorse_59 : decode cX6_firstWorse 59 = .ok (.getfield 142, 3) := by decide +kernel
theorem dX6_firstWorse_62 : decode cX6_firstWorse 62 = .ok (.imul, 1) := by decide +kernel
theorem dX6_firstWorse_63 : decode cX6_firstWorse 63 = .ok (.iload_n 3, 1) := by decide +kernel
theorem dX6_firstWorse_64 : decode cX6_firstWorse 64 = .ok (.iadd, 1) := by decide +kernel
theorem dX6_firstWorse_65 : decode cX6_firstWorse 65 = .ok (.ireturn, 1) := by decide +kernel
theorem dX6_firstWorse_66 : decode cX6_firstWorse 66 = .ok (.iinc 3 1, 3) := by decide +kernel
theorem dX6_firstWorse_69 : decode cX6_firstWorse 69 = .ok (.goto (-67), 3) := by decide +kernel
theorem dX6_firstWorse_72 : decode cX6_firstWorse 72 = .ok (.bipush (-9), 2) := by decide +kernel
theorem dX6_firstWorse_74 : decode cX6_firstWorse 74 = .ok (.ireturn, 1) := by decide +kernel
theorem dX6_firstThatCannotBe_0 : decode cX6_firstThatCannotBe 0 = .ok (.aload_n 0, 1) := by decide +kernel
theorem dX6_firstThatCannotBe_1 : decode cX6_firstThatCannotBe 1 = .ok (.getfield 34, 3) := by decide +kernel
theorem dX6_firstThatCannotBe_4 : decode cX6_firstThatCannotBe 4 = .ok (.aload_n 0, 1) := by decide +kernel
theorem dX6_firstThatCannotBe_5 : decode cX6_firstThatCannotBe 5 = .ok (.getfield 30, 3) := by decide +kernel
theorem dX6_firstThatCannotBe_8 : decode cX6_firstThatCannotBe 8 = .ok (.invokevirtual 198, 3) := by decide +kernel
theorem dX6_firstThatCannotBe_11 : decode cX6_firstThatCannotBe 11 = .ok (.aload_n 0, 1) := by decide +kernel
theorem dX6_firstThatCannotBe_12 : decode cX6_firstThatCannotBe 12 = .ok (.getfield 34, 3) := by decide +kernel
theorem dX6_firstThatCannotBe_15 : decode cX6_firstThatCannotBe 15 = .ok (.invokevirtual 297, 3) := by decide +kernel
theorem dX6_firstThatCannotBe_18 : decode cX6_firstThatCannotBe 18 = .ok (.iconst 0, 1) := by decide +kernel
theorem dX6_firstThatCannotBe_19 : decode cX6_firstThatCannotBe 19 = .ok (.istore 4, 2) := by decide +kernel
theorem dX6_firstThatCannotBe_21 : decode cX6_firstThatCannotBe 21 = .ok (.iload 4, 2) := by decide +kernel
theorem dX6_firstThatCannotBe_23 : decode cX6_firstThatCannotBe 23 = .ok (.iload_n 3, 1) := by decide +kernel
theorem dX6_firstThatCannotBe_24 : decode cX6_firstThatCannotBe 24 = .ok (.if_icmp .ge 96, 3) := by decide +kernel
theorem dX6_firstThatCannotBe_27 : decode cX6_firstThatCannotBe 27 = .ok (.aload_n 1, 1) := by decide +kernel
theorem dX6_firstThatCannotBe_28 : decode cX6_firstThatCannotBe 28 = .ok (.iload_n 2, 1) := by decide +kernel
theorem dX6_firstThatCannotBe_29 : decode cX6_firstThatCannotBe 29 = .ok (.iload 4, 2) := by decide +kernel
theorem dX6_firstThatCannotBe_31 : decode cX6_firstThatCannotBe 31 = .ok (.iadd, 1) := by decide +kernel
theorem dX6_firstThatCannotBe_32 : decode cX6_firstThatCannotBe 32 = .ok (.iaload, 1) := by decide +kernel
theorem dX6_firstThatCannotBe_33 : decode cX6_firstThatCannotBe 33 = .ok (.istore 5, 2) := by decide +kernel
theorem dX6_firstThatCannotBe_35 : decode cX6_firstThatCannotBe 35 = .ok (.aload_n 0, 1) := by decide +kernel
theorem dX6_firstThatCannotBe_36 : decode cX6_firstThatCannotBe 36 = .ok (.getfield 34, 3) := by decide +kernel
theorem dX6_firstThatCannotBe_39 : decode cX6_firstThatCannotBe 39 = .ok (.iload 4, 2) := by decide +kernel
theorem dX6_firstThatCannotBe_41 : decode cX6_firstThatCannotBe 41 = .ok (.aload_n 0, 1) := by decide +kernel
theorem dX6_firstThatCannotBe_42 : decode cX6_firstThatCannotBe 42 = .ok (.getfield 20, 3) := by decide +kernel
theorem dX6_firstThatCannotBe_45 : decode cX6_firstThatCannotBe 45 = .ok (.getfield 88, 3) := by decide +kernel
theorem dX6_firstThatCannotBe_48 : decode cX6_firstThatCannotBe 48 = .ok (.irem, 1) := by decide +kernel
theorem dX6_firstThatCannotBe_49 : decode cX6_firstThatCannotBe 49 = .ok (.invokevirtual 300, 3) := by decide +kernel
theorem dX6_firstThatCannotBe_52 : decode cX6_firstThatCannotBe 52 = .ok (.istore 6, 2) := by decide +kernel
theorem dX6_firstThatCannotBe_54 : decode cX6_firstThatCannotBe 54 = .ok (.iload 5, 2) := by decide +kernel
theorem dX6_firstThatCannotBe_56 : decode cX6_firstThatCannotBe 56 = .ok (.bipush (-9), 2) := by decide +kernel
theorem dX6_firstThatCannotBe_58 : decode cX6_firstThatCannotBe 58 = .ok (.if_icmp .ne 18, 3) := by decide +kernel
theorem dX6_firstThatCannotBe_61 : decode cX6_firstThatCannotBe 61 = .ok (.aload_n 0, 1) := by decide +kernel
theorem dX6_firstThatCannotBe_62 : decode cX6_firstThatCannotBe 62 = .ok (.getfield 34, 3) := by decide +kernel
theorem dX6_firstThatCannotBe_65 : decode cX6_firstThatCannotBe 65 = .ok (.iload 6, 2) := by decide +kernel
theorem dX6_firstThatCannotBe_67 : decode cX6_firstThatCannotBe 67 = .ok (.invokevirtual 303, 3) := by decide +kernel
theorem dX6_firstThatCannotBe_70 : decode cX6_firstThatCannotBe 70 = .ok (.ifCond .eq 23, 3) := by decide +kernel
theorem dX6_firstThatCannotBe_73 : decode cX6_firstThatCannotBe 73 = .ok (.goto 17, 3) := by decide +kernel
theorem dX6_firstThatCannotBe_76 : decode cX6_firstThatCannotBe 76 = .ok (.aload_n 0, 1) := by decide +kernel
theorem dX6_firstThatCannotBe_77 : decode cX6_firstThatCannotBe 77 = .ok (.getfield 34, 3) := by decide +kernel
theorem dX6_firstThatCannotBe_80 : decode cX6_firstThatCannotBe 80 = .ok (.iload 6, 2) := by decide +kernel
theorem dX6_firstThatCannotBe_82 : decode cX6_firstThatCannotBe 82 = .ok (.iload 5, 2) := by decide +kernel
theorem dX6_firstThatCannotBe_84 : decode cX6_firstThatCannotBe 84 = .ok (.invokevirtual 306, 3) := by decide +kernel
theorem dX6_firstThatCannotBe_87 : decode cX6_firstThatCannotBe 87 = .ok (.ifCond .ne 6, 3) := by decide +kernel
theorem dX6_firstThatCannotBe_90 : decode cX6_firstThatCannotBe 90 = .ok (.iload 4, 2) := by decide +kernel
theorem dX6_firstThatCannotBe_92 : decode cX6_firstThatCannotBe 92 = .ok (.ireturn, 1) := by decide +kernel
theorem dX6_firstThatCannotBe_93 : decode cX6_firstThatCannotBe 93 = .ok (.iload 5, 2) := by decide +kernel
theorem dX6_firstThatCannotBe_95 : decode cX6_firstThatCannotBe 95 = .ok (.bipush (-9), 2) := by decide +kernel
theorem dX6_firstThatCannotBe_97 : decode cX6_firstThatCannotBe 97 = .ok (.if_icmp .eq 17, 3) := by decide +kernel
theorem dX6_firstThatCannotBe_100 : decode cX6_firstThatCannotBe 100 = .ok (.aload_n 0, 1) := by decide +kernel
theorem dX6_firstThatCannotBe_101 : decode cX6_firstThatCannotBe 101 = .ok (.getfield 34, 3) := by decide +kernel
theorem dX6_firstThatCannotBe_104 : decode cX6_firstThatCannotBe 104 = .ok (.getfield 309, 3) := by decide +kernel
theorem dX6_firstThatCannotBe_107 : decode cX6_firstThatCannotBe 107 = .ok (.iload 5, 2) := by decide +kernel
theorem dX6_firstThatCannotBe_109 : decode cX6_firstThatCannotBe 109 = .ok (.dup2, 1) := by decide +kernel
theorem dX6_firstThatCannotBe_110 : decode cX6_firstThatCannotBe 110 = .ok (.iaload, 1) := by decide +kernel
theorem dX6_firstThatCannotBe_111 : decode cX6_firstThatCannotBe 111 = .ok (.iconst 1, 1) := by decide +kernel
theorem dX6_firstThatCannotBe_112 : decode cX6_firstThatCannotBe 112 = .ok (.isub, 1) := by decide +kernel
theorem dX6_firstThatCannotBe_113 : decode cX6_firstThatCannotBe 113 = .ok (.iastore, 1) := by decide +kernel
theorem dX6_firstThatCannotBe_114 : decode cX6_firstThatCannotBe 114 = .ok (.iinc 4 1, 3) := by decide +kernel
theorem dX6_firstThatCannotBe_117 : decode cX6_firstThatCannotBe 117 = .ok (.goto (-96), 3) := by decide +kernel
theorem dX6_firstThatCannotBe_120 : decode cX6_firstThatCannotBe 120 = .ok (.bipush (-9), 2) := by decide +kernel
theorem dX6_firstThatCannotBe_122 : decode cX6_firstThatCannotBe 122 = .ok (.ireturn, 1) := by decide +kernel
theorem dX6_share_0 : decode cX6_share 0 = .ok (.iconst 1, 1) := by decide +kernel
theorem dX6_share_1 : decode cX6_share 1 = .ok (.istore_n 3, 1) := by decide +kernel
theorem dX6_share_2 : decode cX6_share 2 = .ok (.iload_n 1, 1) := by decide +kernel
theorem dX6_share_3 : decode cX6_share 3 = .ok (.istore 4, 2) := by decide +kernel
theorem dX6_share_5 : decode cX6_share 5 = .ok (.iload 4, 2) := by decide +kernel
theorem dX6_share_7 : decode cX6_share 7 = .ok (.iconst 1, 1) := by decide +kernel
theorem dX6_share_8 : decode cX6_share 8 = .ok (.if_icmp .le 31, 3) := by decide +kernel
theorem dX6_share_11 : decode cX6_share 11 = .ok (.iload_n 3, 1) := by decide +kernel
theorem dX6_share_12 : decode cX6_share 12 = .ok (.iconst 1, 1) := by decide +kernel
theorem dX6_share_13 : decode cX6_share 13 = .ok (.if_icmp .ne 26, 3) := by decide +kernel
theorem dX6_share_16 : decode cX6_share 16 = .ok (.iload_n 0, 1) := by decide +kernel
theorem dX6_share_17 : decode cX6_share 17 = .ok (.iload 4, 2) := by decide +kernel
theorem dX6_share_19 : decode cX6_share 19 = .ok (.irem, 1) := by decide +kernel
theorem dX6_share_20 : decode cX6_share 20 = .ok (.ifCond .ne 13, 3) := by decide +kernel
theorem dX6_share_23 : decode cX6_share 23 = .ok (.iload_n 1, 1) := by decide +kernel
theorem dX6_share_24 : decode cX6_share 24 = .ok (.iload 4, 2) := by decide +kernel
theorem dX6_share_26 : decode cX6_share 26 = .ok (.irem, 1) := by decide +kernel
theorem dX6_share_27 : decode cX6_share 27 = .ok (.ifCond .ne 6, 3) := by decide +kernel
theorem dX6_share_30 : decode cX6_share 30 = .ok (.iload 4, 2) := by decide +kernel
theorem dX6_share_32 : decode cX6_share 32 = .ok (.istore_n 3, 1) := by decide +kernel
theorem dX6_share_33 : decode cX6_share 33 = .ok (.iinc 4 (-1), 3) := by decide +kernel
theorem dX6_share_36 : decode cX6_share 36 = .ok (.goto (-31), 3) := by decide +kernel
theorem dX6_share_39 : decode cX6_share 39 = .ok (.iload_n 2, 1) := by decide +kernel
theorem dX6_share_40 : decode cX6_share 40 = .ok (.ifCond .ne 10, 3) := by decide +kernel
theorem dX6_share_43 : decode cX6_share 43 = .ok (.iload_n 0, 1) := by decide +kernel
theorem dX6_share_44 : decode cX6_share 44 = .ok (.iload_n 3, 1) := by decide +kernel
theorem dX6_share_45 : decode cX6_share 45 = .ok (.idiv, 1) := by decide +kernel
theorem dX6_share_46 : decode cX6_share 46 = .ok (.i2l, 1) := by decide +kernel
theorem dX6_share_47 : decode cX6_share 47 = .ok (.goto 7, 3) := by decide +kernel
theorem dX6_share_50 : decode cX6_share 50 = .ok (.iload_n 1, 1) := by decide +kernel
theorem dX6_share_51 : decode cX6_share 51 = .ok (.iload_n 3, 1) := by decide +kernel
theorem dX6_share_52 : decode cX6_share 52 = .ok (.idiv, 1) := by decide +kernel
theorem dX6_share_53 : decode cX6_share 53 = .ok (.i2l, 1) := by decide +kernel
theorem dX6_share_54 : decode cX6_share 54 = .ok (.lreturn, 1) := by decide +kernel
theorem dX6_leaveNumber_0 : decode cX6_leaveNumber 0 = .ok (.aload_n 0, 1) := by decide +kernel
theorem dX6_leaveNumber_1 : decode cX6_leaveNumber 1 = .ok (.bipush 31, 2) := by decide +kernel
theorem dX6_leaveNumber_3 : decode cX6_leaveNumber 3 = .ok (.aload_n 0, 1) := by decide +kernel
theorem dX6_leaveNumber_4 : decode cX6_leaveNumber 4 = .ok (.getfield 291, 3) := by decide +kernel
theorem dX6_leaveNumber_7 : decode cX6_leaveNumber 7 = .ok (.imul, 1) := by decide +kernel
theorem dX6_leaveNumber_8 : decode cX6_leaveNumber 8 = .ok (.iload_n 1, 1) := by decide +kernel
theorem dX6_leaveNumber_9 : decode cX6_leaveNumber 9 = .ok (.iadd, 1) := by decide +kernel
theorem dX6_leaveNumber_10 : decode cX6_leaveNumber 10 = .ok (.putfield 291, 3) := by decide +kernel
theorem dX6_leaveNumber_13 : decode cX6_leaveNumber 13 = .ok (.return_, 1) := by decide +kernel
theorem dX6_kindTells_0 : decode cX6_kindTells 0 = .ok (.aload_n 0, 1) := by decide +kernel
theorem dX6_kindTells_1 : decode cX6_kindTells 1 = .ok (.iconst 1, 1) := by decide +kernel
theorem dX6_kindTells_2 : decode cX6_kindTells 2 = .ok (.invokevirtual 288, 3) := by decide +kernel
theorem dX6_kindTells_5 : decode cX6_kindTells 5 = .ok (.aload_n 0, 1) := by decide +kernel
theorem dX6_kindTells_6 : decode cX6_kindTells 6 = .ok (.getfield 20, 3) := by decide +kernel
theorem dX6_kindTells_9 : decode cX6_kindTells 9 = .ok (.getfield 108, 3) := by decide +kernel
theorem dX6_kindTells_12 : decode cX6_kindTells 12 = .ok (.iload_n 1, 1) := by decide +kernel
theorem dX6_kindTells_13 : decode cX6_kindTells 13 = .ok (.iaload, 1) := by decide +kernel
theorem dX6_kindTells_14 : decode cX6_kindTells 14 = .ok (.ireturn, 1) := by decide +kernel
theorem dX6_cheapTells_0 : decode cX6_cheapTells 0 = .ok (.aload_n 0, 1) := by decide +kernel
theorem dX6_cheapTells_1 : decode cX6_cheapTells 1 = .ok (.iconst 2, 1) := by decide +kernel
theorem dX6_cheapTells_2 : decode cX6_cheapTells 2 = .ok (.invokevirtual 288, 3) := by decide +kernel
theorem dX6_cheapTells_5 : decode cX6_cheapTells 5 = .ok (.aload_n 0, 1) := by decide +kernel
theorem dX6_cheapTells_6 : decode cX6_cheapTells 6 = .ok (.iload_n 1, 1) := by decide +kernel
theorem dX6_cheapTells_7 : decode cX6_cheapTells 7 = .ok (.invokevirtual 285, 3) := by decide +kernel
theorem dX6_cheapTells_10 : decode cX6_cheapTells 10 = .ok (.bipush 100, 2) := by decide +kernel
theorem dX6_cheapTells_12 : decode cX6_cheapTells 12 = .ok (.iadd, 1) := by decide +kernel
theorem dX6_cheapTells_13 : decode cX6_cheapTells 13 = .ok (.ireturn, 1) := by decide +kernel
theorem dX6_payerTells_0 : decode cX6_payerTells 0 = .ok (.aload_n 0, 1) := by decide +kernel
theorem dX6_payerTells_1 : decode cX6_payerTells 1 = .ok (.iconst 3, 1) := by decide +kernel
theorem dX6_payerTells_2 : decode cX6_payerTells 2 = .ok (.invokevirtual 288, 3) := by decide +kernel
theorem dX6_payerTells_5 : decode cX6_payerTells 5 = .ok (.aload_n 0, 1) := by decide +kernel
theorem dX6_payerTells_6 : decode cX6_payerTells 6 = .ok (.iload_n 1, 1) := by decide +kernel
theorem dX6_payerTells_7 : decode cX6_payerTells 7 = .ok (.invokevirtual 282, 3) := by decide +kernel
theorem dX6_payerTells_10 : decode cX6_payerTells 10 = .ok (.istore_n 2, 1) := by decide +kernel
theorem dX6_payerTells_11 : decode cX6_payerTells 11 = .ok (.iload_n 2, 1) := by decide +kernel
theorem dX6_payerTells_12 : decode cX6_payerTells 12 = .ok (.aload_n 0, 1) := by decide +kernel
theorem dX6_payerTells_13 : decode cX6_payerTells 13 = .ok (.iload_n 1, 1) := by decide +kernel
theorem dX6_payerTells_14 : decode cX6_payerTells 14 = .ok (.invokevirtual 285, 3) := by decide +kernel
theorem dX6_payerTells_17 : decode cX6_payerTells 17 = .ok (.iadd, 1) := by decide +kernel
theorem dX6_payerTells_18 : decode cX6_payerTells 18 = .ok (.ireturn, 1) := by decide +kernel
end
section
theorem dX7_init_0 : decode cX7_init 0 = .ok (.aload_n 0, 1) := by decide +kernel
theorem dX7_init_1 : decode cX7_init 1 = .ok (.invokespecial 1, 3) := by decide +kernel
theorem dX7_init_4 : decode cX7_init 4 = .ok (.aload_n 0, 1) := by decide +kernel
theorem dX7_init_5 : decode cX7_init 5 = .ok (.iconst 4, 1) := by decide +kernel
theorem dX7_init_6 : decode cX7_init 6 = .ok (.newarray .int, 2) := by decide +kernel
theorem dX7_init_8 : decode cX7_init 8 = .ok (.dup, 1) := by decide +kernel
theorem dX7_init_9 : decode cX7_init 9 = .ok (.iconst 0, 1) := by decide +kernel
theorem dX7_init_10 : decode cX7_init 10 = .ok (.bipush (-9), 2) := by decide +kernel
theorem dX7_init_12 : decode cX7_init 12 = .ok (.iastore, 1) := by decide +kernel
theorem dX7_init_13 : decode cX7_init 13 = .ok (.dup, 1) := by decide +kernel
theorem dX7_init_14 : decode cX7_init 14 = .ok (.iconst 1, 1) := by decide +kernel
theorem dX7_init_15 : decode cX7_init 15 = .ok (.bipush (-9), 2) := by decide +kernel
theorem dX7_init_17 : decode cX7_init 17 = .ok (.iastore, 1) := by decide +kernel
theorem dX7_init_18 : decode cX7_init 18 = .ok (.dup, 1) := by decide +kernel
theorem dX7_init_19 : decode cX7_init 19 = .ok (.iconst 2, 1) := by decide +kernel
theorem dX7_init_20 : decode cX7_init 20 = .ok (.bipush (-9), 2) := by decide +kernel
theorem dX7_init_22 : decode cX7_init 22 = .ok (.iastore, 1) := by decide +kernel
theorem dX7_init_23 : decode cX7_init 23 = .ok (.dup, 1) := by decide +kernel
theorem dX7_init_24 : decode cX7_init 24 = .ok (.iconst 3, 1) := by decide +kernel
theorem dX7_init_25 : decode cX7_init 25 = .ok (.bipush (-9), 2) := by decide +kernel
theorem dX7_init_27 : decode cX7_init 27 = .ok (.iastore, 1) := by decide +kernel
theorem dX7_init_28 : decode cX7_init 28 = .ok (.putfield 9, 3) := by decide +kernel
theorem dX7_init_31 : decode cX7_init 31 = .ok (.aload_n 0, 1) := by decide +kernel
theorem dX7_init_32 : decode cX7_init 32 = .ok (.iconst 4, 1) := by decide +kernel
theorem dX7_init_33 : decode cX7_init 33 = .ok (.newarray .int, 2) := by decide +kernel
theorem dX7_init_35 : decode cX7_init 35 = .ok (.putfield 13, 3) := by decide +kernel
theorem dX7_init_38 : decode cX7_init 38 = .ok (.aload_n 0, 1) := by decide +kernel
theorem dX7_init_39 : decode cX7_init 39 = .ok (.sipush 400, 3) := by decide +kernel
theorem dX7_init_42 : decode cX7_init 42 = .ok (.newarray .int, 2) := by decide +kernel
theorem dX7_init_44 : decode cX7_init 44 = .ok (.putfield 16, 3) := by decide +kernel
theorem dX7_init_47 : decode cX7_init 47 = .ok (.aload_n 0, 1) := by decide +kernel
theorem dX7_init_48 : decode cX7_init 48 = .ok (.bipush 6, 2) := by decide +kernel
theorem dX7_init_50 : decode cX7_init 50 = .ok (.newarray .int, 2) := by decide +kernel
theorem dX7_init_52 : decode cX7_init 52 = .ok (.putfield 19, 3) := by decide +kernel
theorem dX7_init_55 : decode cX7_init 55 = .ok (.aload_n 0, 1) := by decide +kernel
theorem dX7_init_56 : decode cX7_init 56 = .ok (.bipush 6, 2) := by decide +kernel
theorem dX7_init_58 : decode cX7_init 58 = .ok (.newarray .int, 2) := by decide +kernel
theorem dX7_init_60 : decode cX7_init 60 = .ok (.putfield 22, 3) := by decide +kernel
theorem dX7_init_63 : decode cX7_init 63 = .ok (.aload_n 0, 1) := by decide +kernel
theorem dX7_init_64 : decode cX7_init 64 = .ok (.bipush 7, 2) := by decide +kernel
theorem dX7_init_66 : decode cX7_init 66 = .ok (.newarray .int, 2) := by decide +kernel
theorem dX7_init_68 : decode cX7_init 68 = .ok (.putfield 25, 3) := by decide +kernel
theorem dX7_init_71 : decode cX7_init 71 = .ok (.aload_n 0, 1) := by decide +kernel
theorem dX7_init_72 : decode cX7_init 72 = .ok (.bipush 7, 2) := by decide +kernel
theorem dX7_init_74 : decode cX7_init 74 = .ok (.newarray .int, 2) := by decide +kernel
theorem dX7_init_76 : decode cX7_init 76 = .ok (.putfield 28, 3) := by decide +kernel
theorem dX7_init_79 : decode cX7_init 79 = .ok (.aload_n 0, 1) := by decide +kernel
theorem dX7_init_80 : decode cX7_init 80 = .ok (.bipush 7, 2) := by decide +kernel
theorem dX7_init_82 : decode cX7_init 82 = .ok (.newarray .int, 2) := by decide +kernel
theorem dX7_init_84 : decode cX7_init 84 = .ok (.putfield 31, 3) := by decide +kernel
theorem dX7_init_87 : decode cX7_init 87 = .ok (.aload_n 0, 1) := by decide +kernel
theorem dX7_init_88 : decode cX7_init 88 = .ok (.bipush 42, 2) := by decide +kernel
theorem dX7_init_90 : decode cX7_init 90 = .ok (.newarray .int, 2) := by decide +kernel
theorem dX7_init_92 : decode cX7_init 92 = .ok (.putfield 34, 3) := by decide +kernel
theorem dX7_init_95 : decode cX7_init 95 = .ok (.aload_n 0, 1) := by decide +kernel
theorem dX7_init_96 : decode cX7_init 96 = .ok (.bipush 42, 2) := by decide +kernel
theorem dX7_init_98 : decode cX7_init 98 = .ok (.newarray .int, 2) := by decide +kernel
theorem dX7_init_100 : decode cX7_init 100 = .ok (.putfield 37, 3) := by decide +kernel
theorem dX7_init_103 : decode cX7_init 103 = .ok (.aload_n 0, 1) := by decide +kernel
theorem dX7_init_104 : decode cX7_init 104 = .ok (.bipush 7, 2) := by decide +kernel
theorem dX7_init_106 : decode cX7_init 106 = .ok (.newarray .int, 2) := by decide +kernel
theorem dX7_init_108 : decode cX7_init 108 = .ok (.putfield 40, 3) := by decide +kernel
theorem dX7_init_111 : decode cX7_init 111 = .ok (.aload_n 0, 1) := by decide +kernel
theorem dX7_init_112 : decode cX7_init 112 = .ok (.bipush 7, 2) := by decide +kernel
theorem dX7_init_114 : decode cX7_init 114 = .ok (.newarray .int, 2) := by decide +kernel
theorem dX7_init_116 : decode cX7_init 116 = .ok (.putfield 43, 3) := by decide +kernel
theorem dX7_init_119 : decode cX7_init 119 = .ok (.aload_n 0, 1) := by decide +kernel
theorem dX7_init_120 : decode cX7_init 120 = .ok (.bipush 6, 2) := by decide +kernel
theorem dX7_init_122 : decode cX7_init 122 = .ok (.newarray .int, 2) := by decide +kernel
theorem dX7_init_124 : decode cX7_init 124 = .ok (.putfield 46, 3) := by decide +kernel
theorem dX7_init_127 : decode cX7_init 127 = .ok (.aload_n 0, 1) := by decide +kernel
theorem dX7_init_128 : decode cX7_init 128 = .ok (.bipush 6, 2) := by decide +kernel
theorem dX7_init_130 : decode cX7_init 130 = .ok (.newarray .int, 2) := by decide +kernel
theorem dX7_init_132 : decode cX7_init 132 = .ok (.putfield 49, 3) := by decide +kernel
theorem dX7_init_135 : decode cX7_init 135 = .ok (.aload_n 0, 1) := by decide +kernel
theorem dX7_init_136 : decode cX7_init 136 = .ok (.bipush 7, 2) := by decide +kernel
theorem dX7_init_138 : decode cX7_init 138 = .ok (.newarray .int, 2) := by decide +kernel
theorem dX7_init_140 : decode cX7_init 140 = .ok (.putfield 52, 3) := by decide +kernel
theorem dX7_init_143 : decode cX7_init 143 = .ok (.aload_n 0, 1) := by decide +kernel
theorem dX7_init_144 : decode cX7_init 144 = .ok (.bipush 7, 2) := by decide +kernel
theorem dX7_init_146 : decode cX7_init 146 = .ok (.newarray .int, 2) := by decide +kernel
theorem dX7_init_148 : decode cX7_init 148 = .ok (.putfield 55, 3) := by decide +kernel
theorem dX7_init_151 : decode cX7_init 151 = .ok (.aload_n 0, 1) := by decide +kernel
theorem dX7_init_152 : decode cX7_init 152 = .ok (.bipush 7, 2) := by decide +kernel
theorem dX7_init_154 : decode cX7_init 154 = .ok (.newarray .int, 2) := by decide +kernel
theorem dX7_init_156 : decode cX7_init 156 = .ok (.putfield 58, 3) := by decide +kernel
theorem dX7_init_159 : decode cX7_init 159 = .ok (.aload_n 0, 1) := by decide +kernel
theorem dX7_init_160 : decode cX7_init 160 = .ok (.bipush 42, 2) := by decide +kernel
theorem dX7_init_162 : decode cX7_init 162 = .ok (.newarray .int, 2) := by decide +kernel
theorem dX7_init_164 : decode cX7_init 164 = .ok (.putfield 61, 3) := by decide +kernel
theorem dX7_init_167 : decode cX7_init 167 = .ok (.aload_n 0, 1) := by decide +kernel
theorem dX7_init_168 : decode cX7_init 168 = .ok (.bipush 7, 2) := by decide +kernel
theorem dX7_init_170 : decode cX7_init 170 = .ok (.newarray .int, 2) := by decide +kernel
theorem dX7_init_172 : decode cX7_init 172 = .ok (.putfield 64, 3) := by decide +kernel
theorem dX7_init_175 : decode cX7_init 175 = .ok (.aload_n 0, 1) := by decide +kernel
theorem dX7_init_176 : decode cX7_init 176 = .ok (.bipush 7, 2) := by decide +kernel
theorem dX7_init_178 : decode cX7_init 178 = .ok (.newarray .int, 2) := by decide +kernel
theorem dX7_init_180 : decode cX7_init 180 = .ok (.putfield 67, 3) := by decide +kernel
theorem dX7_init_183 : decode cX7_init 183 = .ok (.aload_n 0, 1) := by decide +kernel
theorem dX7_init_184 : decode cX7_init 184 = .ok (.bipush 7, 2) := by decide +kernel
theorem dX7_init_186 : decode cX7_init 186 = .ok (.newarray .int, 2) := by decide +kernel
theorem dX7_init_188 : decode cX7_init 188 = .ok (.putfield 70, 3) := by decide +kernel
theorem dX7_init_191 : decode cX7_init 191 = .ok (.aload_n 0, 1) := by decide +kernel
theorem dX7_init_192 : decode cX7_init 192 = .ok (.bipush 56, 2) := by decide +kernel
theorem dX7_init_194 : decode cX7_init 194 = .ok (.newarray .int, 2) := by decide +kernel
theorem dX7_init_196 : decode cX7_init 196 = .ok (.putfield 73, 3) := by decide +kernel
theorem dX7_init_199 : decode cX7_init 199 = .ok (.aload_n 0, 1) := by decide +kernel
theorem dX7_init_200 : decode cX7_init 200 = .ok (.bipush 7, 2) := by decide +kernel
theorem dX7_init_202 : decode cX7_init 202 = .ok (.newarray .int, 2) := by decide +kernel
theorem dX7_init_204 : decode cX7_init 204 = .ok (.putfield 76, 3) := by decide +kernel
theorem dX7_init_207 : decode cX7_init 207 = .ok (.aload_n 0, 1) := by decide +kernel
theorem dX7_init_208 : decode cX7_init 208 = .ok (.bipush 7, 2) := by decide +kernel
theorem dX7_init_210 : decode cX7_init 210 = .ok (.newarray .int, 2) := by decide +kernel
theorem dX7_init_212 : decode cX7_init 212 = .ok (.putfield 79, 3) := by decide +kernel
theorem dX7_init_215 : decode cX7_init 215 = .ok (.aload_n 0, 1) := by decide +kernel
theorem dX7_init_216 : decode cX7_init 216 = .ok (.bipush 6, 2) := by decide +kernel
theorem dX7_init_218 : decode cX7_init 218 = .ok (.newarray .int, 2) := by decide +kernel
theorem dX7_init_220 : decode cX7_init 220 = .ok (.putfield 82, 3) := by decide +kernel
theorem dX7_init_223 : decode cX7_init 223 = .ok (.aload_n 0, 1) := by decide +kernel
theorem dX7_init_224 : decode cX7_init 224 = .ok (.bipush 7, 2) := by decide +kernel
theorem dX7_init_226 : decode cX7_init 226 = .ok (.newarray .int, 2) := by decide +kernel
theorem dX7_init_228 : decode cX7_init 228 = .ok (.putfield 85, 3) := by decide +kernel
theorem dX7_init_231 : decode cX7_init 231 = .ok (.aload_n 0, 1) := by decide +kernel
theorem dX7_init_232 : decode cX7_init 232 = .ok (.bipush 7, 2) := by decide +kernel
theorem dX7_init_234 : decode cX7_init 234 = .ok (.newarray .int, 2) := by decide +kernel
theorem dX7_init_236 : decode cX7_init 236 = .ok (.putfield 88, 3) := by decide +kernel
theorem dX7_init_239 : decode cX7_init 239 = .ok (.aload_n 0, 1) := by decide +kernel
theorem dX7_init_240 : decode cX7_init 240 = .ok (.bipush 7, 2) := by decide +kernel
theorem dX7_init_242 : decode cX7_init 242 = .ok (.newarray .int, 2) := by decide +kernel
theorem dX7_init_244 : decode cX7_init 244 = .ok (.putfield 91, 3) := by decide +kernel
theorem dX7_init_247 : decode cX7_init 247 = .ok (.aload_n 0, 1) := by decide +kernel
theorem dX7_init_248 : decode cX7_init 248 = .ok (.bipush 8, 2) := by decide +kernel
theorem dX7_init_250 : decode cX7_init 250 = .ok (.newarray .int, 2) := by decide +kernel
theorem dX7_init_252 : decode cX7_init 252 = .ok (.putfield 94, 3) := by decide +kernel
theorem dX7_init_255 : decode cX7_init 255 = .ok (.aload_n 0, 1) := by decide +kernel
theorem dX7_init_256 : decode cX7_init 256 = .ok (.bipush 7, 2) := by decide +kernel
theorem dX7_init_258 : decode cX7_init 258 = .ok (.newarray .int, 2) := by decide +kernel
theorem dX7_init_260 : decode cX7_init 260 = .ok (.putfield 97, 3) := by decide +kernel
theorem dX7_init_263 : decode cX7_init 263 = .ok (.aload_n 0, 1) := by decide +kernel
theorem dX7_init_264 : decode cX7_init 264 = .ok (.sipush 1470, 3) := by decide +kernel
theorem dX7_init_267 : decode cX7_init 267 = .ok (.newarray .int, 2) := by decide +kernel
theorem dX7_init_269 : decode cX7_init 269 = .ok (.putfield 100, 3) := by decide +kernel
theorem dX7_init_272 : decode cX7_init 272 = .ok (.aload_n 0, 1) := by decide +kernel
theorem dX7_init_273 : decode cX7_init 273 = .ok (.bipush 7, 2) := by decide +kernel
theorem dX7_init_275 : decode cX7_init 275 = .ok (.newarray .int, 2) := by decide +kernel
theorem dX7_init_277 : decode cX7_init 277 = .ok (.putfield 103, 3) := by decide +kernel
theorem dX7_init_280 : decode cX7_init 280 = .ok (.aload_n 0, 1) := by decide +kernel
theorem dX7_init_281 : decode cX7_init 281 = .ok (.bipush 7, 2) := by decide +kernel
theorem dX7_init_283 : decode cX7_init 283 = .ok (.newarray .int, 2) := by decide +kernel
theorem dX7_init_285 : decode cX7_init 285 = .ok (.putfield 106, 3) := by decide +kernel
theorem dX7_init_288 : decode cX7_init 288 = .ok (.aload_n 0, 1) := by decide +kernel
theorem dX7_init_289 : decode cX7_init 289 = .ok (.bipush 8, 2) := by decide +kernel
theorem dX7_init_291 : decode cX7_init 291 = .ok (.newarray .int, 2) := by decide +kernel
theorem dX7_init_293 : decode cX7_init 293 = .ok (.putfield 109, 3) := by decide +kernel
theorem dX7_init_296 : decode cX7_init 296 = .ok (.aload_n 0, 1) := by decide +kernel
theorem dX7_init_297 : decode cX7_init 297 = .ok (.bipush 6, 2) := by decide +kernel
theorem dX7_init_299 : decode cX7_init 299 = .ok (.newarray .int, 2) := by decide +kernel
theorem dX7_init_301 : decode cX7_init 301 = .ok (.putfield 112, 3) := by decide +kernel
theorem dX7_init_304 : decode cX7_init 304 = .ok (.return_, 1) := by decide +kernel
theorem dX7_fails_0 : decode cX7_fails 0 = .ok (.aload_n 0, 1) := by decide +kernel
theorem dX7_fails_1 : decode cX7_fails 1 = .ok (.iload_n 1, 1) := by decide +kernel
theorem dX7_fails_2 : decode cX7_fails 2 = .ok (.putfield 115, 3) := by decide +kernel
theorem dX7_fails_5 : decode cX7_fails 5 = .ok (.bipush (-10), 2) := by decide +kernel
theorem dX7_fails_7 : decode cX7_fails 7 = .ok (.iload_n 1, 1) := by decide +kernel
theorem dX7_fails_8 : decode cX7_fails 8 = .ok (.isub, 1) := by decide +kernel
theorem dX7_fails_9 : decode cX7_fails 9 = .ok (.ireturn, 1) := by decide +kernel
theorem dX7_lost_0 : decode cX7_lost 0 = .ok (.aload_n 0, 1) := by decide +kernel
theorem dX7_lost_1 : decode cX7_lost 1 = .ok (.iload_n 1, 1) := by decide +kernel
theorem dX7_lost_2 : decode cX7_lost 2 = .ok (.putfield 115, 3) := by decide +kernel
theorem dX7_lost_5 : decode cX7_lost 5 = .ok (.ldc2_w 119, 3) := by decide +kernel
theorem dX7_lost_8 : decode cX7_lost 8 = .ok (.lreturn, 1) := by decide +kernel
theorem dX7_within_0 : decode cX7_within 0 = .ok (.iload_n 0, 1) := by decide +kernel
theorem dX7_within_1 : decode cX7_within 1 = .ok (.iload_n 1, 1) := by decide +kernel
theorem dX7_within_2 : decode cX7_within 2 = .ok (.if_icmp .lt 12, 3) := by decide +kernel
theorem dX7_within_5 : decode cX7_within 5 = .ok (.iload_n 0, 1) := by decide +kernel
theorem dX7_within_6 : decode cX7_within 6 = .ok (.iload_n 2, 1) := by decide +kernel
theorem dX7_within_7 : decode cX7_within 7 = .ok (.if_icmp .gt 7, 3) := by decide +kernel
theorem dX7_within_10 : decode cX7_within 10 = .ok (.iconst 1, 1) := by decide +kernel
theorem dX7_within_11 : decode cX7_within 11 = .ok (.goto 4, 3) := by decide +kernel
theorem dX7_within_14 : decode cX7_within 14 = .ok (.iconst 0, 1) := by decide +kernel
theorem dX7_within_15 : decode cX7_within 15 = .ok (.ireturn, 1) := by decide +kernel
theorem dX7_share_0 : decode cX7_share 0 = .ok (.lload_n 0, 1) := by decide +kernel
theorem dX7_share_1 : decode cX7_share 1 = .ok (.lstore 5, 2) := by decide +kernel
theorem dX7_share_3 : decode cX7_share 3 = .ok (.lload_n 2, 1) := by decide +kernel
theorem dX7_share_4 : decode cX7_share 4 = .ok (.lstore 7, 2) := by decide +kernel
theorem dX7_share_6 : decode cX7_share 6 = .ok (.lload 7, 2) := by decide +kernel
theorem dX7_share_8 : decode cX7_share 8 = .ok (.lconst 0, 1) := by decide +kernel
theorem dX7_share_9 : decode cX7_share 9 = .ok (.lcmp, 1) := by decide +kernel
theorem dX7_share_10 : decode cX7_share 10 = .ok (.ifCond .eq 21, 3) := by decide +kernel
theorem dX7_share_13 : decode cX7_share 13 = .ok (.lload 5, 2) := by decide +kernel
theorem dX7_share_15 : decode cX7_share 15 = .ok (.lload 7, 2) := by decide +kernel
theorem dX7_share_17 : decode cX7_share 17 = .ok (.lrem, 1) := by decide +kernel
theorem dX7_share_18 : decode cX7_share 18 = .ok (.lstore 9, 2) := by decide +kernel
theorem dX7_share_20 : decode cX7_share 20 = .ok (.lload 7, 2) := by decide +kernel
theorem dX7_share_22 : decode cX7_share 22 = .ok (.lstore 5, 2) := by decide +kernel
theorem dX7_share_24 : decode cX7_share 24 = .ok (.lload 9, 2) := by decide +kernel
theorem dX7_share_26 : decode cX7_share 26 = .ok (.lstore 7, 2) := by decide +kernel
theorem dX7_share_28 : decode cX7_share 28 = .ok (.goto (-22), 3) := by decide +kernel
theorem dX7_share_31 : decode cX7_share 31 = .ok (.iload 4, 2) := by decide +kernel
theorem dX7_share_33 : decode cX7_share 33 = .ok (.ifCond .ne 10, 3) := by decide +kernel
theorem dX7_share_36 : decode cX7_share 36 = .ok (.lload_n 0, 1) := by decide +kernel
theorem dX7_share_37 : decode cX7_share 37 = .ok (.lload 5, 2) := by decide +kernel
theorem dX7_share_39 : decode cX7_share 39 = .ok (.ldiv, 1) := by decide +kernel
theorem dX7_share_40 : decode cX7_share 40 = .ok (.goto 7, 3) := by decide +kernel
theorem dX7_share_43 : decode cX7_share 43 = .ok (.lload_n 2, 1) := by decide +kernel
theorem dX7_share_44 : decode cX7_share 44 = .ok (.lload 5, 2) := by decide +kernel
theorem dX7_share_46 : decode cX7_share 46 = .ok (.ldiv, 1) := by decide +kernel
theorem dX7_share_47 : decode cX7_share 47 = .ok (.lreturn, 1) := by decide +kernel
theorem dX7_isSheet_0 : decode cX7_isSheet 0 = .ok (.iload_n 0, 1) := by decide +kernel
theorem dX7_isSheet_1 : decode cX7_isSheet 1 = .ok (.iconst 0, 1) := by decide +kernel
theorem dX7_isSheet_2 : decode cX7_isSheet 2 = .ok (.iconst 3, 1) := by decide +kernel
theorem dX7_isSheet_3 : decode cX7_isSheet 3 = .ok (.invokestatic 121, 3) := by decide +kernel
theorem dX7_isSheet_6 : decode cX7_isSheet 6 = .ok (.ireturn, 1) := by decide +kernel
theorem dX7_isSort_0 : decode cX7_isSort 0 = .ok (.iload_n 0, 1) := by decide +kernel
theorem dX7_isSort_1 : decode cX7_isSort 1 = .ok (.iconst 0, 1) := by decide +kernel
theorem dX7_isSort_2 : decode cX7_isSort 2 = .ok (.iconst 2, 1) := by decide +kernel
theorem dX7_isSort_3 : decode cX7_isSort 3 = .ok (.invokestatic 121, 3) := by decide +kernel
theorem dX7_isSort_6 : decode cX7_isSort 6 = .ok (.ireturn, 1) := by decide +kernel
theorem dX7_against_0 : decode cX7_against 0 = .ok (.aload_n 0, 1) := by decide +kernel
theorem dX7_against_1 : decode cX7_against 1 = .ok (.getfield 9, 3) := by decide +kernel
theorem dX7_against_4 : decode cX7_against 4 = .ok (.iload_n 1, 1) := by decide +kernel
theorem dX7_against_5 : decode cX7_against 5 = .ok (.iaload, 1) := by decide +kernel
theorem dX7_against_6 : decode cX7_against 6 = .ok (.bipush (-9), 2) := by decide +kernel
theorem dX7_against_8 : decode cX7_against 8 = .ok (.if_icmp .eq 15, 3) := by decide +kernel
theorem dX7_against_11 : decode cX7_against 11 = .ok (.aload_n 0, 1) := by decide +kernel
theorem dX7_against_12 : decode cX7_against 12 = .ok (.getfield 9, 3) := by decide +kernel
theorem dX7_against_15 : decode cX7_against 15 = .ok (.iload_n 1, 1) := by decide +kernel
theorem dX7_against_16 : decode cX7_against 16 = .ok (.iaload, 1) := by decide +kernel
theorem dX7_against_17 : decode cX7_against 17 = .ok (.iload_n 2, 1) := by decide +kernel
theorem dX7_against_18 : decode cX7_against 18 = .ok (.if_icmp .eq 5, 3) := by decide +kernel
theorem dX7_against_21 : decode cX7_against 21 = .ok (.iconst 2, 1) := by decide +kernel
theorem dX7_against_22 : decode cX7_against 22 = .ok (.ireturn, 1) := by decide +kernel
theorem dX7_against_23 : decode cX7_against 23 = .ok (.aload_n 0, 1) := by decide +kernel
theorem dX7_against_24 : decode cX7_against 24 = .ok (.getfield 9, 3) := by decide +kernel
theorem dX7_against_27 : decode cX7_against 27 = .ok (.iload_n 1, 1) := by decide +kernel
theorem dX7_against_28 : decode cX7_against 28 = .ok (.iaload, 1) := by decide +kernel
theorem dX7_against_29 : decode cX7_against 29 = .ok (.bipush (-9), 2) := by decide +kernel
theorem dX7_against_31 : decode cX7_against 31 = .ok (.if_icmp .ne 5, 3) := by decide +kernel
theorem dX7_against_34 : decode cX7_against 34 = .ok (.iconst 1, 1) := by decide +kernel
theorem dX7_against_35 : decode cX7_against 35 = .ok (.ireturn, 1) := by decide +kernel
theorem dX7_against_36 : decode cX7_against 36 = .ok (.iload 4, 2) := by decide +kernel
theorem dX7_against_38 : decode cX7_against 38 = .ok (.ifCond .ge 5, 3) := by decide +kernel
theorem dX7_against_41 : decode cX7_against 41 = .ok (.iconst 4, 1) := by decide +kernel
theorem dX7_against_42 : decode cX7_against 42 = .ok (.ireturn, 1) := by decide +kernel
theorem dX7_against_43 : decode cX7_against 43 = .ok (.iload_n 3, 1) := by decide +kernel
theorem dX7_against_44 : decode cX7_against 44 = .ok (.ifCond .lt 26, 3) := by decide +kernel
theorem dX7_against_47 : decode cX7_against 47 = .ok (.iload_n 3, 1) := by decide +kernel
theorem dX7_against_48 : decode cX7_against 48 = .ok (.aload_n 0, 1) := by decide +kernel
theorem dX7_against_49 : decode cX7_against 49 = .ok (.getfield 13, 3) := by decide +kernel
theorem dX7_against_52 : decode cX7_against 52 = .ok (.iload_n 1, 1) := by decide +kernel
theorem dX7_against_53 : decode cX7_against 53 = .ok (.iaload, 1) := by decide +kernel
theorem dX7_against_54 : decode cX7_against 54 = .ok (.if_icmp .gt 16, 3) := by decide +kernel
theorem dX7_against_57 : decode cX7_against 57 = .ok (.iload 4, 2) := by decide +kernel
theorem dX7_against_59 : decode cX7_against 59 = .ok (.aload_n 0, 1) := by decide +kernel
theorem dX7_against_60 : decode cX7_against 60 = .ok (.getfield 13, 3) := by decide +kernel
theorem dX7_against_63 : decode cX7_against 63 = .ok (.iload_n 1, 1) := by decide +kernel
theorem dX7_against_64 : decode cX7_against 64 = .ok (.iaload, 1) := by decide +kernel
theorem dX7_against_65 : decode cX7_against 65 = .ok (.iload_n 3, 1) := by decide +kernel
theorem dX7_against_66 : decode cX7_against 66 = .ok (.isub, 1) := by decide +kernel
theorem dX7_against_67 : decode cX7_against 67 = .ok (.if_icmp .le 7, 3) := by decide +kernel
theorem dX7_against_70 : decode cX7_against 70 = .ok (.iconst 3, 1) := by decide +kernel
theorem dX7_against_71 : decode cX7_against 71 = .ok (.goto 4, 3) := by decide +kernel
theorem dX7_against_74 : decode cX7_against 74 = .ok (.iconst 0, 1) := by decide +kernel
theorem dX7_against_75 : decode cX7_against 75 = .ok (.ireturn, 1) := by decide +kernel
theorem dX7_isGuest_0 : decode cX7_isGuest 0 = .ok (.iload_n 1, 1) := by decide +kernel
theorem dX7_isGuest_1 : decode cX7_isGuest 1 = .ok (.ifCond .lt 15, 3) := by decide +kernel
theorem dX7_isGuest_4 : decode cX7_isGuest 4 = .ok (.iload_n 1, 1) := by decide +kernel
theorem dX7_isGuest_5 : decode cX7_isGuest 5 = .ok (.aload_n 0, 1) := by decide +kernel
theorem dX7_isGuest_6 : decode cX7_isGuest 6 = .ok (.getfield 125, 3) := by decide +kernel
theorem dX7_isGuest_9 : decode cX7_isGuest 9 = .ok (.if_icmp .ge 7, 3) := by decide +kernel
theorem dX7_isGuest_12 : decode cX7_isGuest 12 = .ok (.iconst 1, 1) := by decide +kernel
theorem dX7_isGuest_13 : decode cX7_isGuest 13 = .ok (.goto 4, 3) := by decide +kernel
theorem dX7_isGuest_16 : decode cX7_isGuest 16 = .ok (.iconst 0, 1) := by decide +kernel
theorem dX7_isGuest_17 : decode cX7_isGuest 17 = .ok (.ireturn, 1) := by decide +kernel
theorem dX7_isDish_0 : decode cX7_isDish 0 = .ok (.iload_n 1, 1) := by decide +kernel
theorem dX7_isDish_1 : decode cX7_isDish 1 = .ok (.ifCond .lt 15, 3) := by decide +kernel
theorem dX7_isDish_4 : decode cX7_isDish 4 = .ok (.iload_n 1, 1) := by decide +kernel
theorem dX7_isDish_5 : decode cX7_isDish 5 = .ok (.aload_n 0, 1) := by decide +kernel
theorem dX7_isDish_6 : decode cX7_isDish 6 = .ok (.getfield 128, 3) := by decide +kernel
theorem dX7_isDish_9 : decode cX7_isDish 9 = .ok (.if_icmp .ge 7, 3) := by decide +kernel
theorem dX7_isDish_12 : decode cX7_isDish 12 = .ok (.iconst 1, 1) := by decide +kernel
theorem dX7_isDish_13 : decode cX7_isDish 13 = .ok (.goto 4, 3) := by decide +kernel
theorem dX7_isDish_16 : decode cX7_isDish 16 = .ok (.iconst 0, 1) := by decide +kernel
theorem dX7_isDish_17 : decode cX7_isDish 17 = .ok (.ireturn, 1) := by decide +kernel
theorem dX7_isTable_0 : decode cX7_isTable 0 = .ok (.aload_n 0, 1) := by decide +kernel
theorem dX7_isTable_1 : decode cX7_isTable 1 = .ok (.getfield 125, 3) := by decide +kernel
theorem dX7_isTable_4 : decode cX7_isTable 4 = .ok (.ifCond .le 7, 3) := by decide +kernel
theorem dX7_isTable_7 : decode cX7_isTable 7 = .ok (.iconst 1, 1) := by decide +kernel
theorem dX7_isTable_8 : decode cX7_isTable 8 = .ok (.goto 4, 3) := by decide +kernel
theorem dX7_isTable_11 : decode cX7_isTable 11 = .ok (.iconst 0, 1) := by decide +kernel
theorem dX7_isTable_12 : decode cX7_isTable 12 = .ok (.ireturn, 1) := by decide +kernel
theorem dX7_digitAt_0 : decode cX7_digitAt 0 = .ok (.iload_n 1, 1) := by decide +kernel
theorem dX7_digitAt_1 : decode cX7_digitAt 1 = .ok (.iload_n 2, 1) := by decide +kernel
theorem dX7_digitAt_2 : decode cX7_digitAt 2 = .ok (.if_icmp .ge 31, 3) := by decide +kernel
theorem dX7_digitAt_5 : decode cX7_digitAt 5 = .ok (.aload_n 0, 1) := by decide +kernel
theorem dX7_digitAt_6 : decode cX7_digitAt 6 = .ok (.getfield 16, 3) := by decide +kernel
theorem dX7_digitAt_9 : decode cX7_digitAt 9 = .ok (.iload_n 1, 1) := by decide +kernel
theorem dX7_digitAt_10 : decode cX7_digitAt 10 = .ok (.iaload, 1) := by decide +kernel
theorem dX7_digitAt_11 : decode cX7_digitAt 11 = .ok (.bipush 48, 2) := by decide +kernel
theorem dX7_digitAt_13 : decode cX7_digitAt 13 = .ok (.bipush 57, 2) := by decide +kernel
theorem dX7_digitAt_15 : decode cX7_digitAt 15 = .ok (.invokestatic 121, 3) := by decide +kernel
theorem dX7_digitAt_18 : decode cX7_digitAt 18 = .ok (.ifCond .eq 15, 3) := by decide +kernel
theorem dX7_digitAt_21 : decode cX7_digitAt 21 = .ok (.aload_n 0, 1) := by decide +kernel
theorem dX7_digitAt_22 : decode cX7_digitAt 22 = .ok (.getfield 16, 3) := by decide +kernel
theorem dX7_digitAt_25 : decode cX7_digitAt 25 = .ok (.iload_n 1, 1) := by decide +kernel
theorem dX7_digitAt_26 : decode cX7_digitAt 26 = .ok (.iaload, 1) := by decide +kernel
theorem dX7_digitAt_27 : decode cX7_digitAt 27 = .ok (.bipush 48, 2) := by decide +kernel
theorem dX7_digitAt_29 : decode cX7_digitAt 29 = .ok (.isub, 1) := by decide +kernel
theorem dX7_digitAt_30 : decode cX7_digitAt 30 = .ok (.goto 5, 3) := by decide +kernel
theorem dX7_digitAt_33 : decode cX7_digitAt 33 = .ok (.bipush (-9), 2) := by decide +kernel
theorem dX7_digitAt_35 : decode cX7_digitAt 35 = .ok (.ireturn, 1) := by decide +kernel
theorem dX7_isCode_0 : decode cX7_isCode 0 = .ok (.aload_n 0, 1) := by decide +kernel
theorem dX7_isCode_1 : decode cX7_isCode 1 = .ok (.getfield 131, 3) := by decide +kernel
theorem dX7_isCode_4 : decode cX7_isCode 4 = .ok (.iload_n 2, 1) := by decide +kernel
theorem dX7_isCode_5 : decode cX7_isCode 5 = .ok (.if_icmp .ge 20, 3) := by decide +kernel
theorem dX7_isCode_8 : decode cX7_isCode 8 = .ok (.aload_n 0, 1) := by decide +kernel
theorem dX7_isCode_9 : decode cX7_isCode 9 = .ok (.getfield 16, 3) := by decide +kernel
theorem dX7_isCode_12 : decode cX7_isCode 12 = .ok (.aload_n 0, 1) := by decide +kernel
theorem dX7_isCode_13 : decode cX7_isCode 13 = .ok (.getfield 131, 3) := by decide +kernel
theorem dX7_isCode_16 : decode cX7_isCode 16 = .ok (.iaload, 1) := by decide +kernel
theorem dX7_isCode_17 : decode cX7_isCode 17 = .ok (.iload_n 1, 1) := by decide +kernel
theorem dX7_isCode_18 : decode cX7_isCode 18 = .ok (.if_icmp .ne 7, 3) := by decide +kernel
theorem dX7_isCode_21 : decode cX7_isCode 21 = .ok (.iconst 1, 1) := by decide +kernel
theorem dX7_isCode_22 : decode cX7_isCode 22 = .ok (.goto 4, 3) := by decide +kernel
theorem dX7_isCode_25 : decode cX7_isCode 25 = .ok (.iconst 0, 1) := by decide +kernel
theorem dX7_isCode_26 : decode cX7_isCode 26 = .ok (.ireturn, 1) := by decide +kernel
theorem dX7_table_0 : decode cX7_table 0 = .ok (.aload_n 0, 1) := by decide +kernel
theorem dX7_table_1 : decode cX7_table 1 = .ok (.iconst 0, 1) := by decide +kernel
theorem dX7_table_2 : decode cX7_table 2 = .ok (.putfield 115, 3) := by decide +kernel
theorem dX7_table_5 : decode cX7_table 5 = .ok (.iload_n 1, 1) := by decide +kernel
theorem dX7_table_6 : decode cX7_table 6 = .ok (.invokestatic 134, 3) := by decide +kernel
theorem dX7_table_9 : decode cX7_table 9 = .ok (.ifCond .ne 5, 3) := by decide +kernel
theorem dX7_table_12 : decode cX7_table 12 = .ok (.iconst (-1), 1) := by decide +kernel
theorem dX7_table_13 : decode cX7_table 13 = .ok (.ireturn, 1) := by decide +kernel
theorem dX7_table_14 : decode cX7_table 14 = .ok (.iload_n 2, 1) := by decide +kernel
theorem dX7_table_15 : decode cX7_table 15 = .ok (.invokestatic 138, 3) := by decide +kernel
theorem dX7_table_18 : decode cX7_table 18 = .ok (.ifCond .ne 6, 3) := by decide +kernel
theorem dX7_table_21 : decode cX7_table 21 = .ok (.bipush (-2), 2) := by decide +kernel
theorem dX7_table_23 : decode cX7_table 23 = .ok (.ireturn, 1) := by decide +kernel
theorem dX7_table_24 : decode cX7_table 24 = .ok (.aload_n 0, 1) := by decide +kernel
theorem dX7_table_25 : decode cX7_table 25 = .ok (.iload_n 1, 1) := by decide +kernel
theorem dX7_table_26 : decode cX7_table 26 = .ok (.iload_n 2, 1) := by decide +kernel
theorem dX7_table_27 : decode cX7_table 27 = .ok (.iload_n 3, 1) := by decide +kernel
theorem dX7_table_28 : decode cX7_table 28 = .ok (.iload 4, 2) := by decide +kernel
theorem dX7_table_30 : decode cX7_table 30 = .ok (.invokevirtual 141, 3) := by decide +kernel
theorem dX7_table_33 : decode cX7_table 33 = .ok (.istore 5, 2) := by decide +kernel
theorem dX7_table_35 : decode cX7_table 35 = .ok (.iload 5, 2) := by decide +kernel
theorem dX7_table_37 : decode cX7_table 37 = .ok (.ifCond .eq 10, 3) := by decide +kernel
theorem dX7_table_40 : decode cX7_table 40 = .ok (.aload_n 0, 1) := by decide +kernel
theorem dX7_table_41 : decode cX7_table 41 = .ok (.iload 5, 2) := by decide +kernel
theorem dX7_table_43 : decode cX7_table 43 = .ok (.invokevirtual 145, 3) := by decide +kernel
theorem dX7_table_46 : decode cX7_table 46 = .ok (.ireturn, 1) := by decide +kernel
theorem dX7_table_47 : decode cX7_table 47 = .ok (.bipush 100, 2) := by decide +kernel
theorem dX7_table_49 : decode cX7_table 49 = .ok (.iload_n 1, 1) := by decide +kernel
theorem dX7_table_50 : decode cX7_table 50 = .ok (.imul, 1) := by decide +kernel
theorem dX7_table_51 : decode cX7_table 51 = .ok (.iload_n 3, 1) := by decide +kernel
theorem dX7_table_52 : decode cX7_table 52 = .ok (.iadd, 1) := by decide +kernel
theorem dX7_table_53 : decode cX7_table 53 = .ok (.istore 6, 2) := by decide +kernel
theorem dX7_table_55 : decode cX7_table 55 = .ok (.aload_n 0, 1) := by decide +kernel
theorem dX7_table_56 : decode cX7_table 56 = .ok (.iload 6, 2) := by decide +kernel
theorem dX7_table_58 : decode cX7_table 58 = .ok (.putfield 131, 3) := by decide +kernel
theorem dX7_table_61 : decode cX7_table 61 = .ok (.aload_n 0, 1) := by decide +kernel
theorem dX7_table_62 : decode cX7_table 62 = .ok (.iload 6, 2) := by decide +kernel
theorem dX7_table_64 : decode cX7_table 64 = .ok (.iload 4, 2) := by decide +kernel
theorem dX7_table_66 : decode cX7_table 66 = .ok (.iadd, 1) := by decide +kernel
theorem dX7_table_67 : decode cX7_table 67 = .ok (.invokevirtual 149, 3) := by decide +kernel
theorem dX7_table_70 : decode cX7_table 70 = .ok (.ifCond .ne 14, 3) := by decide +kernel
theorem dX7_table_73 : decode cX7_table 73 = .ok (.bipush (-100), 2) := by decide +kernel
theorem dX7_table_75 : decode cX7_table 75 = .ok (.aload_n 0, 1) := by decide +kernel
theorem dX7_table_76 : decode cX7_table 76 = .ok (.getfield 131, 3) := by decide +kernel
theorem dX7_table_79 : decode cX7_table 79 = .ok (.iload 6, 2) := by decide +kernel
theorem dX7_table_81 : decode cX7_table 81 = .ok (.isub, 1) := by decide +kernel
theorem dX7_table_82 : decode cX7_table 82 = .ok (.isub, 1) := by decide +kernel
theorem dX7_table_83 : decode cX7_table 83 = .ok (.ireturn, 1) := by decide +kernel
theorem dX7_table_84 : decode cX7_table 84 = .ok (.aload_n 0, 1) := by decide +kernel
theorem dX7_table_85 : decode cX7_table 85 = .ok (.invokevirtual 152, 3) := by decide +kernel
theorem dX7_table_88 : decode cX7_table 88 = .ok (.aload_n 0, 1) := by decide +kernel
theorem dX7_table_89 : decode cX7_table 89 = .ok (.getfield 125, 3) := by decide +kernel
theorem dX7_table_92 : decode cX7_table 92 = .ok (.ireturn, 1) := by decide +kernel
theorem dX7_takeTable_0 : decode cX7_takeTable 0 = .ok (.aload_n 0, 1) := by decide +kernel
theorem dX7_takeTable_1 : decode cX7_takeTable 1 = .ok (.aload_n 0, 1) := by decide +kernel
theorem dX7_takeTable_2 : decode cX7_takeTable 2 = .ok (.getfield 155, 3) := by decide +kernel
theorem dX7_takeTable_5 : decode cX7_takeTable 5 = .ok (.putfield 125, 3) := by decide +kernel
theorem dX7_takeTable_8 : decode cX7_takeTable 8 = .ok (.aload_n 0, 1) := by decide +kernel
theorem dX7_takeTable_9 : decode cX7_takeTable 9 = .ok (.aload_n 0, 1) := by decide +kernel
theorem dX7_takeTable_10 : decode cX7_takeTable 10 = .ok (.getfield 158, 3) := by decide +kernel
theorem dX7_takeTable_13 : decode cX7_takeTable 13 = .ok (.putfield 128, 3) := by decide +kernel
theorem dX7_takeTable_16 : decode cX7_takeTable 16 = .ok (.iconst 0, 1) := by decide +kernel
theorem dX7_takeTable_17 : decode cX7_takeTable 17 = .ok (.istore_n 1, 1) := by decide +kernel
theorem dX7_takeTable_18 : decode cX7_takeTable 18 = .ok (.iload_n 1, 1) := by decide +kernel
theorem dX7_takeTable_19 : decode cX7_takeTable 19 = .ok (.aload_n 0, 1) := by decide +kernel
theorem dX7_takeTable_20 : decode cX7_takeTable 20 = .ok (.getfield 128, 3) := by decide +kernel
theorem dX7_takeTable_23 : decode cX7_takeTable 23 = .ok (.if_icmp .ge 33, 3) := by decide +kernel
theorem dX7_takeTable_26 : decode cX7_takeTable 26 = .ok (.aload_n 0, 1) := by decide +kernel
theorem dX7_takeTable_27 : decode cX7_takeTable 27 = .ok (.getfield 19, 3) := by decide +kernel
theorem dX7_takeTable_30 : decode cX7_takeTable 30 = .ok (.iload_n 1, 1) := by decide +kernel
theorem dX7_takeTable_31 : decode cX7_takeTable 31 = .ok (.aload_n 0, 1) := by decide +kernel
theorem dX7_takeTable_32 : decode cX7_takeTable 32 = .ok (.getfield 46, 3) := by decide +kernel
theorem dX7_takeTable_35 : decode cX7_takeTable 35 = .ok (.iload_n 1, 1) := by decide +kernel
theorem dX7_takeTable_36 : decode cX7_takeTable 36 = .ok (.iaload, 1) := by decide +kernel
theorem dX7_takeTable_37 : decode cX7_takeTable 37 = .ok (.iastore, 1) := by decide +kernel
theorem dX7_takeTable_38 : decode cX7_takeTable 38 = .ok (.aload_n 0, 1) := by decide +kernel
theorem dX7_takeTable_39 : decode cX7_takeTable 39 = .ok (.getfield 22, 3) := by decide +kernel
theorem dX7_takeTable_42 : decode cX7_takeTable 42 = .ok (.iload_n 1, 1) := by decide +kernel
theorem dX7_takeTable_43 : decode cX7_takeTable 43 = .ok (.aload_n 0, 1) := by decide +kernel
theorem dX7_takeTable_44 : decode cX7_takeTable 44 = .ok (.getfield 49, 3) := by decide +kernel
theorem dX7_takeTable_47 : decode cX7_takeTable 47 = .ok (.iload_n 1, 1) := by decide +kernel
theorem dX7_takeTable_48 : decode cX7_takeTable 48 = .ok (.iaload, 1) := by decide +kernel
theorem dX7_takeTable_49 : decode cX7_takeTable 49 = .ok (.iastore, 1) := by decide +kernel
theorem dX7_takeTable_50 : decode cX7_takeTable 50 = .ok (.iinc 1 1, 3) := by decide +kernel
theorem dX7_takeTable_53 : decode cX7_takeTable 53 = .ok (.goto (-35), 3) := by decide +kernel
theorem dX7_takeTable_56 : decode cX7_takeTable 56 = .ok (.iconst 0, 1) := by decide +kernel
theorem dX7_takeTable_57 : decode cX7_takeTable 57 = .ok (.istore_n 1, 1) := by decide +kernel
theorem dX7_takeTable_58 : decode cX7_takeTable 58 = .ok (.iload_n 1, 1) := by decide +kernel
theorem dX7_takeTable_59 : decode cX7_takeTable 59 = .ok (.aload_n 0, 1) := by decide +kernel
theorem dX7_takeTable_60 : decode cX7_takeTable 60 = .ok (.getfield 125, 3) := by decide +kernel
theorem dX7_takeTable_63 : decode cX7_takeTable 63 = .ok (.if_icmp .ge 60, 3) := by decide +kernel
theorem dX7_takeTable_66 : decode cX7_takeTable 66 = .ok (.aload_n 0, 1) := by decide +kernel
theorem dX7_takeTable_67 : decode cX7_takeTable 67 = .ok (.getfield 25, 3) := by decide +kernel
theorem dX7_takeTable_70 : decode cX7_takeTable 70 = .ok (.iload_n 1, 1) := by decide +kernel
theorem dX7_takeTable_71 : decode cX7_takeTable 71 = .ok (.aload_n 0, 1) := by decide +kernel
theorem dX7_takeTable_72 : decode cX7_takeTable 72 = .ok (.getfield 52, 3) := by decide +kernel
theorem dX7_takeTable_75 : decode cX7_takeTable 75 = .ok (.iload_n 1, 1) := by decide +kernel
theorem dX7_takeTable_76 : decode cX7_takeTable 76 = .ok (.iaload, 1) := by decide +kernel
theorem dX7_takeTable_77 : decode cX7_takeTable 77 = .ok (.iastore, 1) := by decide +kernel
theorem dX7_takeTable_78 : decode cX7_takeTable 78 = .ok (.aload_n 0, 1) := by decide +kernel
theorem dX7_takeTable_79 : decode cX7_takeTable 79 = .ok (.getfield 28, 3) := by decide +kernel
theorem dX7_takeTable_82 : decode cX7_takeTable 82 = .ok (.iload_n 1, 1) := by decide +kernel
theorem dX7_takeTable_83 : decode cX7_takeTable 83 = .ok (.aload_n 0, 1) := by decide +kernel
theorem dX7_takeTable_84 : decode cX7_takeTable 84 = .ok (.getfield 55, 3) := by decide +kernel
theorem dX7_takeTable_87 : decode cX7_takeTable 87 = .ok (.iload_n 1, 1) := by decide +kernel
theorem dX7_takeTable_88 : decode cX7_takeTable 88 = .ok (.iaload, 1) := by decide +kernel
theorem dX7_takeTable_89 : decode cX7_takeTable 89 = .ok (.iastore, 1) := by decide +kernel
theorem dX7_takeTable_90 : decode cX7_takeTable 90 = .ok (.aload_n 0, 1) := by decide +kernel
theorem dX7_takeTable_91 : decode cX7_takeTable 91 = .ok (.getfield 31, 3) := by decide +kernel
theorem dX7_takeTable_94 : decode cX7_takeTable 94 = .ok (.iload_n 1, 1) := by decide +kernel
theorem dX7_takeTable_95 : decode cX7_takeTable 95 = .ok (.aload_n 0, 1) := by decide +kernel
theorem dX7_takeTable_96 : decode cX7_takeTable 96 = .ok (.getfield 58, 3) := by decide +kernel
theorem dX7_takeTable_99 : decode cX7_takeTable 99 = .ok (.iload_n 1, 1) := by decide +kernel
theorem dX7_takeTable_100 : decode cX7_takeTable 100 = .ok (.iaload, 1) := by decide +kernel
theorem dX7_takeTable_101 : decode cX7_takeTable 101 = .ok (.iastore, 1) := by decide +kernel
theorem dX7_takeTable_102 : decode cX7_takeTable 102 = .ok (.aload_n 0, 1) := by decide +kernel
theorem dX7_takeTable_103 : decode cX7_takeTable 103 = .ok (.getfield 40, 3) := by decide +kernel
theorem dX7_takeTable_106 : decode cX7_takeTable 106 = .ok (.iload_n 1, 1) := by decide +kernel
theorem dX7_takeTable_107 : decode cX7_takeTable 107 = .ok (.iload_n 1, 1) := by decide +kernel
theorem dX7_takeTable_108 : decode cX7_takeTable 108 = .ok (.iastore, 1) := by decide +kernel
theorem dX7_takeTable_109 : decode cX7_takeTable 109 = .ok (.aload_n 0, 1) := by decide +kernel
theorem dX7_takeTable_110 : decode cX7_takeTable 110 = .ok (.getfield 43, 3) := by decide +kernel
theorem dX7_takeTable_113 : decode cX7_takeTable 113 = .ok (.iload_n 1, 1) := by decide +kernel
theorem dX7_takeTable_114 : decode cX7_takeTable 114 = .ok (.bipush (-8), 2) := by decide +kernel
theorem dX7_takeTable_116 : decode cX7_takeTable 116 = .ok (.iastore, 1) := by decide +kernel
theorem dX7_takeTable_117 : decode cX7_takeTable 117 = .ok (.iinc 1 1, 3) := by decide +kernel
theorem dX7_takeTable_120 : decode cX7_takeTable 120 = .ok (.goto (-62), 3) := by decide +kernel
theorem dX7_takeTable_123 : decode cX7_takeTable 123 = .ok (.iconst 0, 1) := by decide +kernel
theorem dX7_takeTable_124 : decode cX7_takeTable 124 = .ok (.istore_n 1, 1) := by decide +kernel
theorem dX7_takeTable_125 : decode cX7_takeTable 125 = .ok (.iload_n 1, 1) := by decide +kernel
theorem dX7_takeTable_126 : decode cX7_takeTable 126 = .ok (.bipush 42, 2) := by decide +kernel
theorem dX7_takeTable_128 : decode cX7_takeTable 128 = .ok (.if_icmp .ge 33, 3) := by decide +kernel
theorem dX7_takeTable_131 : decode cX7_takeTable 131 = .ok (.aload_n 0, 1) := by decide +kernel
theorem dX7_takeTable_132 : decode cX7_takeTable 132 = .ok (.getfield 34, 3) := by decide +kernel
theorem dX7_takeTable_135 : decode cX7_takeTable 135 = .ok (.iload_n 1, 1) := by decide +kernel
theorem dX7_takeTable_136 : decode cX7_takeTable 136 = .ok (.aload_n 0, 1) := by decide +kernel
theorem dX7_takeTable_137 : decode cX7_takeTable 137 = .ok (.getfield 61, 3) := by decide +kernel
theorem dX7_takeTable_140 : decode cX7_takeTable 140 = .ok (.iload_n 1, 1) := by decide +kernel
theorem dX7_takeTable_141 : decode cX7_takeTable 141 = .ok (.iaload, 1) := by decide +kernel
theorem dX7_takeTable_142 : decode cX7_takeTable 142 = .ok (.iastore, 1) := by decide +kernel
theorem dX7_takeTable_143 : decode cX7_takeTable 143 = .ok (.aload_n 0, 1) := by decide +kernel
theorem dX7_takeTable_144 : decode cX7_takeTable 144 = .ok (.getfield 37, 3) := by decide +kernel
theorem dX7_takeTable_147 : decode cX7_takeTable 147 = .ok (.iload_n 1, 1) := by decide +kernel
theorem dX7_takeTable_148 : decode cX7_takeTable 148 = .ok (.aload_n 0, 1) := by decide +kernel
theorem dX7_takeTable_149 : decode cX7_takeTable 149 = .ok (.getfield 61, 3) := by decide +kernel
theorem dX7_takeTable_152 : decode cX7_takeTable 152 = .ok (.iload_n 1, 1) := by decide +kernel
theorem dX7_takeTable_153 : decode cX7_takeTable 153 = .ok (.iaload, 1) := by decide +kernel
theorem dX7_takeTable_154 : decode cX7_takeTable 154 = .ok (.iastore, 1) := by decide +kernel
theorem dX7_takeTable_155 : decode cX7_takeTable 155 = .ok (.iinc 1 1, 3) := by decide +kernel
theorem dX7_takeTable_158 : decode cX7_takeTable 158 = .ok (.goto (-33), 3) := by decide +kernel
theorem dX7_takeTable_161 : decode cX7_takeTable 161 = .ok (.aload_n 0, 1) := by decide +kernel
theorem dX7_takeTable_162 : decode cX7_takeTable 162 = .ok (.iconst 1, 1) := by decide +kernel
theorem dX7_takeTable_163 : decode cX7_takeTable 163 = .ok (.putfield 161, 3) := by decide +kernel
theorem dX7_takeTable_166 : decode cX7_takeTable 166 = .ok (.aload_n 0, 1) := by decide +kernel
theorem dX7_takeTable_167 : decode cX7_takeTable 167 = .ok (.iconst 1, 1) := by decide +kernel
theorem dX7_takeTable_168 : decode cX7_takeTable 168 = .ok (.putfield 164, 3) := by decide +kernel
theorem dX7_takeTable_171 : decode cX7_takeTable 171 = .ok (.aload_n 0, 1) := by decide +kernel
theorem dX7_takeTable_172 : decode cX7_takeTable 172 = .ok (.iconst 0, 1) := by decide +kernel
theorem dX7_takeTable_173 : decode cX7_takeTable 173 = .ok (.putfield 167, 3) := by decide +kernel
theorem dX7_takeTable_176 : decode cX7_takeTable 176 = .ok (.return_, 1) := by decide +kernel
theorem dX7_readTable_0 : decode cX7_readTable 0 = .ok (.aload_n 0, 1) := by decide +kernel
theorem dX7_readTable_1 : decode cX7_readTable 1 = .ok (.bipush 100, 2) := by decide +kernel
theorem dX7_readTable_3 : decode cX7_readTable 3 = .ok (.iload_n 1, 1) := by decide +kernel
theorem dX7_readTable_4 : decode cX7_readTable 4 = .ok (.invokevirtual 170, 3) := by decide +kernel
theorem dX7_readTable_7 : decode cX7_readTable 7 = .ok (.ifCond .ne 5, 3) := by decide +kernel
theorem dX7_readTable_10 : decode cX7_readTable 10 = .ok (.iconst 0, 1) := by decide +kernel
theorem dX7_readTable_11 : decode cX7_readTable 11 = .ok (.ireturn, 1) := by decide +kernel
theorem dX7_readTable_12 : decode cX7_readTable 12 = .ok (.aload_n 0, 1) := by decide +kernel
theorem dX7_readTable_13 : decode cX7_readTable 13 = .ok (.dup, 1) := by decide +kernel
theorem dX7_readTable_14 : decode cX7_readTable 14 = .ok (.getfield 131, 3) := by decide +kernel
theorem dX7_readTable_17 : decode cX7_readTable 17 = .ok (.iconst 1, 1) := by decide +kernel
theorem dX7_readTable_18 : decode cX7_readTable 18 = .ok (.iadd, 1) := by decide +kernel
theorem dX7_readTable_19 : decode cX7_readTable 19 = .ok (.putfield 131, 3) := by decide +kernel
theorem dX7_readTable_22 : decode cX7_readTable 22 = .ok (.aload_n 0, 1) := by decide +kernel
theorem dX7_readTable_23 : decode cX7_readTable 23 = .ok (.aload_n 0, 1) := by decide +kernel
theorem dX7_readTable_24 : decode cX7_readTable 24 = .ok (.aload_n 0, 1) := by decide +kernel
theorem dX7_readTable_25 : decode cX7_readTable 25 = .ok (.getfield 131, 3) := by decide +kernel
theorem dX7_readTable_28 : decode cX7_readTable 28 = .ok (.iload_n 1, 1) := by decide +kernel
theorem dX7_readTable_29 : decode cX7_readTable 29 = .ok (.invokevirtual 174, 3) := by decide +kernel
theorem dX7_readTable_32 : decode cX7_readTable 32 = .ok (.putfield 158, 3) := by decide +kernel
theorem dX7_readTable_35 : decode cX7_readTable 35 = .ok (.aload_n 0, 1) := by decide +kernel
theorem dX7_readTable_36 : decode cX7_readTable 36 = .ok (.getfield 158, 3) := by decide +kernel
theorem dX7_readTable_39 : decode cX7_readTable 39 = .ok (.iconst 2, 1) := by decide +kernel
theorem dX7_readTable_40 : decode cX7_readTable 40 = .ok (.bipush 6, 2) := by decide +kernel
theorem dX7_readTable_42 : decode cX7_readTable 42 = .ok (.invokestatic 121, 3) := by decide +kernel
theorem dX7_readTable_45 : decode cX7_readTable 45 = .ok (.ifCond .ne 5, 3) := by decide +kernel
theorem dX7_readTable_48 : decode cX7_readTable 48 = .ok (.iconst 0, 1) := by decide +kernel
theorem dX7_readTable_49 : decode cX7_readTable 49 = .ok (.ireturn, 1) := by decide +kernel
theorem dX7_readTable_50 : decode cX7_readTable 50 = .ok (.aload_n 0, 1) := by decide +kernel
theorem dX7_readTable_51 : decode cX7_readTable 51 = .ok (.dup, 1) := by decide +kernel
theorem dX7_readTable_52 : decode cX7_readTable 52 = .ok (.getfield 131, 3) := by decide +kernel
theorem dX7_readTable_55 : decode cX7_readTable 55 = .ok (.iconst 1, 1) := by decide +kernel
theorem dX7_readTable_56 : decode cX7_readTable 56 = .ok (.iadd, 1) := by decide +kernel
theorem dX7_readTable_57 : decode cX7_readTable 57 = .ok (.putfield 131, 3) := by decide +kernel
theorem dX7_readTable_60 : decode cX7_readTable 60 = .ok (.iconst 0, 1) := by decide +kernel
theorem dX7_readTable_61 : decode cX7_readTable 61 = .ok (.istore_n 2, 1) := by decide +kernel
theorem dX7_readTable_62 : decode cX7_readTable 62 = .ok (.iload_n 2, 1) := by decide +kernel
theorem dX7_readTable_63 : decode cX7_readTable 63 = .ok (.aload_n 0, 1) := by decide +kernel
theorem dX7_readTable_64 : decode cX7_readTable 64 = .ok (.getfield 158, 3) := by decide +kernel
theorem dX7_readTable_67 : decode cX7_readTable 67 = .ok (.if_icmp .ge 84, 3) := by decide +kernel
theorem dX7_readTable_70 : decode cX7_readTable 70 = .ok (.aload_n 0, 1) := by decide +kernel
theorem dX7_readTable_71 : decode cX7_readTable 71 = .ok (.getfield 46, 3) := by decide +kernel
theorem dX7_readTable_74 : decode cX7_readTable 74 = .ok (.iload_n 2, 1) := by decide +kernel
theorem dX7_readTable_75 : decode cX7_readTable 75 = .ok (.aload_n 0, 1) := by decide +kernel
theorem dX7_readTable_76 : decode cX7_readTable 76 = .ok (.aload_n 0, 1) := by decide +kernel
theorem dX7_readTable_77 : decode cX7_readTable 77 = .ok (.getfield 131, 3) := by decide +kernel
theorem dX7_readTable_80 : decode cX7_readTable 80 = .ok (.iload_n 1, 1) := by decide +kernel
theorem dX7_readTable_81 : decode cX7_readTable 81 = .ok (.invokevirtual 174, 3) := by decide +kernel
theorem dX7_readTable_84 : decode cX7_readTable 84 = .ok (.iastore, 1) := by decide +kernel
theorem dX7_readTable_85 : decode cX7_readTable 85 = .ok (.aload_n 0, 1) := by decide +kernel
theorem dX7_readTable_86 : decode cX7_readTable 86 = .ok (.getfield 46, 3) := by decide +kernel
theorem dX7_readTable_89 : decode cX7_readTable 89 = .ok (.iload_n 2, 1) := by decide +kernel
theorem dX7_readTable_90 : decode cX7_readTable 90 = .ok (.iaload, 1) := by decide +kernel
theorem dX7_readTable_91 : decode cX7_readTable 91 = .ok (.iconst 1, 1) := by decide +kernel
theorem dX7_readTable_92 : decode cX7_readTable 92 = .ok (.if_icmp .ge 5, 3) := by decide +kernel
theorem dX7_readTable_95 : decode cX7_readTable 95 = .ok (.iconst 0, 1) := by decide +kernel
theorem dX7_readTable_96 : decode cX7_readTable 96 = .ok (.ireturn, 1) := by decide +kernel
theorem dX7_readTable_97 : decode cX7_readTable 97 = .ok (.aload_n 0, 1) := by decide +kernel
theorem dX7_readTable_98 : decode cX7_readTable 98 = .ok (.dup, 1) := by decide +kernel
theorem dX7_readTable_99 : decode cX7_readTable 99 = .ok (.getfield 131, 3) := by decide +kernel
theorem dX7_readTable_102 : decode cX7_readTable 102 = .ok (.iconst 1, 1) := by decide +kernel
theorem dX7_readTable_103 : decode cX7_readTable 103 = .ok (.iadd, 1) := by decide +kernel
theorem dX7_readTable_104 : decode cX7_readTable 104 = .ok (.putfield 131, 3) := by decide +kernel
theorem dX7_readTable_107 : decode cX7_readTable 107 = .ok (.aload_n 0, 1) := by decide +kernel
theorem dX7_readTable_108 : decode cX7_readTable 108 = .ok (.getfield 49, 3) := by decide +kernel
theorem dX7_readTable_111 : decode cX7_readTable 111 = .ok (.iload_n 2, 1) := by decide +kernel
theorem dX7_readTable_112 : decode cX7_readTable 112 = .ok (.aload_n 0, 1) := by decide +kernel
theorem dX7_readTable_113 : decode cX7_readTable 113 = .ok (.aload_n 0, 1) := by decide +kernel
theorem dX7_readTable_114 : decode cX7_readTable 114 = .ok (.getfield 131, 3) := by decide +kernel
theorem dX7_readTable_117 : decode cX7_readTable 117 = .ok (.iload_n 1, 1) := by decide +kernel
theorem dX7_readTable_118 : decode cX7_readTable 118 = .ok (.invokevirtual 174, 3) := by decide +kernel
theorem dX7_readTable_121 : decode cX7_readTable 121 = .ok (.iastore, 1) := by decide +kernel
theorem dX7_readTable_122 : decode cX7_readTable 122 = .ok (.aload_n 0, 1) := by decide +kernel
theorem dX7_readTable_123 : decode cX7_readTable 123 = .ok (.getfield 49, 3) := by decide +kernel
theorem dX7_readTable_126 : decode cX7_readTable 126 = .ok (.iload_n 2, 1) := by decide +kernel
theorem dX7_readTable_127 : decode cX7_readTable 127 = .ok (.iaload, 1) := by decide +kernel
theorem dX7_readTable_128 : decode cX7_readTable 128 = .ok (.bipush (-9), 2) := by decide +kernel
theorem dX7_readTable_130 : decode cX7_readTable 130 = .ok (.if_icmp .ne 5, 3) := by decide +kernel
theorem dX7_readTable_133 : decode cX7_readTable 133 = .ok (.iconst 0, 1) := by decide +kernel
theorem dX7_readTable_134 : decode cX7_readTable 134 = .ok (.ireturn, 1) := by decide +kernel
theorem dX7_readTable_135 : decode cX7_readTable 135 = .ok (.aload_n 0, 1) := by decide +kernel
theorem dX7_readTable_136 : decode cX7_readTable 136 = .ok (.dup, 1) := by decide +kernel
theorem dX7_readTable_137 : decode cX7_readTable 137 = .ok (.getfield 131, 3) := by decide +kernel
theorem dX7_readTable_140 : decode cX7_readTable 140 = .ok (.iconst 1, 1) := by decide +kernel
theorem dX7_readTable_141 : decode cX7_readTable 141 = .ok (.iadd, 1) := by decide +kernel
theorem dX7_readTable_142 : decode cX7_readTable 142 = .ok (.putfield 131, 3) := by decide +kernel
theorem dX7_readTable_145 : decode cX7_readTable 145 = .ok (.iinc 2 1, 3) := by decide +kernel
theorem dX7_readTable_148 : decode cX7_readTable 148 = .ok (.goto (-86), 3) := by decide +kernel
theorem dX7_readTable_151 : decode cX7_readTable 151 = .ok (.aload_n 0, 1) := by decide +kernel
theorem dX7_readTable_152 : decode cX7_readTable 152 = .ok (.iconst 0, 1) := by decide +kernel
theorem dX7_readTable_153 : decode cX7_readTable 153 = .ok (.putfield 155, 3) := by decide +kernel
theorem dX7_readTable_156 : decode cX7_readTable 156 = .ok (.aload_n 0, 1) := by decide +kernel
theorem dX7_readTable_157 : decode cX7_readTable 157 = .ok (.getfield 155, 3) := by decide +kernel
theorem dX7_readTable_160 : decode cX7_readTable 160 = .ok (.iconst 2, 1) := by decide +kernel
theorem dX7_readTable_161 : decode cX7_readTable 161 = .ok (.if_icmp .lt 11, 3) := by decide +kernel
theorem dX7_readTable_164 : decode cX7_readTable 164 = .ok (.aload_n 0, 1) := by decide +kernel
theorem dX7_readTable_165 : decode cX7_readTable 165 = .ok (.getfield 131, 3) := by decide +kernel
theorem dX7_readTable_168 : decode cX7_readTable 168 = .ok (.iload_n 1, 1) := by decide +kernel
theorem dX7_readTable_169 : decode cX7_readTable 169 = .ok (.if_icmp .ge 44, 3) := by decide +kernel
theorem dX7_readTable_172 : decode cX7_readTable 172 = .ok (.aload_n 0, 1) := by decide +kernel
theorem dX7_readTable_173 : decode cX7_readTable 173 = .ok (.getfield 155, 3) := by decide +kernel
theorem dX7_readTable_176 : decode cX7_readTable 176 = .ok (.bipush 7, 2) := by decide +kernel
theorem dX7_readTable_178 : decode cX7_readTable 178 = .ok (.if_icmp .eq 13, 3) := by decide +kernel
theorem dX7_readTable_181 : decode cX7_readTable 181 = .ok (.aload_n 0, 1) := by decide +kernel
theorem dX7_readTable_182 : decode cX7_readTable 182 = .ok (.bipush 59, 2) := by decide +kernel
theorem dX7_readTable_184 : decode cX7_readTable 184 = .ok (.iload_n 1, 1) := by decide +kernel
theorem dX7_readTable_185 : decode cX7_readTable 185 = .ok (.invokevirtual 170, 3) := by decide +kernel
theorem dX7_readTable_188 : decode cX7_readTable 188 = .ok (.ifCond .ne 5, 3) := by decide +kernel
theorem dX7_readTable_191 : decode cX7_readTable 191 = .ok (.iconst 0, 1) := by decide +kernel
theorem dX7_readTable_192 : decode cX7_readTable 192 = .ok (.ireturn, 1) := by decide +kernel
theorem dX7_readTable_193 : decode cX7_readTable 193 = .ok (.aload_n 0, 1) := by decide +kernel
theorem dX7_readTable_194 : decode cX7_readTable 194 = .ok (.dup, 1) := by decide +kernel
theorem dX7_readTable_195 : decode cX7_readTable 195 = .ok (.getfield 131, 3) := by decide +kernel
theorem dX7_readTable_198 : decode cX7_readTable 198 = .ok (.iconst 1, 1) := by decide +kernel
theorem dX7_readTable_199 : decode cX7_readTable 199 = .ok (.iadd, 1) := by decide +kernel
theorem dX7_readTable_200 : decode cX7_readTable 200 = .ok (.putfield 131, 3) := by decide +kernel
theorem dX7_readTable_203 : decode cX7_readTable 203 = .ok (.aload_n 0, 1) := by decide +kernel
theorem dX7_readTable_204 : decode cX7_readTable 204 = .ok (.iload_n 1, 1) := by decide +kernel
theorem dX7_readTable_205 : decode cX7_readTable 205 = .ok (.invokevirtual 178, 3) := by decide +kernel
theorem dX7_readTable_208 : decode cX7_readTable 208 = .ok (.ifCond .ne (-52), 3) := by decide +kernel
theorem dX7_readTable_211 : decode cX7_readTable 211 = .ok (.iconst 0, 1) := by decide +kernel
theorem dX7_readTable_212 : decode cX7_readTable 212 = .ok (.ireturn, 1) := by decide +kernel
theorem dX7_readTable_213 : decode cX7_readTable 213 = .ok (.iconst 1, 1) := by decide +kernel
theorem dX7_readTable_214 : decode cX7_readTable 214 = .ok (.ireturn, 1) := by decide +kernel
theorem dX7_readGuest_0 : decode cX7_readGuest 0 = .ok (.aload_n 0, 1) := by decide +kernel
theorem dX7_readGuest_1 : decode cX7_readGuest 1 = .ok (.getfield 155, 3) := by decide +kernel
theorem dX7_readGuest_4 : decode cX7_readGuest 4 = .ok (.istore_n 2, 1) := by decide +kernel
theorem dX7_readGuest_5 : decode cX7_readGuest 5 = .ok (.aload_n 0, 1) := by decide +kernel
theorem dX7_readGuest_6 : decode cX7_readGuest 6 = .ok (.bipush 107, 2) := by decide +kernel
theorem dX7_readGuest_8 : decode cX7_readGuest 8 = .ok (.iload_n 1, 1) := by decide +kernel
theorem dX7_readGuest_9 : decode cX7_readGuest 9 = .ok (.invokevirtual 170, 3) := by decide +kernel
theorem dX7_readGuest_12 : decode cX7_readGuest 12 = .ok (.ifCond .eq 13, 3) := by decide +kernel
theorem dX7_readGuest_15 : decode cX7_readGuest 15 = .ok (.aload_n 0, 1) := by decide +kernel
theorem dX7_readGuest_16 : decode cX7_readGuest 16 = .ok (.getfield 52, 3) := by decide +kernel
theorem dX7_readGuest_19 : decode cX7_readGuest 19 = .ok (.iload_n 2, 1) := by decide +kernel
theorem dX7_readGuest_20 : decode cX7_readGuest 20 = .ok (.iconst 0, 1) := by decide +kernel
theorem dX7_readGuest_21 : decode cX7_readGuest 21 = .ok (.iastore, 1) := by decide +kernel
theorem dX7_readGuest_22 : decode cX7_readGuest 22 = .ok (.goto 45, 3) := by decide +kernel
theorem dX7_readGuest_25 : decode cX7_readGuest 25 = .ok (.aload_n 0, 1) := by decide +kernel
theorem dX7_readGuest_26 : decode cX7_readGuest 26 = .ok (.bipush 99, 2) := by decide +kernel
theorem dX7_readGuest_28 : decode cX7_readGuest 28 = .ok (.iload_n 1, 1) := by decide +kernel
theorem dX7_readGuest_29 : decode cX7_readGuest 29 = .ok (.invokevirtual 170, 3) := by decide +kernel
theorem dX7_readGuest_32 : decode cX7_readGuest 32 = .ok (.ifCond .eq 13, 3) := by decide +kernel
theorem dX7_readGuest_35 : decode cX7_readGuest 35 = .ok (.aload_n 0, 1) := by decide +kernel
theorem dX7_readGuest_36 : decode cX7_readGuest 36 = .ok (.getfield 52, 3) := by decide +kernel
theorem dX7_readGuest_39 : decode cX7_readGuest 39 = .ok (.iload_n 2, 1) := by decide +kernel
theorem dX7_readGuest_40 : decode cX7_readGuest 40 = .ok (.iconst 1, 1) := by decide +kernel
theorem dX7_readGuest_41 : decode cX7_readGuest 41 = .ok (.iastore, 1) := by decide +kernel
theorem dX7_readGuest_42 : decode cX7_readGuest 42 = .ok (.goto 25, 3) := by decide +kernel
theorem dX7_readGuest_45 : decode cX7_readGuest 45 = .ok (.aload_n 0, 1) := by decide +kernel
theorem dX7_readGuest_46 : decode cX7_readGuest 46 = .ok (.bipush 112, 2) := by decide +kernel
theorem dX7_readGuest_48 : decode cX7_readGuest 48 = .ok (.iload_n 1, 1) := by decide +kernel
theorem dX7_readGuest_49 : decode cX7_readGuest 49 = .ok (.invokevirtual 170, 3) := by decide +kernel
theorem dX7_readGuest_52 : decode cX7_readGuest 52 = .ok (.ifCond .eq 13, 3) := by decide +kernel
theorem dX7_readGuest_55 : decode cX7_readGuest 55 = .ok (.aload_n 0, 1) := by decide +kernel
theorem dX7_readGuest_56 : decode cX7_readGuest 56 = .ok (.getfield 52, 3) := by decide +kernel
theorem dX7_readGuest_59 : decode cX7_readGuest 59 = .ok (.iload_n 2, 1) := by decide +kernel
theorem dX7_readGuest_60 : decode cX7_readGuest 60 = .ok (.iconst 2, 1) := by decide +kernel
theorem dX7_readGuest_61 : decode cX7_readGuest 61 = .ok (.iastore, 1) := by decide +kernel
theorem dX7_readGuest_62 : decode cX7_readGuest 62 = .ok (.goto 5, 3) := by decide +kernel
theorem dX7_readGuest_65 : decode cX7_readGuest 65 = .ok (.iconst 0, 1) := by decide +kernel
theorem dX7_readGuest_66 : decode cX7_readGuest 66 = .ok (.ireturn, 1) := by decide +kernel
theorem dX7_readGuest_67 : decode cX7_readGuest 67 = .ok (.aload_n 0, 1) := by decide +kernel
theorem dX7_readGuest_68 : decode cX7_readGuest 68 = .ok (.dup, 1) := by decide +kernel
theorem dX7_readGuest_69 : decode cX7_readGuest 69 = .ok (.getfield 131, 3) := by decide +kernel
theorem dX7_readGuest_72 : decode cX7_readGuest 72 = .ok (.iconst 1, 1) := by decide +kernel
theorem dX7_readGuest_73 : decode cX7_readGuest 73 = .ok (.iadd, 1) := by decide +kernel
theorem dX7_readGuest_74 : decode cX7_readGuest 74 = .ok (.putfield 131, 3) := by decide +kernel
theorem dX7_readGuest_77 : decode cX7_readGuest 77 = .ok (.aload_n 0, 1) := by decide +kernel
theorem dX7_readGuest_78 : decode cX7_readGuest 78 = .ok (.getfield 55, 3) := by decide +kernel
theorem dX7_readGuest_81 : decode cX7_readGuest 81 = .ok (.iload_n 2, 1) := by decide +kernel
theorem dX7_readGuest_82 : decode cX7_readGuest 82 = .ok (.aload_n 0, 1) := by decide +kernel
theorem dX7_readGuest_83 : decode cX7_readGuest 83 = .ok (.aload_n 0, 1) := by decide +kernel
theorem dX7_readGuest_84 : decode cX7_readGuest 84 = .ok (.getfield 131, 3) := by decide +kernel
theorem dX7_readGuest_87 : decode cX7_readGuest 87 = .ok (.iload_n 1, 1) := by decide +kernel
theorem dX7_readGuest_88 : decode cX7_readGuest 88 = .ok (.invokevirtual 174, 3) := by decide +kernel
theorem dX7_readGuest_91 : decode cX7_readGuest 91 = .ok (.iastore, 1) := by decide +kernel
theorem dX7_readGuest_92 : decode cX7_readGuest 92 = .ok (.aload_n 0, 1) := by decide +kernel
theorem dX7_readGuest_93 : decode cX7_readGuest 93 = .ok (.getfield 55, 3) := by decide +kernel
theorem dX7_readGuest_96 : decode cX7_readGuest 96 = .ok (.iload_n 2, 1) := by decide +kernel
theorem dX7_readGuest_97 : decode cX7_readGuest 97 = .ok (.iaload, 1) := by decide +kernel
theorem dX7_readGuest_98 : decode cX7_readGuest 98 = .ok (.bipush (-9), 2) := by decide +kernel
theorem dX7_readGuest_100 : decode cX7_readGuest 100 = .ok (.if_icmp .ne 5, 3) := by decide +kernel
theorem dX7_readGuest_103 : decode cX7_readGuest 103 = .ok (.iconst 0, 1) := by decide +kernel
theorem dX7_readGuest_104 : decode cX7_readGuest 104 = .ok (.ireturn, 1) := by decide +kernel
theorem dX7_readGuest_105 : decode cX7_readGuest 105 = .ok (.aload_n 0, 1) := by decide +kernel
theorem dX7_readGuest_106 : decode cX7_readGuest 106 = .ok (.dup, 1) := by decide +kernel
theorem dX7_readGuest_107 : decode cX7_readGuest 107 = .ok (.getfield 131, 3) := by decide +kernel
theorem dX7_readGuest_110 : decode cX7_readGuest 110 = .ok (.iconst 1, 1) := by decide +kernel
theorem dX7_readGuest_111 : decode cX7_readGuest 111 = .ok (.iadd, 1) := by decide +kernel
theorem dX7_readGuest_112 : decode cX7_readGuest 112 = .ok (.putfield 131, 3) := by decide +kernel
theorem dX7_readGuest_115 : decode cX7_readGuest 115 = .ok (.aload_n 0, 1) := by decide +kernel
theorem dX7_readGuest_116 : decode cX7_readGuest 116 = .ok (.getfield 58, 3) := by decide +kernel
theorem dX7_readGuest_119 : decode cX7_readGuest 119 = .ok (.iload_n 2, 1) := by decide +kernel
theorem dX7_readGuest_120 : decode cX7_readGuest 120 = .ok (.iconst 0, 1) := by decide +kernel
theorem dX7_readGuest_121 : decode cX7_readGuest 121 = .ok (.iastore, 1) := by decide +kernel
theorem dX7_readGuest_122 : decode cX7_readGuest 122 = .ok (.aload_n 0, 1) := by decide +kernel
theorem dX7_readGuest_123 : decode cX7_readGuest 123 = .ok (.getfield 52, 3) := by decide +kernel
theorem dX7_readGuest_126 : decode cX7_readGuest 126 = .ok (.iload_n 2, 1) := by decide +kernel
theorem dX7_readGuest_127 : decode cX7_readGuest 127 = .ok (.iaload, 1) := by decide +kernel
theorem dX7_readGuest_128 : decode cX7_readGuest 128 = .ok (.iconst 2, 1) := by decide +kernel
theorem dX7_readGuest_129 : decode cX7_readGuest 129 = .ok (.if_icmp .ne 41, 3) := by decide +kernel
theorem dX7_readGuest_132 : decode cX7_readGuest 132 = .ok (.aload_n 0, 1) := by decide +kernel
theorem dX7_readGuest_133 : decode cX7_readGuest 133 = .ok (.getfield 58, 3) := by decide +kernel
theorem dX7_readGuest_136 : decode cX7_readGuest 136 = .ok (.iload_n 2, 1) := by decide +kernel
theorem dX7_readGuest_137 : decode cX7_readGuest 137 = .ok (.aload_n 0, 1) := by decide +kernel
theorem dX7_readGuest_138 : decode cX7_readGuest 138 = .ok (.aload_n 0, 1) := by decide +kernel
theorem dX7_readGuest_139 : decode cX7_readGuest 139 = .ok (.getfield 131, 3) := by decide +kernel
theorem dX7_readGuest_142 : decode cX7_readGuest 142 = .ok (.iload_n 1, 1) := by decide +kernel
theorem dX7_readGuest_143 : decode cX7_readGuest 143 = .ok (.invokevirtual 174, 3) := by decide +kernel
theorem dX7_readGuest_146 : decode cX7_readGuest 146 = .ok (.iastore, 1) := by decide +kernel
theorem dX7_readGuest_147 : decode cX7_readGuest 147 = .ok (.aload_n 0, 1) := by decide +kernel
theorem dX7_readGuest_148 : decode cX7_readGuest 148 = .ok (.getfield 58, 3) := by decide +kernel
theorem dX7_readGuest_151 : decode cX7_readGuest 151 = .ok (.iload_n 2, 1) := by decide +kernel
theorem dX7_readGuest_152 : decode cX7_readGuest 152 = .ok (.iaload, 1) := by decide +kernel
theorem dX7_readGuest_153 : decode cX7_readGuest 153 = .ok (.bipush (-9), 2) := by decide +kernel
theorem dX7_readGuest_155 : decode cX7_readGuest 155 = .ok (.if_icmp .ne 5, 3) := by decide +kernel
theorem dX7_readGuest_158 : decode cX7_readGuest 158 = .ok (.iconst 0, 1) := by decide +kernel
theorem dX7_readGuest_159 : decode cX7_readGuest 159 = .ok (.ireturn, 1) := by decide +kernel
theorem dX7_readGuest_160 : decode cX7_readGuest 160 = .ok (.aload_n 0, 1) := by decide +kernel
theorem dX7_readGuest_161 : decode cX7_readGuest 161 = .ok (.dup, 1) := by decide +kernel
theorem dX7_readGuest_162 : decode cX7_readGuest 162 = .ok (.getfield 131, 3) := by decide +kernel
theorem dX7_readGuest_165 : decode cX7_readGuest 165 = .ok (.iconst 1, 1) := by decide +kernel
theorem dX7_readGuest_166 : decode cX7_readGuest 166 = .ok (.iadd, 1) := by decide +kernel
theorem dX7_readGuest_167 : decode cX7_readGuest 167 = .ok (.putfield 131, 3) := by decide +kernel
theorem dX7_readGuest_170 : decode cX7_readGuest 170 = .ok (.iconst 0, 1) := by decide +kernel
theorem dX7_readGuest_171 : decode cX7_readGuest 171 = .ok (.istore_n 3, 1) := by decide +kernel
theorem dX7_readGuest_172 : decode cX7_readGuest 172 = .ok (.iconst 0, 1) := by decide +kernel
theorem dX7_readGuest_173 : decode cX7_readGuest 173 = .ok (.istore 4, 2) := by decide +kernel
theorem dX7_readGuest_175 : decode cX7_readGuest 175 = .ok (.iload 4, 2) := by decide +kernel
theorem dX7_readGuest_177 : decode cX7_readGuest 177 = .ok (.aload_n 0, 1) := by decide +kernel
theorem dX7_readGuest_178 : decode cX7_readGuest 178 = .ok (.getfield 158, 3) := by decide +kernel
theorem dX7_readGuest_181 : decode cX7_readGuest 181 = .ok (.if_icmp .ge 104, 3) := by decide +kernel
theorem dX7_readGuest_184 : decode cX7_readGuest 184 = .ok (.aload_n 0, 1) := by decide +kernel
theorem dX7_readGuest_185 : decode cX7_readGuest 185 = .ok (.bipush 120, 2) := by decide +kernel
theorem dX7_readGuest_187 : decode cX7_readGuest 187 = .ok (.iload_n 1, 1) := by decide +kernel
theorem dX7_readGuest_188 : decode cX7_readGuest 188 = .ok (.invokevirtual 170, 3) := by decide +kernel
theorem dX7_readGuest_191 : decode cX7_readGuest 191 = .ok (.ifCond .eq 7, 3) := by decide +kernel
theorem dX7_readGuest_194 : decode cX7_readGuest 194 = .ok (.iconst (-1), 1) := by decide +kernel
theorem dX7_readGuest_195 : decode cX7_readGuest 195 = .ok (.goto 12, 3) := by decide +kernel
theorem dX7_readGuest_198 : decode cX7_readGuest 198 = .ok (.aload_n 0, 1) := by decide +kernel
theorem dX7_readGuest_199 : decode cX7_readGuest 199 = .ok (.aload_n 0, 1) := by decide +kernel
theorem dX7_readGuest_200 : decode cX7_readGuest 200 = .ok (.getfield 131, 3) := by decide +kernel
theorem dX7_readGuest_203 : decode cX7_readGuest 203 = .ok (.iload_n 1, 1) := by decide +kernel
theorem dX7_readGuest_204 : decode cX7_readGuest 204 = .ok (.invokevirtual 174, 3) := by decide +kernel
theorem dX7_readGuest_207 : decode cX7_readGuest 207 = .ok (.istore 5, 2) := by decide +kernel
theorem dX7_readGuest_209 : decode cX7_readGuest 209 = .ok (.iload 5, 2) := by decide +kernel
theorem dX7_readGuest_211 : decode cX7_readGuest 211 = .ok (.bipush (-9), 2) := by decide +kernel
theorem dX7_readGuest_213 : decode cX7_readGuest 213 = .ok (.if_icmp .eq 24, 3) := by decide +kernel
theorem dX7_readGuest_216 : decode cX7_readGuest 216 = .ok (.iload 5, 2) := by decide +kernel
theorem dX7_readGuest_218 : decode cX7_readGuest 218 = .ok (.iconst (-1), 1) := by decide +kernel
theorem dX7_readGuest_219 : decode cX7_readGuest 219 = .ok (.if_icmp .ne 20, 3) := by decide +kernel
theorem dX7_readGuest_222 : decode cX7_readGuest 222 = .ok (.iload_n 3, 1) := by decide +kernel
theorem dX7_readGuest_223 : decode cX7_readGuest 223 = .ok (.ifCond .ne 16, 3) := by decide +kernel
theorem dX7_readGuest_226 : decode cX7_readGuest 226 = .ok (.iload 4, 2) := by decide +kernel
theorem dX7_readGuest_228 : decode cX7_readGuest 228 = .ok (.aload_n 0, 1) := by decide +kernel
theorem dX7_readGuest_229 : decode cX7_readGuest 229 = .ok (.getfield 158, 3) := by decide +kernel
theorem dX7_readGuest_232 : decode cX7_readGuest 232 = .ok (.iconst 1, 1) := by decide +kernel
theorem dX7_readGuest_233 : decode cX7_readGuest 233 = .ok (.isub, 1) := by decide +kernel
theorem dX7_readGuest_234 : decode cX7_readGuest 234 = .ok (.if_icmp .ne 5, 3) := by decide +kernel
theorem dX7_readGuest_237 : decode cX7_readGuest 237 = .ok (.iconst 0, 1) := by decide +kernel
theorem dX7_readGuest_238 : decode cX7_readGuest 238 = .ok (.ireturn, 1) := by decide +kernel
theorem dX7_readGuest_239 : decode cX7_readGuest 239 = .ok (.iload_n 3, 1) := by decide +kernel
theorem dX7_readGuest_240 : decode cX7_readGuest 240 = .ok (.ifCond .ne 9, 3) := by decide +kernel
theorem dX7_readGuest_243 : decode cX7_readGuest 243 = .ok (.iload 5, 2) := by decide +kernel
theorem dX7_readGuest_245 : decode cX7_readGuest 245 = .ok (.iconst (-1), 1) := by decide +kernel
theorem dX7_readGuest_246 : decode cX7_readGuest 246 = .ok (.if_icmp .eq 7, 3) := by decide +kernel
theorem dX7_readGuest_249 : decode cX7_readGuest 249 = .ok (.iconst 1, 1) := by decide +kernel
theorem dX7_readGuest_250 : decode cX7_readGuest 250 = .ok (.goto 4, 3) := by decide +kernel
theorem dX7_readGuest_253 : decode cX7_readGuest 253 = .ok (.iconst 0, 1) := by decide +kernel
theorem dX7_readGuest_254 : decode cX7_readGuest 254 = .ok (.istore_n 3, 1) := by decide +kernel
theorem dX7_readGuest_255 : decode cX7_readGuest 255 = .ok (.aload_n 0, 1) := by decide +kernel
theorem dX7_readGuest_256 : decode cX7_readGuest 256 = .ok (.getfield 61, 3) := by decide +kernel
theorem dX7_readGuest_259 : decode cX7_readGuest 259 = .ok (.bipush 6, 2) := by decide +kernel
theorem dX7_readGuest_261 : decode cX7_readGuest 261 = .ok (.iload_n 2, 1) := by decide +kernel
theorem dX7_readGuest_262 : decode cX7_readGuest 262 = .ok (.imul, 1) := by decide +kernel
theorem dX7_readGuest_263 : decode cX7_readGuest 263 = .ok (.iload 4, 2) := by decide +kernel
theorem dX7_readGuest_265 : decode cX7_readGuest 265 = .ok (.iadd, 1) := by decide +kernel
theorem dX7_readGuest_266 : decode cX7_readGuest 266 = .ok (.iload 5, 2) := by decide +kernel
theorem dX7_readGuest_268 : decode cX7_readGuest 268 = .ok (.iastore, 1) := by decide +kernel
theorem dX7_readGuest_269 : decode cX7_readGuest 269 = .ok (.aload_n 0, 1) := by decide +kernel
theorem dX7_readGuest_270 : decode cX7_readGuest 270 = .ok (.dup, 1) := by decide +kernel
theorem dX7_readGuest_271 : decode cX7_readGuest 271 = .ok (.getfield 131, 3) := by decide +kernel
theorem dX7_readGuest_274 : decode cX7_readGuest 274 = .ok (.iconst 1, 1) := by decide +kernel
theorem dX7_readGuest_275 : decode cX7_readGuest 275 = .ok (.iadd, 1) := by decide +kernel
theorem dX7_readGuest_276 : decode cX7_readGuest 276 = .ok (.putfield 131, 3) := by decide +kernel
theorem dX7_readGuest_279 : decode cX7_readGuest 279 = .ok (.iinc 4 1, 3) := by decide +kernel
theorem dX7_readGuest_282 : decode cX7_readGuest 282 = .ok (.goto (-107), 3) := by decide +kernel
theorem dX7_readGuest_285 : decode cX7_readGuest 285 = .ok (.aload_n 0, 1) := by decide +kernel
theorem dX7_readGuest_286 : decode cX7_readGuest 286 = .ok (.dup, 1) := by decide +kernel
theorem dX7_readGuest_287 : decode cX7_readGuest 287 = .ok (.getfield 155, 3) := by decide +kernel
theorem dX7_readGuest_290 : decode cX7_readGuest 290 = .ok (.iconst 1, 1) := by decide +kernel
theorem dX7_readGuest_291 : decode cX7_readGuest 291 = .ok (.iadd, 1) := by decide +kernel
theorem dX7_readGuest_292 : decode cX7_readGuest 292 = .ok (.putfield 155, 3) := by decide +kernel
theorem dX7_readGuest_295 : decode cX7_readGuest 295 = .ok (.iconst 1, 1) := by decide +kernel
theorem dX7_readGuest_296 : decode cX7_readGuest 296 = .ok (.ireturn, 1) := by decide +kernel
theorem dX7_ofDish_0 : decode cX7_ofDish 0 = .ok (.aload_n 0, 1) := by decide +kernel
theorem dX7_ofDish_1 : decode cX7_ofDish 1 = .ok (.iload_n 1, 1) := by decide +kernel
theorem dX7_ofDish_2 : decode cX7_ofDish 2 = .ok (.invokevirtual 181, 3) := by decide +kernel
theorem dX7_ofDish_5 : decode cX7_ofDish 5 = .ok (.ifCond .ne 5, 3) := by decide +kernel
theorem dX7_ofDish_8 : decode cX7_ofDish 8 = .ok (.iconst (-1), 1) := by decide +kernel
theorem dX7_ofDish_9 : decode cX7_ofDish 9 = .ok (.ireturn, 1) := by decide +kernel
theorem dX7_ofDish_10 : decode cX7_ofDish 10 = .ok (.iload_n 2, 1) := by decide +kernel
theorem dX7_ofDish_11 : decode cX7_ofDish 11 = .ok (.ifCond .ne 12, 3) := by decide +kernel
theorem dX7_ofDish_14 : decode cX7_ofDish 14 = .ok (.aload_n 0, 1) := by decide +kernel
theorem dX7_ofDish_15 : decode cX7_ofDish 15 = .ok (.getfield 19, 3) := by decide +kernel
theorem dX7_ofDish_18 : decode cX7_ofDish 18 = .ok (.iload_n 1, 1) := by decide +kernel
theorem dX7_ofDish_19 : decode cX7_ofDish 19 = .ok (.iaload, 1) := by decide +kernel
theorem dX7_ofDish_20 : decode cX7_ofDish 20 = .ok (.goto 19, 3) := by decide +kernel
theorem dX7_ofDish_23 : decode cX7_ofDish 23 = .ok (.iload_n 2, 1) := by decide +kernel
theorem dX7_ofDish_24 : decode cX7_ofDish 24 = .ok (.iconst 1, 1) := by decide +kernel
theorem dX7_ofDish_25 : decode cX7_ofDish 25 = .ok (.if_icmp .ne 12, 3) := by decide +kernel
theorem dX7_ofDish_28 : decode cX7_ofDish 28 = .ok (.aload_n 0, 1) := by decide +kernel
theorem dX7_ofDish_29 : decode cX7_ofDish 29 = .ok (.getfield 22, 3) := by decide +kernel
theorem dX7_ofDish_32 : decode cX7_ofDish 32 = .ok (.iload_n 1, 1) := by decide +kernel
theorem dX7_ofDish_33 : decode cX7_ofDish 33 = .ok (.iaload, 1) := by decide +kernel
theorem dX7_ofDish_34 : decode cX7_ofDish 34 = .ok (.goto 5, 3) := by decide +kernel
theorem dX7_ofDish_37 : decode cX7_ofDish 37 = .ok (.bipush (-2), 2) := by decide +kernel
theorem dX7_ofDish_39 : decode cX7_ofDish 39 = .ok (.ireturn, 1) := by decide +kernel
theorem dX7_seatOf_0 : decode cX7_seatOf 0 = .ok (.iconst 0, 1) := by decide +kernel
theorem dX7_seatOf_1 : decode cX7_seatOf 1 = .ok (.istore_n 2, 1) := by decide +kernel
theorem dX7_seatOf_2 : decode cX7_seatOf 2 = .ok (.aload_n 0, 1) := by decide +kernel
theorem dX7_seatOf_3 : decode cX7_seatOf 3 = .ok (.getfield 40, 3) := by decide +kernel
theorem dX7_seatOf_6 : decode cX7_seatOf 6 = .ok (.iload_n 2, 1) := by decide +kernel
theorem dX7_seatOf_7 : decode cX7_seatOf 7 = .ok (.iaload, 1) := by decide +kernel
theorem dX7_seatOf_8 : decode cX7_seatOf 8 = .ok (.iload_n 1, 1) := by decide +kernel
theorem dX7_seatOf_9 : decode cX7_seatOf 9 = .ok (.if_icmp .eq 9, 3) := by decide +kernel
theorem dX7_seatOf_12 : decode cX7_seatOf 12 = .ok (.iinc 2 1, 3) := by decide +kernel
theorem dX7_seatOf_15 : decode cX7_seatOf 15 = .ok (.goto (-13), 3) := by decide +kernel
theorem dX7_seatOf_18 : decode cX7_seatOf 18 = .ok (.iload_n 2, 1) := by decide +kernel
theorem dX7_seatOf_19 : decode cX7_seatOf 19 = .ok (.ireturn, 1) := by decide +kernel
theorem dX7_ofGuest_0 : decode cX7_ofGuest 0 = .ok (.aload_n 0, 1) := by decide +kernel
theorem dX7_ofGuest_1 : decode cX7_ofGuest 1 = .ok (.iload_n 1, 1) := by decide +kernel
theorem dX7_ofGuest_2 : decode cX7_ofGuest 2 = .ok (.invokevirtual 184, 3) := by decide +kernel
theorem dX7_ofGuest_5 : decode cX7_ofGuest 5 = .ok (.ifCond .ne 5, 3) := by decide +kernel
theorem dX7_ofGuest_8 : decode cX7_ofGuest 8 = .ok (.iconst (-1), 1) := by decide +kernel
theorem dX7_ofGuest_9 : decode cX7_ofGuest 9 = .ok (.ireturn, 1) := by decide +kernel
theorem dX7_ofGuest_10 : decode cX7_ofGuest 10 = .ok (.iload_n 2, 1) := by decide +kernel
theorem dX7_ofGuest_11 : decode cX7_ofGuest 11 = .ok (.tableswitch 67 0 4 #[33, 40, 47, 54, 60], 33) := by decide +kernel
theorem dX7_ofGuest_44 : decode cX7_ofGuest 44 = .ok (.aload_n 0, 1) := by decide +kernel
theorem dX7_ofGuest_45 : decode cX7_ofGuest 45 = .ok (.getfield 25, 3) := by decide +kernel
theorem dX7_ofGuest_48 : decode cX7_ofGuest 48 = .ok (.iload_n 1, 1) := by decide +kernel
theorem dX7_ofGuest_49 : decode cX7_ofGuest 49 = .ok (.iaload, 1) := by decide +kernel
theorem dX7_ofGuest_50 : decode cX7_ofGuest 50 = .ok (.ireturn, 1) := by decide +kernel
theorem dX7_ofGuest_51 : decode cX7_ofGuest 51 = .ok (.aload_n 0, 1) := by decide +kernel
theorem dX7_ofGuest_52 : decode cX7_ofGuest 52 = .ok (.getfield 28, 3) := by decide +kernel
theorem dX7_ofGuest_55 : decode cX7_ofGuest 55 = .ok (.iload_n 1, 1) := by decide +kernel
theorem dX7_ofGuest_56 : decode cX7_ofGuest 56 = .ok (.iaload, 1) := by decide +kernel
theorem dX7_ofGuest_57 : decode cX7_ofGuest 57 = .ok (.ireturn, 1) := by decide +kernel
theorem dX7_ofGuest_58 : decode cX7_ofGuest 58 = .ok (.aload_n 0, 1) := by decide +kernel
theorem dX7_ofGuest_59 : decode cX7_ofGuest 59 = .ok (.getfield 31, 3) := by decide +kernel
theorem dX7_ofGuest_62 : decode cX7_ofGuest 62 = .ok (.iload_n 1, 1) := by decide +kernel
theorem dX7_ofGuest_63 : decode cX7_ofGuest 63 = .ok (.iaload, 1) := by decide +kernel
theorem dX7_ofGuest_64 : decode cX7_ofGuest 64 = .ok (.ireturn, 1) := by decide +kernel
theorem dX7_ofGuest_65 : decode cX7_ofGuest 65 = .ok (.aload_n 0, 1) := by decide +kernel
theorem dX7_ofGuest_66 : decode cX7_ofGuest 66 = .ok (.iload_n 1, 1) := by decide +kernel
theorem dX7_ofGuest_67 : decode cX7_ofGuest 67 = .ok (.invokevirtual 187, 3) := by decide +kernel
theorem dX7_ofGuest_70 : decode cX7_ofGuest 70 = .ok (.ireturn, 1) := by decide +kernel
theorem dX7_ofGuest_71 : decode cX7_ofGuest 71 = .ok (.aload_n 0, 1) := by decide +kernel
theorem dX7_ofGuest_72 : decode cX7_ofGuest 72 = .ok (.getfield 43, 3) := by decide +kernel
theorem dX7_ofGuest_75 : decode cX7_ofGuest 75 = .ok (.iload_n 1, 1) := by decide +kernel
theorem dX7_ofGuest_76 : decode cX7_ofGuest 76 = .ok (.iaload, 1) := by decide +kernel
theorem dX7_ofGuest_77 : decode cX7_ofGuest 77 = .ok (.ireturn, 1) := by decide +kernel
theorem dX7_ofGuest_78 : decode cX7_ofGuest 78 = .ok (.bipush (-2), 2) := by decide +kernel
theorem dX7_ofGuest_80 : decode cX7_ofGuest 80 = .ok (.ireturn, 1) := by decide +kernel
theorem dX7_worth_0 : decode cX7_worth 0 = .ok (.aload_n 0, 1) := by decide +kernel
theorem dX7_worth_1 : decode cX7_worth 1 = .ok (.iload_n 1, 1) := by decide +kernel
theorem dX7_worth_2 : decode cX7_worth 2 = .ok (.invokevirtual 184, 3) := by decide +kernel
theorem dX7_worth_5 : decode cX7_worth 5 = .ok (.ifCond .eq 11, 3) := by decide +kernel
theorem dX7_worth_8 : decode cX7_worth 8 = .ok (.aload_n 0, 1) := by decide +kernel
theorem dX7_worth_9 : decode cX7_worth 9 = .ok (.iload_n 2, 1) := by decide +kernel
theorem dX7_worth_10 : decode cX7_worth 10 = .ok (.invokevirtual 181, 3) := by decide +kernel
theorem dX7_worth_13 : decode cX7_worth 13 = .ok (.ifCond .ne 6, 3) := by decide +kernel
theorem dX7_worth_16 : decode cX7_worth 16 = .ok (.bipush (-5), 2) := by decide +kernel
theorem dX7_worth_18 : decode cX7_worth 18 = .ok (.ireturn, 1) := by decide +kernel
theorem dX7_worth_19 : decode cX7_worth 19 = .ok (.iload_n 3, 1) := by decide +kernel
theorem dX7_worth_20 : decode cX7_worth 20 = .ok (.ifCond .eq 17, 3) := by decide +kernel
theorem dX7_worth_23 : decode cX7_worth 23 = .ok (.aload_n 0, 1) := by decide +kernel
theorem dX7_worth_24 : decode cX7_worth 24 = .ok (.getfield 37, 3) := by decide +kernel
theorem dX7_worth_27 : decode cX7_worth 27 = .ok (.bipush 6, 2) := by decide +kernel
theorem dX7_worth_29 : decode cX7_worth 29 = .ok (.iload_n 1, 1) := by decide +kernel
theorem dX7_worth_30 : decode cX7_worth 30 = .ok (.imul, 1) := by decide +kernel
theorem dX7_worth_31 : decode cX7_worth 31 = .ok (.iload_n 2, 1) := by decide +kernel
theorem dX7_worth_32 : decode cX7_worth 32 = .ok (.iadd, 1) := by decide +kernel
theorem dX7_worth_33 : decode cX7_worth 33 = .ok (.iaload, 1) := by decide +kernel
theorem dX7_worth_34 : decode cX7_worth 34 = .ok (.goto 14, 3) := by decide +kernel
theorem dX7_worth_37 : decode cX7_worth 37 = .ok (.aload_n 0, 1) := by decide +kernel
theorem dX7_worth_38 : decode cX7_worth 38 = .ok (.getfield 34, 3) := by decide +kernel
theorem dX7_worth_41 : decode cX7_worth 41 = .ok (.bipush 6, 2) := by decide +kernel
theorem dX7_worth_43 : decode cX7_worth 43 = .ok (.iload_n 1, 1) := by decide +kernel
theorem dX7_worth_44 : decode cX7_worth 44 = .ok (.imul, 1) := by decide +kernel
theorem dX7_worth_45 : decode cX7_worth 45 = .ok (.iload_n 2, 1) := by decide +kernel
theorem dX7_worth_46 : decode cX7_worth 46 = .ok (.iadd, 1) := by decide +kernel
theorem dX7_worth_47 : decode cX7_worth 47 = .ok (.iaload, 1) := by decide +kernel
theorem dX7_worth_48 : decode cX7_worth 48 = .ok (.ireturn, 1) := by decide +kernel
theorem dX7_say_0 : decode cX7_say 0 = .ok (.aload_n 0, 1) := by decide +kernel
theorem dX7_say_1 : decode cX7_say 1 = .ok (.iload_n 1, 1) := by decide +kernel
theorem dX7_say_2 : decode cX7_say 2 = .ok (.invokevirtual 184, 3) := by decide +kernel
theorem dX7_say_5 : decode cX7_say 5 = .ok (.ifCond .eq 11, 3) := by decide +kernel
theorem dX7_say_8 : decode cX7_say 8 = .ok (.aload_n 0, 1) := by decide +kernel
theorem dX7_say_9 : decode cX7_say 9 = .ok (.iload_n 2, 1) := by decide +kernel
theorem dX7_say_10 : decode cX7_say 10 = .ok (.invokevirtual 181, 3) := by decide +kernel
theorem dX7_say_13 : decode cX7_say 13 = .ok (.ifCond .ne 5, 3) := by decide +kernel
theorem dX7_say_16 : decode cX7_say 16 = .ok (.iconst (-1), 1) := by decide +kernel
theorem dX7_say_17 : decode cX7_say 17 = .ok (.ireturn, 1) := by decide +kernel
theorem dX7_say_18 : decode cX7_say 18 = .ok (.iload_n 3, 1) := by decide +kernel
theorem dX7_say_19 : decode cX7_say 19 = .ok (.iconst 0, 1) := by decide +kernel
theorem dX7_say_20 : decode cX7_say 20 = .ok (.bipush 9, 2) := by decide +kernel
theorem dX7_say_22 : decode cX7_say 22 = .ok (.invokestatic 121, 3) := by decide +kernel
theorem dX7_say_25 : decode cX7_say 25 = .ok (.ifCond .ne 6, 3) := by decide +kernel
theorem dX7_say_28 : decode cX7_say 28 = .ok (.bipush (-2), 2) := by decide +kernel
theorem dX7_say_30 : decode cX7_say 30 = .ok (.ireturn, 1) := by decide +kernel
theorem dX7_say_31 : decode cX7_say 31 = .ok (.aload_n 0, 1) := by decide +kernel
theorem dX7_say_32 : decode cX7_say 32 = .ok (.getfield 34, 3) := by decide +kernel
theorem dX7_say_35 : decode cX7_say 35 = .ok (.bipush 6, 2) := by decide +kernel
theorem dX7_say_37 : decode cX7_say 37 = .ok (.iload_n 1, 1) := by decide +kernel
theorem dX7_say_38 : decode cX7_say 38 = .ok (.imul, 1) := by decide +kernel
theorem dX7_say_39 : decode cX7_say 39 = .ok (.iload_n 2, 1) := by decide +kernel
theorem dX7_say_40 : decode cX7_say 40 = .ok (.iadd, 1) := by decide +kernel
theorem dX7_say_41 : decode cX7_say 41 = .ok (.iaload, 1) := by decide +kernel
theorem dX7_say_42 : decode cX7_say 42 = .ok (.iconst (-1), 1) := by decide +kernel
theorem dX7_say_43 : decode cX7_say 43 = .ok (.if_icmp .ne 6, 3) := by decide +kernel
theorem dX7_say_46 : decode cX7_say 46 = .ok (.bipush (-3), 2) := by decide +kernel
theorem dX7_say_48 : decode cX7_say 48 = .ok (.ireturn, 1) := by decide +kernel
theorem dX7_say_49 : decode cX7_say 49 = .ok (.aload_n 0, 1) := by decide +kernel
theorem dX7_say_50 : decode cX7_say 50 = .ok (.getfield 37, 3) := by decide +kernel
theorem dX7_say_53 : decode cX7_say 53 = .ok (.bipush 6, 2) := by decide +kernel
theorem dX7_say_55 : decode cX7_say 55 = .ok (.iload_n 1, 1) := by decide +kernel
theorem dX7_say_56 : decode cX7_say 56 = .ok (.imul, 1) := by decide +kernel
theorem dX7_say_57 : decode cX7_say 57 = .ok (.iload_n 2, 1) := by decide +kernel
theorem dX7_say_58 : decode cX7_say 58 = .ok (.iadd, 1) := by decide +kernel
theorem dX7_say_59 : decode cX7_say 59 = .ok (.iaload, 1) := by decide +kernel
theorem dX7_say_60 : decode cX7_say 60 = .ok (.istore 4, 2) := by decide +kernel
theorem dX7_say_62 : decode cX7_say 62 = .ok (.aload_n 0, 1) := by decide +kernel
theorem dX7_say_63 : decode cX7_say 63 = .ok (.getfield 37, 3) := by decide +kernel
theorem dX7_say_66 : decode cX7_say 66 = .ok (.bipush 6, 2) := by decide +kernel
theorem dX7_say_68 : decode cX7_say 68 = .ok (.iload_n 1, 1) := by decide +kernel
theorem dX7_say_69 : decode cX7_say 69 = .ok (.imul, 1) := by decide +kernel
theorem dX7_say_70 : decode cX7_say 70 = .ok (.iload_n 2, 1) := by decide +kernel
theorem dX7_say_71 : decode cX7_say 71 = .ok (.iadd, 1) := by decide +kernel
theorem dX7_say_72 : decode cX7_say 72 = .ok (.iload_n 3, 1) := by decide +kernel
theorem dX7_say_73 : decode cX7_say 73 = .ok (.iastore, 1) := by decide +kernel
theorem dX7_say_74 : decode cX7_say 74 = .ok (.iload 4, 2) := by decide +kernel
theorem dX7_say_76 : decode cX7_say 76 = .ok (.ireturn, 1) := by decide +kernel
theorem dX7_swap_0 : decode cX7_swap 0 = .ok (.aload_n 0, 1) := by decide +kernel
theorem dX7_swap_1 : decode cX7_swap 1 = .ok (.iload_n 1, 1) := by decide +kernel
theorem dX7_swap_2 : decode cX7_swap 2 = .ok (.invokevirtual 184, 3) := by decide +kernel
theorem dX7_swap_5 : decode cX7_swap 5 = .ok (.ifCond .eq 11, 3) := by decide +kernel
theorem dX7_swap_8 : decode cX7_swap 8 = .ok (.aload_n 0, 1) := by decide +kernel
theorem dX7_swap_9 : decode cX7_swap 9 = .ok (.iload_n 2, 1) := by decide +kernel
theorem dX7_swap_10 : decode cX7_swap 10 = .ok (.invokevirtual 184, 3) := by decide +kernel
theorem dX7_swap_13 : decode cX7_swap 13 = .ok (.ifCond .ne 5, 3) := by decide +kernel
theorem dX7_swap_16 : decode cX7_swap 16 = .ok (.iconst (-1), 1) := by decide +kernel
theorem dX7_swap_17 : decode cX7_swap 17 = .ok (.ireturn, 1) := by decide +kernel
theorem dX7_swap_18 : decode cX7_swap 18 = .ok (.aload_n 0, 1) := by decide +kernel
theorem dX7_swap_19 : decode cX7_swap 19 = .ok (.iload_n 1, 1) := by decide +kernel
theorem dX7_swap_20 : decode cX7_swap 20 = .ok (.invokevirtual 187, 3) := by decide +kernel
theorem dX7_swap_23 : decode cX7_swap 23 = .ok (.istore_n 3, 1) := by decide +kernel
theorem dX7_swap_24 : decode cX7_swap 24 = .ok (.aload_n 0, 1) := by decide +kernel
theorem dX7_swap_25 : decode cX7_swap 25 = .ok (.iload_n 2, 1) := by decide +kernel
theorem dX7_swap_26 : decode cX7_swap 26 = .ok (.invokevirtual 187, 3) := by decide +kernel
theorem dX7_swap_29 : decode cX7_swap 29 = .ok (.istore 4, 2) := by decide +kernel
theorem dX7_swap_31 : decode cX7_swap 31 = .ok (.aload_n 0, 1) := by decide +kernel
theorem dX7_swap_32 : decode cX7_swap 32 = .ok (.getfield 40, 3) := by decide +kernel
theorem dX7_swap_35 : decode cX7_swap 35 = .ok (.iload_n 3, 1) := by decide +kernel
theorem dX7_swap_36 : decode cX7_swap 36 = .ok (.iload_n 2, 1) := by decide +kernel
theorem dX7_swap_37 : decode cX7_swap 37 = .ok (.iastore, 1) := by decide +kernel
theorem dX7_swap_38 : decode cX7_swap 38 = .ok (.aload_n 0, 1) := by decide +kernel
theorem dX7_swap_39 : decode cX7_swap 39 = .ok (.getfield 40, 3) := by decide +kernel
theorem dX7_swap_42 : decode cX7_swap 42 = .ok (.iload 4, 2) := by decide +kernel
theorem dX7_swap_44 : decode cX7_swap 44 = .ok (.iload_n 1, 1) := by decide +kernel
theorem dX7_swap_45 : decode cX7_swap 45 = .ok (.iastore, 1) := by decide +kernel
theorem dX7_swap_46 : decode cX7_swap 46 = .ok (.iconst 1, 1) := by decide +kernel
theorem dX7_swap_47 : decode cX7_swap 47 = .ok (.ireturn, 1) := by decide +kernel
theorem dX7_step_0 : decode cX7_step 0 = .ok (.aload_n 0, 1) := by decide +kernel
theorem dX7_step_1 : decode cX7_step 1 = .ok (.invokevirtual 190, 3) := by decide +kernel
theorem dX7_step_4 : decode cX7_step 4 = .ok (.ifCond .eq 17, 3) := by decide +kernel
theorem dX7_step_7 : decode cX7_step 7 = .ok (.iload_n 1, 1) := by decide +kernel
theorem dX7_step_8 : decode cX7_step 8 = .ok (.iconst 1, 1) := by decide +kernel
theorem dX7_step_9 : decode cX7_step 9 = .ok (.aload_n 0, 1) := by decide +kernel
theorem dX7_step_10 : decode cX7_step 10 = .ok (.getfield 125, 3) := by decide +kernel
theorem dX7_step_13 : decode cX7_step 13 = .ok (.iconst 1, 1) := by decide +kernel
theorem dX7_step_14 : decode cX7_step 14 = .ok (.isub, 1) := by decide +kernel
theorem dX7_step_15 : decode cX7_step 15 = .ok (.invokestatic 121, 3) := by decide +kernel
theorem dX7_step_18 : decode cX7_step 18 = .ok (.ifCond .ne 6, 3) := by decide +kernel
theorem dX7_step_21 : decode cX7_step 21 = .ok (.bipush (-2), 2) := by decide +kernel
theorem dX7_step_23 : decode cX7_step 23 = .ok (.ireturn, 1) := by decide +kernel
theorem dX7_step_24 : decode cX7_step 24 = .ok (.aload_n 0, 1) := by decide +kernel
theorem dX7_step_25 : decode cX7_step 25 = .ok (.getfield 161, 3) := by decide +kernel
theorem dX7_step_28 : decode cX7_step 28 = .ok (.istore_n 2, 1) := by decide +kernel
theorem dX7_step_29 : decode cX7_step 29 = .ok (.aload_n 0, 1) := by decide +kernel
theorem dX7_step_30 : decode cX7_step 30 = .ok (.iload_n 1, 1) := by decide +kernel
theorem dX7_step_31 : decode cX7_step 31 = .ok (.putfield 161, 3) := by decide +kernel
theorem dX7_step_34 : decode cX7_step 34 = .ok (.iload_n 2, 1) := by decide +kernel
theorem dX7_step_35 : decode cX7_step 35 = .ok (.ireturn, 1) := by decide +kernel
theorem dX7_courses_0 : decode cX7_courses 0 = .ok (.iload_n 1, 1) := by decide +kernel
theorem dX7_courses_1 : decode cX7_courses 1 = .ok (.iconst 1, 1) := by decide +kernel
theorem dX7_courses_2 : decode cX7_courses 2 = .ok (.bipush 8, 2) := by decide +kernel
theorem dX7_courses_4 : decode cX7_courses 4 = .ok (.invokestatic 121, 3) := by decide +kernel
theorem dX7_courses_7 : decode cX7_courses 7 = .ok (.ifCond .ne 6, 3) := by decide +kernel
theorem dX7_courses_10 : decode cX7_courses 10 = .ok (.bipush (-2), 2) := by decide +kernel
theorem dX7_courses_12 : decode cX7_courses 12 = .ok (.ireturn, 1) := by decide +kernel
theorem dX7_courses_13 : decode cX7_courses 13 = .ok (.aload_n 0, 1) := by decide +kernel
theorem dX7_courses_14 : decode cX7_courses 14 = .ok (.invokevirtual 190, 3) := by decide +kernel
theorem dX7_courses_17 : decode cX7_courses 17 = .ok (.ifCond .ne 6, 3) := by decide +kernel
theorem dX7_courses_20 : decode cX7_courses 20 = .ok (.bipush (-3), 2) := by decide +kernel
theorem dX7_courses_22 : decode cX7_courses 22 = .ok (.ireturn, 1) := by decide +kernel
theorem dX7_courses_23 : decode cX7_courses 23 = .ok (.aload_n 0, 1) := by decide +kernel
theorem dX7_courses_24 : decode cX7_courses 24 = .ok (.getfield 164, 3) := by decide +kernel
theorem dX7_courses_27 : decode cX7_courses 27 = .ok (.istore_n 2, 1) := by decide +kernel
theorem dX7_courses_28 : decode cX7_courses 28 = .ok (.aload_n 0, 1) := by decide +kernel
theorem dX7_courses_29 : decode cX7_courses 29 = .ok (.iload_n 1, 1) := by decide +kernel
theorem dX7_courses_30 : decode cX7_courses 30 = .ok (.putfield 164, 3) := by decide +kernel
theorem dX7_courses_33 : decode cX7_courses 33 = .ok (.iload_n 2, 1) := by decide +kernel
theorem dX7_courses_34 : decode cX7_courses 34 = .ok (.ireturn, 1) := by decide +kernel
theorem dX7_layNow_0 : decode cX7_layNow 0 = .ok (.aload_n 0, 1) := by decide +kernel
theorem dX7_layNow_1 : decode cX7_layNow 1 = .ok (.aload_n 0, 1) := by decide +kernel
theorem dX7_layNow_2 : decode cX7_layNow 2 = .ok (.getfield 125, 3) := by decide +kernel
theorem dX7_layNow_5 : decode cX7_layNow 5 = .ok (.putfield 194, 3) := by decide +kernel
theorem dX7_layNow_8 : decode cX7_layNow 8 = .ok (.aload_n 0, 1) := by decide +kernel
theorem dX7_layNow_9 : decode cX7_layNow 9 = .ok (.aload_n 0, 1) := by decide +kernel
theorem dX7_layNow_10 : decode cX7_layNow 10 = .ok (.getfield 161, 3) := by decide +kernel
theorem dX7_layNow_13 : decode cX7_layNow 13 = .ok (.putfield 197, 3) := by decide +kernel
theorem dX7_layNow_16 : decode cX7_layNow 16 = .ok (.aload_n 0, 1) := by decide +kernel
theorem dX7_layNow_17 : decode cX7_layNow 17 = .ok (.bipush (-9), 2) := by decide +kernel
theorem dX7_layNow_19 : decode cX7_layNow 19 = .ok (.putfield 200, 3) := by decide +kernel
theorem dX7_layNow_22 : decode cX7_layNow 22 = .ok (.iconst 0, 1) := by decide +kernel
theorem dX7_layNow_23 : decode cX7_layNow 23 = .ok (.istore_n 1, 1) := by decide +kernel
theorem dX7_layNow_24 : decode cX7_layNow 24 = .ok (.iload_n 1, 1) := by decide +kernel
theorem dX7_layNow_25 : decode cX7_layNow 25 = .ok (.aload_n 0, 1) := by decide +kernel
theorem dX7_layNow_26 : decode cX7_layNow 26 = .ok (.getfield 125, 3) := by decide +kernel
theorem dX7_layNow_29 : decode cX7_layNow 29 = .ok (.if_icmp .ge 45, 3) := by decide +kernel
theorem dX7_layNow_32 : decode cX7_layNow 32 = .ok (.aload_n 0, 1) := by decide +kernel
theorem dX7_layNow_33 : decode cX7_layNow 33 = .ok (.getfield 64, 3) := by decide +kernel
theorem dX7_layNow_36 : decode cX7_layNow 36 = .ok (.iload_n 1, 1) := by decide +kernel
theorem dX7_layNow_37 : decode cX7_layNow 37 = .ok (.aload_n 0, 1) := by decide +kernel
theorem dX7_layNow_38 : decode cX7_layNow 38 = .ok (.getfield 40, 3) := by decide +kernel
theorem dX7_layNow_41 : decode cX7_layNow 41 = .ok (.iload_n 1, 1) := by decide +kernel
theorem dX7_layNow_42 : decode cX7_layNow 42 = .ok (.iaload, 1) := by decide +kernel
theorem dX7_layNow_43 : decode cX7_layNow 43 = .ok (.iastore, 1) := by decide +kernel
theorem dX7_layNow_44 : decode cX7_layNow 44 = .ok (.aload_n 0, 1) := by decide +kernel
theorem dX7_layNow_45 : decode cX7_layNow 45 = .ok (.getfield 67, 3) := by decide +kernel
theorem dX7_layNow_48 : decode cX7_layNow 48 = .ok (.iload_n 1, 1) := by decide +kernel
theorem dX7_layNow_49 : decode cX7_layNow 49 = .ok (.aload_n 0, 1) := by decide +kernel
theorem dX7_layNow_50 : decode cX7_layNow 50 = .ok (.getfield 43, 3) := by decide +kernel
theorem dX7_layNow_53 : decode cX7_layNow 53 = .ok (.iload_n 1, 1) := by decide +kernel
theorem dX7_layNow_54 : decode cX7_layNow 54 = .ok (.iaload, 1) := by decide +kernel
theorem dX7_layNow_55 : decode cX7_layNow 55 = .ok (.iastore, 1) := by decide +kernel
theorem dX7_layNow_56 : decode cX7_layNow 56 = .ok (.aload_n 0, 1) := by decide +kernel
theorem dX7_layNow_57 : decode cX7_layNow 57 = .ok (.getfield 70, 3) := by decide +kernel
theorem dX7_layNow_60 : decode cX7_layNow 60 = .ok (.iload_n 1, 1) := by decide +kernel
theorem dX7_layNow_61 : decode cX7_layNow 61 = .ok (.aload_n 0, 1) := by decide +kernel
theorem dX7_layNow_62 : decode cX7_layNow 62 = .ok (.getfield 25, 3) := by decide +kernel
theorem dX7_layNow_65 : decode cX7_layNow 65 = .ok (.iload_n 1, 1) := by decide +kernel
theorem dX7_layNow_66 : decode cX7_layNow 66 = .ok (.iaload, 1) := by decide +kernel
theorem dX7_layNow_67 : decode cX7_layNow 67 = .ok (.iastore, 1) := by decide +kernel
theorem dX7_layNow_68 : decode cX7_layNow 68 = .ok (.iinc 1 1, 3) := by decide +kernel
theorem dX7_layNow_71 : decode cX7_layNow 71 = .ok (.goto (-47), 3) := by decide +kernel
theorem dX7_layNow_74 : decode cX7_layNow 74 = .ok (.return_, 1) := by decide +kernel
theorem dX7_truly_0 : decode cX7_truly 0 = .ok (.iload_n 2, 1) := by decide +kernel
theorem dX7_truly_1 : decode cX7_truly 1 = .ok (.ifCond .ge 7, 3) := by decide +kernel
theorem dX7_truly_4 : decode cX7_truly 4 = .ok (.iconst 0, 1) := by decide +kernel
theorem dX7_truly_5 : decode cX7_truly 5 = .ok (.goto 14, 3) := by decide +kernel
theorem dX7_truly_8 : decode cX7_truly 8 = .ok (.aload_n 0, 1) := by decide +kernel
theorem dX7_truly_9 : decode cX7_truly 9 = .ok (.getfield 34, 3) := by decide +kernel
theorem dX7_truly_12 : decode cX7_truly 12 = .ok (.bipush 6, 2) := by decide +kernel
theorem dX7_truly_14 : decode cX7_truly 14 = .ok (.iload_n 1, 1) := by decide +kernel
theorem dX7_truly_15 : decode cX7_truly 15 = .ok (.imul, 1) := by decide +kernel
theorem dX7_truly_16 : decode cX7_truly 16 = .ok (.iload_n 2, 1) := by decide +kernel
theorem dX7_truly_17 : decode cX7_truly 17 = .ok (.iadd, 1) := by decide +kernel
theorem dX7_truly_18 : decode cX7_truly 18 = .ok (.iaload, 1) := by decide +kernel
theorem dX7_truly_19 : decode cX7_truly 19 = .ok (.ireturn, 1) := by decide +kernel
theorem dX7_howAsks_0 : decode cX7_howAsks 0 = .ok (.iload_n 1, 1) := by decide +kernel
theorem dX7_howAsks_1 : decode cX7_howAsks 1 = .ok (.aload_n 0, 1) := by decide +kernel
theorem dX7_howAsks_2 : decode cX7_howAsks 2 = .ok (.getfield 200, 3) := by decide +kernel
theorem dX7_howAsks_5 : decode cX7_howAsks 5 = .ok (.if_icmp .ne 9, 3) := by decide +kernel
theorem dX7_howAsks_8 : decode cX7_howAsks 8 = .ok (.iload_n 2, 1) := by decide +kernel
theorem dX7_howAsks_9 : decode cX7_howAsks 9 = .ok (.ifCond .ne 5, 3) := by decide +kernel
theorem dX7_howAsks_12 : decode cX7_howAsks 12 = .ok (.iconst 2, 1) := by decide +kernel
theorem dX7_howAsks_13 : decode cX7_howAsks 13 = .ok (.ireturn, 1) := by decide +kernel
theorem dX7_howAsks_14 : decode cX7_howAsks 14 = .ok (.aload_n 0, 1) := by decide +kernel
theorem dX7_howAsks_15 : decode cX7_howAsks 15 = .ok (.getfield 70, 3) := by decide +kernel
theorem dX7_howAsks_18 : decode cX7_howAsks 18 = .ok (.iload_n 1, 1) := by decide +kernel
theorem dX7_howAsks_19 : decode cX7_howAsks 19 = .ok (.iaload, 1) := by decide +kernel
theorem dX7_howAsks_20 : decode cX7_howAsks 20 = .ok (.iconst 2, 1) := by decide +kernel
theorem dX7_howAsks_21 : decode cX7_howAsks 21 = .ok (.if_icmp .ge 10, 3) := by decide +kernel
theorem dX7_howAsks_24 : decode cX7_howAsks 24 = .ok (.aload_n 0, 1) := by decide +kernel
theorem dX7_howAsks_25 : decode cX7_howAsks 25 = .ok (.getfield 70, 3) := by decide +kernel
theorem dX7_howAsks_28 : decode cX7_howAsks 28 = .ok (.iload_n 1, 1) := by decide +kernel
theorem dX7_howAsks_29 : decode cX7_howAsks 29 = .ok (.iaload, 1) := by decide +kernel
theorem dX7_howAsks_30 : decode cX7_howAsks 30 = .ok (.ireturn, 1) := by decide +kernel
theorem dX7_howAsks_31 : decode cX7_howAsks 31 = .ok (.aload_n 0, 1) := by decide +kernel
theorem dX7_howAsks_32 : decode cX7_howAsks 32 = .ok (.getfield 67, 3) := by decide +kernel
theorem dX7_howAsks_35 : decode cX7_howAsks 35 = .ok (.iload_n 1, 1) := by decide +kernel
theorem dX7_howAsks_36 : decode cX7_howAsks 36 = .ok (.iaload, 1) := by decide +kernel
theorem dX7_howAsks_37 : decode cX7_howAsks 37 = .ok (.bipush (-8), 2) := by decide +kernel
theorem dX7_howAsks_39 : decode cX7_howAsks 39 = .ok (.if_icmp .eq 27, 3) := by decide +kernel
theorem dX7_howAsks_42 : decode cX7_howAsks 42 = .ok (.aload_n 0, 1) := by decide +kernel
theorem dX7_howAsks_43 : decode cX7_howAsks 43 = .ok (.iload_n 1, 1) := by decide +kernel
theorem dX7_howAsks_44 : decode cX7_howAsks 44 = .ok (.aload_n 0, 1) := by decide +kernel
theorem dX7_howAsks_45 : decode cX7_howAsks 45 = .ok (.getfield 67, 3) := by decide +kernel
theorem dX7_howAsks_48 : decode cX7_howAsks 48 = .ok (.iload_n 1, 1) := by decide +kernel
theorem dX7_howAsks_49 : decode cX7_howAsks 49 = .ok (.iaload, 1) := by decide +kernel
theorem dX7_howAsks_50 : decode cX7_howAsks 50 = .ok (.invokevirtual 203, 3) := by decide +kernel
theorem dX7_howAsks_53 : decode cX7_howAsks 53 = .ok (.aload_n 0, 1) := by decide +kernel
theorem dX7_howAsks_54 : decode cX7_howAsks 54 = .ok (.getfield 31, 3) := by decide +kernel
theorem dX7_howAsks_57 : decode cX7_howAsks 57 = .ok (.iload_n 1, 1) := by decide +kernel
theorem dX7_howAsks_58 : decode cX7_howAsks 58 = .ok (.iaload, 1) := by decide +kernel
theorem dX7_howAsks_59 : decode cX7_howAsks 59 = .ok (.if_icmp .ge 7, 3) := by decide +kernel
theorem dX7_howAsks_62 : decode cX7_howAsks 62 = .ok (.iconst 2, 1) := by decide +kernel
theorem dX7_howAsks_63 : decode cX7_howAsks 63 = .ok (.goto 4, 3) := by decide +kernel
theorem dX7_howAsks_66 : decode cX7_howAsks 66 = .ok (.iconst 0, 1) := by decide +kernel
theorem dX7_howAsks_67 : decode cX7_howAsks 67 = .ok (.ireturn, 1) := by decide +kernel
theorem dX7_isAhead_0 : decode cX7_isAhead 0 = .ok (.aload_n 0, 1) := by decide +kernel
theorem dX7_isAhead_1 : decode cX7_isAhead 1 = .ok (.getfield 37, 3) := by decide +kernel
theorem dX7_isAhead_4 : decode cX7_isAhead 4 = .ok (.bipush 6, 2) := by decide +kernel
theorem dX7_isAhead_6 : decode cX7_isAhead 6 = .ok (.iload_n 2, 1) := by decide +kernel
theorem dX7_isAhead_7 : decode cX7_isAhead 7 = .ok (.imul, 1) := by decide +kernel
theorem dX7_isAhead_8 : decode cX7_isAhead 8 = .ok (.iload_n 3, 1) := by decide +kernel
theorem dX7_isAhead_9 : decode cX7_isAhead 9 = .ok (.iadd, 1) := by decide +kernel
theorem dX7_isAhead_10 : decode cX7_isAhead 10 = .ok (.iaload, 1) := by decide +kernel
theorem dX7_isAhead_11 : decode cX7_isAhead 11 = .ok (.aload_n 0, 1) := by decide +kernel
theorem dX7_isAhead_12 : decode cX7_isAhead 12 = .ok (.getfield 37, 3) := by decide +kernel
theorem dX7_isAhead_15 : decode cX7_isAhead 15 = .ok (.bipush 6, 2) := by decide +kernel
theorem dX7_isAhead_17 : decode cX7_isAhead 17 = .ok (.iload_n 2, 1) := by decide +kernel
theorem dX7_isAhead_18 : decode cX7_isAhead 18 = .ok (.imul, 1) := by decide +kernel
theorem dX7_isAhead_19 : decode cX7_isAhead 19 = .ok (.iload 4, 2) := by decide +kernel
theorem dX7_isAhead_21 : decode cX7_isAhead 21 = .ok (.iadd, 1) := by decide +kernel
theorem dX7_isAhead_22 : decode cX7_isAhead 22 = .ok (.iaload, 1) := by decide +kernel
theorem dX7_isAhead_23 : decode cX7_isAhead 23 = .ok (.isub, 1) := by decide +kernel
theorem dX7_isAhead_24 : decode cX7_isAhead 24 = .ok (.istore 5, 2) := by decide +kernel
theorem dX7_isAhead_26 : decode cX7_isAhead 26 = .ok (.aload_n 0, 1) := by decide +kernel
theorem dX7_isAhead_27 : decode cX7_isAhead 27 = .ok (.getfield 22, 3) := by decide +kernel
theorem dX7_isAhead_30 : decode cX7_isAhead 30 = .ok (.iload_n 3, 1) := by decide +kernel
theorem dX7_isAhead_31 : decode cX7_isAhead 31 = .ok (.iaload, 1) := by decide +kernel
theorem dX7_isAhead_32 : decode cX7_isAhead 32 = .ok (.aload_n 0, 1) := by decide +kernel
theorem dX7_isAhead_33 : decode cX7_isAhead 33 = .ok (.getfield 22, 3) := by decide +kernel
theorem dX7_isAhead_36 : decode cX7_isAhead 36 = .ok (.iload 4, 2) := by decide +kernel
theorem dX7_isAhead_38 : decode cX7_isAhead 38 = .ok (.iaload, 1) := by decide +kernel
theorem dX7_isAhead_39 : decode cX7_isAhead 39 = .ok (.isub, 1) := by decide +kernel
theorem dX7_isAhead_40 : decode cX7_isAhead 40 = .ok (.istore 6, 2) := by decide +kernel
theorem dX7_isAhead_42 : decode cX7_isAhead 42 = .ok (.iload_n 1, 1) := by decide +kernel
theorem dX7_isAhead_43 : decode cX7_isAhead 43 = .ok (.ifCond .ne 32, 3) := by decide +kernel
theorem dX7_isAhead_46 : decode cX7_isAhead 46 = .ok (.iload 5, 2) := by decide +kernel
theorem dX7_isAhead_48 : decode cX7_isAhead 48 = .ok (.ifCond .eq 16, 3) := by decide +kernel
theorem dX7_isAhead_51 : decode cX7_isAhead 51 = .ok (.iload 5, 2) := by decide +kernel
theorem dX7_isAhead_53 : decode cX7_isAhead 53 = .ok (.ifCond .le 7, 3) := by decide +kernel
theorem dX7_isAhead_56 : decode cX7_isAhead 56 = .ok (.iconst 1, 1) := by decide +kernel
theorem dX7_isAhead_57 : decode cX7_isAhead 57 = .ok (.goto 17, 3) := by decide +kernel
theorem dX7_isAhead_60 : decode cX7_isAhead 60 = .ok (.iconst 0, 1) := by decide +kernel
theorem dX7_isAhead_61 : decode cX7_isAhead 61 = .ok (.goto 13, 3) := by decide +kernel
theorem dX7_isAhead_64 : decode cX7_isAhead 64 = .ok (.iload 6, 2) := by decide +kernel
theorem dX7_isAhead_66 : decode cX7_isAhead 66 = .ok (.ifCond .ge 7, 3) := by decide +kernel
theorem dX7_isAhead_69 : decode cX7_isAhead 69 = .ok (.iconst 1, 1) := by decide +kernel
theorem dX7_isAhead_70 : decode cX7_isAhead 70 = .ok (.goto 4, 3) := by decide +kernel
theorem dX7_isAhead_73 : decode cX7_isAhead 73 = .ok (.iconst 0, 1) := by decide +kernel
theorem dX7_isAhead_74 : decode cX7_isAhead 74 = .ok (.ireturn, 1) := by decide +kernel
theorem dX7_isAhead_75 : decode cX7_isAhead 75 = .ok (.iload_n 1, 1) := by decide +kernel
theorem dX7_isAhead_76 : decode cX7_isAhead 76 = .ok (.iconst 1, 1) := by decide +kernel
theorem dX7_isAhead_77 : decode cX7_isAhead 77 = .ok (.if_icmp .ne 32, 3) := by decide +kernel
theorem dX7_isAhead_80 : decode cX7_isAhead 80 = .ok (.iload 6, 2) := by decide +kernel
theorem dX7_isAhead_82 : decode cX7_isAhead 82 = .ok (.ifCond .eq 16, 3) := by decide +kernel
theorem dX7_isAhead_85 : decode cX7_isAhead 85 = .ok (.iload 6, 2) := by decide +kernel
theorem dX7_isAhead_87 : decode cX7_isAhead 87 = .ok (.ifCond .ge 7, 3) := by decide +kernel
theorem dX7_isAhead_90 : decode cX7_isAhead 90 = .ok (.iconst 1, 1) := by decide +kernel
theorem dX7_isAhead_91 : decode cX7_isAhead 91 = .ok (.goto 17, 3) := by decide +kernel
theorem dX7_isAhead_94 : decode cX7_isAhead 94 = .ok (.iconst 0, 1) := by decide +kernel
theorem dX7_isAhead_95 : decode cX7_isAhead 95 = .ok (.goto 13, 3) := by decide +kernel
theorem dX7_isAhead_98 : decode cX7_isAhead 98 = .ok (.iload 5, 2) := by decide +kernel
theorem dX7_isAhead_100 : decode cX7_isAhead 100 = .ok (.ifCond .le 7, 3) := by decide +kernel
theorem dX7_isAhead_103 : decode cX7_isAhead 103 = .ok (.iconst 1, 1) := by decide +kernel
theorem dX7_isAhead_104 : decode cX7_isAhead 104 = .ok (.goto 4, 3) := by decide +kernel
theorem dX7_isAhead_107 : decode cX7_isAhead 107 = .ok (.iconst 0, 1) := by decide +kernel
theorem dX7_isAhead_108 : decode cX7_isAhead 108 = .ok (.ireturn, 1) := by decide +kernel
theorem dX7_isAhead_109 : decode cX7_isAhead 109 = .ok (.iload 5, 2) := by decide +kernel
theorem dX7_isAhead_111 : decode cX7_isAhead 111 = .ok (.ifCond .eq 16, 3) := by decide +kernel
theorem dX7_isAhead_114 : decode cX7_isAhead 114 = .ok (.iload 5, 2) := by decide +kernel
theorem dX7_isAhead_116 : decode cX7_isAhead 116 = .ok (.ifCond .ge 7, 3) := by decide +kernel
theorem dX7_isAhead_119 : decode cX7_isAhead 119 = .ok (.iconst 1, 1) := by decide +kernel
theorem dX7_isAhead_120 : decode cX7_isAhead 120 = .ok (.goto 17, 3) := by decide +kernel
theorem dX7_isAhead_123 : decode cX7_isAhead 123 = .ok (.iconst 0, 1) := by decide +kernel
theorem dX7_isAhead_124 : decode cX7_isAhead 124 = .ok (.goto 13, 3) := by decide +kernel
theorem dX7_isAhead_127 : decode cX7_isAhead 127 = .ok (.iload 6, 2) := by decide +kernel
theorem dX7_isAhead_129 : decode cX7_isAhead 129 = .ok (.ifCond .ge 7, 3) := by decide +kernel
theorem dX7_isAhead_132 : decode cX7_isAhead 132 = .ok (.iconst 1, 1) := by decide +kernel
theorem dX7_isAhead_133 : decode cX7_isAhead 133 = .ok (.goto 4, 3) := by decide +kernel
theorem dX7_isAhead_136 : decode cX7_isAhead 136 = .ok (.iconst 0, 1) := by decide +kernel
theorem dX7_isAhead_137 : decode cX7_isAhead 137 = .ok (.ireturn, 1) := by decide +kernel
theorem dX7_asked_0 : decode cX7_asked 0 = .ok (.aload_n 0, 1) := by decide +kernel
theorem dX7_asked_1 : decode cX7_asked 1 = .ok (.iload_n 1, 1) := by decide +kernel
theorem dX7_asked_2 : decode cX7_asked 2 = .ok (.iload_n 3, 1) := by decide +kernel
theorem dX7_asked_3 : decode cX7_asked 3 = .ok (.invokevirtual 206, 3) := by decide +kernel
theorem dX7_asked_6 : decode cX7_asked 6 = .ok (.istore 4, 2) := by decide +kernel
theorem dX7_asked_8 : decode cX7_asked 8 = .ok (.bipush (-9), 2) := by decide +kernel
theorem dX7_asked_10 : decode cX7_asked 10 = .ok (.istore 5, 2) := by decide +kernel
theorem dX7_asked_12 : decode cX7_asked 12 = .ok (.iconst 0, 1) := by decide +kernel
theorem dX7_asked_13 : decode cX7_asked 13 = .ok (.istore 6, 2) := by decide +kernel
theorem dX7_asked_15 : decode cX7_asked 15 = .ok (.iload 6, 2) := by decide +kernel
theorem dX7_asked_17 : decode cX7_asked 17 = .ok (.aload_n 0, 1) := by decide +kernel
theorem dX7_asked_18 : decode cX7_asked 18 = .ok (.getfield 128, 3) := by decide +kernel
theorem dX7_asked_21 : decode cX7_asked 21 = .ok (.if_icmp .ge 60, 3) := by decide +kernel
theorem dX7_asked_24 : decode cX7_asked 24 = .ok (.aload_n 0, 1) := by decide +kernel
theorem dX7_asked_25 : decode cX7_asked 25 = .ok (.getfield 82, 3) := by decide +kernel
theorem dX7_asked_28 : decode cX7_asked 28 = .ok (.iload 6, 2) := by decide +kernel
theorem dX7_asked_30 : decode cX7_asked 30 = .ok (.iaload, 1) := by decide +kernel
theorem dX7_asked_31 : decode cX7_asked 31 = .ok (.ifCond .le 44, 3) := by decide +kernel
theorem dX7_asked_34 : decode cX7_asked 34 = .ok (.aload_n 0, 1) := by decide +kernel
theorem dX7_asked_35 : decode cX7_asked 35 = .ok (.getfield 34, 3) := by decide +kernel
theorem dX7_asked_38 : decode cX7_asked 38 = .ok (.bipush 6, 2) := by decide +kernel
theorem dX7_asked_40 : decode cX7_asked 40 = .ok (.iload_n 2, 1) := by decide +kernel
theorem dX7_asked_41 : decode cX7_asked 41 = .ok (.imul, 1) := by decide +kernel
theorem dX7_asked_42 : decode cX7_asked 42 = .ok (.iload 6, 2) := by decide +kernel
theorem dX7_asked_44 : decode cX7_asked 44 = .ok (.iadd, 1) := by decide +kernel
theorem dX7_asked_45 : decode cX7_asked 45 = .ok (.iaload, 1) := by decide +kernel
theorem dX7_asked_46 : decode cX7_asked 46 = .ok (.iconst (-1), 1) := by decide +kernel
theorem dX7_asked_47 : decode cX7_asked 47 = .ok (.if_icmp .eq 28, 3) := by decide +kernel
theorem dX7_asked_50 : decode cX7_asked 50 = .ok (.iload 5, 2) := by decide +kernel
theorem dX7_asked_52 : decode cX7_asked 52 = .ok (.bipush (-9), 2) := by decide +kernel
theorem dX7_asked_54 : decode cX7_asked 54 = .ok (.if_icmp .eq 17, 3) := by decide +kernel
theorem dX7_asked_57 : decode cX7_asked 57 = .ok (.aload_n 0, 1) := by decide +kernel
theorem dX7_asked_58 : decode cX7_asked 58 = .ok (.iload 4, 2) := by decide +kernel
theorem dX7_asked_60 : decode cX7_asked 60 = .ok (.iload_n 2, 1) := by decide +kernel
theorem dX7_asked_61 : decode cX7_asked 61 = .ok (.iload 6, 2) := by decide +kernel
theorem dX7_asked_63 : decode cX7_asked 63 = .ok (.iload 5, 2) := by decide +kernel
theorem dX7_asked_65 : decode cX7_asked 65 = .ok (.invokevirtual 209, 3) := by decide +kernel
theorem dX7_asked_68 : decode cX7_asked 68 = .ok (.ifCond .eq 7, 3) := by decide +kernel
theorem dX7_asked_71 : decode cX7_asked 71 = .ok (.iload 6, 2) := by decide +kernel
theorem dX7_asked_73 : decode cX7_asked 73 = .ok (.istore 5, 2) := by decide +kernel
theorem dX7_asked_75 : decode cX7_asked 75 = .ok (.iinc 6 1, 3) := by decide +kernel
theorem dX7_asked_78 : decode cX7_asked 78 = .ok (.goto (-63), 3) := by decide +kernel
theorem dX7_asked_81 : decode cX7_asked 81 = .ok (.iload 5, 2) := by decide +kernel
theorem dX7_asked_83 : decode cX7_asked 83 = .ok (.ireturn, 1) := by decide +kernel
theorem dX7_refill_0 : decode cX7_refill 0 = .ok (.iconst 0, 1) := by decide +kernel
theorem dX7_refill_1 : decode cX7_refill 1 = .ok (.istore_n 1, 1) := by decide +kernel
theorem dX7_refill_2 : decode cX7_refill 2 = .ok (.iload_n 1, 1) := by decide +kernel
theorem dX7_refill_3 : decode cX7_refill 3 = .ok (.aload_n 0, 1) := by decide +kernel
theorem dX7_refill_4 : decode cX7_refill 4 = .ok (.getfield 128, 3) := by decide +kernel
theorem dX7_refill_7 : decode cX7_refill 7 = .ok (.if_icmp .ge 21, 3) := by decide +kernel
theorem dX7_refill_10 : decode cX7_refill 10 = .ok (.aload_n 0, 1) := by decide +kernel
theorem dX7_refill_11 : decode cX7_refill 11 = .ok (.getfield 82, 3) := by decide +kernel
theorem dX7_refill_14 : decode cX7_refill 14 = .ok (.iload_n 1, 1) := by decide +kernel
theorem dX7_refill_15 : decode cX7_refill 15 = .ok (.aload_n 0, 1) := by decide +kernel
theorem dX7_refill_16 : decode cX7_refill 16 = .ok (.getfield 19, 3) := by decide +kernel
theorem dX7_refill_19 : decode cX7_refill 19 = .ok (.iload_n 1, 1) := by decide +kernel
theorem dX7_refill_20 : decode cX7_refill 20 = .ok (.iaload, 1) := by decide +kernel
theorem dX7_refill_21 : decode cX7_refill 21 = .ok (.iastore, 1) := by decide +kernel
theorem dX7_refill_22 : decode cX7_refill 22 = .ok (.iinc 1 1, 3) := by decide +kernel
theorem dX7_refill_25 : decode cX7_refill 25 = .ok (.goto (-23), 3) := by decide +kernel
theorem dX7_refill_28 : decode cX7_refill 28 = .ok (.return_, 1) := by decide +kernel
theorem dX7_goNight_0 : decode cX7_goNight 0 = .ok (.aload_n 0, 1) := by decide +kernel
theorem dX7_goNight_1 : decode cX7_goNight 1 = .ok (.invokevirtual 213, 3) := by decide +kernel
theorem dX7_goNight_4 : decode cX7_goNight 4 = .ok (.iconst 0, 1) := by decide +kernel
theorem dX7_goNight_5 : decode cX7_goNight 5 = .ok (.istore_n 1, 1) := by decide +kernel
theorem dX7_goNight_6 : decode cX7_goNight 6 = .ok (.iload_n 1, 1) := by decide +kernel
theorem dX7_goNight_7 : decode cX7_goNight 7 = .ok (.aload_n 0, 1) := by decide +kernel
theorem dX7_goNight_8 : decode cX7_goNight 8 = .ok (.getfield 125, 3) := by decide +kernel
theorem dX7_goNight_11 : decode cX7_goNight 11 = .ok (.if_icmp .ge 23, 3) := by decide +kernel
theorem dX7_goNight_14 : decode cX7_goNight 14 = .ok (.aload_n 0, 1) := by decide +kernel
theorem dX7_goNight_15 : decode cX7_goNight 15 = .ok (.getfield 76, 3) := by decide +kernel
theorem dX7_goNight_18 : decode cX7_goNight 18 = .ok (.iload_n 1, 1) := by decide +kernel
theorem dX7_goNight_19 : decode cX7_goNight 19 = .ok (.iconst 0, 1) := by decide +kernel
theorem dX7_goNight_20 : decode cX7_goNight 20 = .ok (.iastore, 1) := by decide +kernel
theorem dX7_goNight_21 : decode cX7_goNight 21 = .ok (.aload_n 0, 1) := by decide +kernel
theorem dX7_goNight_22 : decode cX7_goNight 22 = .ok (.getfield 79, 3) := by decide +kernel
theorem dX7_goNight_25 : decode cX7_goNight 25 = .ok (.iload_n 1, 1) := by decide +kernel
theorem dX7_goNight_26 : decode cX7_goNight 26 = .ok (.iconst 0, 1) := by decide +kernel
theorem dX7_goNight_27 : decode cX7_goNight 27 = .ok (.iastore, 1) := by decide +kernel
theorem dX7_goNight_28 : decode cX7_goNight 28 = .ok (.iinc 1 1, 3) := by decide +kernel
theorem dX7_goNight_31 : decode cX7_goNight 31 = .ok (.goto (-25), 3) := by decide +kernel
theorem dX7_goNight_34 : decode cX7_goNight 34 = .ok (.iconst 0, 1) := by decide +kernel
theorem dX7_goNight_35 : decode cX7_goNight 35 = .ok (.istore_n 1, 1) := by decide +kernel
theorem dX7_goNight_36 : decode cX7_goNight 36 = .ok (.iload_n 1, 1) := by decide +kernel
theorem dX7_goNight_37 : decode cX7_goNight 37 = .ok (.aload_n 0, 1) := by decide +kernel
theorem dX7_goNight_38 : decode cX7_goNight 38 = .ok (.getfield 164, 3) := by decide +kernel
theorem dX7_goNight_41 : decode cX7_goNight 41 = .ok (.if_icmp .ge 14, 3) := by decide +kernel
theorem dX7_goNight_44 : decode cX7_goNight 44 = .ok (.aload_n 0, 1) := by decide +kernel
theorem dX7_goNight_45 : decode cX7_goNight 45 = .ok (.iload_n 1, 1) := by decide +kernel
theorem dX7_goNight_46 : decode cX7_goNight 46 = .ok (.invokevirtual 216, 3) := by decide +kernel
theorem dX7_goNight_49 : decode cX7_goNight 49 = .ok (.iinc 1 1, 3) := by decide +kernel
theorem dX7_goNight_52 : decode cX7_goNight 52 = .ok (.goto (-16), 3) := by decide +kernel
theorem dX7_goNight_55 : decode cX7_goNight 55 = .ok (.aload_n 0, 1) := by decide +kernel
theorem dX7_goNight_56 : decode cX7_goNight 56 = .ok (.bipush (-9), 2) := by decide +kernel
theorem dX7_goNight_58 : decode cX7_goNight 58 = .ok (.putfield 200, 3) := by decide +kernel
theorem dX7_goNight_61 : decode cX7_goNight 61 = .ok (.return_, 1) := by decide +kernel
theorem dX7_goCourse_0 : decode cX7_goCourse 0 = .ok (.iconst 0, 1) := by decide +kernel
theorem dX7_goCourse_1 : decode cX7_goCourse 1 = .ok (.istore_n 2, 1) := by decide +kernel
theorem dX7_goCourse_2 : decode cX7_goCourse 2 = .ok (.iload_n 2, 1) := by decide +kernel
theorem dX7_goCourse_3 : decode cX7_goCourse 3 = .ok (.aload_n 0, 1) := by decide +kernel
theorem dX7_goCourse_4 : decode cX7_goCourse 4 = .ok (.getfield 194, 3) := by decide +kernel
theorem dX7_goCourse_7 : decode cX7_goCourse 7 = .ok (.if_icmp .ge 101, 3) := by decide +kernel
theorem dX7_goCourse_10 : decode cX7_goCourse 10 = .ok (.aload_n 0, 1) := by decide +kernel
theorem dX7_goCourse_11 : decode cX7_goCourse 11 = .ok (.getfield 64, 3) := by decide +kernel
theorem dX7_goCourse_14 : decode cX7_goCourse 14 = .ok (.iload_n 2, 1) := by decide +kernel
theorem dX7_goCourse_15 : decode cX7_goCourse 15 = .ok (.iaload, 1) := by decide +kernel
theorem dX7_goCourse_16 : decode cX7_goCourse 16 = .ok (.istore_n 3, 1) := by decide +kernel
theorem dX7_goCourse_17 : decode cX7_goCourse 17 = .ok (.aload_n 0, 1) := by decide +kernel
theorem dX7_goCourse_18 : decode cX7_goCourse 18 = .ok (.getfield 64, 3) := by decide +kernel
theorem dX7_goCourse_21 : decode cX7_goCourse 21 = .ok (.iload_n 2, 1) := by decide +kernel
theorem dX7_goCourse_22 : decode cX7_goCourse 22 = .ok (.aload_n 0, 1) := by decide +kernel
theorem dX7_goCourse_23 : decode cX7_goCourse 23 = .ok (.getfield 197, 3) := by decide +kernel
theorem dX7_goCourse_26 : decode cX7_goCourse 26 = .ok (.iadd, 1) := by decide +kernel
theorem dX7_goCourse_27 : decode cX7_goCourse 27 = .ok (.aload_n 0, 1) := by decide +kernel
theorem dX7_goCourse_28 : decode cX7_goCourse 28 = .ok (.getfield 194, 3) := by decide +kernel
theorem dX7_goCourse_31 : decode cX7_goCourse 31 = .ok (.irem, 1) := by decide +kernel
theorem dX7_goCourse_32 : decode cX7_goCourse 32 = .ok (.iaload, 1) := by decide +kernel
theorem dX7_goCourse_33 : decode cX7_goCourse 33 = .ok (.istore 4, 2) := by decide +kernel
theorem dX7_goCourse_35 : decode cX7_goCourse 35 = .ok (.aload_n 0, 1) := by decide +kernel
theorem dX7_goCourse_36 : decode cX7_goCourse 36 = .ok (.iload_n 3, 1) := by decide +kernel
theorem dX7_goCourse_37 : decode cX7_goCourse 37 = .ok (.iload 4, 2) := by decide +kernel
theorem dX7_goCourse_39 : decode cX7_goCourse 39 = .ok (.iload_n 1, 1) := by decide +kernel
theorem dX7_goCourse_40 : decode cX7_goCourse 40 = .ok (.invokevirtual 220, 3) := by decide +kernel
theorem dX7_goCourse_43 : decode cX7_goCourse 43 = .ok (.istore 5, 2) := by decide +kernel
theorem dX7_goCourse_45 : decode cX7_goCourse 45 = .ok (.aload_n 0, 1) := by decide +kernel
theorem dX7_goCourse_46 : decode cX7_goCourse 46 = .ok (.getfield 73, 3) := by decide +kernel
theorem dX7_goCourse_49 : decode cX7_goCourse 49 = .ok (.bipush 7, 2) := by decide +kernel
theorem dX7_goCourse_51 : decode cX7_goCourse 51 = .ok (.iload_n 1, 1) := by decide +kernel
theorem dX7_goCourse_52 : decode cX7_goCourse 52 = .ok (.imul, 1) := by decide +kernel
theorem dX7_goCourse_53 : decode cX7_goCourse 53 = .ok (.iload 4, 2) := by decide +kernel
theorem dX7_goCourse_55 : decode cX7_goCourse 55 = .ok (.iadd, 1) := by decide +kernel
theorem dX7_goCourse_56 : decode cX7_goCourse 56 = .ok (.iload 5, 2) := by decide +kernel
theorem dX7_goCourse_58 : decode cX7_goCourse 58 = .ok (.iastore, 1) := by decide +kernel
theorem dX7_goCourse_59 : decode cX7_goCourse 59 = .ok (.aload_n 0, 1) := by decide +kernel
theorem dX7_goCourse_60 : decode cX7_goCourse 60 = .ok (.getfield 67, 3) := by decide +kernel
theorem dX7_goCourse_63 : decode cX7_goCourse 63 = .ok (.iload 4, 2) := by decide +kernel
theorem dX7_goCourse_65 : decode cX7_goCourse 65 = .ok (.iload 5, 2) := by decide +kernel
theorem dX7_goCourse_67 : decode cX7_goCourse 67 = .ok (.iastore, 1) := by decide +kernel
theorem dX7_goCourse_68 : decode cX7_goCourse 68 = .ok (.iload 5, 2) := by decide +kernel
theorem dX7_goCourse_70 : decode cX7_goCourse 70 = .ok (.bipush (-9), 2) := by decide +kernel
theorem dX7_goCourse_72 : decode cX7_goCourse 72 = .ok (.if_icmp .eq 30, 3) := by decide +kernel
theorem dX7_goCourse_75 : decode cX7_goCourse 75 = .ok (.aload_n 0, 1) := by decide +kernel
theorem dX7_goCourse_76 : decode cX7_goCourse 76 = .ok (.getfield 82, 3) := by decide +kernel
theorem dX7_goCourse_79 : decode cX7_goCourse 79 = .ok (.iload 5, 2) := by decide +kernel
theorem dX7_goCourse_81 : decode cX7_goCourse 81 = .ok (.dup2, 1) := by decide +kernel
theorem dX7_goCourse_82 : decode cX7_goCourse 82 = .ok (.iaload, 1) := by decide +kernel
theorem dX7_goCourse_83 : decode cX7_goCourse 83 = .ok (.iconst 1, 1) := by decide +kernel
theorem dX7_goCourse_84 : decode cX7_goCourse 84 = .ok (.isub, 1) := by decide +kernel
theorem dX7_goCourse_85 : decode cX7_goCourse 85 = .ok (.iastore, 1) := by decide +kernel
theorem dX7_goCourse_86 : decode cX7_goCourse 86 = .ok (.aload_n 0, 1) := by decide +kernel
theorem dX7_goCourse_87 : decode cX7_goCourse 87 = .ok (.getfield 79, 3) := by decide +kernel
theorem dX7_goCourse_90 : decode cX7_goCourse 90 = .ok (.iload_n 3, 1) := by decide +kernel
theorem dX7_goCourse_91 : decode cX7_goCourse 91 = .ok (.dup2, 1) := by decide +kernel
theorem dX7_goCourse_92 : decode cX7_goCourse 92 = .ok (.iaload, 1) := by decide +kernel
theorem dX7_goCourse_93 : decode cX7_goCourse 93 = .ok (.aload_n 0, 1) := by decide +kernel
theorem dX7_goCourse_94 : decode cX7_goCourse 94 = .ok (.getfield 22, 3) := by decide +kernel
theorem dX7_goCourse_97 : decode cX7_goCourse 97 = .ok (.iload 5, 2) := by decide +kernel
theorem dX7_goCourse_99 : decode cX7_goCourse 99 = .ok (.iaload, 1) := by decide +kernel
theorem dX7_goCourse_100 : decode cX7_goCourse 100 = .ok (.iadd, 1) := by decide +kernel
theorem dX7_goCourse_101 : decode cX7_goCourse 101 = .ok (.iastore, 1) := by decide +kernel
theorem dX7_goCourse_102 : decode cX7_goCourse 102 = .ok (.iinc 2 1, 3) := by decide +kernel
theorem dX7_goCourse_105 : decode cX7_goCourse 105 = .ok (.goto (-103), 3) := by decide +kernel
theorem dX7_goCourse_108 : decode cX7_goCourse 108 = .ok (.iconst 0, 1) := by decide +kernel
theorem dX7_goCourse_109 : decode cX7_goCourse 109 = .ok (.istore_n 2, 1) := by decide +kernel
theorem dX7_goCourse_110 : decode cX7_goCourse 110 = .ok (.iload_n 2, 1) := by decide +kernel
theorem dX7_goCourse_111 : decode cX7_goCourse 111 = .ok (.aload_n 0, 1) := by decide +kernel
theorem dX7_goCourse_112 : decode cX7_goCourse 112 = .ok (.getfield 194, 3) := by decide +kernel
theorem dX7_goCourse_115 : decode cX7_goCourse 115 = .ok (.if_icmp .ge 88, 3) := by decide +kernel
theorem dX7_goCourse_118 : decode cX7_goCourse 118 = .ok (.aload_n 0, 1) := by decide +kernel
theorem dX7_goCourse_119 : decode cX7_goCourse 119 = .ok (.getfield 64, 3) := by decide +kernel
theorem dX7_goCourse_122 : decode cX7_goCourse 122 = .ok (.iload_n 2, 1) := by decide +kernel
theorem dX7_goCourse_123 : decode cX7_goCourse 123 = .ok (.iaload, 1) := by decide +kernel
theorem dX7_goCourse_124 : decode cX7_goCourse 124 = .ok (.istore_n 3, 1) := by decide +kernel
theorem dX7_goCourse_125 : decode cX7_goCourse 125 = .ok (.aload_n 0, 1) := by decide +kernel
theorem dX7_goCourse_126 : decode cX7_goCourse 126 = .ok (.getfield 64, 3) := by decide +kernel
theorem dX7_goCourse_129 : decode cX7_goCourse 129 = .ok (.iload_n 2, 1) := by decide +kernel
theorem dX7_goCourse_130 : decode cX7_goCourse 130 = .ok (.aload_n 0, 1) := by decide +kernel
theorem dX7_goCourse_131 : decode cX7_goCourse 131 = .ok (.getfield 197, 3) := by decide +kernel
theorem dX7_goCourse_134 : decode cX7_goCourse 134 = .ok (.iadd, 1) := by decide +kernel
theorem dX7_goCourse_135 : decode cX7_goCourse 135 = .ok (.aload_n 0, 1) := by decide +kernel
theorem dX7_goCourse_136 : decode cX7_goCourse 136 = .ok (.getfield 194, 3) := by decide +kernel
theorem dX7_goCourse_139 : decode cX7_goCourse 139 = .ok (.irem, 1) := by decide +kernel
theorem dX7_goCourse_140 : decode cX7_goCourse 140 = .ok (.iaload, 1) := by decide +kernel
theorem dX7_goCourse_141 : decode cX7_goCourse 141 = .ok (.istore 4, 2) := by decide +kernel
theorem dX7_goCourse_143 : decode cX7_goCourse 143 = .ok (.aload_n 0, 1) := by decide +kernel
theorem dX7_goCourse_144 : decode cX7_goCourse 144 = .ok (.getfield 76, 3) := by decide +kernel
theorem dX7_goCourse_147 : decode cX7_goCourse 147 = .ok (.iload_n 3, 1) := by decide +kernel
theorem dX7_goCourse_148 : decode cX7_goCourse 148 = .ok (.dup2, 1) := by decide +kernel
theorem dX7_goCourse_149 : decode cX7_goCourse 149 = .ok (.iaload, 1) := by decide +kernel
theorem dX7_goCourse_150 : decode cX7_goCourse 150 = .ok (.bipush 10, 2) := by decide +kernel
theorem dX7_goCourse_152 : decode cX7_goCourse 152 = .ok (.aload_n 0, 1) := by decide +kernel
theorem dX7_goCourse_153 : decode cX7_goCourse 153 = .ok (.iload_n 3, 1) := by decide +kernel
theorem dX7_goCourse_154 : decode cX7_goCourse 154 = .ok (.aload_n 0, 1) := by decide +kernel
theorem dX7_goCourse_155 : decode cX7_goCourse 155 = .ok (.getfield 73, 3) := by decide +kernel
theorem dX7_goCourse_158 : decode cX7_goCourse 158 = .ok (.bipush 7, 2) := by decide +kernel
theorem dX7_goCourse_160 : decode cX7_goCourse 160 = .ok (.iload_n 1, 1) := by decide +kernel
theorem dX7_goCourse_161 : decode cX7_goCourse 161 = .ok (.imul, 1) := by decide +kernel
theorem dX7_goCourse_162 : decode cX7_goCourse 162 = .ok (.iload_n 3, 1) := by decide +kernel
theorem dX7_goCourse_163 : decode cX7_goCourse 163 = .ok (.iadd, 1) := by decide +kernel
theorem dX7_goCourse_164 : decode cX7_goCourse 164 = .ok (.iaload, 1) := by decide +kernel
theorem dX7_goCourse_165 : decode cX7_goCourse 165 = .ok (.invokevirtual 203, 3) := by decide +kernel
theorem dX7_goCourse_168 : decode cX7_goCourse 168 = .ok (.imul, 1) := by decide +kernel
theorem dX7_goCourse_169 : decode cX7_goCourse 169 = .ok (.aload_n 0, 1) := by decide +kernel
theorem dX7_goCourse_170 : decode cX7_goCourse 170 = .ok (.getfield 28, 3) := by decide +kernel
theorem dX7_goCourse_173 : decode cX7_goCourse 173 = .ok (.iload_n 3, 1) := by decide +kernel
theorem dX7_goCourse_174 : decode cX7_goCourse 174 = .ok (.iaload, 1) := by decide +kernel
theorem dX7_goCourse_175 : decode cX7_goCourse 175 = .ok (.aload_n 0, 1) := by decide +kernel
theorem dX7_goCourse_176 : decode cX7_goCourse 176 = .ok (.iload 4, 2) := by decide +kernel
theorem dX7_goCourse_178 : decode cX7_goCourse 178 = .ok (.aload_n 0, 1) := by decide +kernel
theorem dX7_goCourse_179 : decode cX7_goCourse 179 = .ok (.getfield 73, 3) := by decide +kernel
theorem dX7_goCourse_182 : decode cX7_goCourse 182 = .ok (.bipush 7, 2) := by decide +kernel
theorem dX7_goCourse_184 : decode cX7_goCourse 184 = .ok (.iload_n 1, 1) := by decide +kernel
theorem dX7_goCourse_185 : decode cX7_goCourse 185 = .ok (.imul, 1) := by decide +kernel
theorem dX7_goCourse_186 : decode cX7_goCourse 186 = .ok (.iload 4, 2) := by decide +kernel
theorem dX7_goCourse_188 : decode cX7_goCourse 188 = .ok (.iadd, 1) := by decide +kernel
theorem dX7_goCourse_189 : decode cX7_goCourse 189 = .ok (.iaload, 1) := by decide +kernel
theorem dX7_goCourse_190 : decode cX7_goCourse 190 = .ok (.invokevirtual 203, 3) := by decide +kernel
theorem dX7_goCourse_193 : decode cX7_goCourse 193 = .ok (.imul, 1) := by decide +kernel
theorem dX7_goCourse_194 : decode cX7_goCourse 194 = .ok (.iadd, 1) := by decide +kernel
theorem dX7_goCourse_195 : decode cX7_goCourse 195 = .ok (.iadd, 1) := by decide +kernel
theorem dX7_goCourse_196 : decode cX7_goCourse 196 = .ok (.iastore, 1) := by decide +kernel
theorem dX7_goCourse_197 : decode cX7_goCourse 197 = .ok (.iinc 2 1, 3) := by decide +kernel
theorem dX7_goCourse_200 : decode cX7_goCourse 200 = .ok (.goto (-90), 3) := by decide +kernel
theorem dX7_goCourse_203 : decode cX7_goCourse 203 = .ok (.return_, 1) := by decide +kernel
theorem dX7_allGlad_0 : decode cX7_allGlad 0 = .ok (.iconst 0, 1) := by decide +kernel
theorem dX7_allGlad_1 : decode cX7_allGlad 1 = .ok (.istore_n 1, 1) := by decide +kernel
theorem dX7_allGlad_2 : decode cX7_allGlad 2 = .ok (.iconst 0, 1) := by decide +kernel
theorem dX7_allGlad_3 : decode cX7_allGlad 3 = .ok (.istore_n 2, 1) := by decide +kernel
theorem dX7_allGlad_4 : decode cX7_allGlad 4 = .ok (.iload_n 2, 1) := by decide +kernel
theorem dX7_allGlad_5 : decode cX7_allGlad 5 = .ok (.aload_n 0, 1) := by decide +kernel
theorem dX7_allGlad_6 : decode cX7_allGlad 6 = .ok (.getfield 194, 3) := by decide +kernel
theorem dX7_allGlad_9 : decode cX7_allGlad 9 = .ok (.if_icmp .ge 23, 3) := by decide +kernel
theorem dX7_allGlad_12 : decode cX7_allGlad 12 = .ok (.iload_n 1, 1) := by decide +kernel
theorem dX7_allGlad_13 : decode cX7_allGlad 13 = .ok (.aload_n 0, 1) := by decide +kernel
theorem dX7_allGlad_14 : decode cX7_allGlad 14 = .ok (.getfield 76, 3) := by decide +kernel
theorem dX7_allGlad_17 : decode cX7_allGlad 17 = .ok (.aload_n 0, 1) := by decide +kernel
theorem dX7_allGlad_18 : decode cX7_allGlad 18 = .ok (.getfield 64, 3) := by decide +kernel
theorem dX7_allGlad_21 : decode cX7_allGlad 21 = .ok (.iload_n 2, 1) := by decide +kernel
theorem dX7_allGlad_22 : decode cX7_allGlad 22 = .ok (.iaload, 1) := by decide +kernel
theorem dX7_allGlad_23 : decode cX7_allGlad 23 = .ok (.iaload, 1) := by decide +kernel
theorem dX7_allGlad_24 : decode cX7_allGlad 24 = .ok (.iadd, 1) := by decide +kernel
theorem dX7_allGlad_25 : decode cX7_allGlad 25 = .ok (.istore_n 1, 1) := by decide +kernel
theorem dX7_allGlad_26 : decode cX7_allGlad 26 = .ok (.iinc 2 1, 3) := by decide +kernel
theorem dX7_allGlad_29 : decode cX7_allGlad 29 = .ok (.goto (-25), 3) := by decide +kernel
theorem dX7_allGlad_32 : decode cX7_allGlad 32 = .ok (.iload_n 1, 1) := by decide +kernel
theorem dX7_allGlad_33 : decode cX7_allGlad 33 = .ok (.ireturn, 1) := by decide +kernel
theorem dX7_dine_0 : decode cX7_dine 0 = .ok (.aload_n 0, 1) := by decide +kernel
theorem dX7_dine_1 : decode cX7_dine 1 = .ok (.invokevirtual 190, 3) := by decide +kernel
theorem dX7_dine_4 : decode cX7_dine 4 = .ok (.ifCond .ne 6, 3) := by decide +kernel
theorem dX7_dine_7 : decode cX7_dine 7 = .ok (.bipush (-3), 2) := by decide +kernel
theorem dX7_dine_9 : decode cX7_dine 9 = .ok (.ireturn, 1) := by decide +kernel
theorem dX7_dine_10 : decode cX7_dine 10 = .ok (.aload_n 0, 1) := by decide +kernel
theorem dX7_dine_11 : decode cX7_dine 11 = .ok (.invokevirtual 224, 3) := by decide +kernel
theorem dX7_dine_14 : decode cX7_dine 14 = .ok (.aload_n 0, 1) := by decide +kernel
theorem dX7_dine_15 : decode cX7_dine 15 = .ok (.invokevirtual 227, 3) := by decide +kernel
theorem dX7_dine_18 : decode cX7_dine 18 = .ok (.iconst 0, 1) := by decide +kernel
theorem dX7_dine_19 : decode cX7_dine 19 = .ok (.istore_n 1, 1) := by decide +kernel
theorem dX7_dine_20 : decode cX7_dine 20 = .ok (.iload_n 1, 1) := by decide +kernel
theorem dX7_dine_21 : decode cX7_dine 21 = .ok (.aload_n 0, 1) := by decide +kernel
theorem dX7_dine_22 : decode cX7_dine 22 = .ok (.getfield 125, 3) := by decide +kernel
theorem dX7_dine_25 : decode cX7_dine 25 = .ok (.if_icmp .ge 21, 3) := by decide +kernel
theorem dX7_dine_28 : decode cX7_dine 28 = .ok (.aload_n 0, 1) := by decide +kernel
theorem dX7_dine_29 : decode cX7_dine 29 = .ok (.getfield 43, 3) := by decide +kernel
theorem dX7_dine_32 : decode cX7_dine 32 = .ok (.iload_n 1, 1) := by decide +kernel
theorem dX7_dine_33 : decode cX7_dine 33 = .ok (.aload_n 0, 1) := by decide +kernel
theorem dX7_dine_34 : decode cX7_dine 34 = .ok (.getfield 67, 3) := by decide +kernel
theorem dX7_dine_37 : decode cX7_dine 37 = .ok (.iload_n 1, 1) := by decide +kernel
theorem dX7_dine_38 : decode cX7_dine 38 = .ok (.iaload, 1) := by decide +kernel
theorem dX7_dine_39 : decode cX7_dine 39 = .ok (.iastore, 1) := by decide +kernel
theorem dX7_dine_40 : decode cX7_dine 40 = .ok (.iinc 1 1, 3) := by decide +kernel
theorem dX7_dine_43 : decode cX7_dine 43 = .ok (.goto (-23), 3) := by decide +kernel
theorem dX7_dine_46 : decode cX7_dine 46 = .ok (.aload_n 0, 1) := by decide +kernel
theorem dX7_dine_47 : decode cX7_dine 47 = .ok (.dup, 1) := by decide +kernel
theorem dX7_dine_48 : decode cX7_dine 48 = .ok (.getfield 167, 3) := by decide +kernel
theorem dX7_dine_51 : decode cX7_dine 51 = .ok (.iconst 1, 1) := by decide +kernel
theorem dX7_dine_52 : decode cX7_dine 52 = .ok (.iadd, 1) := by decide +kernel
theorem dX7_dine_53 : decode cX7_dine 53 = .ok (.putfield 167, 3) := by decide +kernel
theorem dX7_dine_56 : decode cX7_dine 56 = .ok (.aload_n 0, 1) := by decide +kernel
theorem dX7_dine_57 : decode cX7_dine 57 = .ok (.invokevirtual 230, 3) := by decide +kernel
theorem dX7_dine_60 : decode cX7_dine 60 = .ok (.ireturn, 1) := by decide +kernel
theorem dX7_forget_0 : decode cX7_forget 0 = .ok (.iconst 0, 1) := by decide +kernel
theorem dX7_forget_1 : decode cX7_forget 1 = .ok (.istore_n 1, 1) := by decide +kernel
theorem dX7_forget_2 : decode cX7_forget 2 = .ok (.iconst 0, 1) := by decide +kernel
theorem dX7_forget_3 : decode cX7_forget 3 = .ok (.istore_n 2, 1) := by decide +kernel
theorem dX7_forget_4 : decode cX7_forget 4 = .ok (.iload_n 2, 1) := by decide +kernel
theorem dX7_forget_5 : decode cX7_forget 5 = .ok (.aload_n 0, 1) := by decide +kernel
theorem dX7_forget_6 : decode cX7_forget 6 = .ok (.getfield 125, 3) := by decide +kernel
theorem dX7_forget_9 : decode cX7_forget 9 = .ok (.if_icmp .ge 36, 3) := by decide +kernel
theorem dX7_forget_12 : decode cX7_forget 12 = .ok (.iload_n 1, 1) := by decide +kernel
theorem dX7_forget_13 : decode cX7_forget 13 = .ok (.aload_n 0, 1) := by decide +kernel
theorem dX7_forget_14 : decode cX7_forget 14 = .ok (.getfield 43, 3) := by decide +kernel
theorem dX7_forget_17 : decode cX7_forget 17 = .ok (.iload_n 2, 1) := by decide +kernel
theorem dX7_forget_18 : decode cX7_forget 18 = .ok (.iaload, 1) := by decide +kernel
theorem dX7_forget_19 : decode cX7_forget 19 = .ok (.bipush (-8), 2) := by decide +kernel
theorem dX7_forget_21 : decode cX7_forget 21 = .ok (.if_icmp .ne 7, 3) := by decide +kernel
theorem dX7_forget_24 : decode cX7_forget 24 = .ok (.iconst 0, 1) := by decide +kernel
theorem dX7_forget_25 : decode cX7_forget 25 = .ok (.goto 4, 3) := by decide +kernel
theorem dX7_forget_28 : decode cX7_forget 28 = .ok (.iconst 1, 1) := by decide +kernel
theorem dX7_forget_29 : decode cX7_forget 29 = .ok (.iadd, 1) := by decide +kernel
theorem dX7_forget_30 : decode cX7_forget 30 = .ok (.istore_n 1, 1) := by decide +kernel
theorem dX7_forget_31 : decode cX7_forget 31 = .ok (.aload_n 0, 1) := by decide +kernel
theorem dX7_forget_32 : decode cX7_forget 32 = .ok (.getfield 43, 3) := by decide +kernel
theorem dX7_forget_35 : decode cX7_forget 35 = .ok (.iload_n 2, 1) := by decide +kernel
theorem dX7_forget_36 : decode cX7_forget 36 = .ok (.bipush (-8), 2) := by decide +kernel
theorem dX7_forget_38 : decode cX7_forget 38 = .ok (.iastore, 1) := by decide +kernel
theorem dX7_forget_39 : decode cX7_forget 39 = .ok (.iinc 2 1, 3) := by decide +kernel
theorem dX7_forget_42 : decode cX7_forget 42 = .ok (.goto (-38), 3) := by decide +kernel
theorem dX7_forget_45 : decode cX7_forget 45 = .ok (.iload_n 1, 1) := by decide +kernel
theorem dX7_forget_46 : decode cX7_forget 46 = .ok (.ireturn, 1) := by decide +kernel
theorem dX7_gets_0 : decode cX7_gets 0 = .ok (.aload_n 0, 1) := by decide +kernel
theorem dX7_gets_1 : decode cX7_gets 1 = .ok (.iload_n 1, 1) := by decide +kernel
theorem dX7_gets_2 : decode cX7_gets 2 = .ok (.invokevirtual 184, 3) := by decide +kernel
theorem dX7_gets_5 : decode cX7_gets 5 = .ok (.ifCond .eq 15, 3) := by decide +kernel
theorem dX7_gets_8 : decode cX7_gets 8 = .ok (.iload_n 2, 1) := by decide +kernel
theorem dX7_gets_9 : decode cX7_gets 9 = .ok (.ifCond .lt 11, 3) := by decide +kernel
theorem dX7_gets_12 : decode cX7_gets 12 = .ok (.iload_n 2, 1) := by decide +kernel
theorem dX7_gets_13 : decode cX7_gets 13 = .ok (.aload_n 0, 1) := by decide +kernel
theorem dX7_gets_14 : decode cX7_gets 14 = .ok (.getfield 164, 3) := by decide +kernel
theorem dX7_gets_17 : decode cX7_gets 17 = .ok (.if_icmp .lt 5, 3) := by decide +kernel
theorem dX7_gets_20 : decode cX7_gets 20 = .ok (.iconst (-1), 1) := by decide +kernel
theorem dX7_gets_21 : decode cX7_gets 21 = .ok (.ireturn, 1) := by decide +kernel
theorem dX7_gets_22 : decode cX7_gets 22 = .ok (.aload_n 0, 1) := by decide +kernel
theorem dX7_gets_23 : decode cX7_gets 23 = .ok (.invokevirtual 224, 3) := by decide +kernel
theorem dX7_gets_26 : decode cX7_gets 26 = .ok (.aload_n 0, 1) := by decide +kernel
theorem dX7_gets_27 : decode cX7_gets 27 = .ok (.invokevirtual 227, 3) := by decide +kernel
theorem dX7_gets_30 : decode cX7_gets 30 = .ok (.aload_n 0, 1) := by decide +kernel
theorem dX7_gets_31 : decode cX7_gets 31 = .ok (.getfield 73, 3) := by decide +kernel
theorem dX7_gets_34 : decode cX7_gets 34 = .ok (.bipush 7, 2) := by decide +kernel
theorem dX7_gets_36 : decode cX7_gets 36 = .ok (.iload_n 2, 1) := by decide +kernel
theorem dX7_gets_37 : decode cX7_gets 37 = .ok (.imul, 1) := by decide +kernel
theorem dX7_gets_38 : decode cX7_gets 38 = .ok (.iload_n 1, 1) := by decide +kernel
theorem dX7_gets_39 : decode cX7_gets 39 = .ok (.iadd, 1) := by decide +kernel
theorem dX7_gets_40 : decode cX7_gets 40 = .ok (.iaload, 1) := by decide +kernel
theorem dX7_gets_41 : decode cX7_gets 41 = .ok (.ireturn, 1) := by decide +kernel
theorem dX7_glad_0 : decode cX7_glad 0 = .ok (.aload_n 0, 1) := by decide +kernel
theorem dX7_glad_1 : decode cX7_glad 1 = .ok (.iload_n 1, 1) := by decide +kernel
theorem dX7_glad_2 : decode cX7_glad 2 = .ok (.invokevirtual 184, 3) := by decide +kernel
theorem dX7_glad_5 : decode cX7_glad 5 = .ok (.ifCond .ne 5, 3) := by decide +kernel
theorem dX7_glad_8 : decode cX7_glad 8 = .ok (.iconst (-1), 1) := by decide +kernel
theorem dX7_glad_9 : decode cX7_glad 9 = .ok (.ireturn, 1) := by decide +kernel
theorem dX7_glad_10 : decode cX7_glad 10 = .ok (.aload_n 0, 1) := by decide +kernel
theorem dX7_glad_11 : decode cX7_glad 11 = .ok (.invokevirtual 224, 3) := by decide +kernel
theorem dX7_glad_14 : decode cX7_glad 14 = .ok (.aload_n 0, 1) := by decide +kernel
theorem dX7_glad_15 : decode cX7_glad 15 = .ok (.invokevirtual 227, 3) := by decide +kernel
theorem dX7_glad_18 : decode cX7_glad 18 = .ok (.aload_n 0, 1) := by decide +kernel
theorem dX7_glad_19 : decode cX7_glad 19 = .ok (.getfield 76, 3) := by decide +kernel
theorem dX7_glad_22 : decode cX7_glad 22 = .ok (.iload_n 1, 1) := by decide +kernel
theorem dX7_glad_23 : decode cX7_glad 23 = .ok (.iaload, 1) := by decide +kernel
theorem dX7_glad_24 : decode cX7_glad 24 = .ok (.ireturn, 1) := by decide +kernel
theorem dX7_pays_0 : decode cX7_pays 0 = .ok (.aload_n 0, 1) := by decide +kernel
theorem dX7_pays_1 : decode cX7_pays 1 = .ok (.iload_n 1, 1) := by decide +kernel
theorem dX7_pays_2 : decode cX7_pays 2 = .ok (.invokevirtual 184, 3) := by decide +kernel
theorem dX7_pays_5 : decode cX7_pays 5 = .ok (.ifCond .eq 12, 3) := by decide +kernel
theorem dX7_pays_8 : decode cX7_pays 8 = .ok (.iload_n 3, 1) := by decide +kernel
theorem dX7_pays_9 : decode cX7_pays 9 = .ok (.iconst 0, 1) := by decide +kernel
theorem dX7_pays_10 : decode cX7_pays 10 = .ok (.iconst 1, 1) := by decide +kernel
theorem dX7_pays_11 : decode cX7_pays 11 = .ok (.invokestatic 121, 3) := by decide +kernel
theorem dX7_pays_14 : decode cX7_pays 14 = .ok (.ifCond .ne 7, 3) := by decide +kernel
theorem dX7_pays_17 : decode cX7_pays 17 = .ok (.ldc2_w 119, 3) := by decide +kernel
theorem dX7_pays_20 : decode cX7_pays 20 = .ok (.lreturn, 1) := by decide +kernel
theorem dX7_pays_21 : decode cX7_pays 21 = .ok (.aload_n 0, 1) := by decide +kernel
theorem dX7_pays_22 : decode cX7_pays 22 = .ok (.invokevirtual 224, 3) := by decide +kernel
theorem dX7_pays_25 : decode cX7_pays 25 = .ok (.aload_n 0, 1) := by decide +kernel
theorem dX7_pays_26 : decode cX7_pays 26 = .ok (.invokevirtual 227, 3) := by decide +kernel
theorem dX7_pays_29 : decode cX7_pays 29 = .ok (.lconst 0, 1) := by decide +kernel
theorem dX7_pays_30 : decode cX7_pays 30 = .ok (.lstore 4, 2) := by decide +kernel
theorem dX7_pays_32 : decode cX7_pays 32 = .ok (.iconst 0, 1) := by decide +kernel
theorem dX7_pays_33 : decode cX7_pays 33 = .ok (.istore 6, 2) := by decide +kernel
theorem dX7_pays_35 : decode cX7_pays 35 = .ok (.iload 6, 2) := by decide +kernel
theorem dX7_pays_37 : decode cX7_pays 37 = .ok (.aload_n 0, 1) := by decide +kernel
theorem dX7_pays_38 : decode cX7_pays 38 = .ok (.getfield 125, 3) := by decide +kernel
theorem dX7_pays_41 : decode cX7_pays 41 = .ok (.if_icmp .ge 22, 3) := by decide +kernel
theorem dX7_pays_44 : decode cX7_pays 44 = .ok (.lload 4, 2) := by decide +kernel
theorem dX7_pays_46 : decode cX7_pays 46 = .ok (.aload_n 0, 1) := by decide +kernel
theorem dX7_pays_47 : decode cX7_pays 47 = .ok (.getfield 79, 3) := by decide +kernel
theorem dX7_pays_50 : decode cX7_pays 50 = .ok (.iload 6, 2) := by decide +kernel
theorem dX7_pays_52 : decode cX7_pays 52 = .ok (.iaload, 1) := by decide +kernel
theorem dX7_pays_53 : decode cX7_pays 53 = .ok (.i2l, 1) := by decide +kernel
theorem dX7_pays_54 : decode cX7_pays 54 = .ok (.ladd, 1) := by decide +kernel
theorem dX7_pays_55 : decode cX7_pays 55 = .ok (.lstore 4, 2) := by decide +kernel
theorem dX7_pays_57 : decode cX7_pays 57 = .ok (.iinc 6 1, 3) := by decide +kernel
theorem dX7_pays_60 : decode cX7_pays 60 = .ok (.goto (-25), 3) := by decide +kernel
theorem dX7_pays_63 : decode cX7_pays 63 = .ok (.iload_n 2, 1) := by decide +kernel
theorem dX7_pays_64 : decode cX7_pays 64 = .ok (.ifCond .eq 17, 3) := by decide +kernel
theorem dX7_pays_67 : decode cX7_pays 67 = .ok (.lload 4, 2) := by decide +kernel
theorem dX7_pays_69 : decode cX7_pays 69 = .ok (.aload_n 0, 1) := by decide +kernel
theorem dX7_pays_70 : decode cX7_pays 70 = .ok (.getfield 125, 3) := by decide +kernel
theorem dX7_pays_73 : decode cX7_pays 73 = .ok (.i2l, 1) := by decide +kernel
theorem dX7_pays_74 : decode cX7_pays 74 = .ok (.iload_n 3, 1) := by decide +kernel
theorem dX7_pays_75 : decode cX7_pays 75 = .ok (.invokestatic 234, 3) := by decide +kernel
theorem dX7_pays_78 : decode cX7_pays 78 = .ok (.goto 15, 3) := by decide +kernel
theorem dX7_pays_81 : decode cX7_pays 81 = .ok (.aload_n 0, 1) := by decide +kernel
theorem dX7_pays_82 : decode cX7_pays 82 = .ok (.getfield 79, 3) := by decide +kernel
theorem dX7_pays_85 : decode cX7_pays 85 = .ok (.iload_n 1, 1) := by decide +kernel
theorem dX7_pays_86 : decode cX7_pays 86 = .ok (.iaload, 1) := by decide +kernel
theorem dX7_pays_87 : decode cX7_pays 87 = .ok (.i2l, 1) := by decide +kernel
theorem dX7_pays_88 : decode cX7_pays 88 = .ok (.lconst 1, 1) := by decide +kernel
theorem dX7_pays_89 : decode cX7_pays 89 = .ok (.iload_n 3, 1) := by decide +kernel
theorem dX7_pays_90 : decode cX7_pays 90 = .ok (.invokestatic 234, 3) := by decide +kernel
theorem dX7_pays_93 : decode cX7_pays 93 = .ok (.lreturn, 1) := by decide +kernel
theorem dX7_mayBe_0 : decode cX7_mayBe 0 = .ok (.iload_n 2, 1) := by decide +kernel
theorem dX7_mayBe_1 : decode cX7_mayBe 1 = .ok (.bipush (-9), 2) := by decide +kernel
theorem dX7_mayBe_3 : decode cX7_mayBe 3 = .ok (.if_icmp .eq 33, 3) := by decide +kernel
theorem dX7_mayBe_6 : decode cX7_mayBe 6 = .ok (.aload_n 0, 1) := by decide +kernel
theorem dX7_mayBe_7 : decode cX7_mayBe 7 = .ok (.getfield 82, 3) := by decide +kernel
theorem dX7_mayBe_10 : decode cX7_mayBe 10 = .ok (.iload_n 2, 1) := by decide +kernel
theorem dX7_mayBe_11 : decode cX7_mayBe 11 = .ok (.iaload, 1) := by decide +kernel
theorem dX7_mayBe_12 : decode cX7_mayBe 12 = .ok (.ifCond .le 22, 3) := by decide +kernel
theorem dX7_mayBe_15 : decode cX7_mayBe 15 = .ok (.aload_n 0, 1) := by decide +kernel
theorem dX7_mayBe_16 : decode cX7_mayBe 16 = .ok (.getfield 34, 3) := by decide +kernel
theorem dX7_mayBe_19 : decode cX7_mayBe 19 = .ok (.bipush 6, 2) := by decide +kernel
theorem dX7_mayBe_21 : decode cX7_mayBe 21 = .ok (.iload_n 1, 1) := by decide +kernel
theorem dX7_mayBe_22 : decode cX7_mayBe 22 = .ok (.imul, 1) := by decide +kernel
theorem dX7_mayBe_23 : decode cX7_mayBe 23 = .ok (.iload_n 2, 1) := by decide +kernel
theorem dX7_mayBe_24 : decode cX7_mayBe 24 = .ok (.iadd, 1) := by decide +kernel
theorem dX7_mayBe_25 : decode cX7_mayBe 25 = .ok (.iaload, 1) := by decide +kernel
theorem dX7_mayBe_26 : decode cX7_mayBe 26 = .ok (.iconst (-1), 1) := by decide +kernel
theorem dX7_mayBe_27 : decode cX7_mayBe 27 = .ok (.if_icmp .eq 7, 3) := by decide +kernel
theorem dX7_mayBe_30 : decode cX7_mayBe 30 = .ok (.iconst 1, 1) := by decide +kernel
theorem dX7_mayBe_31 : decode cX7_mayBe 31 = .ok (.goto 4, 3) := by decide +kernel
theorem dX7_mayBe_34 : decode cX7_mayBe 34 = .ok (.iconst 0, 1) := by decide +kernel
theorem dX7_mayBe_35 : decode cX7_mayBe 35 = .ok (.ireturn, 1) := by decide +kernel
theorem dX7_mayBe_36 : decode cX7_mayBe 36 = .ok (.iconst 0, 1) := by decide +kernel
theorem dX7_mayBe_37 : decode cX7_mayBe 37 = .ok (.istore_n 3, 1) := by decide +kernel
theorem dX7_mayBe_38 : decode cX7_mayBe 38 = .ok (.iload_n 3, 1) := by decide +kernel
theorem dX7_mayBe_39 : decode cX7_mayBe 39 = .ok (.aload_n 0, 1) := by decide +kernel
theorem dX7_mayBe_40 : decode cX7_mayBe 40 = .ok (.getfield 128, 3) := by decide +kernel
theorem dX7_mayBe_43 : decode cX7_mayBe 43 = .ok (.if_icmp .ge 35, 3) := by decide +kernel
theorem dX7_mayBe_46 : decode cX7_mayBe 46 = .ok (.aload_n 0, 1) := by decide +kernel
theorem dX7_mayBe_47 : decode cX7_mayBe 47 = .ok (.getfield 82, 3) := by decide +kernel
theorem dX7_mayBe_50 : decode cX7_mayBe 50 = .ok (.iload_n 3, 1) := by decide +kernel
theorem dX7_mayBe_51 : decode cX7_mayBe 51 = .ok (.iaload, 1) := by decide +kernel
theorem dX7_mayBe_52 : decode cX7_mayBe 52 = .ok (.ifCond .le 20, 3) := by decide +kernel
theorem dX7_mayBe_55 : decode cX7_mayBe 55 = .ok (.aload_n 0, 1) := by decide +kernel
theorem dX7_mayBe_56 : decode cX7_mayBe 56 = .ok (.getfield 34, 3) := by decide +kernel
theorem dX7_mayBe_59 : decode cX7_mayBe 59 = .ok (.bipush 6, 2) := by decide +kernel
theorem dX7_mayBe_61 : decode cX7_mayBe 61 = .ok (.iload_n 1, 1) := by decide +kernel
theorem dX7_mayBe_62 : decode cX7_mayBe 62 = .ok (.imul, 1) := by decide +kernel
theorem dX7_mayBe_63 : decode cX7_mayBe 63 = .ok (.iload_n 3, 1) := by decide +kernel
theorem dX7_mayBe_64 : decode cX7_mayBe 64 = .ok (.iadd, 1) := by decide +kernel
theorem dX7_mayBe_65 : decode cX7_mayBe 65 = .ok (.iaload, 1) := by decide +kernel
theorem dX7_mayBe_66 : decode cX7_mayBe 66 = .ok (.iconst (-1), 1) := by decide +kernel
theorem dX7_mayBe_67 : decode cX7_mayBe 67 = .ok (.if_icmp .eq 5, 3) := by decide +kernel
theorem dX7_mayBe_70 : decode cX7_mayBe 70 = .ok (.iconst 0, 1) := by decide +kernel
theorem dX7_mayBe_71 : decode cX7_mayBe 71 = .ok (.ireturn, 1) := by decide +kernel
theorem dX7_mayBe_72 : decode cX7_mayBe 72 = .ok (.iinc 3 1, 3) := by decide +kernel
theorem dX7_mayBe_75 : decode cX7_mayBe 75 = .ok (.goto (-37), 3) := by decide +kernel
theorem dX7_mayBe_78 : decode cX7_mayBe 78 = .ok (.iconst 1, 1) := by decide +kernel
theorem dX7_mayBe_79 : decode cX7_mayBe 79 = .ok (.ireturn, 1) := by decide +kernel
theorem dX7_judge_0 : decode cX7_judge 0 = .ok (.aload_n 0, 1) := by decide +kernel
theorem dX7_judge_1 : decode cX7_judge 1 = .ok (.iconst 0, 1) := by decide +kernel
theorem dX7_judge_2 : decode cX7_judge 2 = .ok (.putfield 115, 3) := by decide +kernel
theorem dX7_judge_5 : decode cX7_judge 5 = .ok (.iload_n 1, 1) := by decide +kernel
theorem dX7_judge_6 : decode cX7_judge 6 = .ok (.invokestatic 134, 3) := by decide +kernel
theorem dX7_judge_9 : decode cX7_judge 9 = .ok (.ifCond .ne 5, 3) := by decide +kernel
theorem dX7_judge_12 : decode cX7_judge 12 = .ok (.iconst (-1), 1) := by decide +kernel
theorem dX7_judge_13 : decode cX7_judge 13 = .ok (.ireturn, 1) := by decide +kernel
theorem dX7_judge_14 : decode cX7_judge 14 = .ok (.iload_n 2, 1) := by decide +kernel
theorem dX7_judge_15 : decode cX7_judge 15 = .ok (.invokestatic 138, 3) := by decide +kernel
theorem dX7_judge_18 : decode cX7_judge 18 = .ok (.ifCond .ne 6, 3) := by decide +kernel
theorem dX7_judge_21 : decode cX7_judge 21 = .ok (.bipush (-2), 2) := by decide +kernel
theorem dX7_judge_23 : decode cX7_judge 23 = .ok (.ireturn, 1) := by decide +kernel
theorem dX7_judge_24 : decode cX7_judge 24 = .ok (.aload_n 0, 1) := by decide +kernel
theorem dX7_judge_25 : decode cX7_judge 25 = .ok (.iload_n 1, 1) := by decide +kernel
theorem dX7_judge_26 : decode cX7_judge 26 = .ok (.iload_n 2, 1) := by decide +kernel
theorem dX7_judge_27 : decode cX7_judge 27 = .ok (.iload_n 3, 1) := by decide +kernel
theorem dX7_judge_28 : decode cX7_judge 28 = .ok (.iload 4, 2) := by decide +kernel
theorem dX7_judge_30 : decode cX7_judge 30 = .ok (.invokevirtual 141, 3) := by decide +kernel
theorem dX7_judge_33 : decode cX7_judge 33 = .ok (.istore 5, 2) := by decide +kernel
theorem dX7_judge_35 : decode cX7_judge 35 = .ok (.iload 5, 2) := by decide +kernel
theorem dX7_judge_37 : decode cX7_judge 37 = .ok (.ifCond .eq 10, 3) := by decide +kernel
theorem dX7_judge_40 : decode cX7_judge 40 = .ok (.aload_n 0, 1) := by decide +kernel
theorem dX7_judge_41 : decode cX7_judge 41 = .ok (.iload 5, 2) := by decide +kernel
theorem dX7_judge_43 : decode cX7_judge 43 = .ok (.invokevirtual 145, 3) := by decide +kernel
theorem dX7_judge_46 : decode cX7_judge 46 = .ok (.ireturn, 1) := by decide +kernel
theorem dX7_judge_47 : decode cX7_judge 47 = .ok (.aload_n 0, 1) := by decide +kernel
theorem dX7_judge_48 : decode cX7_judge 48 = .ok (.invokevirtual 190, 3) := by decide +kernel
theorem dX7_judge_51 : decode cX7_judge 51 = .ok (.ifCond .ne 6, 3) := by decide +kernel
theorem dX7_judge_54 : decode cX7_judge 54 = .ok (.bipush (-3), 2) := by decide +kernel
theorem dX7_judge_56 : decode cX7_judge 56 = .ok (.ireturn, 1) := by decide +kernel
theorem dX7_judge_57 : decode cX7_judge 57 = .ok (.iload 4, 2) := by decide +kernel
theorem dX7_judge_59 : decode cX7_judge 59 = .ok (.aload_n 0, 1) := by decide +kernel
theorem dX7_judge_60 : decode cX7_judge 60 = .ok (.getfield 164, 3) := by decide +kernel
theorem dX7_judge_63 : decode cX7_judge 63 = .ok (.aload_n 0, 1) := by decide +kernel
theorem dX7_judge_64 : decode cX7_judge 64 = .ok (.getfield 125, 3) := by decide +kernel
theorem dX7_judge_67 : decode cX7_judge 67 = .ok (.imul, 1) := by decide +kernel
theorem dX7_judge_68 : decode cX7_judge 68 = .ok (.if_icmp .le 6, 3) := by decide +kernel
theorem dX7_judge_71 : decode cX7_judge 71 = .ok (.bipush (-2), 2) := by decide +kernel
theorem dX7_judge_73 : decode cX7_judge 73 = .ok (.ireturn, 1) := by decide +kernel
theorem dX7_judge_74 : decode cX7_judge 74 = .ok (.bipush 100, 2) := by decide +kernel
theorem dX7_judge_76 : decode cX7_judge 76 = .ok (.iload_n 1, 1) := by decide +kernel
theorem dX7_judge_77 : decode cX7_judge 77 = .ok (.imul, 1) := by decide +kernel
theorem dX7_judge_78 : decode cX7_judge 78 = .ok (.iload_n 3, 1) := by decide +kernel
theorem dX7_judge_79 : decode cX7_judge 79 = .ok (.iadd, 1) := by decide +kernel
theorem dX7_judge_80 : decode cX7_judge 80 = .ok (.istore 6, 2) := by decide +kernel
theorem dX7_judge_82 : decode cX7_judge 82 = .ok (.iconst 0, 1) := by decide +kernel
theorem dX7_judge_83 : decode cX7_judge 83 = .ok (.istore 7, 2) := by decide +kernel
theorem dX7_judge_85 : decode cX7_judge 85 = .ok (.iload 7, 2) := by decide +kernel
theorem dX7_judge_87 : decode cX7_judge 87 = .ok (.iload 4, 2) := by decide +kernel
theorem dX7_judge_89 : decode cX7_judge 89 = .ok (.if_icmp .ge 43, 3) := by decide +kernel
theorem dX7_judge_92 : decode cX7_judge 92 = .ok (.aload_n 0, 1) := by decide +kernel
theorem dX7_judge_93 : decode cX7_judge 93 = .ok (.getfield 16, 3) := by decide +kernel
theorem dX7_judge_96 : decode cX7_judge 96 = .ok (.iload 6, 2) := by decide +kernel
theorem dX7_judge_98 : decode cX7_judge 98 = .ok (.iload 7, 2) := by decide +kernel
theorem dX7_judge_100 : decode cX7_judge 100 = .ok (.iadd, 1) := by decide +kernel
theorem dX7_judge_101 : decode cX7_judge 101 = .ok (.iaload, 1) := by decide +kernel
theorem dX7_judge_102 : decode cX7_judge 102 = .ok (.bipush (-9), 2) := by decide +kernel
theorem dX7_judge_104 : decode cX7_judge 104 = .ok (.if_icmp .eq 22, 3) := by decide +kernel
theorem dX7_judge_107 : decode cX7_judge 107 = .ok (.aload_n 0, 1) := by decide +kernel
theorem dX7_judge_108 : decode cX7_judge 108 = .ok (.aload_n 0, 1) := by decide +kernel
theorem dX7_judge_109 : decode cX7_judge 109 = .ok (.getfield 16, 3) := by decide +kernel
theorem dX7_judge_112 : decode cX7_judge 112 = .ok (.iload 6, 2) := by decide +kernel
theorem dX7_judge_114 : decode cX7_judge 114 = .ok (.iload 7, 2) := by decide +kernel
theorem dX7_judge_116 : decode cX7_judge 116 = .ok (.iadd, 1) := by decide +kernel
theorem dX7_judge_117 : decode cX7_judge 117 = .ok (.iaload, 1) := by decide +kernel
theorem dX7_judge_118 : decode cX7_judge 118 = .ok (.invokevirtual 181, 3) := by decide +kernel
theorem dX7_judge_121 : decode cX7_judge 121 = .ok (.ifCond .ne 5, 3) := by decide +kernel
theorem dX7_judge_124 : decode cX7_judge 124 = .ok (.iconst (-1), 1) := by decide +kernel
theorem dX7_judge_125 : decode cX7_judge 125 = .ok (.ireturn, 1) := by decide +kernel
theorem dX7_judge_126 : decode cX7_judge 126 = .ok (.iinc 7 1, 3) := by decide +kernel
theorem dX7_judge_129 : decode cX7_judge 129 = .ok (.goto (-44), 3) := by decide +kernel
theorem dX7_judge_132 : decode cX7_judge 132 = .ok (.aload_n 0, 1) := by decide +kernel
theorem dX7_judge_133 : decode cX7_judge 133 = .ok (.invokevirtual 213, 3) := by decide +kernel
theorem dX7_judge_136 : decode cX7_judge 136 = .ok (.iconst 0, 1) := by decide +kernel
theorem dX7_judge_137 : decode cX7_judge 137 = .ok (.istore 7, 2) := by decide +kernel
theorem dX7_judge_139 : decode cX7_judge 139 = .ok (.iload 7, 2) := by decide +kernel
theorem dX7_judge_141 : decode cX7_judge 141 = .ok (.iload 4, 2) := by decide +kernel
theorem dX7_judge_143 : decode cX7_judge 143 = .ok (.if_icmp .ge 77, 3) := by decide +kernel
theorem dX7_judge_146 : decode cX7_judge 146 = .ok (.aload_n 0, 1) := by decide +kernel
theorem dX7_judge_147 : decode cX7_judge 147 = .ok (.getfield 40, 3) := by decide +kernel
theorem dX7_judge_150 : decode cX7_judge 150 = .ok (.iload 7, 2) := by decide +kernel
theorem dX7_judge_152 : decode cX7_judge 152 = .ok (.aload_n 0, 1) := by decide +kernel
theorem dX7_judge_153 : decode cX7_judge 153 = .ok (.getfield 125, 3) := by decide +kernel
theorem dX7_judge_156 : decode cX7_judge 156 = .ok (.irem, 1) := by decide +kernel
theorem dX7_judge_157 : decode cX7_judge 157 = .ok (.aload_n 0, 1) := by decide +kernel
theorem dX7_judge_158 : decode cX7_judge 158 = .ok (.getfield 161, 3) := by decide +kernel
theorem dX7_judge_161 : decode cX7_judge 161 = .ok (.iadd, 1) := by decide +kernel
theorem dX7_judge_162 : decode cX7_judge 162 = .ok (.aload_n 0, 1) := by decide +kernel
theorem dX7_judge_163 : decode cX7_judge 163 = .ok (.getfield 125, 3) := by decide +kernel
theorem dX7_judge_166 : decode cX7_judge 166 = .ok (.irem, 1) := by decide +kernel
theorem dX7_judge_167 : decode cX7_judge 167 = .ok (.iaload, 1) := by decide +kernel
theorem dX7_judge_168 : decode cX7_judge 168 = .ok (.istore 8, 2) := by decide +kernel
end
section
theorem dX7_judge_170 : decode cX7_judge 170 = .ok (.aload_n 0, 1) := by decide +kernel
theorem dX7_judge_171 : decode cX7_judge 171 = .ok (.getfield 16, 3) := by decide +kernel
theorem dX7_judge_174 : decode cX7_judge 174 = .ok (.iload 6, 2) := by decide +kernel
theorem dX7_judge_176 : decode cX7_judge 176 = .ok (.iload 7, 2) := by decide +kernel
theorem dX7_judge_178 : decode cX7_judge 178 = .ok (.iadd, 1) := by decide +kernel
theorem dX7_judge_179 : decode cX7_judge 179 = .ok (.iaload, 1) := by decide +kernel
theorem dX7_judge_180 : decode cX7_judge 180 = .ok (.istore 9, 2) := by decide +kernel
theorem dX7_judge_182 : decode cX7_judge 182 = .ok (.aload_n 0, 1) := by decide +kernel
theorem dX7_judge_183 : decode cX7_judge 183 = .ok (.iload 8, 2) := by decide +kernel
theorem dX7_judge_185 : decode cX7_judge 185 = .ok (.iload 9, 2) := by decide +kernel
theorem dX7_judge_187 : decode cX7_judge 187 = .ok (.invokevirtual 238, 3) := by decide +kernel
theorem dX7_judge_190 : decode cX7_judge 190 = .ok (.ifCond .ne 6, 3) := by decide +kernel
theorem dX7_judge_193 : decode cX7_judge 193 = .ok (.iload 7, 2) := by decide +kernel
theorem dX7_judge_195 : decode cX7_judge 195 = .ok (.ireturn, 1) := by decide +kernel
theorem dX7_judge_196 : decode cX7_judge 196 = .ok (.iload 9, 2) := by decide +kernel
theorem dX7_judge_198 : decode cX7_judge 198 = .ok (.bipush (-9), 2) := by decide +kernel
theorem dX7_judge_200 : decode cX7_judge 200 = .ok (.if_icmp .eq 14, 3) := by decide +kernel
theorem dX7_judge_203 : decode cX7_judge 203 = .ok (.aload_n 0, 1) := by decide +kernel
theorem dX7_judge_204 : decode cX7_judge 204 = .ok (.getfield 82, 3) := by decide +kernel
theorem dX7_judge_207 : decode cX7_judge 207 = .ok (.iload 9, 2) := by decide +kernel
theorem dX7_judge_209 : decode cX7_judge 209 = .ok (.dup2, 1) := by decide +kernel
theorem dX7_judge_210 : decode cX7_judge 210 = .ok (.iaload, 1) := by decide +kernel
theorem dX7_judge_211 : decode cX7_judge 211 = .ok (.iconst 1, 1) := by decide +kernel
theorem dX7_judge_212 : decode cX7_judge 212 = .ok (.isub, 1) := by decide +kernel
theorem dX7_judge_213 : decode cX7_judge 213 = .ok (.iastore, 1) := by decide +kernel
theorem dX7_judge_214 : decode cX7_judge 214 = .ok (.iinc 7 1, 3) := by decide +kernel
theorem dX7_judge_217 : decode cX7_judge 217 = .ok (.goto (-78), 3) := by decide +kernel
theorem dX7_judge_220 : decode cX7_judge 220 = .ok (.bipush (-9), 2) := by decide +kernel
theorem dX7_judge_222 : decode cX7_judge 222 = .ok (.ireturn, 1) := by decide +kernel
theorem dX7_layWeights_0 : decode cX7_layWeights 0 = .ok (.iconst 0, 1) := by decide +kernel
theorem dX7_layWeights_1 : decode cX7_layWeights 1 = .ok (.istore_n 1, 1) := by decide +kernel
theorem dX7_layWeights_2 : decode cX7_layWeights 2 = .ok (.iload_n 1, 1) := by decide +kernel
theorem dX7_layWeights_3 : decode cX7_layWeights 3 = .ok (.aload_n 0, 1) := by decide +kernel
theorem dX7_layWeights_4 : decode cX7_layWeights 4 = .ok (.getfield 125, 3) := by decide +kernel
theorem dX7_layWeights_7 : decode cX7_layWeights 7 = .ok (.if_icmp .ge 44, 3) := by decide +kernel
theorem dX7_layWeights_10 : decode cX7_layWeights 10 = .ok (.aload_n 0, 1) := by decide +kernel
theorem dX7_layWeights_11 : decode cX7_layWeights 11 = .ok (.getfield 85, 3) := by decide +kernel
theorem dX7_layWeights_14 : decode cX7_layWeights 14 = .ok (.aload_n 0, 1) := by decide +kernel
theorem dX7_layWeights_15 : decode cX7_layWeights 15 = .ok (.getfield 40, 3) := by decide +kernel
theorem dX7_layWeights_18 : decode cX7_layWeights 18 = .ok (.iload_n 1, 1) := by decide +kernel
theorem dX7_layWeights_19 : decode cX7_layWeights 19 = .ok (.aload_n 0, 1) := by decide +kernel
theorem dX7_layWeights_20 : decode cX7_layWeights 20 = .ok (.getfield 161, 3) := by decide +kernel
theorem dX7_layWeights_23 : decode cX7_layWeights 23 = .ok (.iadd, 1) := by decide +kernel
theorem dX7_layWeights_24 : decode cX7_layWeights 24 = .ok (.aload_n 0, 1) := by decide +kernel
theorem dX7_layWeights_25 : decode cX7_layWeights 25 = .ok (.getfield 125, 3) := by decide +kernel
theorem dX7_layWeights_28 : decode cX7_layWeights 28 = .ok (.irem, 1) := by decide +kernel
theorem dX7_layWeights_29 : decode cX7_layWeights 29 = .ok (.iaload, 1) := by decide +kernel
theorem dX7_layWeights_30 : decode cX7_layWeights 30 = .ok (.bipush 10, 2) := by decide +kernel
theorem dX7_layWeights_32 : decode cX7_layWeights 32 = .ok (.aload_n 0, 1) := by decide +kernel
theorem dX7_layWeights_33 : decode cX7_layWeights 33 = .ok (.getfield 28, 3) := by decide +kernel
theorem dX7_layWeights_36 : decode cX7_layWeights 36 = .ok (.aload_n 0, 1) := by decide +kernel
theorem dX7_layWeights_37 : decode cX7_layWeights 37 = .ok (.getfield 40, 3) := by decide +kernel
theorem dX7_layWeights_40 : decode cX7_layWeights 40 = .ok (.iload_n 1, 1) := by decide +kernel
theorem dX7_layWeights_41 : decode cX7_layWeights 41 = .ok (.iaload, 1) := by decide +kernel
theorem dX7_layWeights_42 : decode cX7_layWeights 42 = .ok (.iaload, 1) := by decide +kernel
theorem dX7_layWeights_43 : decode cX7_layWeights 43 = .ok (.iadd, 1) := by decide +kernel
theorem dX7_layWeights_44 : decode cX7_layWeights 44 = .ok (.iastore, 1) := by decide +kernel
theorem dX7_layWeights_45 : decode cX7_layWeights 45 = .ok (.iinc 1 1, 3) := by decide +kernel
theorem dX7_layWeights_48 : decode cX7_layWeights 48 = .ok (.goto (-46), 3) := by decide +kernel
theorem dX7_layWeights_51 : decode cX7_layWeights 51 = .ok (.aload_n 0, 1) := by decide +kernel
theorem dX7_layWeights_52 : decode cX7_layWeights 52 = .ok (.getfield 94, 3) := by decide +kernel
theorem dX7_layWeights_55 : decode cX7_layWeights 55 = .ok (.aload_n 0, 1) := by decide +kernel
theorem dX7_layWeights_56 : decode cX7_layWeights 56 = .ok (.getfield 125, 3) := by decide +kernel
theorem dX7_layWeights_59 : decode cX7_layWeights 59 = .ok (.iconst 0, 1) := by decide +kernel
theorem dX7_layWeights_60 : decode cX7_layWeights 60 = .ok (.iastore, 1) := by decide +kernel
theorem dX7_layWeights_61 : decode cX7_layWeights 61 = .ok (.aload_n 0, 1) := by decide +kernel
theorem dX7_layWeights_62 : decode cX7_layWeights 62 = .ok (.getfield 125, 3) := by decide +kernel
theorem dX7_layWeights_65 : decode cX7_layWeights 65 = .ok (.iconst 1, 1) := by decide +kernel
theorem dX7_layWeights_66 : decode cX7_layWeights 66 = .ok (.isub, 1) := by decide +kernel
theorem dX7_layWeights_67 : decode cX7_layWeights 67 = .ok (.istore_n 1, 1) := by decide +kernel
theorem dX7_layWeights_68 : decode cX7_layWeights 68 = .ok (.iload_n 1, 1) := by decide +kernel
theorem dX7_layWeights_69 : decode cX7_layWeights 69 = .ok (.ifCond .lt 76, 3) := by decide +kernel
theorem dX7_layWeights_72 : decode cX7_layWeights 72 = .ok (.iconst 0, 1) := by decide +kernel
theorem dX7_layWeights_73 : decode cX7_layWeights 73 = .ok (.istore_n 2, 1) := by decide +kernel
theorem dX7_layWeights_74 : decode cX7_layWeights 74 = .ok (.iconst 0, 1) := by decide +kernel
theorem dX7_layWeights_75 : decode cX7_layWeights 75 = .ok (.istore_n 3, 1) := by decide +kernel
theorem dX7_layWeights_76 : decode cX7_layWeights 76 = .ok (.iload_n 3, 1) := by decide +kernel
theorem dX7_layWeights_77 : decode cX7_layWeights 77 = .ok (.aload_n 0, 1) := by decide +kernel
theorem dX7_layWeights_78 : decode cX7_layWeights 78 = .ok (.getfield 128, 3) := by decide +kernel
theorem dX7_layWeights_81 : decode cX7_layWeights 81 = .ok (.if_icmp .ge 42, 3) := by decide +kernel
theorem dX7_layWeights_84 : decode cX7_layWeights 84 = .ok (.aload_n 0, 1) := by decide +kernel
theorem dX7_layWeights_85 : decode cX7_layWeights 85 = .ok (.getfield 34, 3) := by decide +kernel
theorem dX7_layWeights_88 : decode cX7_layWeights 88 = .ok (.bipush 6, 2) := by decide +kernel
theorem dX7_layWeights_90 : decode cX7_layWeights 90 = .ok (.iload_n 1, 1) := by decide +kernel
theorem dX7_layWeights_91 : decode cX7_layWeights 91 = .ok (.imul, 1) := by decide +kernel
theorem dX7_layWeights_92 : decode cX7_layWeights 92 = .ok (.iload_n 3, 1) := by decide +kernel
theorem dX7_layWeights_93 : decode cX7_layWeights 93 = .ok (.iadd, 1) := by decide +kernel
theorem dX7_layWeights_94 : decode cX7_layWeights 94 = .ok (.iaload, 1) := by decide +kernel
theorem dX7_layWeights_95 : decode cX7_layWeights 95 = .ok (.aload_n 0, 1) := by decide +kernel
theorem dX7_layWeights_96 : decode cX7_layWeights 96 = .ok (.getfield 85, 3) := by decide +kernel
theorem dX7_layWeights_99 : decode cX7_layWeights 99 = .ok (.iload_n 1, 1) := by decide +kernel
theorem dX7_layWeights_100 : decode cX7_layWeights 100 = .ok (.iaload, 1) := by decide +kernel
theorem dX7_layWeights_101 : decode cX7_layWeights 101 = .ok (.imul, 1) := by decide +kernel
theorem dX7_layWeights_102 : decode cX7_layWeights 102 = .ok (.istore 4, 2) := by decide +kernel
theorem dX7_layWeights_104 : decode cX7_layWeights 104 = .ok (.iload 4, 2) := by decide +kernel
theorem dX7_layWeights_106 : decode cX7_layWeights 106 = .ok (.iload_n 2, 1) := by decide +kernel
theorem dX7_layWeights_107 : decode cX7_layWeights 107 = .ok (.if_icmp .le 8, 3) := by decide +kernel
theorem dX7_layWeights_110 : decode cX7_layWeights 110 = .ok (.iload 4, 2) := by decide +kernel
theorem dX7_layWeights_112 : decode cX7_layWeights 112 = .ok (.goto 4, 3) := by decide +kernel
theorem dX7_layWeights_115 : decode cX7_layWeights 115 = .ok (.iload_n 2, 1) := by decide +kernel
theorem dX7_layWeights_116 : decode cX7_layWeights 116 = .ok (.istore_n 2, 1) := by decide +kernel
theorem dX7_layWeights_117 : decode cX7_layWeights 117 = .ok (.iinc 3 1, 3) := by decide +kernel
theorem dX7_layWeights_120 : decode cX7_layWeights 120 = .ok (.goto (-44), 3) := by decide +kernel
theorem dX7_layWeights_123 : decode cX7_layWeights 123 = .ok (.aload_n 0, 1) := by decide +kernel
theorem dX7_layWeights_124 : decode cX7_layWeights 124 = .ok (.getfield 94, 3) := by decide +kernel
theorem dX7_layWeights_127 : decode cX7_layWeights 127 = .ok (.iload_n 1, 1) := by decide +kernel
theorem dX7_layWeights_128 : decode cX7_layWeights 128 = .ok (.aload_n 0, 1) := by decide +kernel
theorem dX7_layWeights_129 : decode cX7_layWeights 129 = .ok (.getfield 94, 3) := by decide +kernel
theorem dX7_layWeights_132 : decode cX7_layWeights 132 = .ok (.iload_n 1, 1) := by decide +kernel
theorem dX7_layWeights_133 : decode cX7_layWeights 133 = .ok (.iconst 1, 1) := by decide +kernel
theorem dX7_layWeights_134 : decode cX7_layWeights 134 = .ok (.iadd, 1) := by decide +kernel
theorem dX7_layWeights_135 : decode cX7_layWeights 135 = .ok (.iaload, 1) := by decide +kernel
theorem dX7_layWeights_136 : decode cX7_layWeights 136 = .ok (.iload_n 2, 1) := by decide +kernel
theorem dX7_layWeights_137 : decode cX7_layWeights 137 = .ok (.iadd, 1) := by decide +kernel
theorem dX7_layWeights_138 : decode cX7_layWeights 138 = .ok (.iastore, 1) := by decide +kernel
theorem dX7_layWeights_139 : decode cX7_layWeights 139 = .ok (.iinc 1 (-1), 3) := by decide +kernel
theorem dX7_layWeights_142 : decode cX7_layWeights 142 = .ok (.goto (-74), 3) := by decide +kernel
theorem dX7_layWeights_145 : decode cX7_layWeights 145 = .ok (.return_, 1) := by decide +kernel
theorem dX7_mayHave_0 : decode cX7_mayHave 0 = .ok (.iload_n 2, 1) := by decide +kernel
theorem dX7_mayHave_1 : decode cX7_mayHave 1 = .ok (.aload_n 0, 1) := by decide +kernel
theorem dX7_mayHave_2 : decode cX7_mayHave 2 = .ok (.getfield 128, 3) := by decide +kernel
theorem dX7_mayHave_5 : decode cX7_mayHave 5 = .ok (.if_icmp .eq 27, 3) := by decide +kernel
theorem dX7_mayHave_8 : decode cX7_mayHave 8 = .ok (.aload_n 0, 1) := by decide +kernel
theorem dX7_mayHave_9 : decode cX7_mayHave 9 = .ok (.getfield 82, 3) := by decide +kernel
theorem dX7_mayHave_12 : decode cX7_mayHave 12 = .ok (.iload_n 2, 1) := by decide +kernel
theorem dX7_mayHave_13 : decode cX7_mayHave 13 = .ok (.iaload, 1) := by decide +kernel
theorem dX7_mayHave_14 : decode cX7_mayHave 14 = .ok (.ifCond .le 22, 3) := by decide +kernel
theorem dX7_mayHave_17 : decode cX7_mayHave 17 = .ok (.aload_n 0, 1) := by decide +kernel
theorem dX7_mayHave_18 : decode cX7_mayHave 18 = .ok (.getfield 34, 3) := by decide +kernel
theorem dX7_mayHave_21 : decode cX7_mayHave 21 = .ok (.bipush 6, 2) := by decide +kernel
theorem dX7_mayHave_23 : decode cX7_mayHave 23 = .ok (.iload_n 1, 1) := by decide +kernel
theorem dX7_mayHave_24 : decode cX7_mayHave 24 = .ok (.imul, 1) := by decide +kernel
theorem dX7_mayHave_25 : decode cX7_mayHave 25 = .ok (.iload_n 2, 1) := by decide +kernel
theorem dX7_mayHave_26 : decode cX7_mayHave 26 = .ok (.iadd, 1) := by decide +kernel
theorem dX7_mayHave_27 : decode cX7_mayHave 27 = .ok (.iaload, 1) := by decide +kernel
theorem dX7_mayHave_28 : decode cX7_mayHave 28 = .ok (.iconst (-1), 1) := by decide +kernel
theorem dX7_mayHave_29 : decode cX7_mayHave 29 = .ok (.if_icmp .eq 7, 3) := by decide +kernel
theorem dX7_mayHave_32 : decode cX7_mayHave 32 = .ok (.iconst 1, 1) := by decide +kernel
theorem dX7_mayHave_33 : decode cX7_mayHave 33 = .ok (.goto 4, 3) := by decide +kernel
theorem dX7_mayHave_36 : decode cX7_mayHave 36 = .ok (.iconst 0, 1) := by decide +kernel
theorem dX7_mayHave_37 : decode cX7_mayHave 37 = .ok (.ireturn, 1) := by decide +kernel
theorem dX7_valueOf_0 : decode cX7_valueOf 0 = .ok (.iload_n 2, 1) := by decide +kernel
theorem dX7_valueOf_1 : decode cX7_valueOf 1 = .ok (.aload_n 0, 1) := by decide +kernel
theorem dX7_valueOf_2 : decode cX7_valueOf 2 = .ok (.getfield 128, 3) := by decide +kernel
theorem dX7_valueOf_5 : decode cX7_valueOf 5 = .ok (.if_icmp .ne 7, 3) := by decide +kernel
theorem dX7_valueOf_8 : decode cX7_valueOf 8 = .ok (.iconst 0, 1) := by decide +kernel
theorem dX7_valueOf_9 : decode cX7_valueOf 9 = .ok (.goto 21, 3) := by decide +kernel
theorem dX7_valueOf_12 : decode cX7_valueOf 12 = .ok (.aload_n 0, 1) := by decide +kernel
theorem dX7_valueOf_13 : decode cX7_valueOf 13 = .ok (.getfield 34, 3) := by decide +kernel
theorem dX7_valueOf_16 : decode cX7_valueOf 16 = .ok (.bipush 6, 2) := by decide +kernel
theorem dX7_valueOf_18 : decode cX7_valueOf 18 = .ok (.iload_n 1, 1) := by decide +kernel
theorem dX7_valueOf_19 : decode cX7_valueOf 19 = .ok (.imul, 1) := by decide +kernel
theorem dX7_valueOf_20 : decode cX7_valueOf 20 = .ok (.iload_n 2, 1) := by decide +kernel
theorem dX7_valueOf_21 : decode cX7_valueOf 21 = .ok (.iadd, 1) := by decide +kernel
theorem dX7_valueOf_22 : decode cX7_valueOf 22 = .ok (.iaload, 1) := by decide +kernel
theorem dX7_valueOf_23 : decode cX7_valueOf 23 = .ok (.aload_n 0, 1) := by decide +kernel
theorem dX7_valueOf_24 : decode cX7_valueOf 24 = .ok (.getfield 85, 3) := by decide +kernel
theorem dX7_valueOf_27 : decode cX7_valueOf 27 = .ok (.iload_n 1, 1) := by decide +kernel
theorem dX7_valueOf_28 : decode cX7_valueOf 28 = .ok (.iaload, 1) := by decide +kernel
theorem dX7_valueOf_29 : decode cX7_valueOf 29 = .ok (.imul, 1) := by decide +kernel
theorem dX7_valueOf_30 : decode cX7_valueOf 30 = .ok (.ireturn, 1) := by decide +kernel
theorem dX7_takes_0 : decode cX7_takes 0 = .ok (.iload_n 1, 1) := by decide +kernel
theorem dX7_takes_1 : decode cX7_takes 1 = .ok (.ifCond .lt 21, 3) := by decide +kernel
theorem dX7_takes_4 : decode cX7_takes 4 = .ok (.iload_n 1, 1) := by decide +kernel
theorem dX7_takes_5 : decode cX7_takes 5 = .ok (.aload_n 0, 1) := by decide +kernel
theorem dX7_takes_6 : decode cX7_takes 6 = .ok (.getfield 128, 3) := by decide +kernel
theorem dX7_takes_9 : decode cX7_takes 9 = .ok (.if_icmp .ge 13, 3) := by decide +kernel
theorem dX7_takes_12 : decode cX7_takes 12 = .ok (.aload_n 0, 1) := by decide +kernel
theorem dX7_takes_13 : decode cX7_takes 13 = .ok (.getfield 82, 3) := by decide +kernel
theorem dX7_takes_16 : decode cX7_takes 16 = .ok (.iload_n 1, 1) := by decide +kernel
theorem dX7_takes_17 : decode cX7_takes 17 = .ok (.dup2, 1) := by decide +kernel
theorem dX7_takes_18 : decode cX7_takes 18 = .ok (.iaload, 1) := by decide +kernel
theorem dX7_takes_19 : decode cX7_takes 19 = .ok (.iload_n 2, 1) := by decide +kernel
theorem dX7_takes_20 : decode cX7_takes 20 = .ok (.isub, 1) := by decide +kernel
theorem dX7_takes_21 : decode cX7_takes 21 = .ok (.iastore, 1) := by decide +kernel
theorem dX7_takes_22 : decode cX7_takes 22 = .ok (.return_, 1) := by decide +kernel
theorem dX7_findBest_0 : decode cX7_findBest 0 = .ok (.aload_n 0, 1) := by decide +kernel
theorem dX7_findBest_1 : decode cX7_findBest 1 = .ok (.invokevirtual 213, 3) := by decide +kernel
theorem dX7_findBest_4 : decode cX7_findBest 4 = .ok (.aload_n 0, 1) := by decide +kernel
theorem dX7_findBest_5 : decode cX7_findBest 5 = .ok (.invokevirtual 241, 3) := by decide +kernel
theorem dX7_findBest_8 : decode cX7_findBest 8 = .ok (.aload_n 0, 1) := by decide +kernel
theorem dX7_findBest_9 : decode cX7_findBest 9 = .ok (.iconst (-1), 1) := by decide +kernel
theorem dX7_findBest_10 : decode cX7_findBest 10 = .ok (.putfield 244, 3) := by decide +kernel
theorem dX7_findBest_13 : decode cX7_findBest 13 = .ok (.iconst 0, 1) := by decide +kernel
theorem dX7_findBest_14 : decode cX7_findBest 14 = .ok (.istore_n 1, 1) := by decide +kernel
theorem dX7_findBest_15 : decode cX7_findBest 15 = .ok (.iconst 0, 1) := by decide +kernel
theorem dX7_findBest_16 : decode cX7_findBest 16 = .ok (.istore_n 2, 1) := by decide +kernel
theorem dX7_findBest_17 : decode cX7_findBest 17 = .ok (.aload_n 0, 1) := by decide +kernel
theorem dX7_findBest_18 : decode cX7_findBest 18 = .ok (.getfield 88, 3) := by decide +kernel
theorem dX7_findBest_21 : decode cX7_findBest 21 = .ok (.iconst 0, 1) := by decide +kernel
theorem dX7_findBest_22 : decode cX7_findBest 22 = .ok (.iconst (-1), 1) := by decide +kernel
theorem dX7_findBest_23 : decode cX7_findBest 23 = .ok (.iastore, 1) := by decide +kernel
theorem dX7_findBest_24 : decode cX7_findBest 24 = .ok (.iload_n 1, 1) := by decide +kernel
theorem dX7_findBest_25 : decode cX7_findBest 25 = .ok (.ifCond .lt 179, 3) := by decide +kernel
theorem dX7_findBest_28 : decode cX7_findBest 28 = .ok (.aload_n 0, 1) := by decide +kernel
theorem dX7_findBest_29 : decode cX7_findBest 29 = .ok (.getfield 88, 3) := by decide +kernel
theorem dX7_findBest_32 : decode cX7_findBest 32 = .ok (.iload_n 1, 1) := by decide +kernel
theorem dX7_findBest_33 : decode cX7_findBest 33 = .ok (.iaload, 1) := by decide +kernel
theorem dX7_findBest_34 : decode cX7_findBest 34 = .ok (.ifCond .lt 28, 3) := by decide +kernel
theorem dX7_findBest_37 : decode cX7_findBest 37 = .ok (.aload_n 0, 1) := by decide +kernel
theorem dX7_findBest_38 : decode cX7_findBest 38 = .ok (.aload_n 0, 1) := by decide +kernel
theorem dX7_findBest_39 : decode cX7_findBest 39 = .ok (.getfield 88, 3) := by decide +kernel
theorem dX7_findBest_42 : decode cX7_findBest 42 = .ok (.iload_n 1, 1) := by decide +kernel
theorem dX7_findBest_43 : decode cX7_findBest 43 = .ok (.iaload, 1) := by decide +kernel
theorem dX7_findBest_44 : decode cX7_findBest 44 = .ok (.iconst (-1), 1) := by decide +kernel
theorem dX7_findBest_45 : decode cX7_findBest 45 = .ok (.invokevirtual 247, 3) := by decide +kernel
theorem dX7_findBest_48 : decode cX7_findBest 48 = .ok (.iload_n 2, 1) := by decide +kernel
theorem dX7_findBest_49 : decode cX7_findBest 49 = .ok (.aload_n 0, 1) := by decide +kernel
theorem dX7_findBest_50 : decode cX7_findBest 50 = .ok (.iload_n 1, 1) := by decide +kernel
theorem dX7_findBest_51 : decode cX7_findBest 51 = .ok (.aload_n 0, 1) := by decide +kernel
theorem dX7_findBest_52 : decode cX7_findBest 52 = .ok (.getfield 88, 3) := by decide +kernel
theorem dX7_findBest_55 : decode cX7_findBest 55 = .ok (.iload_n 1, 1) := by decide +kernel
theorem dX7_findBest_56 : decode cX7_findBest 56 = .ok (.iaload, 1) := by decide +kernel
theorem dX7_findBest_57 : decode cX7_findBest 57 = .ok (.invokevirtual 251, 3) := by decide +kernel
theorem dX7_findBest_60 : decode cX7_findBest 60 = .ok (.isub, 1) := by decide +kernel
theorem dX7_findBest_61 : decode cX7_findBest 61 = .ok (.istore_n 2, 1) := by decide +kernel
theorem dX7_findBest_62 : decode cX7_findBest 62 = .ok (.aload_n 0, 1) := by decide +kernel
theorem dX7_findBest_63 : decode cX7_findBest 63 = .ok (.getfield 88, 3) := by decide +kernel
theorem dX7_findBest_66 : decode cX7_findBest 66 = .ok (.iload_n 1, 1) := by decide +kernel
theorem dX7_findBest_67 : decode cX7_findBest 67 = .ok (.dup2, 1) := by decide +kernel
theorem dX7_findBest_68 : decode cX7_findBest 68 = .ok (.iaload, 1) := by decide +kernel
theorem dX7_findBest_69 : decode cX7_findBest 69 = .ok (.iconst 1, 1) := by decide +kernel
theorem dX7_findBest_70 : decode cX7_findBest 70 = .ok (.iadd, 1) := by decide +kernel
theorem dX7_findBest_71 : decode cX7_findBest 71 = .ok (.iastore, 1) := by decide +kernel
theorem dX7_findBest_72 : decode cX7_findBest 72 = .ok (.aload_n 0, 1) := by decide +kernel
theorem dX7_findBest_73 : decode cX7_findBest 73 = .ok (.getfield 88, 3) := by decide +kernel
theorem dX7_findBest_76 : decode cX7_findBest 76 = .ok (.iload_n 1, 1) := by decide +kernel
theorem dX7_findBest_77 : decode cX7_findBest 77 = .ok (.iaload, 1) := by decide +kernel
theorem dX7_findBest_78 : decode cX7_findBest 78 = .ok (.aload_n 0, 1) := by decide +kernel
theorem dX7_findBest_79 : decode cX7_findBest 79 = .ok (.getfield 128, 3) := by decide +kernel
theorem dX7_findBest_82 : decode cX7_findBest 82 = .ok (.if_icmp .gt 30, 3) := by decide +kernel
theorem dX7_findBest_85 : decode cX7_findBest 85 = .ok (.aload_n 0, 1) := by decide +kernel
theorem dX7_findBest_86 : decode cX7_findBest 86 = .ok (.iload_n 1, 1) := by decide +kernel
theorem dX7_findBest_87 : decode cX7_findBest 87 = .ok (.aload_n 0, 1) := by decide +kernel
theorem dX7_findBest_88 : decode cX7_findBest 88 = .ok (.getfield 88, 3) := by decide +kernel
theorem dX7_findBest_91 : decode cX7_findBest 91 = .ok (.iload_n 1, 1) := by decide +kernel
theorem dX7_findBest_92 : decode cX7_findBest 92 = .ok (.iaload, 1) := by decide +kernel
theorem dX7_findBest_93 : decode cX7_findBest 93 = .ok (.invokevirtual 254, 3) := by decide +kernel
theorem dX7_findBest_96 : decode cX7_findBest 96 = .ok (.ifCond .ne 16, 3) := by decide +kernel
theorem dX7_findBest_99 : decode cX7_findBest 99 = .ok (.aload_n 0, 1) := by decide +kernel
theorem dX7_findBest_100 : decode cX7_findBest 100 = .ok (.getfield 88, 3) := by decide +kernel
theorem dX7_findBest_103 : decode cX7_findBest 103 = .ok (.iload_n 1, 1) := by decide +kernel
theorem dX7_findBest_104 : decode cX7_findBest 104 = .ok (.dup2, 1) := by decide +kernel
theorem dX7_findBest_105 : decode cX7_findBest 105 = .ok (.iaload, 1) := by decide +kernel
theorem dX7_findBest_106 : decode cX7_findBest 106 = .ok (.iconst 1, 1) := by decide +kernel
theorem dX7_findBest_107 : decode cX7_findBest 107 = .ok (.iadd, 1) := by decide +kernel
theorem dX7_findBest_108 : decode cX7_findBest 108 = .ok (.iastore, 1) := by decide +kernel
theorem dX7_findBest_109 : decode cX7_findBest 109 = .ok (.goto (-37), 3) := by decide +kernel
theorem dX7_findBest_112 : decode cX7_findBest 112 = .ok (.aload_n 0, 1) := by decide +kernel
theorem dX7_findBest_113 : decode cX7_findBest 113 = .ok (.getfield 88, 3) := by decide +kernel
theorem dX7_findBest_116 : decode cX7_findBest 116 = .ok (.iload_n 1, 1) := by decide +kernel
theorem dX7_findBest_117 : decode cX7_findBest 117 = .ok (.iaload, 1) := by decide +kernel
theorem dX7_findBest_118 : decode cX7_findBest 118 = .ok (.aload_n 0, 1) := by decide +kernel
theorem dX7_findBest_119 : decode cX7_findBest 119 = .ok (.getfield 128, 3) := by decide +kernel
theorem dX7_findBest_122 : decode cX7_findBest 122 = .ok (.if_icmp .le 9, 3) := by decide +kernel
theorem dX7_findBest_125 : decode cX7_findBest 125 = .ok (.iinc 1 (-1), 3) := by decide +kernel
theorem dX7_findBest_128 : decode cX7_findBest 128 = .ok (.goto (-104), 3) := by decide +kernel
theorem dX7_findBest_131 : decode cX7_findBest 131 = .ok (.aload_n 0, 1) := by decide +kernel
theorem dX7_findBest_132 : decode cX7_findBest 132 = .ok (.aload_n 0, 1) := by decide +kernel
theorem dX7_findBest_133 : decode cX7_findBest 133 = .ok (.getfield 88, 3) := by decide +kernel
theorem dX7_findBest_136 : decode cX7_findBest 136 = .ok (.iload_n 1, 1) := by decide +kernel
theorem dX7_findBest_137 : decode cX7_findBest 137 = .ok (.iaload, 1) := by decide +kernel
theorem dX7_findBest_138 : decode cX7_findBest 138 = .ok (.iconst 1, 1) := by decide +kernel
theorem dX7_findBest_139 : decode cX7_findBest 139 = .ok (.invokevirtual 247, 3) := by decide +kernel
theorem dX7_findBest_142 : decode cX7_findBest 142 = .ok (.iload_n 2, 1) := by decide +kernel
theorem dX7_findBest_143 : decode cX7_findBest 143 = .ok (.aload_n 0, 1) := by decide +kernel
theorem dX7_findBest_144 : decode cX7_findBest 144 = .ok (.iload_n 1, 1) := by decide +kernel
theorem dX7_findBest_145 : decode cX7_findBest 145 = .ok (.aload_n 0, 1) := by decide +kernel
theorem dX7_findBest_146 : decode cX7_findBest 146 = .ok (.getfield 88, 3) := by decide +kernel
theorem dX7_findBest_149 : decode cX7_findBest 149 = .ok (.iload_n 1, 1) := by decide +kernel
theorem dX7_findBest_150 : decode cX7_findBest 150 = .ok (.iaload, 1) := by decide +kernel
theorem dX7_findBest_151 : decode cX7_findBest 151 = .ok (.invokevirtual 251, 3) := by decide +kernel
theorem dX7_findBest_154 : decode cX7_findBest 154 = .ok (.iadd, 1) := by decide +kernel
theorem dX7_findBest_155 : decode cX7_findBest 155 = .ok (.istore_n 2, 1) := by decide +kernel
theorem dX7_findBest_156 : decode cX7_findBest 156 = .ok (.iload_n 1, 1) := by decide +kernel
theorem dX7_findBest_157 : decode cX7_findBest 157 = .ok (.aload_n 0, 1) := by decide +kernel
theorem dX7_findBest_158 : decode cX7_findBest 158 = .ok (.getfield 125, 3) := by decide +kernel
theorem dX7_findBest_161 : decode cX7_findBest 161 = .ok (.iconst 1, 1) := by decide +kernel
theorem dX7_findBest_162 : decode cX7_findBest 162 = .ok (.isub, 1) := by decide +kernel
theorem dX7_findBest_163 : decode cX7_findBest 163 = .ok (.if_icmp .ne 11, 3) := by decide +kernel
theorem dX7_findBest_166 : decode cX7_findBest 166 = .ok (.aload_n 0, 1) := by decide +kernel
theorem dX7_findBest_167 : decode cX7_findBest 167 = .ok (.iload_n 2, 1) := by decide +kernel
theorem dX7_findBest_168 : decode cX7_findBest 168 = .ok (.invokevirtual 257, 3) := by decide +kernel
theorem dX7_findBest_171 : decode cX7_findBest 171 = .ok (.goto (-147), 3) := by decide +kernel
theorem dX7_findBest_174 : decode cX7_findBest 174 = .ok (.iload_n 2, 1) := by decide +kernel
theorem dX7_findBest_175 : decode cX7_findBest 175 = .ok (.aload_n 0, 1) := by decide +kernel
theorem dX7_findBest_176 : decode cX7_findBest 176 = .ok (.getfield 94, 3) := by decide +kernel
theorem dX7_findBest_179 : decode cX7_findBest 179 = .ok (.iload_n 1, 1) := by decide +kernel
theorem dX7_findBest_180 : decode cX7_findBest 180 = .ok (.iconst 1, 1) := by decide +kernel
theorem dX7_findBest_181 : decode cX7_findBest 181 = .ok (.iadd, 1) := by decide +kernel
theorem dX7_findBest_182 : decode cX7_findBest 182 = .ok (.iaload, 1) := by decide +kernel
theorem dX7_findBest_183 : decode cX7_findBest 183 = .ok (.iadd, 1) := by decide +kernel
theorem dX7_findBest_184 : decode cX7_findBest 184 = .ok (.aload_n 0, 1) := by decide +kernel
theorem dX7_findBest_185 : decode cX7_findBest 185 = .ok (.getfield 244, 3) := by decide +kernel
theorem dX7_findBest_188 : decode cX7_findBest 188 = .ok (.if_icmp .le (-164), 3) := by decide +kernel
theorem dX7_findBest_191 : decode cX7_findBest 191 = .ok (.iinc 1 1, 3) := by decide +kernel
theorem dX7_findBest_194 : decode cX7_findBest 194 = .ok (.aload_n 0, 1) := by decide +kernel
theorem dX7_findBest_195 : decode cX7_findBest 195 = .ok (.getfield 88, 3) := by decide +kernel
theorem dX7_findBest_198 : decode cX7_findBest 198 = .ok (.iload_n 1, 1) := by decide +kernel
theorem dX7_findBest_199 : decode cX7_findBest 199 = .ok (.iconst (-1), 1) := by decide +kernel
theorem dX7_findBest_200 : decode cX7_findBest 200 = .ok (.iastore, 1) := by decide +kernel
theorem dX7_findBest_201 : decode cX7_findBest 201 = .ok (.goto (-177), 3) := by decide +kernel
theorem dX7_findBest_204 : decode cX7_findBest 204 = .ok (.return_, 1) := by decide +kernel
theorem dX7_keepBest_0 : decode cX7_keepBest 0 = .ok (.iload_n 1, 1) := by decide +kernel
theorem dX7_keepBest_1 : decode cX7_keepBest 1 = .ok (.aload_n 0, 1) := by decide +kernel
theorem dX7_keepBest_2 : decode cX7_keepBest 2 = .ok (.getfield 244, 3) := by decide +kernel
theorem dX7_keepBest_5 : decode cX7_keepBest 5 = .ok (.if_icmp .gt 4, 3) := by decide +kernel
theorem dX7_keepBest_8 : decode cX7_keepBest 8 = .ok (.return_, 1) := by decide +kernel
theorem dX7_keepBest_9 : decode cX7_keepBest 9 = .ok (.aload_n 0, 1) := by decide +kernel
theorem dX7_keepBest_10 : decode cX7_keepBest 10 = .ok (.iload_n 1, 1) := by decide +kernel
theorem dX7_keepBest_11 : decode cX7_keepBest 11 = .ok (.putfield 244, 3) := by decide +kernel
theorem dX7_keepBest_14 : decode cX7_keepBest 14 = .ok (.iconst 0, 1) := by decide +kernel
theorem dX7_keepBest_15 : decode cX7_keepBest 15 = .ok (.istore_n 2, 1) := by decide +kernel
theorem dX7_keepBest_16 : decode cX7_keepBest 16 = .ok (.iload_n 2, 1) := by decide +kernel
theorem dX7_keepBest_17 : decode cX7_keepBest 17 = .ok (.aload_n 0, 1) := by decide +kernel
theorem dX7_keepBest_18 : decode cX7_keepBest 18 = .ok (.getfield 125, 3) := by decide +kernel
theorem dX7_keepBest_21 : decode cX7_keepBest 21 = .ok (.if_icmp .ge 39, 3) := by decide +kernel
theorem dX7_keepBest_24 : decode cX7_keepBest 24 = .ok (.aload_n 0, 1) := by decide +kernel
theorem dX7_keepBest_25 : decode cX7_keepBest 25 = .ok (.getfield 91, 3) := by decide +kernel
theorem dX7_keepBest_28 : decode cX7_keepBest 28 = .ok (.iload_n 2, 1) := by decide +kernel
theorem dX7_keepBest_29 : decode cX7_keepBest 29 = .ok (.aload_n 0, 1) := by decide +kernel
theorem dX7_keepBest_30 : decode cX7_keepBest 30 = .ok (.getfield 88, 3) := by decide +kernel
theorem dX7_keepBest_33 : decode cX7_keepBest 33 = .ok (.iload_n 2, 1) := by decide +kernel
theorem dX7_keepBest_34 : decode cX7_keepBest 34 = .ok (.iaload, 1) := by decide +kernel
theorem dX7_keepBest_35 : decode cX7_keepBest 35 = .ok (.aload_n 0, 1) := by decide +kernel
theorem dX7_keepBest_36 : decode cX7_keepBest 36 = .ok (.getfield 128, 3) := by decide +kernel
theorem dX7_keepBest_39 : decode cX7_keepBest 39 = .ok (.if_icmp .ne 8, 3) := by decide +kernel
theorem dX7_keepBest_42 : decode cX7_keepBest 42 = .ok (.bipush (-9), 2) := by decide +kernel
theorem dX7_keepBest_44 : decode cX7_keepBest 44 = .ok (.goto 9, 3) := by decide +kernel
theorem dX7_keepBest_47 : decode cX7_keepBest 47 = .ok (.aload_n 0, 1) := by decide +kernel
theorem dX7_keepBest_48 : decode cX7_keepBest 48 = .ok (.getfield 88, 3) := by decide +kernel
theorem dX7_keepBest_51 : decode cX7_keepBest 51 = .ok (.iload_n 2, 1) := by decide +kernel
theorem dX7_keepBest_52 : decode cX7_keepBest 52 = .ok (.iaload, 1) := by decide +kernel
theorem dX7_keepBest_53 : decode cX7_keepBest 53 = .ok (.iastore, 1) := by decide +kernel
theorem dX7_keepBest_54 : decode cX7_keepBest 54 = .ok (.iinc 2 1, 3) := by decide +kernel
theorem dX7_keepBest_57 : decode cX7_keepBest 57 = .ok (.goto (-41), 3) := by decide +kernel
theorem dX7_keepBest_60 : decode cX7_keepBest 60 = .ok (.return_, 1) := by decide +kernel
theorem dX7_best_0 : decode cX7_best 0 = .ok (.iload_n 1, 1) := by decide +kernel
theorem dX7_best_1 : decode cX7_best 1 = .ok (.iconst (-1), 1) := by decide +kernel
theorem dX7_best_2 : decode cX7_best 2 = .ok (.aload_n 0, 1) := by decide +kernel
theorem dX7_best_3 : decode cX7_best 3 = .ok (.getfield 125, 3) := by decide +kernel
theorem dX7_best_6 : decode cX7_best 6 = .ok (.iconst 1, 1) := by decide +kernel
theorem dX7_best_7 : decode cX7_best 7 = .ok (.isub, 1) := by decide +kernel
theorem dX7_best_8 : decode cX7_best 8 = .ok (.invokestatic 121, 3) := by decide +kernel
theorem dX7_best_11 : decode cX7_best 11 = .ok (.ifCond .ne 5, 3) := by decide +kernel
theorem dX7_best_14 : decode cX7_best 14 = .ok (.iconst (-1), 1) := by decide +kernel
theorem dX7_best_15 : decode cX7_best 15 = .ok (.ireturn, 1) := by decide +kernel
theorem dX7_best_16 : decode cX7_best 16 = .ok (.aload_n 0, 1) := by decide +kernel
theorem dX7_best_17 : decode cX7_best 17 = .ok (.invokevirtual 190, 3) := by decide +kernel
theorem dX7_best_20 : decode cX7_best 20 = .ok (.ifCond .ne 6, 3) := by decide +kernel
theorem dX7_best_23 : decode cX7_best 23 = .ok (.bipush (-3), 2) := by decide +kernel
theorem dX7_best_25 : decode cX7_best 25 = .ok (.ireturn, 1) := by decide +kernel
theorem dX7_best_26 : decode cX7_best 26 = .ok (.aload_n 0, 1) := by decide +kernel
theorem dX7_best_27 : decode cX7_best 27 = .ok (.invokevirtual 260, 3) := by decide +kernel
theorem dX7_best_30 : decode cX7_best 30 = .ok (.iload_n 1, 1) := by decide +kernel
theorem dX7_best_31 : decode cX7_best 31 = .ok (.ifCond .ge 10, 3) := by decide +kernel
theorem dX7_best_34 : decode cX7_best 34 = .ok (.aload_n 0, 1) := by decide +kernel
theorem dX7_best_35 : decode cX7_best 35 = .ok (.getfield 244, 3) := by decide +kernel
theorem dX7_best_38 : decode cX7_best 38 = .ok (.goto 9, 3) := by decide +kernel
theorem dX7_best_41 : decode cX7_best 41 = .ok (.aload_n 0, 1) := by decide +kernel
theorem dX7_best_42 : decode cX7_best 42 = .ok (.getfield 91, 3) := by decide +kernel
theorem dX7_best_45 : decode cX7_best 45 = .ok (.iload_n 1, 1) := by decide +kernel
theorem dX7_best_46 : decode cX7_best 46 = .ok (.iaload, 1) := by decide +kernel
theorem dX7_best_47 : decode cX7_best 47 = .ok (.ireturn, 1) := by decide +kernel
theorem dX7_leastGlad_0 : decode cX7_leastGlad 0 = .ok (.aload_n 0, 1) := by decide +kernel
theorem dX7_leastGlad_1 : decode cX7_leastGlad 1 = .ok (.getfield 76, 3) := by decide +kernel
theorem dX7_leastGlad_4 : decode cX7_leastGlad 4 = .ok (.iconst 0, 1) := by decide +kernel
theorem dX7_leastGlad_5 : decode cX7_leastGlad 5 = .ok (.iaload, 1) := by decide +kernel
theorem dX7_leastGlad_6 : decode cX7_leastGlad 6 = .ok (.istore_n 1, 1) := by decide +kernel
theorem dX7_leastGlad_7 : decode cX7_leastGlad 7 = .ok (.iconst 1, 1) := by decide +kernel
theorem dX7_leastGlad_8 : decode cX7_leastGlad 8 = .ok (.istore_n 2, 1) := by decide +kernel
theorem dX7_leastGlad_9 : decode cX7_leastGlad 9 = .ok (.iload_n 2, 1) := by decide +kernel
theorem dX7_leastGlad_10 : decode cX7_leastGlad 10 = .ok (.aload_n 0, 1) := by decide +kernel
theorem dX7_leastGlad_11 : decode cX7_leastGlad 11 = .ok (.getfield 125, 3) := by decide +kernel
theorem dX7_leastGlad_14 : decode cX7_leastGlad 14 = .ok (.if_icmp .ge 30, 3) := by decide +kernel
theorem dX7_leastGlad_17 : decode cX7_leastGlad 17 = .ok (.aload_n 0, 1) := by decide +kernel
theorem dX7_leastGlad_18 : decode cX7_leastGlad 18 = .ok (.getfield 76, 3) := by decide +kernel
theorem dX7_leastGlad_21 : decode cX7_leastGlad 21 = .ok (.iload_n 2, 1) := by decide +kernel
theorem dX7_leastGlad_22 : decode cX7_leastGlad 22 = .ok (.iaload, 1) := by decide +kernel
theorem dX7_leastGlad_23 : decode cX7_leastGlad 23 = .ok (.iload_n 1, 1) := by decide +kernel
theorem dX7_leastGlad_24 : decode cX7_leastGlad 24 = .ok (.if_icmp .ge 12, 3) := by decide +kernel
theorem dX7_leastGlad_27 : decode cX7_leastGlad 27 = .ok (.aload_n 0, 1) := by decide +kernel
theorem dX7_leastGlad_28 : decode cX7_leastGlad 28 = .ok (.getfield 76, 3) := by decide +kernel
theorem dX7_leastGlad_31 : decode cX7_leastGlad 31 = .ok (.iload_n 2, 1) := by decide +kernel
theorem dX7_leastGlad_32 : decode cX7_leastGlad 32 = .ok (.iaload, 1) := by decide +kernel
theorem dX7_leastGlad_33 : decode cX7_leastGlad 33 = .ok (.goto 4, 3) := by decide +kernel
theorem dX7_leastGlad_36 : decode cX7_leastGlad 36 = .ok (.iload_n 1, 1) := by decide +kernel
theorem dX7_leastGlad_37 : decode cX7_leastGlad 37 = .ok (.istore_n 1, 1) := by decide +kernel
theorem dX7_leastGlad_38 : decode cX7_leastGlad 38 = .ok (.iinc 2 1, 3) := by decide +kernel
theorem dX7_leastGlad_41 : decode cX7_leastGlad 41 = .ok (.goto (-32), 3) := by decide +kernel
theorem dX7_leastGlad_44 : decode cX7_leastGlad 44 = .ok (.iload_n 1, 1) := by decide +kernel
theorem dX7_leastGlad_45 : decode cX7_leastGlad 45 = .ok (.ireturn, 1) := by decide +kernel
theorem dX7_isInPerm_0 : decode cX7_isInPerm 0 = .ok (.iconst 0, 1) := by decide +kernel
theorem dX7_isInPerm_1 : decode cX7_isInPerm 1 = .ok (.istore_n 3, 1) := by decide +kernel
theorem dX7_isInPerm_2 : decode cX7_isInPerm 2 = .ok (.iload_n 3, 1) := by decide +kernel
theorem dX7_isInPerm_3 : decode cX7_isInPerm 3 = .ok (.iload_n 2, 1) := by decide +kernel
theorem dX7_isInPerm_4 : decode cX7_isInPerm 4 = .ok (.if_icmp .ge 21, 3) := by decide +kernel
theorem dX7_isInPerm_7 : decode cX7_isInPerm 7 = .ok (.aload_n 0, 1) := by decide +kernel
theorem dX7_isInPerm_8 : decode cX7_isInPerm 8 = .ok (.getfield 97, 3) := by decide +kernel
theorem dX7_isInPerm_11 : decode cX7_isInPerm 11 = .ok (.iload_n 3, 1) := by decide +kernel
theorem dX7_isInPerm_12 : decode cX7_isInPerm 12 = .ok (.iaload, 1) := by decide +kernel
theorem dX7_isInPerm_13 : decode cX7_isInPerm 13 = .ok (.iload_n 1, 1) := by decide +kernel
theorem dX7_isInPerm_14 : decode cX7_isInPerm 14 = .ok (.if_icmp .ne 5, 3) := by decide +kernel
theorem dX7_isInPerm_17 : decode cX7_isInPerm 17 = .ok (.iconst 1, 1) := by decide +kernel
theorem dX7_isInPerm_18 : decode cX7_isInPerm 18 = .ok (.ireturn, 1) := by decide +kernel
theorem dX7_isInPerm_19 : decode cX7_isInPerm 19 = .ok (.iinc 3 1, 3) := by decide +kernel
theorem dX7_isInPerm_22 : decode cX7_isInPerm 22 = .ok (.goto (-20), 3) := by decide +kernel
theorem dX7_isInPerm_25 : decode cX7_isInPerm 25 = .ok (.iconst 0, 1) := by decide +kernel
theorem dX7_isInPerm_26 : decode cX7_isInPerm 26 = .ok (.ireturn, 1) := by decide +kernel
theorem dX7_findSeats_0 : decode cX7_findSeats 0 = .ok (.aload_n 0, 1) := by decide +kernel
theorem dX7_findSeats_1 : decode cX7_findSeats 1 = .ok (.iconst (-1), 1) := by decide +kernel
theorem dX7_findSeats_2 : decode cX7_findSeats 2 = .ok (.putfield 244, 3) := by decide +kernel
theorem dX7_findSeats_5 : decode cX7_findSeats 5 = .ok (.aload_n 0, 1) := by decide +kernel
theorem dX7_findSeats_6 : decode cX7_findSeats 6 = .ok (.getfield 97, 3) := by decide +kernel
theorem dX7_findSeats_9 : decode cX7_findSeats 9 = .ok (.iconst 0, 1) := by decide +kernel
theorem dX7_findSeats_10 : decode cX7_findSeats 10 = .ok (.iconst 0, 1) := by decide +kernel
theorem dX7_findSeats_11 : decode cX7_findSeats 11 = .ok (.iastore, 1) := by decide +kernel
theorem dX7_findSeats_12 : decode cX7_findSeats 12 = .ok (.iconst 1, 1) := by decide +kernel
theorem dX7_findSeats_13 : decode cX7_findSeats 13 = .ok (.istore_n 2, 1) := by decide +kernel
theorem dX7_findSeats_14 : decode cX7_findSeats 14 = .ok (.aload_n 0, 1) := by decide +kernel
theorem dX7_findSeats_15 : decode cX7_findSeats 15 = .ok (.getfield 97, 3) := by decide +kernel
theorem dX7_findSeats_18 : decode cX7_findSeats 18 = .ok (.iconst 1, 1) := by decide +kernel
theorem dX7_findSeats_19 : decode cX7_findSeats 19 = .ok (.iconst 0, 1) := by decide +kernel
theorem dX7_findSeats_20 : decode cX7_findSeats 20 = .ok (.iastore, 1) := by decide +kernel
theorem dX7_findSeats_21 : decode cX7_findSeats 21 = .ok (.iload_n 2, 1) := by decide +kernel
theorem dX7_findSeats_22 : decode cX7_findSeats 22 = .ok (.ifCond .le 103, 3) := by decide +kernel
theorem dX7_findSeats_25 : decode cX7_findSeats 25 = .ok (.aload_n 0, 1) := by decide +kernel
theorem dX7_findSeats_26 : decode cX7_findSeats 26 = .ok (.getfield 97, 3) := by decide +kernel
theorem dX7_findSeats_29 : decode cX7_findSeats 29 = .ok (.iload_n 2, 1) := by decide +kernel
theorem dX7_findSeats_30 : decode cX7_findSeats 30 = .ok (.dup2, 1) := by decide +kernel
theorem dX7_findSeats_31 : decode cX7_findSeats 31 = .ok (.iaload, 1) := by decide +kernel
theorem dX7_findSeats_32 : decode cX7_findSeats 32 = .ok (.iconst 1, 1) := by decide +kernel
theorem dX7_findSeats_33 : decode cX7_findSeats 33 = .ok (.iadd, 1) := by decide +kernel
theorem dX7_findSeats_34 : decode cX7_findSeats 34 = .ok (.iastore, 1) := by decide +kernel
theorem dX7_findSeats_35 : decode cX7_findSeats 35 = .ok (.aload_n 0, 1) := by decide +kernel
theorem dX7_findSeats_36 : decode cX7_findSeats 36 = .ok (.getfield 97, 3) := by decide +kernel
theorem dX7_findSeats_39 : decode cX7_findSeats 39 = .ok (.iload_n 2, 1) := by decide +kernel
theorem dX7_findSeats_40 : decode cX7_findSeats 40 = .ok (.iaload, 1) := by decide +kernel
theorem dX7_findSeats_41 : decode cX7_findSeats 41 = .ok (.aload_n 0, 1) := by decide +kernel
theorem dX7_findSeats_42 : decode cX7_findSeats 42 = .ok (.getfield 125, 3) := by decide +kernel
theorem dX7_findSeats_45 : decode cX7_findSeats 45 = .ok (.if_icmp .ge 30, 3) := by decide +kernel
theorem dX7_findSeats_48 : decode cX7_findSeats 48 = .ok (.aload_n 0, 1) := by decide +kernel
theorem dX7_findSeats_49 : decode cX7_findSeats 49 = .ok (.aload_n 0, 1) := by decide +kernel
theorem dX7_findSeats_50 : decode cX7_findSeats 50 = .ok (.getfield 97, 3) := by decide +kernel
theorem dX7_findSeats_53 : decode cX7_findSeats 53 = .ok (.iload_n 2, 1) := by decide +kernel
theorem dX7_findSeats_54 : decode cX7_findSeats 54 = .ok (.iaload, 1) := by decide +kernel
theorem dX7_findSeats_55 : decode cX7_findSeats 55 = .ok (.iload_n 2, 1) := by decide +kernel
theorem dX7_findSeats_56 : decode cX7_findSeats 56 = .ok (.invokevirtual 263, 3) := by decide +kernel
theorem dX7_findSeats_59 : decode cX7_findSeats 59 = .ok (.ifCond .eq 16, 3) := by decide +kernel
theorem dX7_findSeats_62 : decode cX7_findSeats 62 = .ok (.aload_n 0, 1) := by decide +kernel
theorem dX7_findSeats_63 : decode cX7_findSeats 63 = .ok (.getfield 97, 3) := by decide +kernel
theorem dX7_findSeats_66 : decode cX7_findSeats 66 = .ok (.iload_n 2, 1) := by decide +kernel
theorem dX7_findSeats_67 : decode cX7_findSeats 67 = .ok (.dup2, 1) := by decide +kernel
theorem dX7_findSeats_68 : decode cX7_findSeats 68 = .ok (.iaload, 1) := by decide +kernel
theorem dX7_findSeats_69 : decode cX7_findSeats 69 = .ok (.iconst 1, 1) := by decide +kernel
theorem dX7_findSeats_70 : decode cX7_findSeats 70 = .ok (.iadd, 1) := by decide +kernel
theorem dX7_findSeats_71 : decode cX7_findSeats 71 = .ok (.iastore, 1) := by decide +kernel
theorem dX7_findSeats_72 : decode cX7_findSeats 72 = .ok (.goto (-37), 3) := by decide +kernel
theorem dX7_findSeats_75 : decode cX7_findSeats 75 = .ok (.aload_n 0, 1) := by decide +kernel
theorem dX7_findSeats_76 : decode cX7_findSeats 76 = .ok (.getfield 97, 3) := by decide +kernel
theorem dX7_findSeats_79 : decode cX7_findSeats 79 = .ok (.iload_n 2, 1) := by decide +kernel
theorem dX7_findSeats_80 : decode cX7_findSeats 80 = .ok (.iaload, 1) := by decide +kernel
theorem dX7_findSeats_81 : decode cX7_findSeats 81 = .ok (.aload_n 0, 1) := by decide +kernel
theorem dX7_findSeats_82 : decode cX7_findSeats 82 = .ok (.getfield 125, 3) := by decide +kernel
theorem dX7_findSeats_85 : decode cX7_findSeats 85 = .ok (.if_icmp .lt 9, 3) := by decide +kernel
theorem dX7_findSeats_88 : decode cX7_findSeats 88 = .ok (.iinc 2 (-1), 3) := by decide +kernel
theorem dX7_findSeats_91 : decode cX7_findSeats 91 = .ok (.goto (-70), 3) := by decide +kernel
theorem dX7_findSeats_94 : decode cX7_findSeats 94 = .ok (.iload_n 2, 1) := by decide +kernel
theorem dX7_findSeats_95 : decode cX7_findSeats 95 = .ok (.aload_n 0, 1) := by decide +kernel
theorem dX7_findSeats_96 : decode cX7_findSeats 96 = .ok (.getfield 125, 3) := by decide +kernel
theorem dX7_findSeats_99 : decode cX7_findSeats 99 = .ok (.iconst 1, 1) := by decide +kernel
theorem dX7_findSeats_100 : decode cX7_findSeats 100 = .ok (.isub, 1) := by decide +kernel
theorem dX7_findSeats_101 : decode cX7_findSeats 101 = .ok (.if_icmp .ne 11, 3) := by decide +kernel
theorem dX7_findSeats_104 : decode cX7_findSeats 104 = .ok (.aload_n 0, 1) := by decide +kernel
theorem dX7_findSeats_105 : decode cX7_findSeats 105 = .ok (.iload_n 1, 1) := by decide +kernel
theorem dX7_findSeats_106 : decode cX7_findSeats 106 = .ok (.invokevirtual 266, 3) := by decide +kernel
theorem dX7_findSeats_109 : decode cX7_findSeats 109 = .ok (.goto (-88), 3) := by decide +kernel
theorem dX7_findSeats_112 : decode cX7_findSeats 112 = .ok (.iinc 2 1, 3) := by decide +kernel
theorem dX7_findSeats_115 : decode cX7_findSeats 115 = .ok (.aload_n 0, 1) := by decide +kernel
theorem dX7_findSeats_116 : decode cX7_findSeats 116 = .ok (.getfield 97, 3) := by decide +kernel
theorem dX7_findSeats_119 : decode cX7_findSeats 119 = .ok (.iload_n 2, 1) := by decide +kernel
theorem dX7_findSeats_120 : decode cX7_findSeats 120 = .ok (.iconst 0, 1) := by decide +kernel
theorem dX7_findSeats_121 : decode cX7_findSeats 121 = .ok (.iastore, 1) := by decide +kernel
theorem dX7_findSeats_122 : decode cX7_findSeats 122 = .ok (.goto (-101), 3) := by decide +kernel
theorem dX7_findSeats_125 : decode cX7_findSeats 125 = .ok (.return_, 1) := by decide +kernel
theorem dX7_trySeats_0 : decode cX7_trySeats 0 = .ok (.aload_n 0, 1) := by decide +kernel
theorem dX7_trySeats_1 : decode cX7_trySeats 1 = .ok (.invokevirtual 224, 3) := by decide +kernel
theorem dX7_trySeats_4 : decode cX7_trySeats 4 = .ok (.iconst 0, 1) := by decide +kernel
theorem dX7_trySeats_5 : decode cX7_trySeats 5 = .ok (.istore_n 2, 1) := by decide +kernel
theorem dX7_trySeats_6 : decode cX7_trySeats 6 = .ok (.iload_n 2, 1) := by decide +kernel
theorem dX7_trySeats_7 : decode cX7_trySeats 7 = .ok (.aload_n 0, 1) := by decide +kernel
theorem dX7_trySeats_8 : decode cX7_trySeats 8 = .ok (.getfield 125, 3) := by decide +kernel
theorem dX7_trySeats_11 : decode cX7_trySeats 11 = .ok (.if_icmp .ge 29, 3) := by decide +kernel
theorem dX7_trySeats_14 : decode cX7_trySeats 14 = .ok (.aload_n 0, 1) := by decide +kernel
theorem dX7_trySeats_15 : decode cX7_trySeats 15 = .ok (.getfield 64, 3) := by decide +kernel
theorem dX7_trySeats_18 : decode cX7_trySeats 18 = .ok (.iload_n 2, 1) := by decide +kernel
theorem dX7_trySeats_19 : decode cX7_trySeats 19 = .ok (.aload_n 0, 1) := by decide +kernel
theorem dX7_trySeats_20 : decode cX7_trySeats 20 = .ok (.getfield 97, 3) := by decide +kernel
theorem dX7_trySeats_23 : decode cX7_trySeats 23 = .ok (.iload_n 2, 1) := by decide +kernel
theorem dX7_trySeats_24 : decode cX7_trySeats 24 = .ok (.iaload, 1) := by decide +kernel
theorem dX7_trySeats_25 : decode cX7_trySeats 25 = .ok (.iastore, 1) := by decide +kernel
theorem dX7_trySeats_26 : decode cX7_trySeats 26 = .ok (.aload_n 0, 1) := by decide +kernel
theorem dX7_trySeats_27 : decode cX7_trySeats 27 = .ok (.getfield 67, 3) := by decide +kernel
theorem dX7_trySeats_30 : decode cX7_trySeats 30 = .ok (.iload_n 2, 1) := by decide +kernel
theorem dX7_trySeats_31 : decode cX7_trySeats 31 = .ok (.bipush (-8), 2) := by decide +kernel
theorem dX7_trySeats_33 : decode cX7_trySeats 33 = .ok (.iastore, 1) := by decide +kernel
theorem dX7_trySeats_34 : decode cX7_trySeats 34 = .ok (.iinc 2 1, 3) := by decide +kernel
theorem dX7_trySeats_37 : decode cX7_trySeats 37 = .ok (.goto (-31), 3) := by decide +kernel
theorem dX7_trySeats_40 : decode cX7_trySeats 40 = .ok (.aload_n 0, 1) := by decide +kernel
theorem dX7_trySeats_41 : decode cX7_trySeats 41 = .ok (.invokevirtual 227, 3) := by decide +kernel
theorem dX7_trySeats_44 : decode cX7_trySeats 44 = .ok (.iload_n 1, 1) := by decide +kernel
theorem dX7_trySeats_45 : decode cX7_trySeats 45 = .ok (.ifCond .ne 10, 3) := by decide +kernel
theorem dX7_trySeats_48 : decode cX7_trySeats 48 = .ok (.aload_n 0, 1) := by decide +kernel
theorem dX7_trySeats_49 : decode cX7_trySeats 49 = .ok (.invokevirtual 230, 3) := by decide +kernel
theorem dX7_trySeats_52 : decode cX7_trySeats 52 = .ok (.goto 7, 3) := by decide +kernel
theorem dX7_trySeats_55 : decode cX7_trySeats 55 = .ok (.aload_n 0, 1) := by decide +kernel
theorem dX7_trySeats_56 : decode cX7_trySeats 56 = .ok (.invokevirtual 269, 3) := by decide +kernel
theorem dX7_trySeats_59 : decode cX7_trySeats 59 = .ok (.istore_n 2, 1) := by decide +kernel
theorem dX7_trySeats_60 : decode cX7_trySeats 60 = .ok (.iload_n 2, 1) := by decide +kernel
theorem dX7_trySeats_61 : decode cX7_trySeats 61 = .ok (.aload_n 0, 1) := by decide +kernel
theorem dX7_trySeats_62 : decode cX7_trySeats 62 = .ok (.getfield 244, 3) := by decide +kernel
theorem dX7_trySeats_65 : decode cX7_trySeats 65 = .ok (.if_icmp .gt 4, 3) := by decide +kernel
theorem dX7_trySeats_68 : decode cX7_trySeats 68 = .ok (.return_, 1) := by decide +kernel
theorem dX7_trySeats_69 : decode cX7_trySeats 69 = .ok (.aload_n 0, 1) := by decide +kernel
theorem dX7_trySeats_70 : decode cX7_trySeats 70 = .ok (.iload_n 2, 1) := by decide +kernel
theorem dX7_trySeats_71 : decode cX7_trySeats 71 = .ok (.putfield 244, 3) := by decide +kernel
theorem dX7_trySeats_74 : decode cX7_trySeats 74 = .ok (.iconst 0, 1) := by decide +kernel
theorem dX7_trySeats_75 : decode cX7_trySeats 75 = .ok (.istore_n 3, 1) := by decide +kernel
theorem dX7_trySeats_76 : decode cX7_trySeats 76 = .ok (.iload_n 3, 1) := by decide +kernel
theorem dX7_trySeats_77 : decode cX7_trySeats 77 = .ok (.aload_n 0, 1) := by decide +kernel
theorem dX7_trySeats_78 : decode cX7_trySeats 78 = .ok (.getfield 125, 3) := by decide +kernel
theorem dX7_trySeats_81 : decode cX7_trySeats 81 = .ok (.if_icmp .ge 21, 3) := by decide +kernel
theorem dX7_trySeats_84 : decode cX7_trySeats 84 = .ok (.aload_n 0, 1) := by decide +kernel
theorem dX7_trySeats_85 : decode cX7_trySeats 85 = .ok (.getfield 91, 3) := by decide +kernel
theorem dX7_trySeats_88 : decode cX7_trySeats 88 = .ok (.iload_n 3, 1) := by decide +kernel
theorem dX7_trySeats_89 : decode cX7_trySeats 89 = .ok (.aload_n 0, 1) := by decide +kernel
theorem dX7_trySeats_90 : decode cX7_trySeats 90 = .ok (.getfield 97, 3) := by decide +kernel
theorem dX7_trySeats_93 : decode cX7_trySeats 93 = .ok (.iload_n 3, 1) := by decide +kernel
theorem dX7_trySeats_94 : decode cX7_trySeats 94 = .ok (.iaload, 1) := by decide +kernel
theorem dX7_trySeats_95 : decode cX7_trySeats 95 = .ok (.iastore, 1) := by decide +kernel
theorem dX7_trySeats_96 : decode cX7_trySeats 96 = .ok (.iinc 3 1, 3) := by decide +kernel
theorem dX7_trySeats_99 : decode cX7_trySeats 99 = .ok (.goto (-23), 3) := by decide +kernel
theorem dX7_trySeats_102 : decode cX7_trySeats 102 = .ok (.return_, 1) := by decide +kernel
theorem dX7_seats_0 : decode cX7_seats 0 = .ok (.iload_n 1, 1) := by decide +kernel
theorem dX7_seats_1 : decode cX7_seats 1 = .ok (.iconst 0, 1) := by decide +kernel
theorem dX7_seats_2 : decode cX7_seats 2 = .ok (.iconst 1, 1) := by decide +kernel
theorem dX7_seats_3 : decode cX7_seats 3 = .ok (.invokestatic 121, 3) := by decide +kernel
theorem dX7_seats_6 : decode cX7_seats 6 = .ok (.ifCond .ne 6, 3) := by decide +kernel
theorem dX7_seats_9 : decode cX7_seats 9 = .ok (.bipush (-2), 2) := by decide +kernel
theorem dX7_seats_11 : decode cX7_seats 11 = .ok (.ireturn, 1) := by decide +kernel
theorem dX7_seats_12 : decode cX7_seats 12 = .ok (.iload_n 2, 1) := by decide +kernel
theorem dX7_seats_13 : decode cX7_seats 13 = .ok (.iconst (-1), 1) := by decide +kernel
theorem dX7_seats_14 : decode cX7_seats 14 = .ok (.aload_n 0, 1) := by decide +kernel
theorem dX7_seats_15 : decode cX7_seats 15 = .ok (.getfield 125, 3) := by decide +kernel
theorem dX7_seats_18 : decode cX7_seats 18 = .ok (.iconst 1, 1) := by decide +kernel
theorem dX7_seats_19 : decode cX7_seats 19 = .ok (.isub, 1) := by decide +kernel
theorem dX7_seats_20 : decode cX7_seats 20 = .ok (.invokestatic 121, 3) := by decide +kernel
theorem dX7_seats_23 : decode cX7_seats 23 = .ok (.ifCond .ne 5, 3) := by decide +kernel
theorem dX7_seats_26 : decode cX7_seats 26 = .ok (.iconst (-1), 1) := by decide +kernel
theorem dX7_seats_27 : decode cX7_seats 27 = .ok (.ireturn, 1) := by decide +kernel
theorem dX7_seats_28 : decode cX7_seats 28 = .ok (.aload_n 0, 1) := by decide +kernel
theorem dX7_seats_29 : decode cX7_seats 29 = .ok (.invokevirtual 190, 3) := by decide +kernel
theorem dX7_seats_32 : decode cX7_seats 32 = .ok (.ifCond .ne 6, 3) := by decide +kernel
theorem dX7_seats_35 : decode cX7_seats 35 = .ok (.bipush (-3), 2) := by decide +kernel
theorem dX7_seats_37 : decode cX7_seats 37 = .ok (.ireturn, 1) := by decide +kernel
theorem dX7_seats_38 : decode cX7_seats 38 = .ok (.aload_n 0, 1) := by decide +kernel
theorem dX7_seats_39 : decode cX7_seats 39 = .ok (.iload_n 1, 1) := by decide +kernel
theorem dX7_seats_40 : decode cX7_seats 40 = .ok (.invokevirtual 272, 3) := by decide +kernel
theorem dX7_seats_43 : decode cX7_seats 43 = .ok (.iload_n 2, 1) := by decide +kernel
theorem dX7_seats_44 : decode cX7_seats 44 = .ok (.ifCond .ge 10, 3) := by decide +kernel
theorem dX7_seats_47 : decode cX7_seats 47 = .ok (.aload_n 0, 1) := by decide +kernel
theorem dX7_seats_48 : decode cX7_seats 48 = .ok (.getfield 244, 3) := by decide +kernel
theorem dX7_seats_51 : decode cX7_seats 51 = .ok (.goto 9, 3) := by decide +kernel
theorem dX7_seats_54 : decode cX7_seats 54 = .ok (.aload_n 0, 1) := by decide +kernel
theorem dX7_seats_55 : decode cX7_seats 55 = .ok (.getfield 91, 3) := by decide +kernel
theorem dX7_seats_58 : decode cX7_seats 58 = .ok (.iload_n 2, 1) := by decide +kernel
theorem dX7_seats_59 : decode cX7_seats 59 = .ok (.iaload, 1) := by decide +kernel
theorem dX7_seats_60 : decode cX7_seats 60 = .ok (.ireturn, 1) := by decide +kernel
theorem dX7_keepMemory_0 : decode cX7_keepMemory 0 = .ok (.iconst 0, 1) := by decide +kernel
theorem dX7_keepMemory_1 : decode cX7_keepMemory 1 = .ok (.istore_n 2, 1) := by decide +kernel
theorem dX7_keepMemory_2 : decode cX7_keepMemory 2 = .ok (.iload_n 2, 1) := by decide +kernel
theorem dX7_keepMemory_3 : decode cX7_keepMemory 3 = .ok (.aload_n 0, 1) := by decide +kernel
theorem dX7_keepMemory_4 : decode cX7_keepMemory 4 = .ok (.getfield 125, 3) := by decide +kernel
theorem dX7_keepMemory_7 : decode cX7_keepMemory 7 = .ok (.if_icmp .ge 26, 3) := by decide +kernel
theorem dX7_keepMemory_10 : decode cX7_keepMemory 10 = .ok (.aload_n 0, 1) := by decide +kernel
theorem dX7_keepMemory_11 : decode cX7_keepMemory 11 = .ok (.getfield 100, 3) := by decide +kernel
theorem dX7_keepMemory_14 : decode cX7_keepMemory 14 = .ok (.bipush 7, 2) := by decide +kernel
theorem dX7_keepMemory_16 : decode cX7_keepMemory 16 = .ok (.iload_n 1, 1) := by decide +kernel
theorem dX7_keepMemory_17 : decode cX7_keepMemory 17 = .ok (.imul, 1) := by decide +kernel
theorem dX7_keepMemory_18 : decode cX7_keepMemory 18 = .ok (.iload_n 2, 1) := by decide +kernel
theorem dX7_keepMemory_19 : decode cX7_keepMemory 19 = .ok (.iadd, 1) := by decide +kernel
theorem dX7_keepMemory_20 : decode cX7_keepMemory 20 = .ok (.aload_n 0, 1) := by decide +kernel
theorem dX7_keepMemory_21 : decode cX7_keepMemory 21 = .ok (.getfield 67, 3) := by decide +kernel
theorem dX7_keepMemory_24 : decode cX7_keepMemory 24 = .ok (.iload_n 2, 1) := by decide +kernel
theorem dX7_keepMemory_25 : decode cX7_keepMemory 25 = .ok (.iaload, 1) := by decide +kernel
theorem dX7_keepMemory_26 : decode cX7_keepMemory 26 = .ok (.iastore, 1) := by decide +kernel
theorem dX7_keepMemory_27 : decode cX7_keepMemory 27 = .ok (.iinc 2 1, 3) := by decide +kernel
theorem dX7_keepMemory_30 : decode cX7_keepMemory 30 = .ok (.goto (-28), 3) := by decide +kernel
theorem dX7_keepMemory_33 : decode cX7_keepMemory 33 = .ok (.return_, 1) := by decide +kernel
theorem dX7_areAlike_0 : decode cX7_areAlike 0 = .ok (.iconst 0, 1) := by decide +kernel
theorem dX7_areAlike_1 : decode cX7_areAlike 1 = .ok (.istore_n 3, 1) := by decide +kernel
theorem dX7_areAlike_2 : decode cX7_areAlike 2 = .ok (.iload_n 3, 1) := by decide +kernel
theorem dX7_areAlike_3 : decode cX7_areAlike 3 = .ok (.aload_n 0, 1) := by decide +kernel
theorem dX7_areAlike_4 : decode cX7_areAlike 4 = .ok (.getfield 125, 3) := by decide +kernel
theorem dX7_areAlike_7 : decode cX7_areAlike 7 = .ok (.if_icmp .ge 36, 3) := by decide +kernel
theorem dX7_areAlike_10 : decode cX7_areAlike 10 = .ok (.aload_n 0, 1) := by decide +kernel
theorem dX7_areAlike_11 : decode cX7_areAlike 11 = .ok (.getfield 100, 3) := by decide +kernel
theorem dX7_areAlike_14 : decode cX7_areAlike 14 = .ok (.bipush 7, 2) := by decide +kernel
theorem dX7_areAlike_16 : decode cX7_areAlike 16 = .ok (.iload_n 1, 1) := by decide +kernel
theorem dX7_areAlike_17 : decode cX7_areAlike 17 = .ok (.imul, 1) := by decide +kernel
theorem dX7_areAlike_18 : decode cX7_areAlike 18 = .ok (.iload_n 3, 1) := by decide +kernel
theorem dX7_areAlike_19 : decode cX7_areAlike 19 = .ok (.iadd, 1) := by decide +kernel
theorem dX7_areAlike_20 : decode cX7_areAlike 20 = .ok (.iaload, 1) := by decide +kernel
theorem dX7_areAlike_21 : decode cX7_areAlike 21 = .ok (.aload_n 0, 1) := by decide +kernel
theorem dX7_areAlike_22 : decode cX7_areAlike 22 = .ok (.getfield 100, 3) := by decide +kernel
theorem dX7_areAlike_25 : decode cX7_areAlike 25 = .ok (.bipush 7, 2) := by decide +kernel
theorem dX7_areAlike_27 : decode cX7_areAlike 27 = .ok (.iload_n 2, 1) := by decide +kernel
theorem dX7_areAlike_28 : decode cX7_areAlike 28 = .ok (.imul, 1) := by decide +kernel
theorem dX7_areAlike_29 : decode cX7_areAlike 29 = .ok (.iload_n 3, 1) := by decide +kernel
theorem dX7_areAlike_30 : decode cX7_areAlike 30 = .ok (.iadd, 1) := by decide +kernel
theorem dX7_areAlike_31 : decode cX7_areAlike 31 = .ok (.iaload, 1) := by decide +kernel
theorem dX7_areAlike_32 : decode cX7_areAlike 32 = .ok (.if_icmp .eq 5, 3) := by decide +kernel
theorem dX7_areAlike_35 : decode cX7_areAlike 35 = .ok (.iconst 0, 1) := by decide +kernel
theorem dX7_areAlike_36 : decode cX7_areAlike 36 = .ok (.ireturn, 1) := by decide +kernel
theorem dX7_areAlike_37 : decode cX7_areAlike 37 = .ok (.iinc 3 1, 3) := by decide +kernel
theorem dX7_areAlike_40 : decode cX7_areAlike 40 = .ok (.goto (-38), 3) := by decide +kernel
theorem dX7_areAlike_43 : decode cX7_areAlike 43 = .ok (.iconst 1, 1) := by decide +kernel
theorem dX7_areAlike_44 : decode cX7_areAlike 44 = .ok (.ireturn, 1) := by decide +kernel
theorem dX7_sameAs_0 : decode cX7_sameAs 0 = .ok (.iconst 0, 1) := by decide +kernel
theorem dX7_sameAs_1 : decode cX7_sameAs 1 = .ok (.istore_n 2, 1) := by decide +kernel
theorem dX7_sameAs_2 : decode cX7_sameAs 2 = .ok (.iload_n 2, 1) := by decide +kernel
theorem dX7_sameAs_3 : decode cX7_sameAs 3 = .ok (.iload_n 1, 1) := by decide +kernel
theorem dX7_sameAs_4 : decode cX7_sameAs 4 = .ok (.if_icmp .ge 20, 3) := by decide +kernel
theorem dX7_sameAs_7 : decode cX7_sameAs 7 = .ok (.aload_n 0, 1) := by decide +kernel
theorem dX7_sameAs_8 : decode cX7_sameAs 8 = .ok (.iload_n 2, 1) := by decide +kernel
theorem dX7_sameAs_9 : decode cX7_sameAs 9 = .ok (.iload_n 1, 1) := by decide +kernel
theorem dX7_sameAs_10 : decode cX7_sameAs 10 = .ok (.invokevirtual 275, 3) := by decide +kernel
theorem dX7_sameAs_13 : decode cX7_sameAs 13 = .ok (.ifCond .eq 5, 3) := by decide +kernel
theorem dX7_sameAs_16 : decode cX7_sameAs 16 = .ok (.iload_n 2, 1) := by decide +kernel
theorem dX7_sameAs_17 : decode cX7_sameAs 17 = .ok (.ireturn, 1) := by decide +kernel
theorem dX7_sameAs_18 : decode cX7_sameAs 18 = .ok (.iinc 2 1, 3) := by decide +kernel
theorem dX7_sameAs_21 : decode cX7_sameAs 21 = .ok (.goto (-19), 3) := by decide +kernel
theorem dX7_sameAs_24 : decode cX7_sameAs 24 = .ok (.bipush (-9), 2) := by decide +kernel
theorem dX7_sameAs_26 : decode cX7_sameAs 26 = .ok (.ireturn, 1) := by decide +kernel
theorem dX7_findRing_0 : decode cX7_findRing 0 = .ok (.aload_n 0, 1) := by decide +kernel
theorem dX7_findRing_1 : decode cX7_findRing 1 = .ok (.iconst 0, 1) := by decide +kernel
theorem dX7_findRing_2 : decode cX7_findRing 2 = .ok (.invokevirtual 278, 3) := by decide +kernel
theorem dX7_findRing_5 : decode cX7_findRing 5 = .ok (.iconst 0, 1) := by decide +kernel
theorem dX7_findRing_6 : decode cX7_findRing 6 = .ok (.istore_n 1, 1) := by decide +kernel
theorem dX7_findRing_7 : decode cX7_findRing 7 = .ok (.aload_n 0, 1) := by decide +kernel
theorem dX7_findRing_8 : decode cX7_findRing 8 = .ok (.bipush (-9), 2) := by decide +kernel
theorem dX7_findRing_10 : decode cX7_findRing 10 = .ok (.putfield 281, 3) := by decide +kernel
theorem dX7_findRing_13 : decode cX7_findRing 13 = .ok (.aload_n 0, 1) := by decide +kernel
theorem dX7_findRing_14 : decode cX7_findRing 14 = .ok (.getfield 281, 3) := by decide +kernel
theorem dX7_findRing_17 : decode cX7_findRing 17 = .ok (.bipush (-9), 2) := by decide +kernel
theorem dX7_findRing_19 : decode cX7_findRing 19 = .ok (.if_icmp .ne 27, 3) := by decide +kernel
theorem dX7_findRing_22 : decode cX7_findRing 22 = .ok (.aload_n 0, 1) := by decide +kernel
theorem dX7_findRing_23 : decode cX7_findRing 23 = .ok (.invokevirtual 227, 3) := by decide +kernel
theorem dX7_findRing_26 : decode cX7_findRing 26 = .ok (.iinc 1 1, 3) := by decide +kernel
theorem dX7_findRing_29 : decode cX7_findRing 29 = .ok (.aload_n 0, 1) := by decide +kernel
theorem dX7_findRing_30 : decode cX7_findRing 30 = .ok (.iload_n 1, 1) := by decide +kernel
theorem dX7_findRing_31 : decode cX7_findRing 31 = .ok (.invokevirtual 278, 3) := by decide +kernel
theorem dX7_findRing_34 : decode cX7_findRing 34 = .ok (.aload_n 0, 1) := by decide +kernel
theorem dX7_findRing_35 : decode cX7_findRing 35 = .ok (.aload_n 0, 1) := by decide +kernel
theorem dX7_findRing_36 : decode cX7_findRing 36 = .ok (.iload_n 1, 1) := by decide +kernel
theorem dX7_findRing_37 : decode cX7_findRing 37 = .ok (.invokevirtual 284, 3) := by decide +kernel
theorem dX7_findRing_40 : decode cX7_findRing 40 = .ok (.putfield 281, 3) := by decide +kernel
theorem dX7_findRing_43 : decode cX7_findRing 43 = .ok (.goto (-30), 3) := by decide +kernel
theorem dX7_findRing_46 : decode cX7_findRing 46 = .ok (.aload_n 0, 1) := by decide +kernel
theorem dX7_findRing_47 : decode cX7_findRing 47 = .ok (.iload_n 1, 1) := by decide +kernel
theorem dX7_findRing_48 : decode cX7_findRing 48 = .ok (.aload_n 0, 1) := by decide +kernel
theorem dX7_findRing_49 : decode cX7_findRing 49 = .ok (.getfield 281, 3) := by decide +kernel
theorem dX7_findRing_52 : decode cX7_findRing 52 = .ok (.isub, 1) := by decide +kernel
theorem dX7_findRing_53 : decode cX7_findRing 53 = .ok (.putfield 287, 3) := by decide +kernel
theorem dX7_findRing_56 : decode cX7_findRing 56 = .ok (.return_, 1) := by decide +kernel
theorem dX7_ever_0 : decode cX7_ever 0 = .ok (.iload_n 1, 1) := by decide +kernel
theorem dX7_ever_1 : decode cX7_ever 1 = .ok (.iconst 0, 1) := by decide +kernel
theorem dX7_ever_2 : decode cX7_ever 2 = .ok (.iconst 1, 1) := by decide +kernel
theorem dX7_ever_3 : decode cX7_ever 3 = .ok (.invokestatic 121, 3) := by decide +kernel
theorem dX7_ever_6 : decode cX7_ever 6 = .ok (.ifCond .ne 6, 3) := by decide +kernel
theorem dX7_ever_9 : decode cX7_ever 9 = .ok (.bipush (-2), 2) := by decide +kernel
theorem dX7_ever_11 : decode cX7_ever 11 = .ok (.ireturn, 1) := by decide +kernel
theorem dX7_ever_12 : decode cX7_ever 12 = .ok (.aload_n 0, 1) := by decide +kernel
theorem dX7_ever_13 : decode cX7_ever 13 = .ok (.invokevirtual 190, 3) := by decide +kernel
theorem dX7_ever_16 : decode cX7_ever 16 = .ok (.ifCond .ne 6, 3) := by decide +kernel
theorem dX7_ever_19 : decode cX7_ever 19 = .ok (.bipush (-3), 2) := by decide +kernel
theorem dX7_ever_21 : decode cX7_ever 21 = .ok (.ireturn, 1) := by decide +kernel
theorem dX7_ever_22 : decode cX7_ever 22 = .ok (.aload_n 0, 1) := by decide +kernel
theorem dX7_ever_23 : decode cX7_ever 23 = .ok (.invokevirtual 224, 3) := by decide +kernel
theorem dX7_ever_26 : decode cX7_ever 26 = .ok (.aload_n 0, 1) := by decide +kernel
theorem dX7_ever_27 : decode cX7_ever 27 = .ok (.invokevirtual 290, 3) := by decide +kernel
theorem dX7_ever_30 : decode cX7_ever 30 = .ok (.iload_n 1, 1) := by decide +kernel
theorem dX7_ever_31 : decode cX7_ever 31 = .ok (.ifCond .ne 10, 3) := by decide +kernel
theorem dX7_ever_34 : decode cX7_ever 34 = .ok (.aload_n 0, 1) := by decide +kernel
theorem dX7_ever_35 : decode cX7_ever 35 = .ok (.getfield 281, 3) := by decide +kernel
theorem dX7_ever_38 : decode cX7_ever 38 = .ok (.goto 7, 3) := by decide +kernel
theorem dX7_ever_41 : decode cX7_ever 41 = .ok (.aload_n 0, 1) := by decide +kernel
theorem dX7_ever_42 : decode cX7_ever 42 = .ok (.getfield 287, 3) := by decide +kernel
theorem dX7_ever_45 : decode cX7_ever 45 = .ok (.ireturn, 1) := by decide +kernel
theorem dX7_gladInRing_0 : decode cX7_gladInRing 0 = .ok (.aload_n 0, 1) := by decide +kernel
theorem dX7_gladInRing_1 : decode cX7_gladInRing 1 = .ok (.invokevirtual 290, 3) := by decide +kernel
theorem dX7_gladInRing_4 : decode cX7_gladInRing 4 = .ok (.lconst 0, 1) := by decide +kernel
theorem dX7_gladInRing_5 : decode cX7_gladInRing 5 = .ok (.lstore_n 2, 1) := by decide +kernel
theorem dX7_gladInRing_6 : decode cX7_gladInRing 6 = .ok (.iconst 0, 1) := by decide +kernel
theorem dX7_gladInRing_7 : decode cX7_gladInRing 7 = .ok (.istore 4, 2) := by decide +kernel
theorem dX7_gladInRing_9 : decode cX7_gladInRing 9 = .ok (.iload 4, 2) := by decide +kernel
theorem dX7_gladInRing_11 : decode cX7_gladInRing 11 = .ok (.aload_n 0, 1) := by decide +kernel
theorem dX7_gladInRing_12 : decode cX7_gladInRing 12 = .ok (.getfield 287, 3) := by decide +kernel
theorem dX7_gladInRing_15 : decode cX7_gladInRing 15 = .ok (.if_icmp .ge 23, 3) := by decide +kernel
theorem dX7_gladInRing_18 : decode cX7_gladInRing 18 = .ok (.aload_n 0, 1) := by decide +kernel
theorem dX7_gladInRing_19 : decode cX7_gladInRing 19 = .ok (.invokevirtual 227, 3) := by decide +kernel
theorem dX7_gladInRing_22 : decode cX7_gladInRing 22 = .ok (.lload_n 2, 1) := by decide +kernel
theorem dX7_gladInRing_23 : decode cX7_gladInRing 23 = .ok (.aload_n 0, 1) := by decide +kernel
theorem dX7_gladInRing_24 : decode cX7_gladInRing 24 = .ok (.getfield 76, 3) := by decide +kernel
theorem dX7_gladInRing_27 : decode cX7_gladInRing 27 = .ok (.iload_n 1, 1) := by decide +kernel
theorem dX7_gladInRing_28 : decode cX7_gladInRing 28 = .ok (.iaload, 1) := by decide +kernel
theorem dX7_gladInRing_29 : decode cX7_gladInRing 29 = .ok (.i2l, 1) := by decide +kernel
theorem dX7_gladInRing_30 : decode cX7_gladInRing 30 = .ok (.ladd, 1) := by decide +kernel
theorem dX7_gladInRing_31 : decode cX7_gladInRing 31 = .ok (.lstore_n 2, 1) := by decide +kernel
theorem dX7_gladInRing_32 : decode cX7_gladInRing 32 = .ok (.iinc 4 1, 3) := by decide +kernel
theorem dX7_gladInRing_35 : decode cX7_gladInRing 35 = .ok (.goto (-26), 3) := by decide +kernel
theorem dX7_gladInRing_38 : decode cX7_gladInRing 38 = .ok (.lload_n 2, 1) := by decide +kernel
theorem dX7_gladInRing_39 : decode cX7_gladInRing 39 = .ok (.lreturn, 1) := by decide +kernel
theorem dX7_mean_0 : decode cX7_mean 0 = .ok (.aload_n 0, 1) := by decide +kernel
theorem dX7_mean_1 : decode cX7_mean 1 = .ok (.iload_n 1, 1) := by decide +kernel
theorem dX7_mean_2 : decode cX7_mean 2 = .ok (.invokevirtual 184, 3) := by decide +kernel
theorem dX7_mean_5 : decode cX7_mean 5 = .ok (.ifCond .eq 12, 3) := by decide +kernel
theorem dX7_mean_8 : decode cX7_mean 8 = .ok (.iload_n 2, 1) := by decide +kernel
theorem dX7_mean_9 : decode cX7_mean 9 = .ok (.iconst 0, 1) := by decide +kernel
theorem dX7_mean_10 : decode cX7_mean 10 = .ok (.iconst 1, 1) := by decide +kernel
theorem dX7_mean_11 : decode cX7_mean 11 = .ok (.invokestatic 121, 3) := by decide +kernel
theorem dX7_mean_14 : decode cX7_mean 14 = .ok (.ifCond .ne 7, 3) := by decide +kernel
theorem dX7_mean_17 : decode cX7_mean 17 = .ok (.ldc2_w 119, 3) := by decide +kernel
theorem dX7_mean_20 : decode cX7_mean 20 = .ok (.lreturn, 1) := by decide +kernel
theorem dX7_mean_21 : decode cX7_mean 21 = .ok (.aload_n 0, 1) := by decide +kernel
theorem dX7_mean_22 : decode cX7_mean 22 = .ok (.invokevirtual 224, 3) := by decide +kernel
theorem dX7_mean_25 : decode cX7_mean 25 = .ok (.aload_n 0, 1) := by decide +kernel
theorem dX7_mean_26 : decode cX7_mean 26 = .ok (.iload_n 1, 1) := by decide +kernel
theorem dX7_mean_27 : decode cX7_mean 27 = .ok (.invokevirtual 293, 3) := by decide +kernel
theorem dX7_mean_30 : decode cX7_mean 30 = .ok (.lstore_n 3, 1) := by decide +kernel
theorem dX7_mean_31 : decode cX7_mean 31 = .ok (.lload_n 3, 1) := by decide +kernel
theorem dX7_mean_32 : decode cX7_mean 32 = .ok (.aload_n 0, 1) := by decide +kernel
theorem dX7_mean_33 : decode cX7_mean 33 = .ok (.getfield 287, 3) := by decide +kernel
theorem dX7_mean_36 : decode cX7_mean 36 = .ok (.i2l, 1) := by decide +kernel
theorem dX7_mean_37 : decode cX7_mean 37 = .ok (.iload_n 2, 1) := by decide +kernel
theorem dX7_mean_38 : decode cX7_mean 38 = .ok (.invokestatic 234, 3) := by decide +kernel
theorem dX7_mean_41 : decode cX7_mean 41 = .ok (.lreturn, 1) := by decide +kernel
theorem dX7_wouldLeave_0 : decode cX7_wouldLeave 0 = .ok (.aload_n 0, 1) := by decide +kernel
theorem dX7_wouldLeave_1 : decode cX7_wouldLeave 1 = .ok (.invokevirtual 224, 3) := by decide +kernel
theorem dX7_wouldLeave_4 : decode cX7_wouldLeave 4 = .ok (.aload_n 0, 1) := by decide +kernel
theorem dX7_wouldLeave_5 : decode cX7_wouldLeave 5 = .ok (.iload_n 1, 1) := by decide +kernel
theorem dX7_wouldLeave_6 : decode cX7_wouldLeave 6 = .ok (.invokevirtual 293, 3) := by decide +kernel
theorem dX7_wouldLeave_9 : decode cX7_wouldLeave 9 = .ok (.lstore_n 2, 1) := by decide +kernel
theorem dX7_wouldLeave_10 : decode cX7_wouldLeave 10 = .ok (.aload_n 0, 1) := by decide +kernel
theorem dX7_wouldLeave_11 : decode cX7_wouldLeave 11 = .ok (.getfield 287, 3) := by decide +kernel
theorem dX7_wouldLeave_14 : decode cX7_wouldLeave 14 = .ok (.i2l, 1) := by decide +kernel
theorem dX7_wouldLeave_15 : decode cX7_wouldLeave 15 = .ok (.lstore 4, 2) := by decide +kernel
theorem dX7_wouldLeave_17 : decode cX7_wouldLeave 17 = .ok (.iconst 0, 1) := by decide +kernel
theorem dX7_wouldLeave_18 : decode cX7_wouldLeave 18 = .ok (.istore 6, 2) := by decide +kernel
theorem dX7_wouldLeave_20 : decode cX7_wouldLeave 20 = .ok (.iload 6, 2) := by decide +kernel
theorem dX7_wouldLeave_22 : decode cX7_wouldLeave 22 = .ok (.iconst 3, 1) := by decide +kernel
theorem dX7_wouldLeave_23 : decode cX7_wouldLeave 23 = .ok (.if_icmp .ge 57, 3) := by decide +kernel
theorem dX7_wouldLeave_26 : decode cX7_wouldLeave 26 = .ok (.iload 6, 2) := by decide +kernel
theorem dX7_wouldLeave_28 : decode cX7_wouldLeave 28 = .ok (.aload_n 0, 1) := by decide +kernel
theorem dX7_wouldLeave_29 : decode cX7_wouldLeave 29 = .ok (.getfield 25, 3) := by decide +kernel
theorem dX7_wouldLeave_32 : decode cX7_wouldLeave 32 = .ok (.iload_n 1, 1) := by decide +kernel
theorem dX7_wouldLeave_33 : decode cX7_wouldLeave 33 = .ok (.iaload, 1) := by decide +kernel
theorem dX7_wouldLeave_34 : decode cX7_wouldLeave 34 = .ok (.if_icmp .eq 40, 3) := by decide +kernel
theorem dX7_wouldLeave_37 : decode cX7_wouldLeave 37 = .ok (.aload_n 0, 1) := by decide +kernel
theorem dX7_wouldLeave_38 : decode cX7_wouldLeave 38 = .ok (.invokevirtual 224, 3) := by decide +kernel
theorem dX7_wouldLeave_41 : decode cX7_wouldLeave 41 = .ok (.aload_n 0, 1) := by decide +kernel
theorem dX7_wouldLeave_42 : decode cX7_wouldLeave 42 = .ok (.getfield 70, 3) := by decide +kernel
theorem dX7_wouldLeave_45 : decode cX7_wouldLeave 45 = .ok (.iload_n 1, 1) := by decide +kernel
theorem dX7_wouldLeave_46 : decode cX7_wouldLeave 46 = .ok (.iload 6, 2) := by decide +kernel
theorem dX7_wouldLeave_48 : decode cX7_wouldLeave 48 = .ok (.iastore, 1) := by decide +kernel
theorem dX7_wouldLeave_49 : decode cX7_wouldLeave 49 = .ok (.aload_n 0, 1) := by decide +kernel
theorem dX7_wouldLeave_50 : decode cX7_wouldLeave 50 = .ok (.iload_n 1, 1) := by decide +kernel
theorem dX7_wouldLeave_51 : decode cX7_wouldLeave 51 = .ok (.invokevirtual 293, 3) := by decide +kernel
theorem dX7_wouldLeave_54 : decode cX7_wouldLeave 54 = .ok (.lstore 7, 2) := by decide +kernel
theorem dX7_wouldLeave_56 : decode cX7_wouldLeave 56 = .ok (.lload 7, 2) := by decide +kernel
theorem dX7_wouldLeave_58 : decode cX7_wouldLeave 58 = .ok (.lload 4, 2) := by decide +kernel
theorem dX7_wouldLeave_60 : decode cX7_wouldLeave 60 = .ok (.lmul, 1) := by decide +kernel
theorem dX7_wouldLeave_61 : decode cX7_wouldLeave 61 = .ok (.lload_n 2, 1) := by decide +kernel
theorem dX7_wouldLeave_62 : decode cX7_wouldLeave 62 = .ok (.aload_n 0, 1) := by decide +kernel
theorem dX7_wouldLeave_63 : decode cX7_wouldLeave 63 = .ok (.getfield 287, 3) := by decide +kernel
theorem dX7_wouldLeave_66 : decode cX7_wouldLeave 66 = .ok (.i2l, 1) := by decide +kernel
theorem dX7_wouldLeave_67 : decode cX7_wouldLeave 67 = .ok (.lmul, 1) := by decide +kernel
theorem dX7_wouldLeave_68 : decode cX7_wouldLeave 68 = .ok (.lcmp, 1) := by decide +kernel
theorem dX7_wouldLeave_69 : decode cX7_wouldLeave 69 = .ok (.ifCond .le 5, 3) := by decide +kernel
theorem dX7_wouldLeave_72 : decode cX7_wouldLeave 72 = .ok (.iconst 1, 1) := by decide +kernel
theorem dX7_wouldLeave_73 : decode cX7_wouldLeave 73 = .ok (.ireturn, 1) := by decide +kernel
theorem dX7_wouldLeave_74 : decode cX7_wouldLeave 74 = .ok (.iinc 6 1, 3) := by decide +kernel
theorem dX7_wouldLeave_77 : decode cX7_wouldLeave 77 = .ok (.goto (-57), 3) := by decide +kernel
theorem dX7_wouldLeave_80 : decode cX7_wouldLeave 80 = .ok (.iconst 0, 1) := by decide +kernel
theorem dX7_wouldLeave_81 : decode cX7_wouldLeave 81 = .ok (.ireturn, 1) := by decide +kernel
theorem dX7_leaves_0 : decode cX7_leaves 0 = .ok (.aload_n 0, 1) := by decide +kernel
theorem dX7_leaves_1 : decode cX7_leaves 1 = .ok (.invokevirtual 190, 3) := by decide +kernel
theorem dX7_leaves_4 : decode cX7_leaves 4 = .ok (.ifCond .ne 6, 3) := by decide +kernel
theorem dX7_leaves_7 : decode cX7_leaves 7 = .ok (.bipush (-3), 2) := by decide +kernel
theorem dX7_leaves_9 : decode cX7_leaves 9 = .ok (.ireturn, 1) := by decide +kernel
theorem dX7_leaves_10 : decode cX7_leaves 10 = .ok (.iconst 0, 1) := by decide +kernel
theorem dX7_leaves_11 : decode cX7_leaves 11 = .ok (.istore_n 1, 1) := by decide +kernel
theorem dX7_leaves_12 : decode cX7_leaves 12 = .ok (.iconst 0, 1) := by decide +kernel
theorem dX7_leaves_13 : decode cX7_leaves 13 = .ok (.istore_n 2, 1) := by decide +kernel
theorem dX7_leaves_14 : decode cX7_leaves 14 = .ok (.iload_n 2, 1) := by decide +kernel
theorem dX7_leaves_15 : decode cX7_leaves 15 = .ok (.aload_n 0, 1) := by decide +kernel
theorem dX7_leaves_16 : decode cX7_leaves 16 = .ok (.getfield 125, 3) := by decide +kernel
theorem dX7_leaves_19 : decode cX7_leaves 19 = .ok (.if_icmp .ge 27, 3) := by decide +kernel
theorem dX7_leaves_22 : decode cX7_leaves 22 = .ok (.iload_n 1, 1) := by decide +kernel
theorem dX7_leaves_23 : decode cX7_leaves 23 = .ok (.aload_n 0, 1) := by decide +kernel
theorem dX7_leaves_24 : decode cX7_leaves 24 = .ok (.iload_n 2, 1) := by decide +kernel
theorem dX7_leaves_25 : decode cX7_leaves 25 = .ok (.invokevirtual 297, 3) := by decide +kernel
theorem dX7_leaves_28 : decode cX7_leaves 28 = .ok (.ifCond .eq 9, 3) := by decide +kernel
theorem dX7_leaves_31 : decode cX7_leaves 31 = .ok (.iconst 1, 1) := by decide +kernel
theorem dX7_leaves_32 : decode cX7_leaves 32 = .ok (.iload_n 2, 1) := by decide +kernel
theorem dX7_leaves_33 : decode cX7_leaves 33 = .ok (.ishl, 1) := by decide +kernel
theorem dX7_leaves_34 : decode cX7_leaves 34 = .ok (.goto 4, 3) := by decide +kernel
theorem dX7_leaves_37 : decode cX7_leaves 37 = .ok (.iconst 0, 1) := by decide +kernel
theorem dX7_leaves_38 : decode cX7_leaves 38 = .ok (.ior, 1) := by decide +kernel
theorem dX7_leaves_39 : decode cX7_leaves 39 = .ok (.istore_n 1, 1) := by decide +kernel
theorem dX7_leaves_40 : decode cX7_leaves 40 = .ok (.iinc 2 1, 3) := by decide +kernel
theorem dX7_leaves_43 : decode cX7_leaves 43 = .ok (.goto (-29), 3) := by decide +kernel
theorem dX7_leaves_46 : decode cX7_leaves 46 = .ok (.iload_n 1, 1) := by decide +kernel
theorem dX7_leaves_47 : decode cX7_leaves 47 = .ok (.ireturn, 1) := by decide +kernel
theorem dX7_swapIn_0 : decode cX7_swapIn 0 = .ok (.iconst 0, 1) := by decide +kernel
theorem dX7_swapIn_1 : decode cX7_swapIn 1 = .ok (.istore_n 2, 1) := by decide +kernel
theorem dX7_swapIn_2 : decode cX7_swapIn 2 = .ok (.iload_n 2, 1) := by decide +kernel
theorem dX7_swapIn_3 : decode cX7_swapIn 3 = .ok (.aload_n 0, 1) := by decide +kernel
theorem dX7_swapIn_4 : decode cX7_swapIn 4 = .ok (.getfield 125, 3) := by decide +kernel
theorem dX7_swapIn_7 : decode cX7_swapIn 7 = .ok (.if_icmp .ge 18, 3) := by decide +kernel
theorem dX7_swapIn_10 : decode cX7_swapIn 10 = .ok (.aload_n 0, 1) := by decide +kernel
theorem dX7_swapIn_11 : decode cX7_swapIn 11 = .ok (.getfield 67, 3) := by decide +kernel
theorem dX7_swapIn_14 : decode cX7_swapIn 14 = .ok (.iload_n 2, 1) := by decide +kernel
theorem dX7_swapIn_15 : decode cX7_swapIn 15 = .ok (.aload_n 1, 1) := by decide +kernel
theorem dX7_swapIn_16 : decode cX7_swapIn 16 = .ok (.iload_n 2, 1) := by decide +kernel
theorem dX7_swapIn_17 : decode cX7_swapIn 17 = .ok (.iaload, 1) := by decide +kernel
theorem dX7_swapIn_18 : decode cX7_swapIn 18 = .ok (.iastore, 1) := by decide +kernel
theorem dX7_swapIn_19 : decode cX7_swapIn 19 = .ok (.iinc 2 1, 3) := by decide +kernel
theorem dX7_swapIn_22 : decode cX7_swapIn 22 = .ok (.goto (-20), 3) := by decide +kernel
theorem dX7_swapIn_25 : decode cX7_swapIn 25 = .ok (.return_, 1) := by decide +kernel
theorem dX7_swapOut_0 : decode cX7_swapOut 0 = .ok (.iconst 0, 1) := by decide +kernel
theorem dX7_swapOut_1 : decode cX7_swapOut 1 = .ok (.istore_n 2, 1) := by decide +kernel
theorem dX7_swapOut_2 : decode cX7_swapOut 2 = .ok (.iload_n 2, 1) := by decide +kernel
theorem dX7_swapOut_3 : decode cX7_swapOut 3 = .ok (.aload_n 0, 1) := by decide +kernel
theorem dX7_swapOut_4 : decode cX7_swapOut 4 = .ok (.getfield 125, 3) := by decide +kernel
theorem dX7_swapOut_7 : decode cX7_swapOut 7 = .ok (.if_icmp .ge 18, 3) := by decide +kernel
theorem dX7_swapOut_10 : decode cX7_swapOut 10 = .ok (.aload_n 1, 1) := by decide +kernel
theorem dX7_swapOut_11 : decode cX7_swapOut 11 = .ok (.iload_n 2, 1) := by decide +kernel
theorem dX7_swapOut_12 : decode cX7_swapOut 12 = .ok (.aload_n 0, 1) := by decide +kernel
theorem dX7_swapOut_13 : decode cX7_swapOut 13 = .ok (.getfield 67, 3) := by decide +kernel
theorem dX7_swapOut_16 : decode cX7_swapOut 16 = .ok (.iload_n 2, 1) := by decide +kernel
theorem dX7_swapOut_17 : decode cX7_swapOut 17 = .ok (.iaload, 1) := by decide +kernel
theorem dX7_swapOut_18 : decode cX7_swapOut 18 = .ok (.iastore, 1) := by decide +kernel
theorem dX7_swapOut_19 : decode cX7_swapOut 19 = .ok (.iinc 2 1, 3) := by decide +kernel
theorem dX7_swapOut_22 : decode cX7_swapOut 22 = .ok (.goto (-20), 3) := by decide +kernel
theorem dX7_swapOut_25 : decode cX7_swapOut 25 = .ok (.return_, 1) := by decide +kernel
theorem dX7_areSame_0 : decode cX7_areSame 0 = .ok (.iconst 0, 1) := by decide +kernel
theorem dX7_areSame_1 : decode cX7_areSame 1 = .ok (.istore_n 1, 1) := by decide +kernel
theorem dX7_areSame_2 : decode cX7_areSame 2 = .ok (.iload_n 1, 1) := by decide +kernel
theorem dX7_areSame_3 : decode cX7_areSame 3 = .ok (.aload_n 0, 1) := by decide +kernel
theorem dX7_areSame_4 : decode cX7_areSame 4 = .ok (.getfield 125, 3) := by decide +kernel
theorem dX7_areSame_7 : decode cX7_areSame 7 = .ok (.if_icmp .ge 26, 3) := by decide +kernel
theorem dX7_areSame_10 : decode cX7_areSame 10 = .ok (.aload_n 0, 1) := by decide +kernel
theorem dX7_areSame_11 : decode cX7_areSame 11 = .ok (.getfield 106, 3) := by decide +kernel
theorem dX7_areSame_14 : decode cX7_areSame 14 = .ok (.iload_n 1, 1) := by decide +kernel
theorem dX7_areSame_15 : decode cX7_areSame 15 = .ok (.iaload, 1) := by decide +kernel
theorem dX7_areSame_16 : decode cX7_areSame 16 = .ok (.aload_n 0, 1) := by decide +kernel
theorem dX7_areSame_17 : decode cX7_areSame 17 = .ok (.getfield 103, 3) := by decide +kernel
theorem dX7_areSame_20 : decode cX7_areSame 20 = .ok (.iload_n 1, 1) := by decide +kernel
theorem dX7_areSame_21 : decode cX7_areSame 21 = .ok (.iaload, 1) := by decide +kernel
theorem dX7_areSame_22 : decode cX7_areSame 22 = .ok (.if_icmp .eq 5, 3) := by decide +kernel
theorem dX7_areSame_25 : decode cX7_areSame 25 = .ok (.iconst 0, 1) := by decide +kernel
theorem dX7_areSame_26 : decode cX7_areSame 26 = .ok (.ireturn, 1) := by decide +kernel
theorem dX7_areSame_27 : decode cX7_areSame 27 = .ok (.iinc 1 1, 3) := by decide +kernel
theorem dX7_areSame_30 : decode cX7_areSame 30 = .ok (.goto (-28), 3) := by decide +kernel
theorem dX7_areSame_33 : decode cX7_areSame 33 = .ok (.iconst 1, 1) := by decide +kernel
theorem dX7_areSame_34 : decode cX7_areSame 34 = .ok (.ireturn, 1) := by decide +kernel
theorem dX7_spite_0 : decode cX7_spite 0 = .ok (.aload_n 0, 1) := by decide +kernel
theorem dX7_spite_1 : decode cX7_spite 1 = .ok (.iload_n 1, 1) := by decide +kernel
theorem dX7_spite_2 : decode cX7_spite 2 = .ok (.invokevirtual 184, 3) := by decide +kernel
theorem dX7_spite_5 : decode cX7_spite 5 = .ok (.ifCond .ne 5, 3) := by decide +kernel
theorem dX7_spite_8 : decode cX7_spite 8 = .ok (.iconst (-1), 1) := by decide +kernel
theorem dX7_spite_9 : decode cX7_spite 9 = .ok (.ireturn, 1) := by decide +kernel
theorem dX7_spite_10 : decode cX7_spite 10 = .ok (.iload_n 2, 1) := by decide +kernel
theorem dX7_spite_11 : decode cX7_spite 11 = .ok (.iconst 0, 1) := by decide +kernel
theorem dX7_spite_12 : decode cX7_spite 12 = .ok (.iconst 1, 1) := by decide +kernel
theorem dX7_spite_13 : decode cX7_spite 13 = .ok (.invokestatic 121, 3) := by decide +kernel
theorem dX7_spite_16 : decode cX7_spite 16 = .ok (.ifCond .ne 6, 3) := by decide +kernel
theorem dX7_spite_19 : decode cX7_spite 19 = .ok (.bipush (-2), 2) := by decide +kernel
theorem dX7_spite_21 : decode cX7_spite 21 = .ok (.ireturn, 1) := by decide +kernel
theorem dX7_spite_22 : decode cX7_spite 22 = .ok (.aload_n 0, 1) := by decide +kernel
theorem dX7_spite_23 : decode cX7_spite 23 = .ok (.invokevirtual 224, 3) := by decide +kernel
theorem dX7_spite_26 : decode cX7_spite 26 = .ok (.aload_n 0, 1) := by decide +kernel
theorem dX7_spite_27 : decode cX7_spite 27 = .ok (.aload_n 0, 1) := by decide +kernel
theorem dX7_spite_28 : decode cX7_spite 28 = .ok (.getfield 106, 3) := by decide +kernel
theorem dX7_spite_31 : decode cX7_spite 31 = .ok (.invokevirtual 300, 3) := by decide +kernel
theorem dX7_spite_34 : decode cX7_spite 34 = .ok (.aload_n 0, 1) := by decide +kernel
theorem dX7_spite_35 : decode cX7_spite 35 = .ok (.aload_n 0, 1) := by decide +kernel
theorem dX7_spite_36 : decode cX7_spite 36 = .ok (.getfield 103, 3) := by decide +kernel
theorem dX7_spite_39 : decode cX7_spite 39 = .ok (.invokevirtual 300, 3) := by decide +kernel
theorem dX7_spite_42 : decode cX7_spite 42 = .ok (.iconst 0, 1) := by decide +kernel
theorem dX7_spite_43 : decode cX7_spite 43 = .ok (.istore_n 3, 1) := by decide +kernel
theorem dX7_spite_44 : decode cX7_spite 44 = .ok (.iload_n 3, 1) := by decide +kernel
theorem dX7_spite_45 : decode cX7_spite 45 = .ok (.sipush 200, 3) := by decide +kernel
theorem dX7_spite_48 : decode cX7_spite 48 = .ok (.if_icmp .ge 185, 3) := by decide +kernel
theorem dX7_spite_51 : decode cX7_spite 51 = .ok (.aload_n 0, 1) := by decide +kernel
theorem dX7_spite_52 : decode cX7_spite 52 = .ok (.aload_n 0, 1) := by decide +kernel
theorem dX7_spite_53 : decode cX7_spite 53 = .ok (.getfield 103, 3) := by decide +kernel
theorem dX7_spite_56 : decode cX7_spite 56 = .ok (.invokevirtual 304, 3) := by decide +kernel
theorem dX7_spite_59 : decode cX7_spite 59 = .ok (.aload_n 0, 1) := by decide +kernel
theorem dX7_spite_60 : decode cX7_spite 60 = .ok (.invokevirtual 227, 3) := by decide +kernel
theorem dX7_spite_63 : decode cX7_spite 63 = .ok (.aload_n 0, 1) := by decide +kernel
theorem dX7_spite_64 : decode cX7_spite 64 = .ok (.aload_n 0, 1) := by decide +kernel
theorem dX7_spite_65 : decode cX7_spite 65 = .ok (.getfield 103, 3) := by decide +kernel
theorem dX7_spite_68 : decode cX7_spite 68 = .ok (.invokevirtual 300, 3) := by decide +kernel
theorem dX7_spite_71 : decode cX7_spite 71 = .ok (.iconst 0, 1) := by decide +kernel
theorem dX7_spite_72 : decode cX7_spite 72 = .ok (.istore 4, 2) := by decide +kernel
theorem dX7_spite_74 : decode cX7_spite 74 = .ok (.iload 4, 2) := by decide +kernel
theorem dX7_spite_76 : decode cX7_spite 76 = .ok (.aload_n 0, 1) := by decide +kernel
theorem dX7_spite_77 : decode cX7_spite 77 = .ok (.getfield 164, 3) := by decide +kernel
theorem dX7_spite_80 : decode cX7_spite 80 = .ok (.if_icmp .ge 33, 3) := by decide +kernel
theorem dX7_spite_83 : decode cX7_spite 83 = .ok (.aload_n 0, 1) := by decide +kernel
theorem dX7_spite_84 : decode cX7_spite 84 = .ok (.getfield 109, 3) := by decide +kernel
theorem dX7_spite_87 : decode cX7_spite 87 = .ok (.iload 4, 2) := by decide +kernel
theorem dX7_spite_89 : decode cX7_spite 89 = .ok (.aload_n 0, 1) := by decide +kernel
theorem dX7_spite_90 : decode cX7_spite 90 = .ok (.iload_n 1, 1) := by decide +kernel
theorem dX7_spite_91 : decode cX7_spite 91 = .ok (.aload_n 0, 1) := by decide +kernel
theorem dX7_spite_92 : decode cX7_spite 92 = .ok (.getfield 73, 3) := by decide +kernel
theorem dX7_spite_95 : decode cX7_spite 95 = .ok (.bipush 7, 2) := by decide +kernel
theorem dX7_spite_97 : decode cX7_spite 97 = .ok (.iload 4, 2) := by decide +kernel
theorem dX7_spite_99 : decode cX7_spite 99 = .ok (.imul, 1) := by decide +kernel
theorem dX7_spite_100 : decode cX7_spite 100 = .ok (.iload_n 1, 1) := by decide +kernel
theorem dX7_spite_101 : decode cX7_spite 101 = .ok (.iadd, 1) := by decide +kernel
theorem dX7_spite_102 : decode cX7_spite 102 = .ok (.iaload, 1) := by decide +kernel
theorem dX7_spite_103 : decode cX7_spite 103 = .ok (.invokevirtual 203, 3) := by decide +kernel
theorem dX7_spite_106 : decode cX7_spite 106 = .ok (.iastore, 1) := by decide +kernel
theorem dX7_spite_107 : decode cX7_spite 107 = .ok (.iinc 4 1, 3) := by decide +kernel
theorem dX7_spite_110 : decode cX7_spite 110 = .ok (.goto (-36), 3) := by decide +kernel
theorem dX7_spite_113 : decode cX7_spite 113 = .ok (.aload_n 0, 1) := by decide +kernel
theorem dX7_spite_114 : decode cX7_spite 114 = .ok (.aload_n 0, 1) := by decide +kernel
theorem dX7_spite_115 : decode cX7_spite 115 = .ok (.getfield 106, 3) := by decide +kernel
theorem dX7_spite_118 : decode cX7_spite 118 = .ok (.invokevirtual 304, 3) := by decide +kernel
theorem dX7_spite_121 : decode cX7_spite 121 = .ok (.aload_n 0, 1) := by decide +kernel
theorem dX7_spite_122 : decode cX7_spite 122 = .ok (.iload_n 3, 1) := by decide +kernel
theorem dX7_spite_123 : decode cX7_spite 123 = .ok (.ifCond .ne 7, 3) := by decide +kernel
theorem dX7_spite_126 : decode cX7_spite 126 = .ok (.iload_n 1, 1) := by decide +kernel
theorem dX7_spite_127 : decode cX7_spite 127 = .ok (.goto 5, 3) := by decide +kernel
theorem dX7_spite_130 : decode cX7_spite 130 = .ok (.bipush (-9), 2) := by decide +kernel
theorem dX7_spite_132 : decode cX7_spite 132 = .ok (.putfield 200, 3) := by decide +kernel
theorem dX7_spite_135 : decode cX7_spite 135 = .ok (.aload_n 0, 1) := by decide +kernel
theorem dX7_spite_136 : decode cX7_spite 136 = .ok (.invokevirtual 227, 3) := by decide +kernel
theorem dX7_spite_139 : decode cX7_spite 139 = .ok (.aload_n 0, 1) := by decide +kernel
theorem dX7_spite_140 : decode cX7_spite 140 = .ok (.aload_n 0, 1) := by decide +kernel
theorem dX7_spite_141 : decode cX7_spite 141 = .ok (.getfield 106, 3) := by decide +kernel
theorem dX7_spite_144 : decode cX7_spite 144 = .ok (.invokevirtual 300, 3) := by decide +kernel
theorem dX7_spite_147 : decode cX7_spite 147 = .ok (.iconst 0, 1) := by decide +kernel
theorem dX7_spite_148 : decode cX7_spite 148 = .ok (.istore 4, 2) := by decide +kernel
theorem dX7_spite_150 : decode cX7_spite 150 = .ok (.iload 4, 2) := by decide +kernel
theorem dX7_spite_152 : decode cX7_spite 152 = .ok (.aload_n 0, 1) := by decide +kernel
theorem dX7_spite_153 : decode cX7_spite 153 = .ok (.getfield 164, 3) := by decide +kernel
theorem dX7_spite_156 : decode cX7_spite 156 = .ok (.if_icmp .ge 51, 3) := by decide +kernel
theorem dX7_spite_159 : decode cX7_spite 159 = .ok (.iload_n 2, 1) := by decide +kernel
theorem dX7_spite_160 : decode cX7_spite 160 = .ok (.iconst 1, 1) := by decide +kernel
theorem dX7_spite_161 : decode cX7_spite 161 = .ok (.if_icmp .ne 46, 3) := by decide +kernel
theorem dX7_spite_164 : decode cX7_spite 164 = .ok (.aload_n 0, 1) := by decide +kernel
theorem dX7_spite_165 : decode cX7_spite 165 = .ok (.iload_n 1, 1) := by decide +kernel
theorem dX7_spite_166 : decode cX7_spite 166 = .ok (.aload_n 0, 1) := by decide +kernel
theorem dX7_spite_167 : decode cX7_spite 167 = .ok (.getfield 73, 3) := by decide +kernel
theorem dX7_spite_170 : decode cX7_spite 170 = .ok (.bipush 7, 2) := by decide +kernel
theorem dX7_spite_172 : decode cX7_spite 172 = .ok (.iload 4, 2) := by decide +kernel
theorem dX7_spite_174 : decode cX7_spite 174 = .ok (.imul, 1) := by decide +kernel
theorem dX7_spite_175 : decode cX7_spite 175 = .ok (.iload_n 1, 1) := by decide +kernel
theorem dX7_spite_176 : decode cX7_spite 176 = .ok (.iadd, 1) := by decide +kernel
theorem dX7_spite_177 : decode cX7_spite 177 = .ok (.iaload, 1) := by decide +kernel
theorem dX7_spite_178 : decode cX7_spite 178 = .ok (.invokevirtual 203, 3) := by decide +kernel
theorem dX7_spite_181 : decode cX7_spite 181 = .ok (.aload_n 0, 1) := by decide +kernel
theorem dX7_spite_182 : decode cX7_spite 182 = .ok (.getfield 109, 3) := by decide +kernel
theorem dX7_spite_185 : decode cX7_spite 185 = .ok (.iload 4, 2) := by decide +kernel
theorem dX7_spite_187 : decode cX7_spite 187 = .ok (.iaload, 1) := by decide +kernel
theorem dX7_spite_188 : decode cX7_spite 188 = .ok (.if_icmp .ge 13, 3) := by decide +kernel
theorem dX7_spite_191 : decode cX7_spite 191 = .ok (.aload_n 0, 1) := by decide +kernel
theorem dX7_spite_192 : decode cX7_spite 192 = .ok (.getfield 164, 3) := by decide +kernel
theorem dX7_spite_195 : decode cX7_spite 195 = .ok (.iload_n 3, 1) := by decide +kernel
theorem dX7_spite_196 : decode cX7_spite 196 = .ok (.imul, 1) := by decide +kernel
theorem dX7_spite_197 : decode cX7_spite 197 = .ok (.iload 4, 2) := by decide +kernel
theorem dX7_spite_199 : decode cX7_spite 199 = .ok (.iadd, 1) := by decide +kernel
theorem dX7_spite_200 : decode cX7_spite 200 = .ok (.ireturn, 1) := by decide +kernel
theorem dX7_spite_201 : decode cX7_spite 201 = .ok (.iinc 4 1, 3) := by decide +kernel
theorem dX7_spite_204 : decode cX7_spite 204 = .ok (.goto (-54), 3) := by decide +kernel
theorem dX7_spite_207 : decode cX7_spite 207 = .ok (.aload_n 0, 1) := by decide +kernel
theorem dX7_spite_208 : decode cX7_spite 208 = .ok (.invokevirtual 307, 3) := by decide +kernel
theorem dX7_spite_211 : decode cX7_spite 211 = .ok (.ifCond .eq 16, 3) := by decide +kernel
theorem dX7_spite_214 : decode cX7_spite 214 = .ok (.iload_n 2, 1) := by decide +kernel
theorem dX7_spite_215 : decode cX7_spite 215 = .ok (.ifCond .ne 9, 3) := by decide +kernel
theorem dX7_spite_218 : decode cX7_spite 218 = .ok (.iload_n 3, 1) := by decide +kernel
theorem dX7_spite_219 : decode cX7_spite 219 = .ok (.iconst 1, 1) := by decide +kernel
theorem dX7_spite_220 : decode cX7_spite 220 = .ok (.iadd, 1) := by decide +kernel
theorem dX7_spite_221 : decode cX7_spite 221 = .ok (.goto 5, 3) := by decide +kernel
theorem dX7_spite_224 : decode cX7_spite 224 = .ok (.bipush (-9), 2) := by decide +kernel
theorem dX7_spite_226 : decode cX7_spite 226 = .ok (.ireturn, 1) := by decide +kernel
theorem dX7_spite_227 : decode cX7_spite 227 = .ok (.iinc 3 1, 3) := by decide +kernel
theorem dX7_spite_230 : decode cX7_spite 230 = .ok (.goto (-186), 3) := by decide +kernel
theorem dX7_spite_233 : decode cX7_spite 233 = .ok (.bipush (-9), 2) := by decide +kernel
theorem dX7_spite_235 : decode cX7_spite 235 = .ok (.ireturn, 1) := by decide +kernel
theorem dX7_gladByLie_0 : decode cX7_gladByLie 0 = .ok (.iconst 0, 1) := by decide +kernel
theorem dX7_gladByLie_1 : decode cX7_gladByLie 1 = .ok (.istore_n 3, 1) := by decide +kernel
theorem dX7_gladByLie_2 : decode cX7_gladByLie 2 = .ok (.iload_n 3, 1) := by decide +kernel
theorem dX7_gladByLie_3 : decode cX7_gladByLie 3 = .ok (.aload_n 0, 1) := by decide +kernel
theorem dX7_gladByLie_4 : decode cX7_gladByLie 4 = .ok (.getfield 128, 3) := by decide +kernel
theorem dX7_gladByLie_7 : decode cX7_gladByLie 7 = .ok (.if_icmp .ge 48, 3) := by decide +kernel
theorem dX7_gladByLie_10 : decode cX7_gladByLie 10 = .ok (.aload_n 0, 1) := by decide +kernel
theorem dX7_gladByLie_11 : decode cX7_gladByLie 11 = .ok (.getfield 112, 3) := by decide +kernel
theorem dX7_gladByLie_14 : decode cX7_gladByLie 14 = .ok (.iload_n 3, 1) := by decide +kernel
theorem dX7_gladByLie_15 : decode cX7_gladByLie 15 = .ok (.aload_n 0, 1) := by decide +kernel
theorem dX7_gladByLie_16 : decode cX7_gladByLie 16 = .ok (.getfield 37, 3) := by decide +kernel
theorem dX7_gladByLie_19 : decode cX7_gladByLie 19 = .ok (.bipush 6, 2) := by decide +kernel
theorem dX7_gladByLie_21 : decode cX7_gladByLie 21 = .ok (.iload_n 1, 1) := by decide +kernel
theorem dX7_gladByLie_22 : decode cX7_gladByLie 22 = .ok (.imul, 1) := by decide +kernel
theorem dX7_gladByLie_23 : decode cX7_gladByLie 23 = .ok (.iload_n 3, 1) := by decide +kernel
theorem dX7_gladByLie_24 : decode cX7_gladByLie 24 = .ok (.iadd, 1) := by decide +kernel
theorem dX7_gladByLie_25 : decode cX7_gladByLie 25 = .ok (.iaload, 1) := by decide +kernel
theorem dX7_gladByLie_26 : decode cX7_gladByLie 26 = .ok (.iastore, 1) := by decide +kernel
theorem dX7_gladByLie_27 : decode cX7_gladByLie 27 = .ok (.aload_n 0, 1) := by decide +kernel
theorem dX7_gladByLie_28 : decode cX7_gladByLie 28 = .ok (.getfield 37, 3) := by decide +kernel
theorem dX7_gladByLie_31 : decode cX7_gladByLie 31 = .ok (.bipush 6, 2) := by decide +kernel
theorem dX7_gladByLie_33 : decode cX7_gladByLie 33 = .ok (.iload_n 1, 1) := by decide +kernel
theorem dX7_gladByLie_34 : decode cX7_gladByLie 34 = .ok (.imul, 1) := by decide +kernel
theorem dX7_gladByLie_35 : decode cX7_gladByLie 35 = .ok (.iload_n 3, 1) := by decide +kernel
theorem dX7_gladByLie_36 : decode cX7_gladByLie 36 = .ok (.iadd, 1) := by decide +kernel
theorem dX7_gladByLie_37 : decode cX7_gladByLie 37 = .ok (.iload_n 3, 1) := by decide +kernel
theorem dX7_gladByLie_38 : decode cX7_gladByLie 38 = .ok (.iload_n 2, 1) := by decide +kernel
theorem dX7_gladByLie_39 : decode cX7_gladByLie 39 = .ok (.if_icmp .ne 8, 3) := by decide +kernel
theorem dX7_gladByLie_42 : decode cX7_gladByLie 42 = .ok (.bipush 9, 2) := by decide +kernel
theorem dX7_gladByLie_44 : decode cX7_gladByLie 44 = .ok (.goto 4, 3) := by decide +kernel
theorem dX7_gladByLie_47 : decode cX7_gladByLie 47 = .ok (.iconst 0, 1) := by decide +kernel
theorem dX7_gladByLie_48 : decode cX7_gladByLie 48 = .ok (.iastore, 1) := by decide +kernel
theorem dX7_gladByLie_49 : decode cX7_gladByLie 49 = .ok (.iinc 3 1, 3) := by decide +kernel
theorem dX7_gladByLie_52 : decode cX7_gladByLie 52 = .ok (.goto (-50), 3) := by decide +kernel
theorem dX7_gladByLie_55 : decode cX7_gladByLie 55 = .ok (.aload_n 0, 1) := by decide +kernel
theorem dX7_gladByLie_56 : decode cX7_gladByLie 56 = .ok (.invokevirtual 224, 3) := by decide +kernel
theorem dX7_gladByLie_59 : decode cX7_gladByLie 59 = .ok (.aload_n 0, 1) := by decide +kernel
theorem dX7_gladByLie_60 : decode cX7_gladByLie 60 = .ok (.invokevirtual 227, 3) := by decide +kernel
theorem dX7_gladByLie_63 : decode cX7_gladByLie 63 = .ok (.iconst 0, 1) := by decide +kernel
theorem dX7_gladByLie_64 : decode cX7_gladByLie 64 = .ok (.istore_n 3, 1) := by decide +kernel
theorem dX7_gladByLie_65 : decode cX7_gladByLie 65 = .ok (.iload_n 3, 1) := by decide +kernel
theorem dX7_gladByLie_66 : decode cX7_gladByLie 66 = .ok (.aload_n 0, 1) := by decide +kernel
theorem dX7_gladByLie_67 : decode cX7_gladByLie 67 = .ok (.getfield 128, 3) := by decide +kernel
theorem dX7_gladByLie_70 : decode cX7_gladByLie 70 = .ok (.if_icmp .ge 26, 3) := by decide +kernel
theorem dX7_gladByLie_73 : decode cX7_gladByLie 73 = .ok (.aload_n 0, 1) := by decide +kernel
theorem dX7_gladByLie_74 : decode cX7_gladByLie 74 = .ok (.getfield 37, 3) := by decide +kernel
theorem dX7_gladByLie_77 : decode cX7_gladByLie 77 = .ok (.bipush 6, 2) := by decide +kernel
theorem dX7_gladByLie_79 : decode cX7_gladByLie 79 = .ok (.iload_n 1, 1) := by decide +kernel
theorem dX7_gladByLie_80 : decode cX7_gladByLie 80 = .ok (.imul, 1) := by decide +kernel
theorem dX7_gladByLie_81 : decode cX7_gladByLie 81 = .ok (.iload_n 3, 1) := by decide +kernel
theorem dX7_gladByLie_82 : decode cX7_gladByLie 82 = .ok (.iadd, 1) := by decide +kernel
theorem dX7_gladByLie_83 : decode cX7_gladByLie 83 = .ok (.aload_n 0, 1) := by decide +kernel
theorem dX7_gladByLie_84 : decode cX7_gladByLie 84 = .ok (.getfield 112, 3) := by decide +kernel
theorem dX7_gladByLie_87 : decode cX7_gladByLie 87 = .ok (.iload_n 3, 1) := by decide +kernel
theorem dX7_gladByLie_88 : decode cX7_gladByLie 88 = .ok (.iaload, 1) := by decide +kernel
theorem dX7_gladByLie_89 : decode cX7_gladByLie 89 = .ok (.iastore, 1) := by decide +kernel
theorem dX7_gladByLie_90 : decode cX7_gladByLie 90 = .ok (.iinc 3 1, 3) := by decide +kernel
theorem dX7_gladByLie_93 : decode cX7_gladByLie 93 = .ok (.goto (-28), 3) := by decide +kernel
theorem dX7_gladByLie_96 : decode cX7_gladByLie 96 = .ok (.aload_n 0, 1) := by decide +kernel
theorem dX7_gladByLie_97 : decode cX7_gladByLie 97 = .ok (.getfield 76, 3) := by decide +kernel
theorem dX7_gladByLie_100 : decode cX7_gladByLie 100 = .ok (.iload_n 1, 1) := by decide +kernel
theorem dX7_gladByLie_101 : decode cX7_gladByLie 101 = .ok (.iaload, 1) := by decide +kernel
theorem dX7_gladByLie_102 : decode cX7_gladByLie 102 = .ok (.ireturn, 1) := by decide +kernel
theorem dX7_lies_0 : decode cX7_lies 0 = .ok (.aload_n 0, 1) := by decide +kernel
theorem dX7_lies_1 : decode cX7_lies 1 = .ok (.iload_n 1, 1) := by decide +kernel
theorem dX7_lies_2 : decode cX7_lies 2 = .ok (.invokevirtual 184, 3) := by decide +kernel
theorem dX7_lies_5 : decode cX7_lies 5 = .ok (.ifCond .ne 5, 3) := by decide +kernel
theorem dX7_lies_8 : decode cX7_lies 8 = .ok (.iconst (-1), 1) := by decide +kernel
theorem dX7_lies_9 : decode cX7_lies 9 = .ok (.ireturn, 1) := by decide +kernel
theorem dX7_lies_10 : decode cX7_lies 10 = .ok (.iload_n 2, 1) := by decide +kernel
theorem dX7_lies_11 : decode cX7_lies 11 = .ok (.iconst 0, 1) := by decide +kernel
theorem dX7_lies_12 : decode cX7_lies 12 = .ok (.iconst 1, 1) := by decide +kernel
theorem dX7_lies_13 : decode cX7_lies 13 = .ok (.invokestatic 121, 3) := by decide +kernel
theorem dX7_lies_16 : decode cX7_lies 16 = .ok (.ifCond .ne 6, 3) := by decide +kernel
theorem dX7_lies_19 : decode cX7_lies 19 = .ok (.bipush (-2), 2) := by decide +kernel
theorem dX7_lies_21 : decode cX7_lies 21 = .ok (.ireturn, 1) := by decide +kernel
theorem dX7_lies_22 : decode cX7_lies 22 = .ok (.aload_n 0, 1) := by decide +kernel
theorem dX7_lies_23 : decode cX7_lies 23 = .ok (.invokevirtual 224, 3) := by decide +kernel
theorem dX7_lies_26 : decode cX7_lies 26 = .ok (.aload_n 0, 1) := by decide +kernel
theorem dX7_lies_27 : decode cX7_lies 27 = .ok (.invokevirtual 227, 3) := by decide +kernel
theorem dX7_lies_30 : decode cX7_lies 30 = .ok (.aload_n 0, 1) := by decide +kernel
theorem dX7_lies_31 : decode cX7_lies 31 = .ok (.getfield 76, 3) := by decide +kernel
theorem dX7_lies_34 : decode cX7_lies 34 = .ok (.iload_n 1, 1) := by decide +kernel
theorem dX7_lies_35 : decode cX7_lies 35 = .ok (.iaload, 1) := by decide +kernel
theorem dX7_lies_36 : decode cX7_lies 36 = .ok (.istore_n 3, 1) := by decide +kernel
theorem dX7_lies_37 : decode cX7_lies 37 = .ok (.bipush (-9), 2) := by decide +kernel
theorem dX7_lies_39 : decode cX7_lies 39 = .ok (.istore 4, 2) := by decide +kernel
theorem dX7_lies_41 : decode cX7_lies 41 = .ok (.iconst 0, 1) := by decide +kernel
theorem dX7_lies_42 : decode cX7_lies 42 = .ok (.istore 5, 2) := by decide +kernel
theorem dX7_lies_44 : decode cX7_lies 44 = .ok (.iload 5, 2) := by decide +kernel
theorem dX7_lies_46 : decode cX7_lies 46 = .ok (.aload_n 0, 1) := by decide +kernel
theorem dX7_lies_47 : decode cX7_lies 47 = .ok (.getfield 128, 3) := by decide +kernel
theorem dX7_lies_50 : decode cX7_lies 50 = .ok (.if_icmp .ge 51, 3) := by decide +kernel
theorem dX7_lies_53 : decode cX7_lies 53 = .ok (.aload_n 0, 1) := by decide +kernel
theorem dX7_lies_54 : decode cX7_lies 54 = .ok (.getfield 34, 3) := by decide +kernel
theorem dX7_lies_57 : decode cX7_lies 57 = .ok (.bipush 6, 2) := by decide +kernel
theorem dX7_lies_59 : decode cX7_lies 59 = .ok (.iload_n 1, 1) := by decide +kernel
theorem dX7_lies_60 : decode cX7_lies 60 = .ok (.imul, 1) := by decide +kernel
theorem dX7_lies_61 : decode cX7_lies 61 = .ok (.iload 5, 2) := by decide +kernel
theorem dX7_lies_63 : decode cX7_lies 63 = .ok (.iadd, 1) := by decide +kernel
theorem dX7_lies_64 : decode cX7_lies 64 = .ok (.iaload, 1) := by decide +kernel
theorem dX7_lies_65 : decode cX7_lies 65 = .ok (.iconst (-1), 1) := by decide +kernel
theorem dX7_lies_66 : decode cX7_lies 66 = .ok (.if_icmp .ne 7, 3) := by decide +kernel
theorem dX7_lies_69 : decode cX7_lies 69 = .ok (.iconst (-1), 1) := by decide +kernel
theorem dX7_lies_70 : decode cX7_lies 70 = .ok (.goto 10, 3) := by decide +kernel
theorem dX7_lies_73 : decode cX7_lies 73 = .ok (.aload_n 0, 1) := by decide +kernel
theorem dX7_lies_74 : decode cX7_lies 74 = .ok (.iload_n 1, 1) := by decide +kernel
theorem dX7_lies_75 : decode cX7_lies 75 = .ok (.iload 5, 2) := by decide +kernel
theorem dX7_lies_77 : decode cX7_lies 77 = .ok (.invokevirtual 310, 3) := by decide +kernel
theorem dX7_lies_80 : decode cX7_lies 80 = .ok (.istore 6, 2) := by decide +kernel
theorem dX7_lies_82 : decode cX7_lies 82 = .ok (.iload 6, 2) := by decide +kernel
theorem dX7_lies_84 : decode cX7_lies 84 = .ok (.iload_n 3, 1) := by decide +kernel
theorem dX7_lies_85 : decode cX7_lies 85 = .ok (.if_icmp .le 10, 3) := by decide +kernel
theorem dX7_lies_88 : decode cX7_lies 88 = .ok (.iload 6, 2) := by decide +kernel
theorem dX7_lies_90 : decode cX7_lies 90 = .ok (.istore_n 3, 1) := by decide +kernel
theorem dX7_lies_91 : decode cX7_lies 91 = .ok (.iload 5, 2) := by decide +kernel
theorem dX7_lies_93 : decode cX7_lies 93 = .ok (.istore 4, 2) := by decide +kernel
theorem dX7_lies_95 : decode cX7_lies 95 = .ok (.iinc 5 1, 3) := by decide +kernel
theorem dX7_lies_98 : decode cX7_lies 98 = .ok (.goto (-54), 3) := by decide +kernel
theorem dX7_lies_101 : decode cX7_lies 101 = .ok (.iload_n 2, 1) := by decide +kernel
theorem dX7_lies_102 : decode cX7_lies 102 = .ok (.ifCond .ne 8, 3) := by decide +kernel
theorem dX7_lies_105 : decode cX7_lies 105 = .ok (.iload 4, 2) := by decide +kernel
theorem dX7_lies_107 : decode cX7_lies 107 = .ok (.goto 4, 3) := by decide +kernel
theorem dX7_lies_110 : decode cX7_lies 110 = .ok (.iload_n 3, 1) := by decide +kernel
theorem dX7_lies_111 : decode cX7_lies 111 = .ok (.ireturn, 1) := by decide +kernel
theorem dX7_chair_0 : decode cX7_chair 0 = .ok (.aload_n 0, 1) := by decide +kernel
theorem dX7_chair_1 : decode cX7_chair 1 = .ok (.iload_n 1, 1) := by decide +kernel
theorem dX7_chair_2 : decode cX7_chair 2 = .ok (.invokevirtual 184, 3) := by decide +kernel
theorem dX7_chair_5 : decode cX7_chair 5 = .ok (.ifCond .eq 24, 3) := by decide +kernel
theorem dX7_chair_8 : decode cX7_chair 8 = .ok (.aload_n 0, 1) := by decide +kernel
theorem dX7_chair_9 : decode cX7_chair 9 = .ok (.getfield 125, 3) := by decide +kernel
theorem dX7_chair_12 : decode cX7_chair 12 = .ok (.iconst 2, 1) := by decide +kernel
theorem dX7_chair_13 : decode cX7_chair 13 = .ok (.if_icmp .eq 16, 3) := by decide +kernel
theorem dX7_chair_16 : decode cX7_chair 16 = .ok (.aload_n 0, 1) := by decide +kernel
theorem dX7_chair_17 : decode cX7_chair 17 = .ok (.getfield 161, 3) := by decide +kernel
theorem dX7_chair_20 : decode cX7_chair 20 = .ok (.aload_n 0, 1) := by decide +kernel
theorem dX7_chair_21 : decode cX7_chair 21 = .ok (.getfield 125, 3) := by decide +kernel
theorem dX7_chair_24 : decode cX7_chair 24 = .ok (.iconst 1, 1) := by decide +kernel
theorem dX7_chair_25 : decode cX7_chair 25 = .ok (.isub, 1) := by decide +kernel
theorem dX7_chair_26 : decode cX7_chair 26 = .ok (.if_icmp .ne 7, 3) := by decide +kernel
theorem dX7_chair_29 : decode cX7_chair 29 = .ok (.ldc2_w 119, 3) := by decide +kernel
theorem dX7_chair_32 : decode cX7_chair 32 = .ok (.lreturn, 1) := by decide +kernel
theorem dX7_chair_33 : decode cX7_chair 33 = .ok (.aload_n 0, 1) := by decide +kernel
theorem dX7_chair_34 : decode cX7_chair 34 = .ok (.invokevirtual 224, 3) := by decide +kernel
theorem dX7_chair_37 : decode cX7_chair 37 = .ok (.aload_n 0, 1) := by decide +kernel
theorem dX7_chair_38 : decode cX7_chair 38 = .ok (.invokevirtual 227, 3) := by decide +kernel
theorem dX7_chair_41 : decode cX7_chair 41 = .ok (.aload_n 0, 1) := by decide +kernel
theorem dX7_chair_42 : decode cX7_chair 42 = .ok (.invokevirtual 230, 3) := by decide +kernel
theorem dX7_chair_45 : decode cX7_chair 45 = .ok (.aload_n 0, 1) := by decide +kernel
theorem dX7_chair_46 : decode cX7_chair 46 = .ok (.getfield 76, 3) := by decide +kernel
theorem dX7_chair_49 : decode cX7_chair 49 = .ok (.iload_n 1, 1) := by decide +kernel
theorem dX7_chair_50 : decode cX7_chair 50 = .ok (.iaload, 1) := by decide +kernel
theorem dX7_chair_51 : decode cX7_chair 51 = .ok (.isub, 1) := by decide +kernel
theorem dX7_chair_52 : decode cX7_chair 52 = .ok (.istore_n 2, 1) := by decide +kernel
theorem dX7_chair_53 : decode cX7_chair 53 = .ok (.aload_n 0, 1) := by decide +kernel
theorem dX7_chair_54 : decode cX7_chair 54 = .ok (.invokevirtual 224, 3) := by decide +kernel
theorem dX7_chair_57 : decode cX7_chair 57 = .ok (.aload_n 0, 1) := by decide +kernel
theorem dX7_chair_58 : decode cX7_chair 58 = .ok (.iconst 0, 1) := by decide +kernel
theorem dX7_chair_59 : decode cX7_chair 59 = .ok (.putfield 194, 3) := by decide +kernel
theorem dX7_chair_62 : decode cX7_chair 62 = .ok (.iconst 0, 1) := by decide +kernel
theorem dX7_chair_63 : decode cX7_chair 63 = .ok (.istore_n 3, 1) := by decide +kernel
theorem dX7_chair_64 : decode cX7_chair 64 = .ok (.iload_n 3, 1) := by decide +kernel
theorem dX7_chair_65 : decode cX7_chair 65 = .ok (.aload_n 0, 1) := by decide +kernel
theorem dX7_chair_66 : decode cX7_chair 66 = .ok (.getfield 125, 3) := by decide +kernel
theorem dX7_chair_69 : decode cX7_chair 69 = .ok (.if_icmp .ge 44, 3) := by decide +kernel
theorem dX7_chair_72 : decode cX7_chair 72 = .ok (.aload_n 0, 1) := by decide +kernel
theorem dX7_chair_73 : decode cX7_chair 73 = .ok (.getfield 40, 3) := by decide +kernel
theorem dX7_chair_76 : decode cX7_chair 76 = .ok (.iload_n 3, 1) := by decide +kernel
theorem dX7_chair_77 : decode cX7_chair 77 = .ok (.iaload, 1) := by decide +kernel
theorem dX7_chair_78 : decode cX7_chair 78 = .ok (.iload_n 1, 1) := by decide +kernel
theorem dX7_chair_79 : decode cX7_chair 79 = .ok (.if_icmp .eq 28, 3) := by decide +kernel
theorem dX7_chair_82 : decode cX7_chair 82 = .ok (.aload_n 0, 1) := by decide +kernel
theorem dX7_chair_83 : decode cX7_chair 83 = .ok (.getfield 64, 3) := by decide +kernel
theorem dX7_chair_86 : decode cX7_chair 86 = .ok (.aload_n 0, 1) := by decide +kernel
theorem dX7_chair_87 : decode cX7_chair 87 = .ok (.getfield 194, 3) := by decide +kernel
theorem dX7_chair_90 : decode cX7_chair 90 = .ok (.aload_n 0, 1) := by decide +kernel
theorem dX7_chair_91 : decode cX7_chair 91 = .ok (.getfield 40, 3) := by decide +kernel
theorem dX7_chair_94 : decode cX7_chair 94 = .ok (.iload_n 3, 1) := by decide +kernel
theorem dX7_chair_95 : decode cX7_chair 95 = .ok (.iaload, 1) := by decide +kernel
theorem dX7_chair_96 : decode cX7_chair 96 = .ok (.iastore, 1) := by decide +kernel
theorem dX7_chair_97 : decode cX7_chair 97 = .ok (.aload_n 0, 1) := by decide +kernel
theorem dX7_chair_98 : decode cX7_chair 98 = .ok (.dup, 1) := by decide +kernel
theorem dX7_chair_99 : decode cX7_chair 99 = .ok (.getfield 194, 3) := by decide +kernel
theorem dX7_chair_102 : decode cX7_chair 102 = .ok (.iconst 1, 1) := by decide +kernel
theorem dX7_chair_103 : decode cX7_chair 103 = .ok (.iadd, 1) := by decide +kernel
theorem dX7_chair_104 : decode cX7_chair 104 = .ok (.putfield 194, 3) := by decide +kernel
theorem dX7_chair_107 : decode cX7_chair 107 = .ok (.iinc 3 1, 3) := by decide +kernel
theorem dX7_chair_110 : decode cX7_chair 110 = .ok (.goto (-46), 3) := by decide +kernel
theorem dX7_chair_113 : decode cX7_chair 113 = .ok (.aload_n 0, 1) := by decide +kernel
theorem dX7_chair_114 : decode cX7_chair 114 = .ok (.invokevirtual 227, 3) := by decide +kernel
theorem dX7_chair_117 : decode cX7_chair 117 = .ok (.aload_n 0, 1) := by decide +kernel
theorem dX7_chair_118 : decode cX7_chair 118 = .ok (.invokevirtual 230, 3) := by decide +kernel
theorem dX7_chair_121 : decode cX7_chair 121 = .ok (.iload_n 2, 1) := by decide +kernel
theorem dX7_chair_122 : decode cX7_chair 122 = .ok (.isub, 1) := by decide +kernel
theorem dX7_chair_123 : decode cX7_chair 123 = .ok (.i2l, 1) := by decide +kernel
theorem dX7_chair_124 : decode cX7_chair 124 = .ok (.lreturn, 1) := by decide +kernel
theorem dX7_law_0 : decode cX7_law 0 = .ok (.iload_n 1, 1) := by decide +kernel
theorem dX7_law_1 : decode cX7_law 1 = .ok (.iconst 0, 1) := by decide +kernel
theorem dX7_law_2 : decode cX7_law 2 = .ok (.iconst 1, 1) := by decide +kernel
theorem dX7_law_3 : decode cX7_law 3 = .ok (.invokestatic 121, 3) := by decide +kernel
theorem dX7_law_6 : decode cX7_law 6 = .ok (.ifCond .ne 6, 3) := by decide +kernel
theorem dX7_law_9 : decode cX7_law 9 = .ok (.bipush (-2), 2) := by decide +kernel
theorem dX7_law_11 : decode cX7_law 11 = .ok (.ireturn, 1) := by decide +kernel
theorem dX7_law_12 : decode cX7_law 12 = .ok (.aload_n 0, 1) := by decide +kernel
theorem dX7_law_13 : decode cX7_law 13 = .ok (.invokevirtual 190, 3) := by decide +kernel
theorem dX7_law_16 : decode cX7_law 16 = .ok (.ifCond .ne 6, 3) := by decide +kernel
theorem dX7_law_19 : decode cX7_law 19 = .ok (.bipush (-3), 2) := by decide +kernel
theorem dX7_law_21 : decode cX7_law 21 = .ok (.ireturn, 1) := by decide +kernel
theorem dX7_law_22 : decode cX7_law 22 = .ok (.iconst (-1), 1) := by decide +kernel
theorem dX7_law_23 : decode cX7_law 23 = .ok (.istore_n 2, 1) := by decide +kernel
theorem dX7_law_24 : decode cX7_law 24 = .ok (.iconst 0, 1) := by decide +kernel
theorem dX7_law_25 : decode cX7_law 25 = .ok (.istore_n 3, 1) := by decide +kernel
theorem dX7_law_26 : decode cX7_law 26 = .ok (.iconst 1, 1) := by decide +kernel
theorem dX7_law_27 : decode cX7_law 27 = .ok (.istore 4, 2) := by decide +kernel
theorem dX7_law_29 : decode cX7_law 29 = .ok (.iload 4, 2) := by decide +kernel
theorem dX7_law_31 : decode cX7_law 31 = .ok (.aload_n 0, 1) := by decide +kernel
theorem dX7_law_32 : decode cX7_law 32 = .ok (.getfield 125, 3) := by decide +kernel
theorem dX7_law_35 : decode cX7_law 35 = .ok (.if_icmp .ge 39, 3) := by decide +kernel
theorem dX7_law_38 : decode cX7_law 38 = .ok (.aload_n 0, 1) := by decide +kernel
theorem dX7_law_39 : decode cX7_law 39 = .ok (.invokevirtual 224, 3) := by decide +kernel
theorem dX7_law_42 : decode cX7_law 42 = .ok (.aload_n 0, 1) := by decide +kernel
theorem dX7_law_43 : decode cX7_law 43 = .ok (.iload 4, 2) := by decide +kernel
theorem dX7_law_45 : decode cX7_law 45 = .ok (.putfield 197, 3) := by decide +kernel
theorem dX7_law_48 : decode cX7_law 48 = .ok (.aload_n 0, 1) := by decide +kernel
theorem dX7_law_49 : decode cX7_law 49 = .ok (.invokevirtual 227, 3) := by decide +kernel
theorem dX7_law_52 : decode cX7_law 52 = .ok (.aload_n 0, 1) := by decide +kernel
theorem dX7_law_53 : decode cX7_law 53 = .ok (.invokevirtual 230, 3) := by decide +kernel
theorem dX7_law_56 : decode cX7_law 56 = .ok (.iload_n 2, 1) := by decide +kernel
theorem dX7_law_57 : decode cX7_law 57 = .ok (.if_icmp .le 11, 3) := by decide +kernel
theorem dX7_law_60 : decode cX7_law 60 = .ok (.aload_n 0, 1) := by decide +kernel
theorem dX7_law_61 : decode cX7_law 61 = .ok (.invokevirtual 230, 3) := by decide +kernel
theorem dX7_law_64 : decode cX7_law 64 = .ok (.istore_n 2, 1) := by decide +kernel
theorem dX7_law_65 : decode cX7_law 65 = .ok (.iload 4, 2) := by decide +kernel
theorem dX7_law_67 : decode cX7_law 67 = .ok (.istore_n 3, 1) := by decide +kernel
theorem dX7_law_68 : decode cX7_law 68 = .ok (.iinc 4 1, 3) := by decide +kernel
theorem dX7_law_71 : decode cX7_law 71 = .ok (.goto (-42), 3) := by decide +kernel
theorem dX7_law_74 : decode cX7_law 74 = .ok (.iload_n 1, 1) := by decide +kernel
theorem dX7_law_75 : decode cX7_law 75 = .ok (.ifCond .ne 7, 3) := by decide +kernel
theorem dX7_law_78 : decode cX7_law 78 = .ok (.iload_n 3, 1) := by decide +kernel
theorem dX7_law_79 : decode cX7_law 79 = .ok (.goto 4, 3) := by decide +kernel
theorem dX7_law_82 : decode cX7_law 82 = .ok (.iload_n 2, 1) := by decide +kernel
theorem dX7_law_83 : decode cX7_law 83 = .ok (.ireturn, 1) := by decide +kernel
theorem dX7_sheet_0 : decode cX7_sheet 0 = .ok (.aload_n 0, 1) := by decide +kernel
theorem dX7_sheet_1 : decode cX7_sheet 1 = .ok (.iconst 0, 1) := by decide +kernel
theorem dX7_sheet_2 : decode cX7_sheet 2 = .ok (.putfield 115, 3) := by decide +kernel
theorem dX7_sheet_5 : decode cX7_sheet 5 = .ok (.iload_n 1, 1) := by decide +kernel
theorem dX7_sheet_6 : decode cX7_sheet 6 = .ok (.invokestatic 134, 3) := by decide +kernel
theorem dX7_sheet_9 : decode cX7_sheet 9 = .ok (.ifCond .ne 5, 3) := by decide +kernel
theorem dX7_sheet_12 : decode cX7_sheet 12 = .ok (.iconst (-1), 1) := by decide +kernel
theorem dX7_sheet_13 : decode cX7_sheet 13 = .ok (.ireturn, 1) := by decide +kernel
theorem dX7_sheet_14 : decode cX7_sheet 14 = .ok (.iload_n 2, 1) := by decide +kernel
theorem dX7_sheet_15 : decode cX7_sheet 15 = .ok (.invokestatic 138, 3) := by decide +kernel
theorem dX7_sheet_18 : decode cX7_sheet 18 = .ok (.ifCond .eq 9, 3) := by decide +kernel
theorem dX7_sheet_21 : decode cX7_sheet 21 = .ok (.iload_n 3, 1) := by decide +kernel
theorem dX7_sheet_22 : decode cX7_sheet 22 = .ok (.bipush 100, 2) := by decide +kernel
theorem dX7_sheet_24 : decode cX7_sheet 24 = .ok (.if_icmp .le 6, 3) := by decide +kernel
theorem dX7_sheet_27 : decode cX7_sheet 27 = .ok (.bipush (-2), 2) := by decide +kernel
theorem dX7_sheet_29 : decode cX7_sheet 29 = .ok (.ireturn, 1) := by decide +kernel
theorem dX7_sheet_30 : decode cX7_sheet 30 = .ok (.iload_n 3, 1) := by decide +kernel
theorem dX7_sheet_31 : decode cX7_sheet 31 = .ok (.ifCond .ge 9, 3) := by decide +kernel
theorem dX7_sheet_34 : decode cX7_sheet 34 = .ok (.aload_n 0, 1) := by decide +kernel
theorem dX7_sheet_35 : decode cX7_sheet 35 = .ok (.iconst 4, 1) := by decide +kernel
theorem dX7_sheet_36 : decode cX7_sheet 36 = .ok (.invokevirtual 145, 3) := by decide +kernel
theorem dX7_sheet_39 : decode cX7_sheet 39 = .ok (.ireturn, 1) := by decide +kernel
theorem dX7_sheet_40 : decode cX7_sheet 40 = .ok (.aload_n 0, 1) := by decide +kernel
theorem dX7_sheet_41 : decode cX7_sheet 41 = .ok (.getfield 9, 3) := by decide +kernel
theorem dX7_sheet_44 : decode cX7_sheet 44 = .ok (.iload_n 1, 1) := by decide +kernel
theorem dX7_sheet_45 : decode cX7_sheet 45 = .ok (.iload_n 2, 1) := by decide +kernel
theorem dX7_sheet_46 : decode cX7_sheet 46 = .ok (.iastore, 1) := by decide +kernel
theorem dX7_sheet_47 : decode cX7_sheet 47 = .ok (.aload_n 0, 1) := by decide +kernel
theorem dX7_sheet_48 : decode cX7_sheet 48 = .ok (.getfield 13, 3) := by decide +kernel
theorem dX7_sheet_51 : decode cX7_sheet 51 = .ok (.iload_n 1, 1) := by decide +kernel
theorem dX7_sheet_52 : decode cX7_sheet 52 = .ok (.iload_n 3, 1) := by decide +kernel
theorem dX7_sheet_53 : decode cX7_sheet 53 = .ok (.iastore, 1) := by decide +kernel
theorem dX7_sheet_54 : decode cX7_sheet 54 = .ok (.iconst 0, 1) := by decide +kernel
theorem dX7_sheet_55 : decode cX7_sheet 55 = .ok (.istore 4, 2) := by decide +kernel
theorem dX7_sheet_57 : decode cX7_sheet 57 = .ok (.iload 4, 2) := by decide +kernel
theorem dX7_sheet_59 : decode cX7_sheet 59 = .ok (.bipush 100, 2) := by decide +kernel
theorem dX7_sheet_61 : decode cX7_sheet 61 = .ok (.if_icmp .ge 22, 3) := by decide +kernel
theorem dX7_sheet_64 : decode cX7_sheet 64 = .ok (.aload_n 0, 1) := by decide +kernel
theorem dX7_sheet_65 : decode cX7_sheet 65 = .ok (.getfield 16, 3) := by decide +kernel
theorem dX7_sheet_68 : decode cX7_sheet 68 = .ok (.bipush 100, 2) := by decide +kernel
theorem dX7_sheet_70 : decode cX7_sheet 70 = .ok (.iload_n 1, 1) := by decide +kernel
theorem dX7_sheet_71 : decode cX7_sheet 71 = .ok (.imul, 1) := by decide +kernel
theorem dX7_sheet_72 : decode cX7_sheet 72 = .ok (.iload 4, 2) := by decide +kernel
theorem dX7_sheet_74 : decode cX7_sheet 74 = .ok (.iadd, 1) := by decide +kernel
theorem dX7_sheet_75 : decode cX7_sheet 75 = .ok (.iconst 0, 1) := by decide +kernel
theorem dX7_sheet_76 : decode cX7_sheet 76 = .ok (.iastore, 1) := by decide +kernel
theorem dX7_sheet_77 : decode cX7_sheet 77 = .ok (.iinc 4 1, 3) := by decide +kernel
theorem dX7_sheet_80 : decode cX7_sheet 80 = .ok (.goto (-23), 3) := by decide +kernel
theorem dX7_sheet_83 : decode cX7_sheet 83 = .ok (.iconst 1, 1) := by decide +kernel
theorem dX7_sheet_84 : decode cX7_sheet 84 = .ok (.ireturn, 1) := by decide +kernel
theorem dX7_lose_0 : decode cX7_lose 0 = .ok (.iload_n 1, 1) := by decide +kernel
theorem dX7_lose_1 : decode cX7_lose 1 = .ok (.invokestatic 134, 3) := by decide +kernel
theorem dX7_lose_4 : decode cX7_lose 4 = .ok (.ifCond .ne 5, 3) := by decide +kernel
theorem dX7_lose_7 : decode cX7_lose 7 = .ok (.iconst (-1), 1) := by decide +kernel
theorem dX7_lose_8 : decode cX7_lose 8 = .ok (.ireturn, 1) := by decide +kernel
theorem dX7_lose_9 : decode cX7_lose 9 = .ok (.aload_n 0, 1) := by decide +kernel
theorem dX7_lose_10 : decode cX7_lose 10 = .ok (.getfield 9, 3) := by decide +kernel
theorem dX7_lose_13 : decode cX7_lose 13 = .ok (.iload_n 1, 1) := by decide +kernel
theorem dX7_lose_14 : decode cX7_lose 14 = .ok (.iaload, 1) := by decide +kernel
theorem dX7_lose_15 : decode cX7_lose 15 = .ok (.bipush (-9), 2) := by decide +kernel
theorem dX7_lose_17 : decode cX7_lose 17 = .ok (.if_icmp .ne 7, 3) := by decide +kernel
theorem dX7_lose_20 : decode cX7_lose 20 = .ok (.iconst 0, 1) := by decide +kernel
theorem dX7_lose_21 : decode cX7_lose 21 = .ok (.goto 4, 3) := by decide +kernel
theorem dX7_lose_24 : decode cX7_lose 24 = .ok (.iconst 1, 1) := by decide +kernel
theorem dX7_lose_25 : decode cX7_lose 25 = .ok (.istore_n 2, 1) := by decide +kernel
theorem dX7_lose_26 : decode cX7_lose 26 = .ok (.aload_n 0, 1) := by decide +kernel
theorem dX7_lose_27 : decode cX7_lose 27 = .ok (.getfield 9, 3) := by decide +kernel
theorem dX7_lose_30 : decode cX7_lose 30 = .ok (.iload_n 1, 1) := by decide +kernel
theorem dX7_lose_31 : decode cX7_lose 31 = .ok (.bipush (-9), 2) := by decide +kernel
theorem dX7_lose_33 : decode cX7_lose 33 = .ok (.iastore, 1) := by decide +kernel
theorem dX7_lose_34 : decode cX7_lose 34 = .ok (.iload_n 2, 1) := by decide +kernel
theorem dX7_lose_35 : decode cX7_lose 35 = .ok (.ireturn, 1) := by decide +kernel
theorem dX7_put_0 : decode cX7_put 0 = .ok (.aload_n 0, 1) := by decide +kernel
theorem dX7_put_1 : decode cX7_put 1 = .ok (.iconst 0, 1) := by decide +kernel
theorem dX7_put_2 : decode cX7_put 2 = .ok (.putfield 115, 3) := by decide +kernel
theorem dX7_put_5 : decode cX7_put 5 = .ok (.iload_n 1, 1) := by decide +kernel
theorem dX7_put_6 : decode cX7_put 6 = .ok (.invokestatic 134, 3) := by decide +kernel
theorem dX7_put_9 : decode cX7_put 9 = .ok (.ifCond .ne 5, 3) := by decide +kernel
theorem dX7_put_12 : decode cX7_put 12 = .ok (.iconst (-1), 1) := by decide +kernel
theorem dX7_put_13 : decode cX7_put 13 = .ok (.ireturn, 1) := by decide +kernel
theorem dX7_put_14 : decode cX7_put 14 = .ok (.aload_n 0, 1) := by decide +kernel
theorem dX7_put_15 : decode cX7_put 15 = .ok (.getfield 9, 3) := by decide +kernel
theorem dX7_put_18 : decode cX7_put 18 = .ok (.iload_n 1, 1) := by decide +kernel
theorem dX7_put_19 : decode cX7_put 19 = .ok (.iaload, 1) := by decide +kernel
theorem dX7_put_20 : decode cX7_put 20 = .ok (.bipush (-9), 2) := by decide +kernel
theorem dX7_put_22 : decode cX7_put 22 = .ok (.if_icmp .ne 9, 3) := by decide +kernel
theorem dX7_put_25 : decode cX7_put 25 = .ok (.aload_n 0, 1) := by decide +kernel
theorem dX7_put_26 : decode cX7_put 26 = .ok (.iconst 1, 1) := by decide +kernel
theorem dX7_put_27 : decode cX7_put 27 = .ok (.invokevirtual 145, 3) := by decide +kernel
theorem dX7_put_30 : decode cX7_put 30 = .ok (.ireturn, 1) := by decide +kernel
theorem dX7_put_31 : decode cX7_put 31 = .ok (.iload_n 2, 1) := by decide +kernel
theorem dX7_put_32 : decode cX7_put 32 = .ok (.iconst 0, 1) := by decide +kernel
theorem dX7_put_33 : decode cX7_put 33 = .ok (.aload_n 0, 1) := by decide +kernel
theorem dX7_put_34 : decode cX7_put 34 = .ok (.getfield 13, 3) := by decide +kernel
theorem dX7_put_37 : decode cX7_put 37 = .ok (.iload_n 1, 1) := by decide +kernel
theorem dX7_put_38 : decode cX7_put 38 = .ok (.iaload, 1) := by decide +kernel
theorem dX7_put_39 : decode cX7_put 39 = .ok (.iconst 1, 1) := by decide +kernel
theorem dX7_put_40 : decode cX7_put 40 = .ok (.isub, 1) := by decide +kernel
theorem dX7_put_41 : decode cX7_put 41 = .ok (.invokestatic 121, 3) := by decide +kernel
theorem dX7_put_44 : decode cX7_put 44 = .ok (.ifCond .ne 9, 3) := by decide +kernel
theorem dX7_put_47 : decode cX7_put 47 = .ok (.aload_n 0, 1) := by decide +kernel
theorem dX7_put_48 : decode cX7_put 48 = .ok (.iconst 3, 1) := by decide +kernel
theorem dX7_put_49 : decode cX7_put 49 = .ok (.invokevirtual 145, 3) := by decide +kernel
theorem dX7_put_52 : decode cX7_put 52 = .ok (.ireturn, 1) := by decide +kernel
theorem dX7_put_53 : decode cX7_put 53 = .ok (.aload_n 0, 1) := by decide +kernel
theorem dX7_put_54 : decode cX7_put 54 = .ok (.getfield 16, 3) := by decide +kernel
theorem dX7_put_57 : decode cX7_put 57 = .ok (.bipush 100, 2) := by decide +kernel
theorem dX7_put_59 : decode cX7_put 59 = .ok (.iload_n 1, 1) := by decide +kernel
theorem dX7_put_60 : decode cX7_put 60 = .ok (.imul, 1) := by decide +kernel
theorem dX7_put_61 : decode cX7_put 61 = .ok (.iload_n 2, 1) := by decide +kernel
theorem dX7_put_62 : decode cX7_put 62 = .ok (.iadd, 1) := by decide +kernel
theorem dX7_put_63 : decode cX7_put 63 = .ok (.aload_n 0, 1) := by decide +kernel
theorem dX7_put_64 : decode cX7_put 64 = .ok (.getfield 9, 3) := by decide +kernel
theorem dX7_put_67 : decode cX7_put 67 = .ok (.iload_n 1, 1) := by decide +kernel
theorem dX7_put_68 : decode cX7_put 68 = .ok (.iaload, 1) := by decide +kernel
theorem dX7_put_69 : decode cX7_put 69 = .ok (.ifCond .ne 8, 3) := by decide +kernel
theorem dX7_put_72 : decode cX7_put 72 = .ok (.iload_n 3, 1) := by decide +kernel
theorem dX7_put_73 : decode cX7_put 73 = .ok (.i2b, 1) := by decide +kernel
theorem dX7_put_74 : decode cX7_put 74 = .ok (.goto 19, 3) := by decide +kernel
theorem dX7_put_77 : decode cX7_put 77 = .ok (.aload_n 0, 1) := by decide +kernel
theorem dX7_put_78 : decode cX7_put 78 = .ok (.getfield 9, 3) := by decide +kernel
theorem dX7_put_81 : decode cX7_put 81 = .ok (.iload_n 1, 1) := by decide +kernel
theorem dX7_put_82 : decode cX7_put 82 = .ok (.iaload, 1) := by decide +kernel
theorem dX7_put_83 : decode cX7_put 83 = .ok (.iconst 1, 1) := by decide +kernel
theorem dX7_put_84 : decode cX7_put 84 = .ok (.if_icmp .ne 8, 3) := by decide +kernel
theorem dX7_put_87 : decode cX7_put 87 = .ok (.iload_n 3, 1) := by decide +kernel
theorem dX7_put_88 : decode cX7_put 88 = .ok (.i2s, 1) := by decide +kernel
theorem dX7_put_89 : decode cX7_put 89 = .ok (.goto 4, 3) := by decide +kernel
theorem dX7_put_92 : decode cX7_put 92 = .ok (.iload_n 3, 1) := by decide +kernel
theorem dX7_put_93 : decode cX7_put 93 = .ok (.iastore, 1) := by decide +kernel
theorem dX7_put_94 : decode cX7_put 94 = .ok (.iconst 1, 1) := by decide +kernel
theorem dX7_put_95 : decode cX7_put 95 = .ok (.ireturn, 1) := by decide +kernel
theorem dX7_cell_0 : decode cX7_cell 0 = .ok (.aload_n 0, 1) := by decide +kernel
theorem dX7_cell_1 : decode cX7_cell 1 = .ok (.iconst 0, 1) := by decide +kernel
theorem dX7_cell_2 : decode cX7_cell 2 = .ok (.putfield 115, 3) := by decide +kernel
theorem dX7_cell_5 : decode cX7_cell 5 = .ok (.iload_n 1, 1) := by decide +kernel
theorem dX7_cell_6 : decode cX7_cell 6 = .ok (.invokestatic 134, 3) := by decide +kernel
theorem dX7_cell_9 : decode cX7_cell 9 = .ok (.ifCond .eq 10, 3) := by decide +kernel
theorem dX7_cell_12 : decode cX7_cell 12 = .ok (.iload_n 3, 1) := by decide +kernel
theorem dX7_cell_13 : decode cX7_cell 13 = .ok (.invokestatic 138, 3) := by decide +kernel
theorem dX7_cell_16 : decode cX7_cell 16 = .ok (.ifCond .ne 7, 3) := by decide +kernel
theorem dX7_cell_19 : decode cX7_cell 19 = .ok (.ldc2_w 119, 3) := by decide +kernel
theorem dX7_cell_22 : decode cX7_cell 22 = .ok (.lreturn, 1) := by decide +kernel
theorem dX7_cell_23 : decode cX7_cell 23 = .ok (.aload_n 0, 1) := by decide +kernel
theorem dX7_cell_24 : decode cX7_cell 24 = .ok (.getfield 9, 3) := by decide +kernel
theorem dX7_cell_27 : decode cX7_cell 27 = .ok (.iload_n 1, 1) := by decide +kernel
theorem dX7_cell_28 : decode cX7_cell 28 = .ok (.iaload, 1) := by decide +kernel
theorem dX7_cell_29 : decode cX7_cell 29 = .ok (.bipush (-9), 2) := by decide +kernel
theorem dX7_cell_31 : decode cX7_cell 31 = .ok (.if_icmp .eq 19, 3) := by decide +kernel
theorem dX7_cell_34 : decode cX7_cell 34 = .ok (.aload_n 0, 1) := by decide +kernel
theorem dX7_cell_35 : decode cX7_cell 35 = .ok (.getfield 9, 3) := by decide +kernel
theorem dX7_cell_38 : decode cX7_cell 38 = .ok (.iload_n 1, 1) := by decide +kernel
theorem dX7_cell_39 : decode cX7_cell 39 = .ok (.iaload, 1) := by decide +kernel
theorem dX7_cell_40 : decode cX7_cell 40 = .ok (.iload_n 3, 1) := by decide +kernel
theorem dX7_cell_41 : decode cX7_cell 41 = .ok (.if_icmp .eq 9, 3) := by decide +kernel
theorem dX7_cell_44 : decode cX7_cell 44 = .ok (.aload_n 0, 1) := by decide +kernel
theorem dX7_cell_45 : decode cX7_cell 45 = .ok (.iconst 2, 1) := by decide +kernel
theorem dX7_cell_46 : decode cX7_cell 46 = .ok (.invokevirtual 313, 3) := by decide +kernel
theorem dX7_cell_49 : decode cX7_cell 49 = .ok (.lreturn, 1) := by decide +kernel
theorem dX7_cell_50 : decode cX7_cell 50 = .ok (.aload_n 0, 1) := by decide +kernel
theorem dX7_cell_51 : decode cX7_cell 51 = .ok (.getfield 9, 3) := by decide +kernel
theorem dX7_cell_54 : decode cX7_cell 54 = .ok (.iload_n 1, 1) := by decide +kernel
theorem dX7_cell_55 : decode cX7_cell 55 = .ok (.iaload, 1) := by decide +kernel
theorem dX7_cell_56 : decode cX7_cell 56 = .ok (.bipush (-9), 2) := by decide +kernel
theorem dX7_cell_58 : decode cX7_cell 58 = .ok (.if_icmp .ne 9, 3) := by decide +kernel
theorem dX7_cell_61 : decode cX7_cell 61 = .ok (.aload_n 0, 1) := by decide +kernel
theorem dX7_cell_62 : decode cX7_cell 62 = .ok (.iconst 1, 1) := by decide +kernel
theorem dX7_cell_63 : decode cX7_cell 63 = .ok (.invokevirtual 313, 3) := by decide +kernel
theorem dX7_cell_66 : decode cX7_cell 66 = .ok (.lreturn, 1) := by decide +kernel
theorem dX7_cell_67 : decode cX7_cell 67 = .ok (.iload_n 2, 1) := by decide +kernel
theorem dX7_cell_68 : decode cX7_cell 68 = .ok (.iconst 0, 1) := by decide +kernel
theorem dX7_cell_69 : decode cX7_cell 69 = .ok (.aload_n 0, 1) := by decide +kernel
theorem dX7_cell_70 : decode cX7_cell 70 = .ok (.getfield 13, 3) := by decide +kernel
theorem dX7_cell_73 : decode cX7_cell 73 = .ok (.iload_n 1, 1) := by decide +kernel
theorem dX7_cell_74 : decode cX7_cell 74 = .ok (.iaload, 1) := by decide +kernel
theorem dX7_cell_75 : decode cX7_cell 75 = .ok (.iconst 1, 1) := by decide +kernel
theorem dX7_cell_76 : decode cX7_cell 76 = .ok (.isub, 1) := by decide +kernel
theorem dX7_cell_77 : decode cX7_cell 77 = .ok (.invokestatic 121, 3) := by decide +kernel
theorem dX7_cell_80 : decode cX7_cell 80 = .ok (.ifCond .ne 9, 3) := by decide +kernel
theorem dX7_cell_83 : decode cX7_cell 83 = .ok (.aload_n 0, 1) := by decide +kernel
theorem dX7_cell_84 : decode cX7_cell 84 = .ok (.iconst 3, 1) := by decide +kernel
theorem dX7_cell_85 : decode cX7_cell 85 = .ok (.invokevirtual 313, 3) := by decide +kernel
theorem dX7_cell_88 : decode cX7_cell 88 = .ok (.lreturn, 1) := by decide +kernel
theorem dX7_cell_89 : decode cX7_cell 89 = .ok (.aload_n 0, 1) := by decide +kernel
theorem dX7_cell_90 : decode cX7_cell 90 = .ok (.getfield 16, 3) := by decide +kernel
theorem dX7_cell_93 : decode cX7_cell 93 = .ok (.bipush 100, 2) := by decide +kernel
theorem dX7_cell_95 : decode cX7_cell 95 = .ok (.iload_n 1, 1) := by decide +kernel
theorem dX7_cell_96 : decode cX7_cell 96 = .ok (.imul, 1) := by decide +kernel
theorem dX7_cell_97 : decode cX7_cell 97 = .ok (.iload_n 2, 1) := by decide +kernel
theorem dX7_cell_98 : decode cX7_cell 98 = .ok (.iadd, 1) := by decide +kernel
theorem dX7_cell_99 : decode cX7_cell 99 = .ok (.iaload, 1) := by decide +kernel
theorem dX7_cell_100 : decode cX7_cell 100 = .ok (.i2l, 1) := by decide +kernel
theorem dX7_cell_101 : decode cX7_cell 101 = .ok (.lreturn, 1) := by decide +kernel
theorem dX7_copy_0 : decode cX7_copy 0 = .ok (.aload_n 0, 1) := by decide +kernel
theorem dX7_copy_1 : decode cX7_copy 1 = .ok (.iconst 0, 1) := by decide +kernel
theorem dX7_copy_2 : decode cX7_copy 2 = .ok (.putfield 115, 3) := by decide +kernel
theorem dX7_copy_5 : decode cX7_copy 5 = .ok (.iload_n 1, 1) := by decide +kernel
theorem dX7_copy_6 : decode cX7_copy 6 = .ok (.invokestatic 134, 3) := by decide +kernel
theorem dX7_copy_9 : decode cX7_copy 9 = .ok (.ifCond .eq 10, 3) := by decide +kernel
theorem dX7_copy_12 : decode cX7_copy 12 = .ok (.iload_n 3, 1) := by decide +kernel
theorem dX7_copy_13 : decode cX7_copy 13 = .ok (.invokestatic 134, 3) := by decide +kernel
theorem dX7_copy_16 : decode cX7_copy 16 = .ok (.ifCond .ne 5, 3) := by decide +kernel
theorem dX7_copy_19 : decode cX7_copy 19 = .ok (.iconst (-1), 1) := by decide +kernel
theorem dX7_copy_20 : decode cX7_copy 20 = .ok (.ireturn, 1) := by decide +kernel
theorem dX7_copy_21 : decode cX7_copy 21 = .ok (.aload_n 0, 1) := by decide +kernel
theorem dX7_copy_22 : decode cX7_copy 22 = .ok (.getfield 9, 3) := by decide +kernel
theorem dX7_copy_25 : decode cX7_copy 25 = .ok (.iload_n 1, 1) := by decide +kernel
theorem dX7_copy_26 : decode cX7_copy 26 = .ok (.iaload, 1) := by decide +kernel
theorem dX7_copy_27 : decode cX7_copy 27 = .ok (.bipush (-9), 2) := by decide +kernel
theorem dX7_copy_29 : decode cX7_copy 29 = .ok (.if_icmp .eq 14, 3) := by decide +kernel
theorem dX7_copy_32 : decode cX7_copy 32 = .ok (.aload_n 0, 1) := by decide +kernel
theorem dX7_copy_33 : decode cX7_copy 33 = .ok (.getfield 9, 3) := by decide +kernel
theorem dX7_copy_36 : decode cX7_copy 36 = .ok (.iload_n 3, 1) := by decide +kernel
theorem dX7_copy_37 : decode cX7_copy 37 = .ok (.iaload, 1) := by decide +kernel
theorem dX7_copy_38 : decode cX7_copy 38 = .ok (.bipush (-9), 2) := by decide +kernel
theorem dX7_copy_40 : decode cX7_copy 40 = .ok (.if_icmp .ne 9, 3) := by decide +kernel
theorem dX7_copy_43 : decode cX7_copy 43 = .ok (.aload_n 0, 1) := by decide +kernel
theorem dX7_copy_44 : decode cX7_copy 44 = .ok (.iconst 1, 1) := by decide +kernel
theorem dX7_copy_45 : decode cX7_copy 45 = .ok (.invokevirtual 145, 3) := by decide +kernel
theorem dX7_copy_48 : decode cX7_copy 48 = .ok (.ireturn, 1) := by decide +kernel
theorem dX7_copy_49 : decode cX7_copy 49 = .ok (.aload_n 0, 1) := by decide +kernel
theorem dX7_copy_50 : decode cX7_copy 50 = .ok (.getfield 9, 3) := by decide +kernel
theorem dX7_copy_53 : decode cX7_copy 53 = .ok (.iload_n 1, 1) := by decide +kernel
theorem dX7_copy_54 : decode cX7_copy 54 = .ok (.iaload, 1) := by decide +kernel
theorem dX7_copy_55 : decode cX7_copy 55 = .ok (.aload_n 0, 1) := by decide +kernel
theorem dX7_copy_56 : decode cX7_copy 56 = .ok (.getfield 9, 3) := by decide +kernel
theorem dX7_copy_59 : decode cX7_copy 59 = .ok (.iload_n 3, 1) := by decide +kernel
theorem dX7_copy_60 : decode cX7_copy 60 = .ok (.iaload, 1) := by decide +kernel
theorem dX7_copy_61 : decode cX7_copy 61 = .ok (.if_icmp .eq 9, 3) := by decide +kernel
theorem dX7_copy_64 : decode cX7_copy 64 = .ok (.aload_n 0, 1) := by decide +kernel
theorem dX7_copy_65 : decode cX7_copy 65 = .ok (.iconst 2, 1) := by decide +kernel
theorem dX7_copy_66 : decode cX7_copy 66 = .ok (.invokevirtual 145, 3) := by decide +kernel
theorem dX7_copy_69 : decode cX7_copy 69 = .ok (.ireturn, 1) := by decide +kernel
theorem dX7_copy_70 : decode cX7_copy 70 = .ok (.iload_n 2, 1) := by decide +kernel
theorem dX7_copy_71 : decode cX7_copy 71 = .ok (.ifCond .lt 38, 3) := by decide +kernel
theorem dX7_copy_74 : decode cX7_copy 74 = .ok (.iload 4, 2) := by decide +kernel
theorem dX7_copy_76 : decode cX7_copy 76 = .ok (.ifCond .lt 33, 3) := by decide +kernel
theorem dX7_copy_79 : decode cX7_copy 79 = .ok (.iload 5, 2) := by decide +kernel
theorem dX7_copy_81 : decode cX7_copy 81 = .ok (.ifCond .lt 28, 3) := by decide +kernel
theorem dX7_copy_84 : decode cX7_copy 84 = .ok (.iload_n 2, 1) := by decide +kernel
theorem dX7_copy_85 : decode cX7_copy 85 = .ok (.aload_n 0, 1) := by decide +kernel
theorem dX7_copy_86 : decode cX7_copy 86 = .ok (.getfield 13, 3) := by decide +kernel
theorem dX7_copy_89 : decode cX7_copy 89 = .ok (.iload_n 1, 1) := by decide +kernel
theorem dX7_copy_90 : decode cX7_copy 90 = .ok (.iaload, 1) := by decide +kernel
theorem dX7_copy_91 : decode cX7_copy 91 = .ok (.if_icmp .gt 18, 3) := by decide +kernel
theorem dX7_copy_94 : decode cX7_copy 94 = .ok (.iload 4, 2) := by decide +kernel
theorem dX7_copy_96 : decode cX7_copy 96 = .ok (.aload_n 0, 1) := by decide +kernel
theorem dX7_copy_97 : decode cX7_copy 97 = .ok (.getfield 13, 3) := by decide +kernel
theorem dX7_copy_100 : decode cX7_copy 100 = .ok (.iload_n 3, 1) := by decide +kernel
theorem dX7_copy_101 : decode cX7_copy 101 = .ok (.iaload, 1) := by decide +kernel
theorem dX7_copy_102 : decode cX7_copy 102 = .ok (.if_icmp .gt 7, 3) := by decide +kernel
theorem dX7_copy_105 : decode cX7_copy 105 = .ok (.iconst 1, 1) := by decide +kernel
theorem dX7_copy_106 : decode cX7_copy 106 = .ok (.goto 4, 3) := by decide +kernel
theorem dX7_copy_109 : decode cX7_copy 109 = .ok (.iconst 0, 1) := by decide +kernel
theorem dX7_copy_110 : decode cX7_copy 110 = .ok (.istore 6, 2) := by decide +kernel
theorem dX7_copy_112 : decode cX7_copy 112 = .ok (.iload 6, 2) := by decide +kernel
theorem dX7_copy_114 : decode cX7_copy 114 = .ok (.ifCond .eq 30, 3) := by decide +kernel
theorem dX7_copy_117 : decode cX7_copy 117 = .ok (.iload 5, 2) := by decide +kernel
theorem dX7_copy_119 : decode cX7_copy 119 = .ok (.aload_n 0, 1) := by decide +kernel
theorem dX7_copy_120 : decode cX7_copy 120 = .ok (.getfield 13, 3) := by decide +kernel
theorem dX7_copy_123 : decode cX7_copy 123 = .ok (.iload_n 1, 1) := by decide +kernel
theorem dX7_copy_124 : decode cX7_copy 124 = .ok (.iaload, 1) := by decide +kernel
theorem dX7_copy_125 : decode cX7_copy 125 = .ok (.iload_n 2, 1) := by decide +kernel
theorem dX7_copy_126 : decode cX7_copy 126 = .ok (.isub, 1) := by decide +kernel
theorem dX7_copy_127 : decode cX7_copy 127 = .ok (.if_icmp .gt 17, 3) := by decide +kernel
theorem dX7_copy_130 : decode cX7_copy 130 = .ok (.iload 5, 2) := by decide +kernel
theorem dX7_copy_132 : decode cX7_copy 132 = .ok (.aload_n 0, 1) := by decide +kernel
theorem dX7_copy_133 : decode cX7_copy 133 = .ok (.getfield 13, 3) := by decide +kernel
theorem dX7_copy_136 : decode cX7_copy 136 = .ok (.iload_n 3, 1) := by decide +kernel
theorem dX7_copy_137 : decode cX7_copy 137 = .ok (.iaload, 1) := by decide +kernel
theorem dX7_copy_138 : decode cX7_copy 138 = .ok (.iload 4, 2) := by decide +kernel
theorem dX7_copy_140 : decode cX7_copy 140 = .ok (.isub, 1) := by decide +kernel
theorem dX7_copy_141 : decode cX7_copy 141 = .ok (.if_icmp .le 9, 3) := by decide +kernel
theorem dX7_copy_144 : decode cX7_copy 144 = .ok (.aload_n 0, 1) := by decide +kernel
theorem dX7_copy_145 : decode cX7_copy 145 = .ok (.iconst 3, 1) := by decide +kernel
theorem dX7_copy_146 : decode cX7_copy 146 = .ok (.invokevirtual 145, 3) := by decide +kernel
theorem dX7_copy_149 : decode cX7_copy 149 = .ok (.ireturn, 1) := by decide +kernel
theorem dX7_copy_150 : decode cX7_copy 150 = .ok (.iload_n 2, 1) := by decide +kernel
theorem dX7_copy_151 : decode cX7_copy 151 = .ok (.iload 4, 2) := by decide +kernel
theorem dX7_copy_153 : decode cX7_copy 153 = .ok (.if_icmp .ge 7, 3) := by decide +kernel
theorem dX7_copy_156 : decode cX7_copy 156 = .ok (.iconst 1, 1) := by decide +kernel
theorem dX7_copy_157 : decode cX7_copy 157 = .ok (.goto 4, 3) := by decide +kernel
theorem dX7_copy_160 : decode cX7_copy 160 = .ok (.iconst 0, 1) := by decide +kernel
theorem dX7_copy_161 : decode cX7_copy 161 = .ok (.istore 7, 2) := by decide +kernel
theorem dX7_copy_163 : decode cX7_copy 163 = .ok (.iconst 0, 1) := by decide +kernel
theorem dX7_copy_164 : decode cX7_copy 164 = .ok (.istore 8, 2) := by decide +kernel
theorem dX7_copy_166 : decode cX7_copy 166 = .ok (.iload 8, 2) := by decide +kernel
theorem dX7_copy_168 : decode cX7_copy 168 = .ok (.iload 5, 2) := by decide +kernel
theorem dX7_copy_170 : decode cX7_copy 170 = .ok (.if_icmp .ge 57, 3) := by decide +kernel
theorem dX7_copy_173 : decode cX7_copy 173 = .ok (.iload 7, 2) := by decide +kernel
theorem dX7_copy_175 : decode cX7_copy 175 = .ok (.ifCond .eq 13, 3) := by decide +kernel
theorem dX7_copy_178 : decode cX7_copy 178 = .ok (.iload 5, 2) := by decide +kernel
theorem dX7_copy_180 : decode cX7_copy 180 = .ok (.iconst 1, 1) := by decide +kernel
theorem dX7_copy_181 : decode cX7_copy 181 = .ok (.isub, 1) := by decide +kernel
theorem dX7_copy_182 : decode cX7_copy 182 = .ok (.iload 8, 2) := by decide +kernel
theorem dX7_copy_184 : decode cX7_copy 184 = .ok (.isub, 1) := by decide +kernel
theorem dX7_copy_185 : decode cX7_copy 185 = .ok (.goto 5, 3) := by decide +kernel
theorem dX7_copy_188 : decode cX7_copy 188 = .ok (.iload 8, 2) := by decide +kernel
theorem dX7_copy_190 : decode cX7_copy 190 = .ok (.istore 9, 2) := by decide +kernel
theorem dX7_copy_192 : decode cX7_copy 192 = .ok (.aload_n 0, 1) := by decide +kernel
theorem dX7_copy_193 : decode cX7_copy 193 = .ok (.getfield 16, 3) := by decide +kernel
theorem dX7_copy_196 : decode cX7_copy 196 = .ok (.bipush 100, 2) := by decide +kernel
theorem dX7_copy_198 : decode cX7_copy 198 = .ok (.iload_n 3, 1) := by decide +kernel
theorem dX7_copy_199 : decode cX7_copy 199 = .ok (.imul, 1) := by decide +kernel
theorem dX7_copy_200 : decode cX7_copy 200 = .ok (.iload 4, 2) := by decide +kernel
theorem dX7_copy_202 : decode cX7_copy 202 = .ok (.iadd, 1) := by decide +kernel
theorem dX7_copy_203 : decode cX7_copy 203 = .ok (.iload 9, 2) := by decide +kernel
theorem dX7_copy_205 : decode cX7_copy 205 = .ok (.iadd, 1) := by decide +kernel
theorem dX7_copy_206 : decode cX7_copy 206 = .ok (.aload_n 0, 1) := by decide +kernel
theorem dX7_copy_207 : decode cX7_copy 207 = .ok (.getfield 16, 3) := by decide +kernel
theorem dX7_copy_210 : decode cX7_copy 210 = .ok (.bipush 100, 2) := by decide +kernel
theorem dX7_copy_212 : decode cX7_copy 212 = .ok (.iload_n 1, 1) := by decide +kernel
theorem dX7_copy_213 : decode cX7_copy 213 = .ok (.imul, 1) := by decide +kernel
theorem dX7_copy_214 : decode cX7_copy 214 = .ok (.iload_n 2, 1) := by decide +kernel
theorem dX7_copy_215 : decode cX7_copy 215 = .ok (.iadd, 1) := by decide +kernel
theorem dX7_copy_216 : decode cX7_copy 216 = .ok (.iload 9, 2) := by decide +kernel
theorem dX7_copy_218 : decode cX7_copy 218 = .ok (.iadd, 1) := by decide +kernel
theorem dX7_copy_219 : decode cX7_copy 219 = .ok (.iaload, 1) := by decide +kernel
theorem dX7_copy_220 : decode cX7_copy 220 = .ok (.iastore, 1) := by decide +kernel
theorem dX7_copy_221 : decode cX7_copy 221 = .ok (.iinc 8 1, 3) := by decide +kernel
theorem dX7_copy_224 : decode cX7_copy 224 = .ok (.goto (-58), 3) := by decide +kernel
theorem dX7_copy_227 : decode cX7_copy 227 = .ok (.iload 5, 2) := by decide +kernel
theorem dX7_copy_229 : decode cX7_copy 229 = .ok (.ireturn, 1) := by decide +kernel
theorem dX7_begins_0 : decode cX7_begins 0 = .ok (.aload_n 0, 1) := by decide +kernel
theorem dX7_begins_1 : decode cX7_begins 1 = .ok (.bipush 31, 2) := by decide +kernel
theorem dX7_begins_3 : decode cX7_begins 3 = .ok (.aload_n 0, 1) := by decide +kernel
theorem dX7_begins_4 : decode cX7_begins 4 = .ok (.getfield 316, 3) := by decide +kernel
theorem dX7_begins_7 : decode cX7_begins 7 = .ok (.imul, 1) := by decide +kernel
theorem dX7_begins_8 : decode cX7_begins 8 = .ok (.iload_n 1, 1) := by decide +kernel
theorem dX7_begins_9 : decode cX7_begins 9 = .ok (.iadd, 1) := by decide +kernel
theorem dX7_begins_10 : decode cX7_begins 10 = .ok (.putfield 316, 3) := by decide +kernel
theorem dX7_begins_13 : decode cX7_begins 13 = .ok (.return_, 1) := by decide +kernel
theorem dX7_tell_0 : decode cX7_tell 0 = .ok (.aload_n 0, 1) := by decide +kernel
theorem dX7_tell_1 : decode cX7_tell 1 = .ok (.iload_n 1, 1) := by decide +kernel
theorem dX7_tell_2 : decode cX7_tell 2 = .ok (.invokevirtual 184, 3) := by decide +kernel
theorem dX7_tell_5 : decode cX7_tell 5 = .ok (.ifCond .ne 5, 3) := by decide +kernel
theorem dX7_tell_8 : decode cX7_tell 8 = .ok (.iconst (-1), 1) := by decide +kernel
theorem dX7_tell_9 : decode cX7_tell 9 = .ok (.ireturn, 1) := by decide +kernel
theorem dX7_tell_10 : decode cX7_tell 10 = .ok (.aload_n 0, 1) := by decide +kernel
theorem dX7_tell_11 : decode cX7_tell 11 = .ok (.getfield 28, 3) := by decide +kernel
theorem dX7_tell_14 : decode cX7_tell 14 = .ok (.iload_n 1, 1) := by decide +kernel
theorem dX7_tell_15 : decode cX7_tell 15 = .ok (.iaload, 1) := by decide +kernel
theorem dX7_tell_16 : decode cX7_tell 16 = .ok (.istore_n 2, 1) := by decide +kernel
theorem dX7_tell_17 : decode cX7_tell 17 = .ok (.aload_n 0, 1) := by decide +kernel
theorem dX7_tell_18 : decode cX7_tell 18 = .ok (.getfield 25, 3) := by decide +kernel
theorem dX7_tell_21 : decode cX7_tell 21 = .ok (.iload_n 1, 1) := by decide +kernel
theorem dX7_tell_22 : decode cX7_tell 22 = .ok (.iaload, 1) := by decide +kernel
theorem dX7_tell_23 : decode cX7_tell 23 = .ok (.lookupswitch 67 #[(1, 25), (2, 40)], 25) := by decide +kernel
theorem dX7_tell_48 : decode cX7_tell 48 = .ok (.aload_n 0, 1) := by decide +kernel
theorem dX7_tell_49 : decode cX7_tell 49 = .ok (.iconst 2, 1) := by decide +kernel
theorem dX7_tell_50 : decode cX7_tell 50 = .ok (.invokevirtual 319, 3) := by decide +kernel
theorem dX7_tell_53 : decode cX7_tell 53 = .ok (.aload_n 0, 1) := by decide +kernel
theorem dX7_tell_54 : decode cX7_tell 54 = .ok (.iconst 1, 1) := by decide +kernel
theorem dX7_tell_55 : decode cX7_tell 55 = .ok (.invokevirtual 319, 3) := by decide +kernel
theorem dX7_tell_58 : decode cX7_tell 58 = .ok (.iload_n 2, 1) := by decide +kernel
theorem dX7_tell_59 : decode cX7_tell 59 = .ok (.bipush 100, 2) := by decide +kernel
theorem dX7_tell_61 : decode cX7_tell 61 = .ok (.iadd, 1) := by decide +kernel
theorem dX7_tell_62 : decode cX7_tell 62 = .ok (.ireturn, 1) := by decide +kernel
theorem dX7_tell_63 : decode cX7_tell 63 = .ok (.aload_n 0, 1) := by decide +kernel
theorem dX7_tell_64 : decode cX7_tell 64 = .ok (.iconst 3, 1) := by decide +kernel
theorem dX7_tell_65 : decode cX7_tell 65 = .ok (.invokevirtual 319, 3) := by decide +kernel
theorem dX7_tell_68 : decode cX7_tell 68 = .ok (.aload_n 0, 1) := by decide +kernel
theorem dX7_tell_69 : decode cX7_tell 69 = .ok (.iconst 2, 1) := by decide +kernel
theorem dX7_tell_70 : decode cX7_tell 70 = .ok (.invokevirtual 319, 3) := by decide +kernel
theorem dX7_tell_73 : decode cX7_tell 73 = .ok (.aload_n 0, 1) := by decide +kernel
theorem dX7_tell_74 : decode cX7_tell 74 = .ok (.iconst 1, 1) := by decide +kernel
theorem dX7_tell_75 : decode cX7_tell 75 = .ok (.invokevirtual 319, 3) := by decide +kernel
theorem dX7_tell_78 : decode cX7_tell 78 = .ok (.aload_n 0, 1) := by decide +kernel
theorem dX7_tell_79 : decode cX7_tell 79 = .ok (.iconst 1, 1) := by decide +kernel
theorem dX7_tell_80 : decode cX7_tell 80 = .ok (.invokevirtual 319, 3) := by decide +kernel
theorem dX7_tell_83 : decode cX7_tell 83 = .ok (.iconst 2, 1) := by decide +kernel
theorem dX7_tell_84 : decode cX7_tell 84 = .ok (.iload_n 2, 1) := by decide +kernel
theorem dX7_tell_85 : decode cX7_tell 85 = .ok (.imul, 1) := by decide +kernel
theorem dX7_tell_86 : decode cX7_tell 86 = .ok (.bipush 100, 2) := by decide +kernel
theorem dX7_tell_88 : decode cX7_tell 88 = .ok (.iadd, 1) := by decide +kernel
theorem dX7_tell_89 : decode cX7_tell 89 = .ok (.ireturn, 1) := by decide +kernel
theorem dX7_tell_90 : decode cX7_tell 90 = .ok (.aload_n 0, 1) := by decide +kernel
theorem dX7_tell_91 : decode cX7_tell 91 = .ok (.iconst 1, 1) := by decide +kernel
theorem dX7_tell_92 : decode cX7_tell 92 = .ok (.invokevirtual 319, 3) := by decide +kernel
theorem dX7_tell_95 : decode cX7_tell 95 = .ok (.iload_n 2, 1) := by decide +kernel
theorem dX7_tell_96 : decode cX7_tell 96 = .ok (.ireturn, 1) := by decide +kernel
theorem dX7_greet_0 : decode cX7_greet 0 = .ok (.aload_n 0, 1) := by decide +kernel
theorem dX7_greet_1 : decode cX7_greet 1 = .ok (.iload_n 1, 1) := by decide +kernel
theorem dX7_greet_2 : decode cX7_greet 2 = .ok (.invokevirtual 184, 3) := by decide +kernel
theorem dX7_greet_5 : decode cX7_greet 5 = .ok (.ifCond .ne 5, 3) := by decide +kernel
theorem dX7_greet_8 : decode cX7_greet 8 = .ok (.iconst (-1), 1) := by decide +kernel
theorem dX7_greet_9 : decode cX7_greet 9 = .ok (.ireturn, 1) := by decide +kernel
theorem dX7_greet_10 : decode cX7_greet 10 = .ok (.aload_n 0, 1) := by decide +kernel
theorem dX7_greet_11 : decode cX7_greet 11 = .ok (.aload_n 0, 1) := by decide +kernel
theorem dX7_greet_12 : decode cX7_greet 12 = .ok (.getfield 25, 3) := by decide +kernel
theorem dX7_greet_15 : decode cX7_greet 15 = .ok (.iload_n 1, 1) := by decide +kernel
theorem dX7_greet_16 : decode cX7_greet 16 = .ok (.iaload, 1) := by decide +kernel
theorem dX7_greet_17 : decode cX7_greet 17 = .ok (.iconst 2, 1) := by decide +kernel
theorem dX7_greet_18 : decode cX7_greet 18 = .ok (.if_icmp .ne 7, 3) := by decide +kernel
theorem dX7_greet_21 : decode cX7_greet 21 = .ok (.iconst 5, 1) := by decide +kernel
theorem dX7_greet_22 : decode cX7_greet 22 = .ok (.goto 4, 3) := by decide +kernel
theorem dX7_greet_25 : decode cX7_greet 25 = .ok (.iconst 4, 1) := by decide +kernel
theorem dX7_greet_26 : decode cX7_greet 26 = .ok (.invokevirtual 319, 3) := by decide +kernel
theorem dX7_greet_29 : decode cX7_greet 29 = .ok (.aload_n 0, 1) := by decide +kernel
theorem dX7_greet_30 : decode cX7_greet 30 = .ok (.getfield 25, 3) := by decide +kernel
theorem dX7_greet_33 : decode cX7_greet 33 = .ok (.iload_n 1, 1) := by decide +kernel
theorem dX7_greet_34 : decode cX7_greet 34 = .ok (.iaload, 1) := by decide +kernel
theorem dX7_greet_35 : decode cX7_greet 35 = .ok (.iconst 2, 1) := by decide +kernel
theorem dX7_greet_36 : decode cX7_greet 36 = .ok (.if_icmp .ne 8, 3) := by decide +kernel
theorem dX7_greet_39 : decode cX7_greet 39 = .ok (.bipush 70, 2) := by decide +kernel
theorem dX7_greet_41 : decode cX7_greet 41 = .ok (.goto 4, 3) := by decide +kernel
theorem dX7_greet_44 : decode cX7_greet 44 = .ok (.iload_n 1, 1) := by decide +kernel
theorem dX7_greet_45 : decode cX7_greet 45 = .ok (.ireturn, 1) := by decide +kernel
theorem dX7_as_0 : decode cX7_as 0 = .ok (.aload_n 0, 1) := by decide +kernel
theorem dX7_as_1 : decode cX7_as 1 = .ok (.iconst 0, 1) := by decide +kernel
theorem dX7_as_2 : decode cX7_as 2 = .ok (.putfield 115, 3) := by decide +kernel
theorem dX7_as_5 : decode cX7_as 5 = .ok (.aload_n 0, 1) := by decide +kernel
theorem dX7_as_6 : decode cX7_as 6 = .ok (.iload_n 1, 1) := by decide +kernel
theorem dX7_as_7 : decode cX7_as 7 = .ok (.invokevirtual 184, 3) := by decide +kernel
theorem dX7_as_10 : decode cX7_as 10 = .ok (.ifCond .ne 5, 3) := by decide +kernel
theorem dX7_as_13 : decode cX7_as 13 = .ok (.iconst (-1), 1) := by decide +kernel
theorem dX7_as_14 : decode cX7_as 14 = .ok (.ireturn, 1) := by decide +kernel
theorem dX7_as_15 : decode cX7_as 15 = .ok (.iload_n 2, 1) := by decide +kernel
theorem dX7_as_16 : decode cX7_as 16 = .ok (.iconst 0, 1) := by decide +kernel
theorem dX7_as_17 : decode cX7_as 17 = .ok (.iconst 2, 1) := by decide +kernel
theorem dX7_as_18 : decode cX7_as 18 = .ok (.invokestatic 121, 3) := by decide +kernel
theorem dX7_as_21 : decode cX7_as 21 = .ok (.ifCond .ne 6, 3) := by decide +kernel
theorem dX7_as_24 : decode cX7_as 24 = .ok (.bipush (-2), 2) := by decide +kernel
theorem dX7_as_26 : decode cX7_as 26 = .ok (.ireturn, 1) := by decide +kernel
theorem dX7_as_27 : decode cX7_as 27 = .ok (.aload_n 0, 1) := by decide +kernel
theorem dX7_as_28 : decode cX7_as 28 = .ok (.getfield 25, 3) := by decide +kernel
theorem dX7_as_31 : decode cX7_as 31 = .ok (.iload_n 1, 1) := by decide +kernel
theorem dX7_as_32 : decode cX7_as 32 = .ok (.iaload, 1) := by decide +kernel
theorem dX7_as_33 : decode cX7_as 33 = .ok (.iload_n 2, 1) := by decide +kernel
theorem dX7_as_34 : decode cX7_as 34 = .ok (.if_icmp .lt 7, 3) := by decide +kernel
theorem dX7_as_37 : decode cX7_as 37 = .ok (.iconst 1, 1) := by decide +kernel
theorem dX7_as_38 : decode cX7_as 38 = .ok (.goto 8, 3) := by decide +kernel
theorem dX7_as_41 : decode cX7_as 41 = .ok (.aload_n 0, 1) := by decide +kernel
theorem dX7_as_42 : decode cX7_as 42 = .ok (.iconst 2, 1) := by decide +kernel
theorem dX7_as_43 : decode cX7_as 43 = .ok (.invokevirtual 145, 3) := by decide +kernel
theorem dX7_as_46 : decode cX7_as 46 = .ok (.ireturn, 1) := by decide +kernel
theorem dX7_trace_0 : decode cX7_trace 0 = .ok (.aload_n 0, 1) := by decide +kernel
theorem dX7_trace_1 : decode cX7_trace 1 = .ok (.getfield 316, 3) := by decide +kernel
theorem dX7_trace_4 : decode cX7_trace 4 = .ok (.ireturn, 1) := by decide +kernel
theorem dX7_fault_0 : decode cX7_fault 0 = .ok (.aload_n 0, 1) := by decide +kernel
theorem dX7_fault_1 : decode cX7_fault 1 = .ok (.getfield 115, 3) := by decide +kernel
theorem dX7_fault_4 : decode cX7_fault 4 = .ok (.ireturn, 1) := by decide +kernel
theorem dX7_many_0 : decode cX7_many 0 = .ok (.iload_n 1, 1) := by decide +kernel
theorem dX7_many_1 : decode cX7_many 1 = .ok (.tableswitch 82 0 4 #[35, 40, 45, 61, 77], 35) := by decide +kernel
theorem dX7_many_36 : decode cX7_many 36 = .ok (.aload_n 0, 1) := by decide +kernel
theorem dX7_many_37 : decode cX7_many 37 = .ok (.getfield 125, 3) := by decide +kernel
theorem dX7_many_40 : decode cX7_many 40 = .ok (.ireturn, 1) := by decide +kernel
theorem dX7_many_41 : decode cX7_many 41 = .ok (.aload_n 0, 1) := by decide +kernel
theorem dX7_many_42 : decode cX7_many 42 = .ok (.getfield 128, 3) := by decide +kernel
theorem dX7_many_45 : decode cX7_many 45 = .ok (.ireturn, 1) := by decide +kernel
theorem dX7_many_46 : decode cX7_many 46 = .ok (.aload_n 0, 1) := by decide +kernel
theorem dX7_many_47 : decode cX7_many 47 = .ok (.invokevirtual 190, 3) := by decide +kernel
theorem dX7_many_50 : decode cX7_many 50 = .ok (.ifCond .eq 10, 3) := by decide +kernel
theorem dX7_many_53 : decode cX7_many 53 = .ok (.aload_n 0, 1) := by decide +kernel
theorem dX7_many_54 : decode cX7_many 54 = .ok (.getfield 161, 3) := by decide +kernel
theorem dX7_many_57 : decode cX7_many 57 = .ok (.goto 4, 3) := by decide +kernel
theorem dX7_many_60 : decode cX7_many 60 = .ok (.iconst 0, 1) := by decide +kernel
theorem dX7_many_61 : decode cX7_many 61 = .ok (.ireturn, 1) := by decide +kernel
theorem dX7_many_62 : decode cX7_many 62 = .ok (.aload_n 0, 1) := by decide +kernel
theorem dX7_many_63 : decode cX7_many 63 = .ok (.invokevirtual 190, 3) := by decide +kernel
theorem dX7_many_66 : decode cX7_many 66 = .ok (.ifCond .eq 10, 3) := by decide +kernel
theorem dX7_many_69 : decode cX7_many 69 = .ok (.aload_n 0, 1) := by decide +kernel
theorem dX7_many_70 : decode cX7_many 70 = .ok (.getfield 164, 3) := by decide +kernel
theorem dX7_many_73 : decode cX7_many 73 = .ok (.goto 4, 3) := by decide +kernel
theorem dX7_many_76 : decode cX7_many 76 = .ok (.iconst 0, 1) := by decide +kernel
theorem dX7_many_77 : decode cX7_many 77 = .ok (.ireturn, 1) := by decide +kernel
theorem dX7_many_78 : decode cX7_many 78 = .ok (.aload_n 0, 1) := by decide +kernel
theorem dX7_many_79 : decode cX7_many 79 = .ok (.getfield 167, 3) := by decide +kernel
theorem dX7_many_82 : decode cX7_many 82 = .ok (.ireturn, 1) := by decide +kernel
theorem dX7_many_83 : decode cX7_many 83 = .ok (.bipush (-2), 2) := by decide +kernel
theorem dX7_many_85 : decode cX7_many 85 = .ok (.ireturn, 1) := by decide +kernel
end
section
theorem dL_law_0 : decode cL_law 0 = .ok (.new 7, 3) := by decide +kernel
theorem dL_law_3 : decode cL_law 3 = .ok (.dup, 1) := by decide +kernel
theorem dL_law_4 : decode cL_law 4 = .ok (.invokespecial 9, 3) := by decide +kernel
theorem dL_law_7 : decode cL_law 7 = .ok (.astore_n 1, 1) := by decide +kernel
theorem dL_law_8 : decode cL_law 8 = .ok (.new 10, 3) := by decide +kernel
theorem dL_law_11 : decode cL_law 11 = .ok (.dup, 1) := by decide +kernel
theorem dL_law_12 : decode cL_law 12 = .ok (.invokespecial 12, 3) := by decide +kernel
theorem dL_law_15 : decode cL_law 15 = .ok (.astore_n 2, 1) := by decide +kernel
theorem dL_law_16 : decode cL_law 16 = .ok (.iconst 0, 1) := by decide +kernel
theorem dL_law_17 : decode cL_law 17 = .ok (.istore_n 3, 1) := by decide +kernel
theorem dL_law_18 : decode cL_law 18 = .ok (.iload_n 3, 1) := by decide +kernel
theorem dL_law_19 : decode cL_law 19 = .ok (.aload_n 0, 1) := by decide +kernel
theorem dL_law_20 : decode cL_law 20 = .ok (.arraylength, 1) := by decide +kernel
theorem dL_law_21 : decode cL_law 21 = .ok (.bipush 6, 2) := by decide +kernel
theorem dL_law_23 : decode cL_law 23 = .ok (.isub, 1) := by decide +kernel
theorem dL_law_24 : decode cL_law 24 = .ok (.if_icmp .gt 1244, 3) := by decide +kernel
theorem dL_law_27 : decode cL_law 27 = .ok (.aload_n 0, 1) := by decide +kernel
theorem dL_law_28 : decode cL_law 28 = .ok (.iload_n 3, 1) := by decide +kernel
theorem dL_law_29 : decode cL_law 29 = .ok (.iaload, 1) := by decide +kernel
theorem dL_law_30 : decode cL_law 30 = .ok (.bipush 63, 2) := by decide +kernel
theorem dL_law_32 : decode cL_law 32 = .ok (.iand, 1) := by decide +kernel
theorem dL_law_33 : decode cL_law 33 = .ok (.tableswitch 1229 0 33 #[151, 204, 237, 270, 329, 372, 405, 428, 451, 464, 477, 510, 533, 593, 646, 669, 702, 725, 759, 772, 805, 838, 862, 885, 928, 951, 994, 1038, 1101, 1124, 1147, 1180, 1193, 1206], 151) := by decide +kernel
theorem dL_law_184 : decode cL_law 184 = .ok (.aload_n 1, 1) := by decide +kernel
theorem dL_law_185 : decode cL_law 185 = .ok (.aload_n 0, 1) := by decide +kernel
theorem dL_law_186 : decode cL_law 186 = .ok (.iload_n 3, 1) := by decide +kernel
theorem dL_law_187 : decode cL_law 187 = .ok (.iconst 1, 1) := by decide +kernel
theorem dL_law_188 : decode cL_law 188 = .ok (.iadd, 1) := by decide +kernel
theorem dL_law_189 : decode cL_law 189 = .ok (.iaload, 1) := by decide +kernel
theorem dL_law_190 : decode cL_law 190 = .ok (.aload_n 0, 1) := by decide +kernel
theorem dL_law_191 : decode cL_law 191 = .ok (.iload_n 3, 1) := by decide +kernel
theorem dL_law_192 : decode cL_law 192 = .ok (.iconst 2, 1) := by decide +kernel
theorem dL_law_193 : decode cL_law 193 = .ok (.iadd, 1) := by decide +kernel
theorem dL_law_194 : decode cL_law 194 = .ok (.iaload, 1) := by decide +kernel
theorem dL_law_195 : decode cL_law 195 = .ok (.aload_n 0, 1) := by decide +kernel
theorem dL_law_196 : decode cL_law 196 = .ok (.iload_n 3, 1) := by decide +kernel
theorem dL_law_197 : decode cL_law 197 = .ok (.iconst 3, 1) := by decide +kernel
theorem dL_law_198 : decode cL_law 198 = .ok (.iadd, 1) := by decide +kernel
theorem dL_law_199 : decode cL_law 199 = .ok (.iaload, 1) := by decide +kernel
theorem dL_law_200 : decode cL_law 200 = .ok (.aload_n 0, 1) := by decide +kernel
theorem dL_law_201 : decode cL_law 201 = .ok (.iload_n 3, 1) := by decide +kernel
theorem dL_law_202 : decode cL_law 202 = .ok (.iconst 4, 1) := by decide +kernel
theorem dL_law_203 : decode cL_law 203 = .ok (.iadd, 1) := by decide +kernel
theorem dL_law_204 : decode cL_law 204 = .ok (.iaload, 1) := by decide +kernel
theorem dL_law_205 : decode cL_law 205 = .ok (.invokevirtual 13, 3) := by decide +kernel
theorem dL_law_208 : decode cL_law 208 = .ok (.aload_n 2, 1) := by decide +kernel
theorem dL_law_209 : decode cL_law 209 = .ok (.aload_n 0, 1) := by decide +kernel
theorem dL_law_210 : decode cL_law 210 = .ok (.iload_n 3, 1) := by decide +kernel
theorem dL_law_211 : decode cL_law 211 = .ok (.iconst 1, 1) := by decide +kernel
theorem dL_law_212 : decode cL_law 212 = .ok (.iadd, 1) := by decide +kernel
theorem dL_law_213 : decode cL_law 213 = .ok (.iaload, 1) := by decide +kernel
theorem dL_law_214 : decode cL_law 214 = .ok (.aload_n 0, 1) := by decide +kernel
theorem dL_law_215 : decode cL_law 215 = .ok (.iload_n 3, 1) := by decide +kernel
theorem dL_law_216 : decode cL_law 216 = .ok (.iconst 2, 1) := by decide +kernel
theorem dL_law_217 : decode cL_law 217 = .ok (.iadd, 1) := by decide +kernel
theorem dL_law_218 : decode cL_law 218 = .ok (.iaload, 1) := by decide +kernel
theorem dL_law_219 : decode cL_law 219 = .ok (.aload_n 0, 1) := by decide +kernel
theorem dL_law_220 : decode cL_law 220 = .ok (.iload_n 3, 1) := by decide +kernel
theorem dL_law_221 : decode cL_law 221 = .ok (.iconst 3, 1) := by decide +kernel
theorem dL_law_222 : decode cL_law 222 = .ok (.iadd, 1) := by decide +kernel
theorem dL_law_223 : decode cL_law 223 = .ok (.iaload, 1) := by decide +kernel
theorem dL_law_224 : decode cL_law 224 = .ok (.aload_n 0, 1) := by decide +kernel
theorem dL_law_225 : decode cL_law 225 = .ok (.iload_n 3, 1) := by decide +kernel
theorem dL_law_226 : decode cL_law 226 = .ok (.iconst 4, 1) := by decide +kernel
theorem dL_law_227 : decode cL_law 227 = .ok (.iadd, 1) := by decide +kernel
theorem dL_law_228 : decode cL_law 228 = .ok (.iaload, 1) := by decide +kernel
theorem dL_law_229 : decode cL_law 229 = .ok (.invokevirtual 17, 3) := by decide +kernel
theorem dL_law_232 : decode cL_law 232 = .ok (.if_icmp .eq 1030, 3) := by decide +kernel
theorem dL_law_235 : decode cL_law 235 = .ok (.iconst 0, 1) := by decide +kernel
theorem dL_law_236 : decode cL_law 236 = .ok (.ireturn, 1) := by decide +kernel
theorem dL_law_237 : decode cL_law 237 = .ok (.aload_n 1, 1) := by decide +kernel
theorem dL_law_238 : decode cL_law 238 = .ok (.aload_n 0, 1) := by decide +kernel
theorem dL_law_239 : decode cL_law 239 = .ok (.iload_n 3, 1) := by decide +kernel
theorem dL_law_240 : decode cL_law 240 = .ok (.iconst 1, 1) := by decide +kernel
theorem dL_law_241 : decode cL_law 241 = .ok (.iadd, 1) := by decide +kernel
theorem dL_law_242 : decode cL_law 242 = .ok (.iaload, 1) := by decide +kernel
theorem dL_law_243 : decode cL_law 243 = .ok (.aload_n 0, 1) := by decide +kernel
theorem dL_law_244 : decode cL_law 244 = .ok (.iload_n 3, 1) := by decide +kernel
theorem dL_law_245 : decode cL_law 245 = .ok (.iconst 2, 1) := by decide +kernel
theorem dL_law_246 : decode cL_law 246 = .ok (.iadd, 1) := by decide +kernel
theorem dL_law_247 : decode cL_law 247 = .ok (.iaload, 1) := by decide +kernel
theorem dL_law_248 : decode cL_law 248 = .ok (.invokevirtual 18, 3) := by decide +kernel
theorem dL_law_251 : decode cL_law 251 = .ok (.aload_n 2, 1) := by decide +kernel
theorem dL_law_252 : decode cL_law 252 = .ok (.aload_n 0, 1) := by decide +kernel
theorem dL_law_253 : decode cL_law 253 = .ok (.iload_n 3, 1) := by decide +kernel
theorem dL_law_254 : decode cL_law 254 = .ok (.iconst 1, 1) := by decide +kernel
theorem dL_law_255 : decode cL_law 255 = .ok (.iadd, 1) := by decide +kernel
theorem dL_law_256 : decode cL_law 256 = .ok (.iaload, 1) := by decide +kernel
theorem dL_law_257 : decode cL_law 257 = .ok (.aload_n 0, 1) := by decide +kernel
theorem dL_law_258 : decode cL_law 258 = .ok (.iload_n 3, 1) := by decide +kernel
theorem dL_law_259 : decode cL_law 259 = .ok (.iconst 2, 1) := by decide +kernel
theorem dL_law_260 : decode cL_law 260 = .ok (.iadd, 1) := by decide +kernel
theorem dL_law_261 : decode cL_law 261 = .ok (.iaload, 1) := by decide +kernel
theorem dL_law_262 : decode cL_law 262 = .ok (.invokevirtual 22, 3) := by decide +kernel
theorem dL_law_265 : decode cL_law 265 = .ok (.if_icmp .eq 997, 3) := by decide +kernel
theorem dL_law_268 : decode cL_law 268 = .ok (.iconst 0, 1) := by decide +kernel
theorem dL_law_269 : decode cL_law 269 = .ok (.ireturn, 1) := by decide +kernel
theorem dL_law_270 : decode cL_law 270 = .ok (.aload_n 1, 1) := by decide +kernel
theorem dL_law_271 : decode cL_law 271 = .ok (.aload_n 0, 1) := by decide +kernel
theorem dL_law_272 : decode cL_law 272 = .ok (.iload_n 3, 1) := by decide +kernel
theorem dL_law_273 : decode cL_law 273 = .ok (.iconst 1, 1) := by decide +kernel
theorem dL_law_274 : decode cL_law 274 = .ok (.iadd, 1) := by decide +kernel
theorem dL_law_275 : decode cL_law 275 = .ok (.iaload, 1) := by decide +kernel
theorem dL_law_276 : decode cL_law 276 = .ok (.aload_n 0, 1) := by decide +kernel
theorem dL_law_277 : decode cL_law 277 = .ok (.iload_n 3, 1) := by decide +kernel
theorem dL_law_278 : decode cL_law 278 = .ok (.iconst 2, 1) := by decide +kernel
theorem dL_law_279 : decode cL_law 279 = .ok (.iadd, 1) := by decide +kernel
theorem dL_law_280 : decode cL_law 280 = .ok (.iaload, 1) := by decide +kernel
theorem dL_law_281 : decode cL_law 281 = .ok (.invokevirtual 23, 3) := by decide +kernel
theorem dL_law_284 : decode cL_law 284 = .ok (.aload_n 2, 1) := by decide +kernel
theorem dL_law_285 : decode cL_law 285 = .ok (.aload_n 0, 1) := by decide +kernel
theorem dL_law_286 : decode cL_law 286 = .ok (.iload_n 3, 1) := by decide +kernel
theorem dL_law_287 : decode cL_law 287 = .ok (.iconst 1, 1) := by decide +kernel
theorem dL_law_288 : decode cL_law 288 = .ok (.iadd, 1) := by decide +kernel
theorem dL_law_289 : decode cL_law 289 = .ok (.iaload, 1) := by decide +kernel
theorem dL_law_290 : decode cL_law 290 = .ok (.aload_n 0, 1) := by decide +kernel
theorem dL_law_291 : decode cL_law 291 = .ok (.iload_n 3, 1) := by decide +kernel
theorem dL_law_292 : decode cL_law 292 = .ok (.iconst 2, 1) := by decide +kernel
theorem dL_law_293 : decode cL_law 293 = .ok (.iadd, 1) := by decide +kernel
theorem dL_law_294 : decode cL_law 294 = .ok (.iaload, 1) := by decide +kernel
theorem dL_law_295 : decode cL_law 295 = .ok (.invokevirtual 26, 3) := by decide +kernel
theorem dL_law_298 : decode cL_law 298 = .ok (.if_icmp .eq 964, 3) := by decide +kernel
theorem dL_law_301 : decode cL_law 301 = .ok (.iconst 0, 1) := by decide +kernel
theorem dL_law_302 : decode cL_law 302 = .ok (.ireturn, 1) := by decide +kernel
theorem dL_law_303 : decode cL_law 303 = .ok (.aload_n 1, 1) := by decide +kernel
theorem dL_law_304 : decode cL_law 304 = .ok (.aload_n 0, 1) := by decide +kernel
theorem dL_law_305 : decode cL_law 305 = .ok (.iload_n 3, 1) := by decide +kernel
theorem dL_law_306 : decode cL_law 306 = .ok (.iconst 1, 1) := by decide +kernel
theorem dL_law_307 : decode cL_law 307 = .ok (.iadd, 1) := by decide +kernel
theorem dL_law_308 : decode cL_law 308 = .ok (.iaload, 1) := by decide +kernel
theorem dL_law_309 : decode cL_law 309 = .ok (.aload_n 0, 1) := by decide +kernel
theorem dL_law_310 : decode cL_law 310 = .ok (.iload_n 3, 1) := by decide +kernel
theorem dL_law_311 : decode cL_law 311 = .ok (.iconst 2, 1) := by decide +kernel
theorem dL_law_312 : decode cL_law 312 = .ok (.iadd, 1) := by decide +kernel
theorem dL_law_313 : decode cL_law 313 = .ok (.iaload, 1) := by decide +kernel
theorem dL_law_314 : decode cL_law 314 = .ok (.aload_n 0, 1) := by decide +kernel
theorem dL_law_315 : decode cL_law 315 = .ok (.iload_n 3, 1) := by decide +kernel
theorem dL_law_316 : decode cL_law 316 = .ok (.iconst 3, 1) := by decide +kernel
theorem dL_law_317 : decode cL_law 317 = .ok (.iadd, 1) := by decide +kernel
theorem dL_law_318 : decode cL_law 318 = .ok (.iaload, 1) := by decide +kernel
theorem dL_law_319 : decode cL_law 319 = .ok (.ifCond .eq 7, 3) := by decide +kernel
theorem dL_law_322 : decode cL_law 322 = .ok (.iconst 1, 1) := by decide +kernel
theorem dL_law_323 : decode cL_law 323 = .ok (.goto 4, 3) := by decide +kernel
theorem dL_law_326 : decode cL_law 326 = .ok (.iconst 0, 1) := by decide +kernel
theorem dL_law_327 : decode cL_law 327 = .ok (.invokevirtual 27, 3) := by decide +kernel
theorem dL_law_330 : decode cL_law 330 = .ok (.aload_n 2, 1) := by decide +kernel
theorem dL_law_331 : decode cL_law 331 = .ok (.aload_n 0, 1) := by decide +kernel
theorem dL_law_332 : decode cL_law 332 = .ok (.iload_n 3, 1) := by decide +kernel
theorem dL_law_333 : decode cL_law 333 = .ok (.iconst 1, 1) := by decide +kernel
theorem dL_law_334 : decode cL_law 334 = .ok (.iadd, 1) := by decide +kernel
theorem dL_law_335 : decode cL_law 335 = .ok (.iaload, 1) := by decide +kernel
theorem dL_law_336 : decode cL_law 336 = .ok (.aload_n 0, 1) := by decide +kernel
theorem dL_law_337 : decode cL_law 337 = .ok (.iload_n 3, 1) := by decide +kernel
theorem dL_law_338 : decode cL_law 338 = .ok (.iconst 2, 1) := by decide +kernel
theorem dL_law_339 : decode cL_law 339 = .ok (.iadd, 1) := by decide +kernel
theorem dL_law_340 : decode cL_law 340 = .ok (.iaload, 1) := by decide +kernel
theorem dL_law_341 : decode cL_law 341 = .ok (.aload_n 0, 1) := by decide +kernel
theorem dL_law_342 : decode cL_law 342 = .ok (.iload_n 3, 1) := by decide +kernel
theorem dL_law_343 : decode cL_law 343 = .ok (.iconst 3, 1) := by decide +kernel
theorem dL_law_344 : decode cL_law 344 = .ok (.iadd, 1) := by decide +kernel
theorem dL_law_345 : decode cL_law 345 = .ok (.iaload, 1) := by decide +kernel
theorem dL_law_346 : decode cL_law 346 = .ok (.ifCond .eq 7, 3) := by decide +kernel
theorem dL_law_349 : decode cL_law 349 = .ok (.iconst 1, 1) := by decide +kernel
theorem dL_law_350 : decode cL_law 350 = .ok (.goto 4, 3) := by decide +kernel
theorem dL_law_353 : decode cL_law 353 = .ok (.iconst 0, 1) := by decide +kernel
theorem dL_law_354 : decode cL_law 354 = .ok (.invokevirtual 31, 3) := by decide +kernel
theorem dL_law_357 : decode cL_law 357 = .ok (.if_icmp .eq 905, 3) := by decide +kernel
theorem dL_law_360 : decode cL_law 360 = .ok (.iconst 0, 1) := by decide +kernel
theorem dL_law_361 : decode cL_law 361 = .ok (.ireturn, 1) := by decide +kernel
theorem dL_law_362 : decode cL_law 362 = .ok (.aload_n 1, 1) := by decide +kernel
theorem dL_law_363 : decode cL_law 363 = .ok (.aload_n 0, 1) := by decide +kernel
theorem dL_law_364 : decode cL_law 364 = .ok (.iload_n 3, 1) := by decide +kernel
theorem dL_law_365 : decode cL_law 365 = .ok (.iconst 1, 1) := by decide +kernel
theorem dL_law_366 : decode cL_law 366 = .ok (.iadd, 1) := by decide +kernel
theorem dL_law_367 : decode cL_law 367 = .ok (.iaload, 1) := by decide +kernel
theorem dL_law_368 : decode cL_law 368 = .ok (.aload_n 0, 1) := by decide +kernel
theorem dL_law_369 : decode cL_law 369 = .ok (.iload_n 3, 1) := by decide +kernel
theorem dL_law_370 : decode cL_law 370 = .ok (.iconst 2, 1) := by decide +kernel
theorem dL_law_371 : decode cL_law 371 = .ok (.iadd, 1) := by decide +kernel
theorem dL_law_372 : decode cL_law 372 = .ok (.iaload, 1) := by decide +kernel
theorem dL_law_373 : decode cL_law 373 = .ok (.aload_n 0, 1) := by decide +kernel
theorem dL_law_374 : decode cL_law 374 = .ok (.iload_n 3, 1) := by decide +kernel
theorem dL_law_375 : decode cL_law 375 = .ok (.iconst 3, 1) := by decide +kernel
theorem dL_law_376 : decode cL_law 376 = .ok (.iadd, 1) := by decide +kernel
theorem dL_law_377 : decode cL_law 377 = .ok (.iaload, 1) := by decide +kernel
theorem dL_law_378 : decode cL_law 378 = .ok (.invokevirtual 32, 3) := by decide +kernel
theorem dL_law_381 : decode cL_law 381 = .ok (.aload_n 2, 1) := by decide +kernel
theorem dL_law_382 : decode cL_law 382 = .ok (.aload_n 0, 1) := by decide +kernel
theorem dL_law_383 : decode cL_law 383 = .ok (.iload_n 3, 1) := by decide +kernel
theorem dL_law_384 : decode cL_law 384 = .ok (.iconst 1, 1) := by decide +kernel
theorem dL_law_385 : decode cL_law 385 = .ok (.iadd, 1) := by decide +kernel
theorem dL_law_386 : decode cL_law 386 = .ok (.iaload, 1) := by decide +kernel
theorem dL_law_387 : decode cL_law 387 = .ok (.aload_n 0, 1) := by decide +kernel
theorem dL_law_388 : decode cL_law 388 = .ok (.iload_n 3, 1) := by decide +kernel
theorem dL_law_389 : decode cL_law 389 = .ok (.iconst 2, 1) := by decide +kernel
theorem dL_law_390 : decode cL_law 390 = .ok (.iadd, 1) := by decide +kernel
theorem dL_law_391 : decode cL_law 391 = .ok (.iaload, 1) := by decide +kernel
theorem dL_law_392 : decode cL_law 392 = .ok (.aload_n 0, 1) := by decide +kernel
theorem dL_law_393 : decode cL_law 393 = .ok (.iload_n 3, 1) := by decide +kernel
theorem dL_law_394 : decode cL_law 394 = .ok (.iconst 3, 1) := by decide +kernel
theorem dL_law_395 : decode cL_law 395 = .ok (.iadd, 1) := by decide +kernel
theorem dL_law_396 : decode cL_law 396 = .ok (.iaload, 1) := by decide +kernel
theorem dL_law_397 : decode cL_law 397 = .ok (.invokevirtual 36, 3) := by decide +kernel
theorem dL_law_400 : decode cL_law 400 = .ok (.if_icmp .eq 862, 3) := by decide +kernel
theorem dL_law_403 : decode cL_law 403 = .ok (.iconst 0, 1) := by decide +kernel
theorem dL_law_404 : decode cL_law 404 = .ok (.ireturn, 1) := by decide +kernel
theorem dL_law_405 : decode cL_law 405 = .ok (.aload_n 1, 1) := by decide +kernel
theorem dL_law_406 : decode cL_law 406 = .ok (.aload_n 0, 1) := by decide +kernel
theorem dL_law_407 : decode cL_law 407 = .ok (.iload_n 3, 1) := by decide +kernel
theorem dL_law_408 : decode cL_law 408 = .ok (.iconst 1, 1) := by decide +kernel
theorem dL_law_409 : decode cL_law 409 = .ok (.iadd, 1) := by decide +kernel
theorem dL_law_410 : decode cL_law 410 = .ok (.iaload, 1) := by decide +kernel
theorem dL_law_411 : decode cL_law 411 = .ok (.aload_n 0, 1) := by decide +kernel
theorem dL_law_412 : decode cL_law 412 = .ok (.iload_n 3, 1) := by decide +kernel
theorem dL_law_413 : decode cL_law 413 = .ok (.iconst 2, 1) := by decide +kernel
theorem dL_law_414 : decode cL_law 414 = .ok (.iadd, 1) := by decide +kernel
theorem dL_law_415 : decode cL_law 415 = .ok (.iaload, 1) := by decide +kernel
theorem dL_law_416 : decode cL_law 416 = .ok (.invokevirtual 37, 3) := by decide +kernel
theorem dL_law_419 : decode cL_law 419 = .ok (.aload_n 2, 1) := by decide +kernel
theorem dL_law_420 : decode cL_law 420 = .ok (.aload_n 0, 1) := by decide +kernel
theorem dL_law_421 : decode cL_law 421 = .ok (.iload_n 3, 1) := by decide +kernel
theorem dL_law_422 : decode cL_law 422 = .ok (.iconst 1, 1) := by decide +kernel
theorem dL_law_423 : decode cL_law 423 = .ok (.iadd, 1) := by decide +kernel
theorem dL_law_424 : decode cL_law 424 = .ok (.iaload, 1) := by decide +kernel
theorem dL_law_425 : decode cL_law 425 = .ok (.aload_n 0, 1) := by decide +kernel
theorem dL_law_426 : decode cL_law 426 = .ok (.iload_n 3, 1) := by decide +kernel
theorem dL_law_427 : decode cL_law 427 = .ok (.iconst 2, 1) := by decide +kernel
theorem dL_law_428 : decode cL_law 428 = .ok (.iadd, 1) := by decide +kernel
theorem dL_law_429 : decode cL_law 429 = .ok (.iaload, 1) := by decide +kernel
theorem dL_law_430 : decode cL_law 430 = .ok (.invokevirtual 40, 3) := by decide +kernel
theorem dL_law_433 : decode cL_law 433 = .ok (.if_icmp .eq 829, 3) := by decide +kernel
theorem dL_law_436 : decode cL_law 436 = .ok (.iconst 0, 1) := by decide +kernel
theorem dL_law_437 : decode cL_law 437 = .ok (.ireturn, 1) := by decide +kernel
theorem dL_law_438 : decode cL_law 438 = .ok (.aload_n 1, 1) := by decide +kernel
theorem dL_law_439 : decode cL_law 439 = .ok (.aload_n 0, 1) := by decide +kernel
theorem dL_law_440 : decode cL_law 440 = .ok (.iload_n 3, 1) := by decide +kernel
theorem dL_law_441 : decode cL_law 441 = .ok (.iconst 1, 1) := by decide +kernel
theorem dL_law_442 : decode cL_law 442 = .ok (.iadd, 1) := by decide +kernel
theorem dL_law_443 : decode cL_law 443 = .ok (.iaload, 1) := by decide +kernel
theorem dL_law_444 : decode cL_law 444 = .ok (.invokevirtual 41, 3) := by decide +kernel
theorem dL_law_447 : decode cL_law 447 = .ok (.aload_n 2, 1) := by decide +kernel
theorem dL_law_448 : decode cL_law 448 = .ok (.aload_n 0, 1) := by decide +kernel
theorem dL_law_449 : decode cL_law 449 = .ok (.iload_n 3, 1) := by decide +kernel
theorem dL_law_450 : decode cL_law 450 = .ok (.iconst 1, 1) := by decide +kernel
theorem dL_law_451 : decode cL_law 451 = .ok (.iadd, 1) := by decide +kernel
theorem dL_law_452 : decode cL_law 452 = .ok (.iaload, 1) := by decide +kernel
theorem dL_law_453 : decode cL_law 453 = .ok (.invokevirtual 45, 3) := by decide +kernel
theorem dL_law_456 : decode cL_law 456 = .ok (.if_icmp .eq 806, 3) := by decide +kernel
theorem dL_law_459 : decode cL_law 459 = .ok (.iconst 0, 1) := by decide +kernel
theorem dL_law_460 : decode cL_law 460 = .ok (.ireturn, 1) := by decide +kernel
theorem dL_law_461 : decode cL_law 461 = .ok (.aload_n 1, 1) := by decide +kernel
theorem dL_law_462 : decode cL_law 462 = .ok (.aload_n 0, 1) := by decide +kernel
theorem dL_law_463 : decode cL_law 463 = .ok (.iload_n 3, 1) := by decide +kernel
theorem dL_law_464 : decode cL_law 464 = .ok (.iconst 1, 1) := by decide +kernel
theorem dL_law_465 : decode cL_law 465 = .ok (.iadd, 1) := by decide +kernel
theorem dL_law_466 : decode cL_law 466 = .ok (.iaload, 1) := by decide +kernel
theorem dL_law_467 : decode cL_law 467 = .ok (.invokevirtual 46, 3) := by decide +kernel
theorem dL_law_470 : decode cL_law 470 = .ok (.aload_n 2, 1) := by decide +kernel
theorem dL_law_471 : decode cL_law 471 = .ok (.aload_n 0, 1) := by decide +kernel
theorem dL_law_472 : decode cL_law 472 = .ok (.iload_n 3, 1) := by decide +kernel
theorem dL_law_473 : decode cL_law 473 = .ok (.iconst 1, 1) := by decide +kernel
theorem dL_law_474 : decode cL_law 474 = .ok (.iadd, 1) := by decide +kernel
theorem dL_law_475 : decode cL_law 475 = .ok (.iaload, 1) := by decide +kernel
theorem dL_law_476 : decode cL_law 476 = .ok (.invokevirtual 49, 3) := by decide +kernel
theorem dL_law_479 : decode cL_law 479 = .ok (.if_icmp .eq 783, 3) := by decide +kernel
theorem dL_law_482 : decode cL_law 482 = .ok (.iconst 0, 1) := by decide +kernel
theorem dL_law_483 : decode cL_law 483 = .ok (.ireturn, 1) := by decide +kernel
theorem dL_law_484 : decode cL_law 484 = .ok (.aload_n 1, 1) := by decide +kernel
theorem dL_law_485 : decode cL_law 485 = .ok (.invokevirtual 50, 3) := by decide +kernel
theorem dL_law_488 : decode cL_law 488 = .ok (.aload_n 2, 1) := by decide +kernel
theorem dL_law_489 : decode cL_law 489 = .ok (.invokevirtual 54, 3) := by decide +kernel
theorem dL_law_492 : decode cL_law 492 = .ok (.if_icmp .eq 770, 3) := by decide +kernel
theorem dL_law_495 : decode cL_law 495 = .ok (.iconst 0, 1) := by decide +kernel
theorem dL_law_496 : decode cL_law 496 = .ok (.ireturn, 1) := by decide +kernel
theorem dL_law_497 : decode cL_law 497 = .ok (.aload_n 1, 1) := by decide +kernel
theorem dL_law_498 : decode cL_law 498 = .ok (.invokevirtual 55, 3) := by decide +kernel
theorem dL_law_501 : decode cL_law 501 = .ok (.aload_n 2, 1) := by decide +kernel
theorem dL_law_502 : decode cL_law 502 = .ok (.invokevirtual 58, 3) := by decide +kernel
theorem dL_law_505 : decode cL_law 505 = .ok (.if_icmp .eq 757, 3) := by decide +kernel
theorem dL_law_508 : decode cL_law 508 = .ok (.iconst 0, 1) := by decide +kernel
theorem dL_law_509 : decode cL_law 509 = .ok (.ireturn, 1) := by decide +kernel
theorem dL_law_510 : decode cL_law 510 = .ok (.aload_n 1, 1) := by decide +kernel
theorem dL_law_511 : decode cL_law 511 = .ok (.aload_n 0, 1) := by decide +kernel
theorem dL_law_512 : decode cL_law 512 = .ok (.iload_n 3, 1) := by decide +kernel
theorem dL_law_513 : decode cL_law 513 = .ok (.iconst 1, 1) := by decide +kernel
theorem dL_law_514 : decode cL_law 514 = .ok (.iadd, 1) := by decide +kernel
theorem dL_law_515 : decode cL_law 515 = .ok (.iaload, 1) := by decide +kernel
theorem dL_law_516 : decode cL_law 516 = .ok (.aload_n 0, 1) := by decide +kernel
theorem dL_law_517 : decode cL_law 517 = .ok (.iload_n 3, 1) := by decide +kernel
theorem dL_law_518 : decode cL_law 518 = .ok (.iconst 2, 1) := by decide +kernel
theorem dL_law_519 : decode cL_law 519 = .ok (.iadd, 1) := by decide +kernel
theorem dL_law_520 : decode cL_law 520 = .ok (.iaload, 1) := by decide +kernel
theorem dL_law_521 : decode cL_law 521 = .ok (.invokevirtual 59, 3) := by decide +kernel
theorem dL_law_524 : decode cL_law 524 = .ok (.aload_n 2, 1) := by decide +kernel
theorem dL_law_525 : decode cL_law 525 = .ok (.aload_n 0, 1) := by decide +kernel
theorem dL_law_526 : decode cL_law 526 = .ok (.iload_n 3, 1) := by decide +kernel
theorem dL_law_527 : decode cL_law 527 = .ok (.iconst 1, 1) := by decide +kernel
theorem dL_law_528 : decode cL_law 528 = .ok (.iadd, 1) := by decide +kernel
theorem dL_law_529 : decode cL_law 529 = .ok (.iaload, 1) := by decide +kernel
theorem dL_law_530 : decode cL_law 530 = .ok (.aload_n 0, 1) := by decide +kernel
theorem dL_law_531 : decode cL_law 531 = .ok (.iload_n 3, 1) := by decide +kernel
theorem dL_law_532 : decode cL_law 532 = .ok (.iconst 2, 1) := by decide +kernel
theorem dL_law_533 : decode cL_law 533 = .ok (.iadd, 1) := by decide +kernel
theorem dL_law_534 : decode cL_law 534 = .ok (.iaload, 1) := by decide +kernel
theorem dL_law_535 : decode cL_law 535 = .ok (.invokevirtual 62, 3) := by decide +kernel
theorem dL_law_538 : decode cL_law 538 = .ok (.if_icmp .eq 724, 3) := by decide +kernel
theorem dL_law_541 : decode cL_law 541 = .ok (.iconst 0, 1) := by decide +kernel
theorem dL_law_542 : decode cL_law 542 = .ok (.ireturn, 1) := by decide +kernel
theorem dL_law_543 : decode cL_law 543 = .ok (.aload_n 1, 1) := by decide +kernel
theorem dL_law_544 : decode cL_law 544 = .ok (.aload_n 0, 1) := by decide +kernel
theorem dL_law_545 : decode cL_law 545 = .ok (.iload_n 3, 1) := by decide +kernel
theorem dL_law_546 : decode cL_law 546 = .ok (.iconst 1, 1) := by decide +kernel
theorem dL_law_547 : decode cL_law 547 = .ok (.iadd, 1) := by decide +kernel
theorem dL_law_548 : decode cL_law 548 = .ok (.iaload, 1) := by decide +kernel
theorem dL_law_549 : decode cL_law 549 = .ok (.invokevirtual 63, 3) := by decide +kernel
theorem dL_law_552 : decode cL_law 552 = .ok (.aload_n 2, 1) := by decide +kernel
theorem dL_law_553 : decode cL_law 553 = .ok (.aload_n 0, 1) := by decide +kernel
theorem dL_law_554 : decode cL_law 554 = .ok (.iload_n 3, 1) := by decide +kernel
theorem dL_law_555 : decode cL_law 555 = .ok (.iconst 1, 1) := by decide +kernel
theorem dL_law_556 : decode cL_law 556 = .ok (.iadd, 1) := by decide +kernel
theorem dL_law_557 : decode cL_law 557 = .ok (.iaload, 1) := by decide +kernel
theorem dL_law_558 : decode cL_law 558 = .ok (.invokevirtual 66, 3) := by decide +kernel
theorem dL_law_561 : decode cL_law 561 = .ok (.if_icmp .eq 701, 3) := by decide +kernel
theorem dL_law_564 : decode cL_law 564 = .ok (.iconst 0, 1) := by decide +kernel
theorem dL_law_565 : decode cL_law 565 = .ok (.ireturn, 1) := by decide +kernel
theorem dL_law_566 : decode cL_law 566 = .ok (.aload_n 1, 1) := by decide +kernel
theorem dL_law_567 : decode cL_law 567 = .ok (.aload_n 0, 1) := by decide +kernel
theorem dL_law_568 : decode cL_law 568 = .ok (.iload_n 3, 1) := by decide +kernel
theorem dL_law_569 : decode cL_law 569 = .ok (.iconst 1, 1) := by decide +kernel
theorem dL_law_570 : decode cL_law 570 = .ok (.iadd, 1) := by decide +kernel
theorem dL_law_571 : decode cL_law 571 = .ok (.iaload, 1) := by decide +kernel
theorem dL_law_572 : decode cL_law 572 = .ok (.aload_n 0, 1) := by decide +kernel
theorem dL_law_573 : decode cL_law 573 = .ok (.iload_n 3, 1) := by decide +kernel
theorem dL_law_574 : decode cL_law 574 = .ok (.iconst 2, 1) := by decide +kernel
theorem dL_law_575 : decode cL_law 575 = .ok (.iadd, 1) := by decide +kernel
theorem dL_law_576 : decode cL_law 576 = .ok (.iaload, 1) := by decide +kernel
theorem dL_law_577 : decode cL_law 577 = .ok (.ifCond .eq 7, 3) := by decide +kernel
theorem dL_law_580 : decode cL_law 580 = .ok (.iconst 1, 1) := by decide +kernel
theorem dL_law_581 : decode cL_law 581 = .ok (.goto 4, 3) := by decide +kernel
theorem dL_law_584 : decode cL_law 584 = .ok (.iconst 0, 1) := by decide +kernel
theorem dL_law_585 : decode cL_law 585 = .ok (.aload_n 0, 1) := by decide +kernel
theorem dL_law_586 : decode cL_law 586 = .ok (.iload_n 3, 1) := by decide +kernel
theorem dL_law_587 : decode cL_law 587 = .ok (.iconst 3, 1) := by decide +kernel
theorem dL_law_588 : decode cL_law 588 = .ok (.iadd, 1) := by decide +kernel
theorem dL_law_589 : decode cL_law 589 = .ok (.iaload, 1) := by decide +kernel
theorem dL_law_590 : decode cL_law 590 = .ok (.invokevirtual 67, 3) := by decide +kernel
theorem dL_law_593 : decode cL_law 593 = .ok (.aload_n 2, 1) := by decide +kernel
theorem dL_law_594 : decode cL_law 594 = .ok (.aload_n 0, 1) := by decide +kernel
theorem dL_law_595 : decode cL_law 595 = .ok (.iload_n 3, 1) := by decide +kernel
theorem dL_law_596 : decode cL_law 596 = .ok (.iconst 1, 1) := by decide +kernel
theorem dL_law_597 : decode cL_law 597 = .ok (.iadd, 1) := by decide +kernel
theorem dL_law_598 : decode cL_law 598 = .ok (.iaload, 1) := by decide +kernel
theorem dL_law_599 : decode cL_law 599 = .ok (.aload_n 0, 1) := by decide +kernel
theorem dL_law_600 : decode cL_law 600 = .ok (.iload_n 3, 1) := by decide +kernel
theorem dL_law_601 : decode cL_law 601 = .ok (.iconst 2, 1) := by decide +kernel
theorem dL_law_602 : decode cL_law 602 = .ok (.iadd, 1) := by decide +kernel
theorem dL_law_603 : decode cL_law 603 = .ok (.iaload, 1) := by decide +kernel
theorem dL_law_604 : decode cL_law 604 = .ok (.ifCond .eq 7, 3) := by decide +kernel
theorem dL_law_607 : decode cL_law 607 = .ok (.iconst 1, 1) := by decide +kernel
theorem dL_law_608 : decode cL_law 608 = .ok (.goto 4, 3) := by decide +kernel
theorem dL_law_611 : decode cL_law 611 = .ok (.iconst 0, 1) := by decide +kernel
theorem dL_law_612 : decode cL_law 612 = .ok (.aload_n 0, 1) := by decide +kernel
theorem dL_law_613 : decode cL_law 613 = .ok (.iload_n 3, 1) := by decide +kernel
theorem dL_law_614 : decode cL_law 614 = .ok (.iconst 3, 1) := by decide +kernel
theorem dL_law_615 : decode cL_law 615 = .ok (.iadd, 1) := by decide +kernel
theorem dL_law_616 : decode cL_law 616 = .ok (.iaload, 1) := by decide +kernel
theorem dL_law_617 : decode cL_law 617 = .ok (.invokevirtual 71, 3) := by decide +kernel
theorem dL_law_620 : decode cL_law 620 = .ok (.lcmp, 1) := by decide +kernel
theorem dL_law_621 : decode cL_law 621 = .ok (.ifCond .eq 641, 3) := by decide +kernel
theorem dL_law_624 : decode cL_law 624 = .ok (.iconst 0, 1) := by decide +kernel
theorem dL_law_625 : decode cL_law 625 = .ok (.ireturn, 1) := by decide +kernel
theorem dL_law_626 : decode cL_law 626 = .ok (.aload_n 1, 1) := by decide +kernel
theorem dL_law_627 : decode cL_law 627 = .ok (.aload_n 0, 1) := by decide +kernel
theorem dL_law_628 : decode cL_law 628 = .ok (.iload_n 3, 1) := by decide +kernel
theorem dL_law_629 : decode cL_law 629 = .ok (.iconst 1, 1) := by decide +kernel
theorem dL_law_630 : decode cL_law 630 = .ok (.iadd, 1) := by decide +kernel
theorem dL_law_631 : decode cL_law 631 = .ok (.iaload, 1) := by decide +kernel
theorem dL_law_632 : decode cL_law 632 = .ok (.aload_n 0, 1) := by decide +kernel
theorem dL_law_633 : decode cL_law 633 = .ok (.iload_n 3, 1) := by decide +kernel
theorem dL_law_634 : decode cL_law 634 = .ok (.iconst 2, 1) := by decide +kernel
theorem dL_law_635 : decode cL_law 635 = .ok (.iadd, 1) := by decide +kernel
theorem dL_law_636 : decode cL_law 636 = .ok (.iaload, 1) := by decide +kernel
theorem dL_law_637 : decode cL_law 637 = .ok (.aload_n 0, 1) := by decide +kernel
theorem dL_law_638 : decode cL_law 638 = .ok (.iload_n 3, 1) := by decide +kernel
theorem dL_law_639 : decode cL_law 639 = .ok (.iconst 3, 1) := by decide +kernel
theorem dL_law_640 : decode cL_law 640 = .ok (.iadd, 1) := by decide +kernel
theorem dL_law_641 : decode cL_law 641 = .ok (.iaload, 1) := by decide +kernel
theorem dL_law_642 : decode cL_law 642 = .ok (.aload_n 0, 1) := by decide +kernel
theorem dL_law_643 : decode cL_law 643 = .ok (.iload_n 3, 1) := by decide +kernel
theorem dL_law_644 : decode cL_law 644 = .ok (.iconst 4, 1) := by decide +kernel
theorem dL_law_645 : decode cL_law 645 = .ok (.iadd, 1) := by decide +kernel
theorem dL_law_646 : decode cL_law 646 = .ok (.iaload, 1) := by decide +kernel
theorem dL_law_647 : decode cL_law 647 = .ok (.invokevirtual 72, 3) := by decide +kernel
theorem dL_law_650 : decode cL_law 650 = .ok (.aload_n 2, 1) := by decide +kernel
theorem dL_law_651 : decode cL_law 651 = .ok (.aload_n 0, 1) := by decide +kernel
theorem dL_law_652 : decode cL_law 652 = .ok (.iload_n 3, 1) := by decide +kernel
theorem dL_law_653 : decode cL_law 653 = .ok (.iconst 1, 1) := by decide +kernel
theorem dL_law_654 : decode cL_law 654 = .ok (.iadd, 1) := by decide +kernel
theorem dL_law_655 : decode cL_law 655 = .ok (.iaload, 1) := by decide +kernel
theorem dL_law_656 : decode cL_law 656 = .ok (.aload_n 0, 1) := by decide +kernel
theorem dL_law_657 : decode cL_law 657 = .ok (.iload_n 3, 1) := by decide +kernel
theorem dL_law_658 : decode cL_law 658 = .ok (.iconst 2, 1) := by decide +kernel
theorem dL_law_659 : decode cL_law 659 = .ok (.iadd, 1) := by decide +kernel
theorem dL_law_660 : decode cL_law 660 = .ok (.iaload, 1) := by decide +kernel
theorem dL_law_661 : decode cL_law 661 = .ok (.aload_n 0, 1) := by decide +kernel
theorem dL_law_662 : decode cL_law 662 = .ok (.iload_n 3, 1) := by decide +kernel
theorem dL_law_663 : decode cL_law 663 = .ok (.iconst 3, 1) := by decide +kernel
theorem dL_law_664 : decode cL_law 664 = .ok (.iadd, 1) := by decide +kernel
theorem dL_law_665 : decode cL_law 665 = .ok (.iaload, 1) := by decide +kernel
theorem dL_law_666 : decode cL_law 666 = .ok (.aload_n 0, 1) := by decide +kernel
theorem dL_law_667 : decode cL_law 667 = .ok (.iload_n 3, 1) := by decide +kernel
theorem dL_law_668 : decode cL_law 668 = .ok (.iconst 4, 1) := by decide +kernel
theorem dL_law_669 : decode cL_law 669 = .ok (.iadd, 1) := by decide +kernel
theorem dL_law_670 : decode cL_law 670 = .ok (.iaload, 1) := by decide +kernel
theorem dL_law_671 : decode cL_law 671 = .ok (.invokevirtual 75, 3) := by decide +kernel
theorem dL_law_674 : decode cL_law 674 = .ok (.if_icmp .eq 588, 3) := by decide +kernel
theorem dL_law_677 : decode cL_law 677 = .ok (.iconst 0, 1) := by decide +kernel
theorem dL_law_678 : decode cL_law 678 = .ok (.ireturn, 1) := by decide +kernel
theorem dL_law_679 : decode cL_law 679 = .ok (.aload_n 1, 1) := by decide +kernel
theorem dL_law_680 : decode cL_law 680 = .ok (.aload_n 0, 1) := by decide +kernel
theorem dL_law_681 : decode cL_law 681 = .ok (.iload_n 3, 1) := by decide +kernel
theorem dL_law_682 : decode cL_law 682 = .ok (.iconst 1, 1) := by decide +kernel
theorem dL_law_683 : decode cL_law 683 = .ok (.iadd, 1) := by decide +kernel
theorem dL_law_684 : decode cL_law 684 = .ok (.iaload, 1) := by decide +kernel
theorem dL_law_685 : decode cL_law 685 = .ok (.invokevirtual 76, 3) := by decide +kernel
theorem dL_law_688 : decode cL_law 688 = .ok (.aload_n 2, 1) := by decide +kernel
theorem dL_law_689 : decode cL_law 689 = .ok (.aload_n 0, 1) := by decide +kernel
theorem dL_law_690 : decode cL_law 690 = .ok (.iload_n 3, 1) := by decide +kernel
theorem dL_law_691 : decode cL_law 691 = .ok (.iconst 1, 1) := by decide +kernel
theorem dL_law_692 : decode cL_law 692 = .ok (.iadd, 1) := by decide +kernel
theorem dL_law_693 : decode cL_law 693 = .ok (.iaload, 1) := by decide +kernel
theorem dL_law_694 : decode cL_law 694 = .ok (.invokevirtual 79, 3) := by decide +kernel
theorem dL_law_697 : decode cL_law 697 = .ok (.if_icmp .eq 565, 3) := by decide +kernel
theorem dL_law_700 : decode cL_law 700 = .ok (.iconst 0, 1) := by decide +kernel
theorem dL_law_701 : decode cL_law 701 = .ok (.ireturn, 1) := by decide +kernel
theorem dL_law_702 : decode cL_law 702 = .ok (.aload_n 1, 1) := by decide +kernel
theorem dL_law_703 : decode cL_law 703 = .ok (.aload_n 0, 1) := by decide +kernel
theorem dL_law_704 : decode cL_law 704 = .ok (.iload_n 3, 1) := by decide +kernel
theorem dL_law_705 : decode cL_law 705 = .ok (.iconst 1, 1) := by decide +kernel
theorem dL_law_706 : decode cL_law 706 = .ok (.iadd, 1) := by decide +kernel
theorem dL_law_707 : decode cL_law 707 = .ok (.iaload, 1) := by decide +kernel
theorem dL_law_708 : decode cL_law 708 = .ok (.aload_n 0, 1) := by decide +kernel
theorem dL_law_709 : decode cL_law 709 = .ok (.iload_n 3, 1) := by decide +kernel
theorem dL_law_710 : decode cL_law 710 = .ok (.iconst 2, 1) := by decide +kernel
theorem dL_law_711 : decode cL_law 711 = .ok (.iadd, 1) := by decide +kernel
theorem dL_law_712 : decode cL_law 712 = .ok (.iaload, 1) := by decide +kernel
theorem dL_law_713 : decode cL_law 713 = .ok (.invokevirtual 80, 3) := by decide +kernel
theorem dL_law_716 : decode cL_law 716 = .ok (.aload_n 2, 1) := by decide +kernel
theorem dL_law_717 : decode cL_law 717 = .ok (.aload_n 0, 1) := by decide +kernel
theorem dL_law_718 : decode cL_law 718 = .ok (.iload_n 3, 1) := by decide +kernel
theorem dL_law_719 : decode cL_law 719 = .ok (.iconst 1, 1) := by decide +kernel
theorem dL_law_720 : decode cL_law 720 = .ok (.iadd, 1) := by decide +kernel
theorem dL_law_721 : decode cL_law 721 = .ok (.iaload, 1) := by decide +kernel
theorem dL_law_722 : decode cL_law 722 = .ok (.aload_n 0, 1) := by decide +kernel
theorem dL_law_723 : decode cL_law 723 = .ok (.iload_n 3, 1) := by decide +kernel
theorem dL_law_724 : decode cL_law 724 = .ok (.iconst 2, 1) := by decide +kernel
theorem dL_law_725 : decode cL_law 725 = .ok (.iadd, 1) := by decide +kernel
theorem dL_law_726 : decode cL_law 726 = .ok (.iaload, 1) := by decide +kernel
theorem dL_law_727 : decode cL_law 727 = .ok (.invokevirtual 83, 3) := by decide +kernel
theorem dL_law_730 : decode cL_law 730 = .ok (.if_icmp .eq 532, 3) := by decide +kernel
theorem dL_law_733 : decode cL_law 733 = .ok (.iconst 0, 1) := by decide +kernel
theorem dL_law_734 : decode cL_law 734 = .ok (.ireturn, 1) := by decide +kernel
theorem dL_law_735 : decode cL_law 735 = .ok (.aload_n 1, 1) := by decide +kernel
theorem dL_law_736 : decode cL_law 736 = .ok (.aload_n 0, 1) := by decide +kernel
theorem dL_law_737 : decode cL_law 737 = .ok (.iload_n 3, 1) := by decide +kernel
theorem dL_law_738 : decode cL_law 738 = .ok (.iconst 1, 1) := by decide +kernel
theorem dL_law_739 : decode cL_law 739 = .ok (.iadd, 1) := by decide +kernel
theorem dL_law_740 : decode cL_law 740 = .ok (.iaload, 1) := by decide +kernel
theorem dL_law_741 : decode cL_law 741 = .ok (.invokevirtual 84, 3) := by decide +kernel
theorem dL_law_744 : decode cL_law 744 = .ok (.aload_n 2, 1) := by decide +kernel
theorem dL_law_745 : decode cL_law 745 = .ok (.aload_n 0, 1) := by decide +kernel
theorem dL_law_746 : decode cL_law 746 = .ok (.iload_n 3, 1) := by decide +kernel
theorem dL_law_747 : decode cL_law 747 = .ok (.iconst 1, 1) := by decide +kernel
theorem dL_law_748 : decode cL_law 748 = .ok (.iadd, 1) := by decide +kernel
theorem dL_law_749 : decode cL_law 749 = .ok (.iaload, 1) := by decide +kernel
theorem dL_law_750 : decode cL_law 750 = .ok (.invokevirtual 87, 3) := by decide +kernel
theorem dL_law_753 : decode cL_law 753 = .ok (.if_icmp .eq 509, 3) := by decide +kernel
theorem dL_law_756 : decode cL_law 756 = .ok (.iconst 0, 1) := by decide +kernel
theorem dL_law_757 : decode cL_law 757 = .ok (.ireturn, 1) := by decide +kernel
theorem dL_law_758 : decode cL_law 758 = .ok (.aload_n 1, 1) := by decide +kernel
theorem dL_law_759 : decode cL_law 759 = .ok (.aload_n 0, 1) := by decide +kernel
theorem dL_law_760 : decode cL_law 760 = .ok (.iload_n 3, 1) := by decide +kernel
theorem dL_law_761 : decode cL_law 761 = .ok (.iconst 1, 1) := by decide +kernel
theorem dL_law_762 : decode cL_law 762 = .ok (.iadd, 1) := by decide +kernel
theorem dL_law_763 : decode cL_law 763 = .ok (.iaload, 1) := by decide +kernel
theorem dL_law_764 : decode cL_law 764 = .ok (.aload_n 0, 1) := by decide +kernel
theorem dL_law_765 : decode cL_law 765 = .ok (.iload_n 3, 1) := by decide +kernel
theorem dL_law_766 : decode cL_law 766 = .ok (.iconst 2, 1) := by decide +kernel
theorem dL_law_767 : decode cL_law 767 = .ok (.iadd, 1) := by decide +kernel
theorem dL_law_768 : decode cL_law 768 = .ok (.iaload, 1) := by decide +kernel
theorem dL_law_769 : decode cL_law 769 = .ok (.invokevirtual 88, 3) := by decide +kernel
theorem dL_law_772 : decode cL_law 772 = .ok (.aload_n 2, 1) := by decide +kernel
theorem dL_law_773 : decode cL_law 773 = .ok (.aload_n 0, 1) := by decide +kernel
theorem dL_law_774 : decode cL_law 774 = .ok (.iload_n 3, 1) := by decide +kernel
theorem dL_law_775 : decode cL_law 775 = .ok (.iconst 1, 1) := by decide +kernel
theorem dL_law_776 : decode cL_law 776 = .ok (.iadd, 1) := by decide +kernel
theorem dL_law_777 : decode cL_law 777 = .ok (.iaload, 1) := by decide +kernel
theorem dL_law_778 : decode cL_law 778 = .ok (.aload_n 0, 1) := by decide +kernel
theorem dL_law_779 : decode cL_law 779 = .ok (.iload_n 3, 1) := by decide +kernel
theorem dL_law_780 : decode cL_law 780 = .ok (.iconst 2, 1) := by decide +kernel
theorem dL_law_781 : decode cL_law 781 = .ok (.iadd, 1) := by decide +kernel
theorem dL_law_782 : decode cL_law 782 = .ok (.iaload, 1) := by decide +kernel
theorem dL_law_783 : decode cL_law 783 = .ok (.invokevirtual 92, 3) := by decide +kernel
theorem dL_law_786 : decode cL_law 786 = .ok (.lcmp, 1) := by decide +kernel
theorem dL_law_787 : decode cL_law 787 = .ok (.ifCond .eq 475, 3) := by decide +kernel
theorem dL_law_790 : decode cL_law 790 = .ok (.iconst 0, 1) := by decide +kernel
theorem dL_law_791 : decode cL_law 791 = .ok (.ireturn, 1) := by decide +kernel
theorem dL_law_792 : decode cL_law 792 = .ok (.aload_n 1, 1) := by decide +kernel
theorem dL_law_793 : decode cL_law 793 = .ok (.invokevirtual 93, 3) := by decide +kernel
theorem dL_law_796 : decode cL_law 796 = .ok (.aload_n 2, 1) := by decide +kernel
theorem dL_law_797 : decode cL_law 797 = .ok (.invokevirtual 96, 3) := by decide +kernel
theorem dL_law_800 : decode cL_law 800 = .ok (.if_icmp .eq 462, 3) := by decide +kernel
theorem dL_law_803 : decode cL_law 803 = .ok (.iconst 0, 1) := by decide +kernel
theorem dL_law_804 : decode cL_law 804 = .ok (.ireturn, 1) := by decide +kernel
theorem dL_law_805 : decode cL_law 805 = .ok (.aload_n 1, 1) := by decide +kernel
theorem dL_law_806 : decode cL_law 806 = .ok (.aload_n 0, 1) := by decide +kernel
theorem dL_law_807 : decode cL_law 807 = .ok (.iload_n 3, 1) := by decide +kernel
theorem dL_law_808 : decode cL_law 808 = .ok (.iconst 1, 1) := by decide +kernel
theorem dL_law_809 : decode cL_law 809 = .ok (.iadd, 1) := by decide +kernel
theorem dL_law_810 : decode cL_law 810 = .ok (.iaload, 1) := by decide +kernel
theorem dL_law_811 : decode cL_law 811 = .ok (.aload_n 0, 1) := by decide +kernel
theorem dL_law_812 : decode cL_law 812 = .ok (.iload_n 3, 1) := by decide +kernel
theorem dL_law_813 : decode cL_law 813 = .ok (.iconst 2, 1) := by decide +kernel
theorem dL_law_814 : decode cL_law 814 = .ok (.iadd, 1) := by decide +kernel
theorem dL_law_815 : decode cL_law 815 = .ok (.iaload, 1) := by decide +kernel
theorem dL_law_816 : decode cL_law 816 = .ok (.invokevirtual 97, 3) := by decide +kernel
theorem dL_law_819 : decode cL_law 819 = .ok (.aload_n 2, 1) := by decide +kernel
theorem dL_law_820 : decode cL_law 820 = .ok (.aload_n 0, 1) := by decide +kernel
theorem dL_law_821 : decode cL_law 821 = .ok (.iload_n 3, 1) := by decide +kernel
theorem dL_law_822 : decode cL_law 822 = .ok (.iconst 1, 1) := by decide +kernel
theorem dL_law_823 : decode cL_law 823 = .ok (.iadd, 1) := by decide +kernel
theorem dL_law_824 : decode cL_law 824 = .ok (.iaload, 1) := by decide +kernel
theorem dL_law_825 : decode cL_law 825 = .ok (.aload_n 0, 1) := by decide +kernel
theorem dL_law_826 : decode cL_law 826 = .ok (.iload_n 3, 1) := by decide +kernel
theorem dL_law_827 : decode cL_law 827 = .ok (.iconst 2, 1) := by decide +kernel
theorem dL_law_828 : decode cL_law 828 = .ok (.iadd, 1) := by decide +kernel
theorem dL_law_829 : decode cL_law 829 = .ok (.iaload, 1) := by decide +kernel
theorem dL_law_830 : decode cL_law 830 = .ok (.invokevirtual 100, 3) := by decide +kernel
theorem dL_law_833 : decode cL_law 833 = .ok (.if_icmp .eq 429, 3) := by decide +kernel
theorem dL_law_836 : decode cL_law 836 = .ok (.iconst 0, 1) := by decide +kernel
theorem dL_law_837 : decode cL_law 837 = .ok (.ireturn, 1) := by decide +kernel
theorem dL_law_838 : decode cL_law 838 = .ok (.aload_n 1, 1) := by decide +kernel
theorem dL_law_839 : decode cL_law 839 = .ok (.aload_n 0, 1) := by decide +kernel
theorem dL_law_840 : decode cL_law 840 = .ok (.iload_n 3, 1) := by decide +kernel
theorem dL_law_841 : decode cL_law 841 = .ok (.iconst 1, 1) := by decide +kernel
theorem dL_law_842 : decode cL_law 842 = .ok (.iadd, 1) := by decide +kernel
theorem dL_law_843 : decode cL_law 843 = .ok (.iaload, 1) := by decide +kernel
theorem dL_law_844 : decode cL_law 844 = .ok (.aload_n 0, 1) := by decide +kernel
theorem dL_law_845 : decode cL_law 845 = .ok (.iload_n 3, 1) := by decide +kernel
theorem dL_law_846 : decode cL_law 846 = .ok (.iconst 2, 1) := by decide +kernel
theorem dL_law_847 : decode cL_law 847 = .ok (.iadd, 1) := by decide +kernel
theorem dL_law_848 : decode cL_law 848 = .ok (.iaload, 1) := by decide +kernel
theorem dL_law_849 : decode cL_law 849 = .ok (.invokevirtual 101, 3) := by decide +kernel
theorem dL_law_852 : decode cL_law 852 = .ok (.aload_n 2, 1) := by decide +kernel
theorem dL_law_853 : decode cL_law 853 = .ok (.aload_n 0, 1) := by decide +kernel
theorem dL_law_854 : decode cL_law 854 = .ok (.iload_n 3, 1) := by decide +kernel
theorem dL_law_855 : decode cL_law 855 = .ok (.iconst 1, 1) := by decide +kernel
theorem dL_law_856 : decode cL_law 856 = .ok (.iadd, 1) := by decide +kernel
theorem dL_law_857 : decode cL_law 857 = .ok (.iaload, 1) := by decide +kernel
theorem dL_law_858 : decode cL_law 858 = .ok (.aload_n 0, 1) := by decide +kernel
theorem dL_law_859 : decode cL_law 859 = .ok (.iload_n 3, 1) := by decide +kernel
theorem dL_law_860 : decode cL_law 860 = .ok (.iconst 2, 1) := by decide +kernel
theorem dL_law_861 : decode cL_law 861 = .ok (.iadd, 1) := by decide +kernel
theorem dL_law_862 : decode cL_law 862 = .ok (.iaload, 1) := by decide +kernel
theorem dL_law_863 : decode cL_law 863 = .ok (.invokevirtual 104, 3) := by decide +kernel
theorem dL_law_866 : decode cL_law 866 = .ok (.if_icmp .eq 396, 3) := by decide +kernel
theorem dL_law_869 : decode cL_law 869 = .ok (.iconst 0, 1) := by decide +kernel
theorem dL_law_870 : decode cL_law 870 = .ok (.ireturn, 1) := by decide +kernel
theorem dL_law_871 : decode cL_law 871 = .ok (.aload_n 1, 1) := by decide +kernel
theorem dL_law_872 : decode cL_law 872 = .ok (.aload_n 0, 1) := by decide +kernel
theorem dL_law_873 : decode cL_law 873 = .ok (.iload_n 3, 1) := by decide +kernel
theorem dL_law_874 : decode cL_law 874 = .ok (.iconst 1, 1) := by decide +kernel
theorem dL_law_875 : decode cL_law 875 = .ok (.iadd, 1) := by decide +kernel
theorem dL_law_876 : decode cL_law 876 = .ok (.iaload, 1) := by decide +kernel
theorem dL_law_877 : decode cL_law 877 = .ok (.invokevirtual 105, 3) := by decide +kernel
theorem dL_law_880 : decode cL_law 880 = .ok (.aload_n 2, 1) := by decide +kernel
theorem dL_law_881 : decode cL_law 881 = .ok (.aload_n 0, 1) := by decide +kernel
theorem dL_law_882 : decode cL_law 882 = .ok (.iload_n 3, 1) := by decide +kernel
theorem dL_law_883 : decode cL_law 883 = .ok (.iconst 1, 1) := by decide +kernel
theorem dL_law_884 : decode cL_law 884 = .ok (.iadd, 1) := by decide +kernel
theorem dL_law_885 : decode cL_law 885 = .ok (.iaload, 1) := by decide +kernel
theorem dL_law_886 : decode cL_law 886 = .ok (.invokevirtual 109, 3) := by decide +kernel
theorem dL_law_889 : decode cL_law 889 = .ok (.lcmp, 1) := by decide +kernel
theorem dL_law_890 : decode cL_law 890 = .ok (.ifCond .eq 372, 3) := by decide +kernel
theorem dL_law_893 : decode cL_law 893 = .ok (.iconst 0, 1) := by decide +kernel
theorem dL_law_894 : decode cL_law 894 = .ok (.ireturn, 1) := by decide +kernel
theorem dL_law_895 : decode cL_law 895 = .ok (.aload_n 1, 1) := by decide +kernel
theorem dL_law_896 : decode cL_law 896 = .ok (.aload_n 0, 1) := by decide +kernel
theorem dL_law_897 : decode cL_law 897 = .ok (.iload_n 3, 1) := by decide +kernel
theorem dL_law_898 : decode cL_law 898 = .ok (.iconst 1, 1) := by decide +kernel
theorem dL_law_899 : decode cL_law 899 = .ok (.iadd, 1) := by decide +kernel
theorem dL_law_900 : decode cL_law 900 = .ok (.iaload, 1) := by decide +kernel
theorem dL_law_901 : decode cL_law 901 = .ok (.invokevirtual 110, 3) := by decide +kernel
theorem dL_law_904 : decode cL_law 904 = .ok (.aload_n 2, 1) := by decide +kernel
theorem dL_law_905 : decode cL_law 905 = .ok (.aload_n 0, 1) := by decide +kernel
theorem dL_law_906 : decode cL_law 906 = .ok (.iload_n 3, 1) := by decide +kernel
theorem dL_law_907 : decode cL_law 907 = .ok (.iconst 1, 1) := by decide +kernel
theorem dL_law_908 : decode cL_law 908 = .ok (.iadd, 1) := by decide +kernel
theorem dL_law_909 : decode cL_law 909 = .ok (.iaload, 1) := by decide +kernel
theorem dL_law_910 : decode cL_law 910 = .ok (.invokevirtual 113, 3) := by decide +kernel
theorem dL_law_913 : decode cL_law 913 = .ok (.if_icmp .eq 349, 3) := by decide +kernel
theorem dL_law_916 : decode cL_law 916 = .ok (.iconst 0, 1) := by decide +kernel
theorem dL_law_917 : decode cL_law 917 = .ok (.ireturn, 1) := by decide +kernel
theorem dL_law_918 : decode cL_law 918 = .ok (.aload_n 1, 1) := by decide +kernel
theorem dL_law_919 : decode cL_law 919 = .ok (.aload_n 0, 1) := by decide +kernel
theorem dL_law_920 : decode cL_law 920 = .ok (.iload_n 3, 1) := by decide +kernel
theorem dL_law_921 : decode cL_law 921 = .ok (.iconst 1, 1) := by decide +kernel
theorem dL_law_922 : decode cL_law 922 = .ok (.iadd, 1) := by decide +kernel
theorem dL_law_923 : decode cL_law 923 = .ok (.iaload, 1) := by decide +kernel
theorem dL_law_924 : decode cL_law 924 = .ok (.aload_n 0, 1) := by decide +kernel
theorem dL_law_925 : decode cL_law 925 = .ok (.iload_n 3, 1) := by decide +kernel
theorem dL_law_926 : decode cL_law 926 = .ok (.iconst 2, 1) := by decide +kernel
theorem dL_law_927 : decode cL_law 927 = .ok (.iadd, 1) := by decide +kernel
theorem dL_law_928 : decode cL_law 928 = .ok (.iaload, 1) := by decide +kernel
theorem dL_law_929 : decode cL_law 929 = .ok (.aload_n 0, 1) := by decide +kernel
theorem dL_law_930 : decode cL_law 930 = .ok (.iload_n 3, 1) := by decide +kernel
theorem dL_law_931 : decode cL_law 931 = .ok (.iconst 3, 1) := by decide +kernel
theorem dL_law_932 : decode cL_law 932 = .ok (.iadd, 1) := by decide +kernel
theorem dL_law_933 : decode cL_law 933 = .ok (.iaload, 1) := by decide +kernel
theorem dL_law_934 : decode cL_law 934 = .ok (.invokevirtual 114, 3) := by decide +kernel
theorem dL_law_937 : decode cL_law 937 = .ok (.aload_n 2, 1) := by decide +kernel
theorem dL_law_938 : decode cL_law 938 = .ok (.aload_n 0, 1) := by decide +kernel
theorem dL_law_939 : decode cL_law 939 = .ok (.iload_n 3, 1) := by decide +kernel
theorem dL_law_940 : decode cL_law 940 = .ok (.iconst 1, 1) := by decide +kernel
theorem dL_law_941 : decode cL_law 941 = .ok (.iadd, 1) := by decide +kernel
theorem dL_law_942 : decode cL_law 942 = .ok (.iaload, 1) := by decide +kernel
theorem dL_law_943 : decode cL_law 943 = .ok (.aload_n 0, 1) := by decide +kernel
theorem dL_law_944 : decode cL_law 944 = .ok (.iload_n 3, 1) := by decide +kernel
theorem dL_law_945 : decode cL_law 945 = .ok (.iconst 2, 1) := by decide +kernel
theorem dL_law_946 : decode cL_law 946 = .ok (.iadd, 1) := by decide +kernel
theorem dL_law_947 : decode cL_law 947 = .ok (.iaload, 1) := by decide +kernel
theorem dL_law_948 : decode cL_law 948 = .ok (.aload_n 0, 1) := by decide +kernel
theorem dL_law_949 : decode cL_law 949 = .ok (.iload_n 3, 1) := by decide +kernel
theorem dL_law_950 : decode cL_law 950 = .ok (.iconst 3, 1) := by decide +kernel
theorem dL_law_951 : decode cL_law 951 = .ok (.iadd, 1) := by decide +kernel
theorem dL_law_952 : decode cL_law 952 = .ok (.iaload, 1) := by decide +kernel
theorem dL_law_953 : decode cL_law 953 = .ok (.invokevirtual 117, 3) := by decide +kernel
theorem dL_law_956 : decode cL_law 956 = .ok (.if_icmp .eq 306, 3) := by decide +kernel
theorem dL_law_959 : decode cL_law 959 = .ok (.iconst 0, 1) := by decide +kernel
theorem dL_law_960 : decode cL_law 960 = .ok (.ireturn, 1) := by decide +kernel
theorem dL_law_961 : decode cL_law 961 = .ok (.aload_n 1, 1) := by decide +kernel
theorem dL_law_962 : decode cL_law 962 = .ok (.aload_n 0, 1) := by decide +kernel
theorem dL_law_963 : decode cL_law 963 = .ok (.iload_n 3, 1) := by decide +kernel
theorem dL_law_964 : decode cL_law 964 = .ok (.iconst 1, 1) := by decide +kernel
theorem dL_law_965 : decode cL_law 965 = .ok (.iadd, 1) := by decide +kernel
theorem dL_law_966 : decode cL_law 966 = .ok (.iaload, 1) := by decide +kernel
theorem dL_law_967 : decode cL_law 967 = .ok (.invokevirtual 118, 3) := by decide +kernel
theorem dL_law_970 : decode cL_law 970 = .ok (.aload_n 2, 1) := by decide +kernel
theorem dL_law_971 : decode cL_law 971 = .ok (.aload_n 0, 1) := by decide +kernel
theorem dL_law_972 : decode cL_law 972 = .ok (.iload_n 3, 1) := by decide +kernel
theorem dL_law_973 : decode cL_law 973 = .ok (.iconst 1, 1) := by decide +kernel
theorem dL_law_974 : decode cL_law 974 = .ok (.iadd, 1) := by decide +kernel
theorem dL_law_975 : decode cL_law 975 = .ok (.iaload, 1) := by decide +kernel
theorem dL_law_976 : decode cL_law 976 = .ok (.invokevirtual 121, 3) := by decide +kernel
theorem dL_law_979 : decode cL_law 979 = .ok (.if_icmp .eq 283, 3) := by decide +kernel
theorem dL_law_982 : decode cL_law 982 = .ok (.iconst 0, 1) := by decide +kernel
theorem dL_law_983 : decode cL_law 983 = .ok (.ireturn, 1) := by decide +kernel
theorem dL_law_984 : decode cL_law 984 = .ok (.aload_n 1, 1) := by decide +kernel
theorem dL_law_985 : decode cL_law 985 = .ok (.aload_n 0, 1) := by decide +kernel
theorem dL_law_986 : decode cL_law 986 = .ok (.iload_n 3, 1) := by decide +kernel
theorem dL_law_987 : decode cL_law 987 = .ok (.iconst 1, 1) := by decide +kernel
theorem dL_law_988 : decode cL_law 988 = .ok (.iadd, 1) := by decide +kernel
theorem dL_law_989 : decode cL_law 989 = .ok (.iaload, 1) := by decide +kernel
theorem dL_law_990 : decode cL_law 990 = .ok (.aload_n 0, 1) := by decide +kernel
theorem dL_law_991 : decode cL_law 991 = .ok (.iload_n 3, 1) := by decide +kernel
theorem dL_law_992 : decode cL_law 992 = .ok (.iconst 2, 1) := by decide +kernel
theorem dL_law_993 : decode cL_law 993 = .ok (.iadd, 1) := by decide +kernel
theorem dL_law_994 : decode cL_law 994 = .ok (.iaload, 1) := by decide +kernel
theorem dL_law_995 : decode cL_law 995 = .ok (.aload_n 0, 1) := by decide +kernel
theorem dL_law_996 : decode cL_law 996 = .ok (.iload_n 3, 1) := by decide +kernel
theorem dL_law_997 : decode cL_law 997 = .ok (.iconst 3, 1) := by decide +kernel
theorem dL_law_998 : decode cL_law 998 = .ok (.iadd, 1) := by decide +kernel
theorem dL_law_999 : decode cL_law 999 = .ok (.iaload, 1) := by decide +kernel
theorem dL_law_1000 : decode cL_law 1000 = .ok (.invokevirtual 122, 3) := by decide +kernel
theorem dL_law_1003 : decode cL_law 1003 = .ok (.aload_n 2, 1) := by decide +kernel
theorem dL_law_1004 : decode cL_law 1004 = .ok (.aload_n 0, 1) := by decide +kernel
theorem dL_law_1005 : decode cL_law 1005 = .ok (.iload_n 3, 1) := by decide +kernel
theorem dL_law_1006 : decode cL_law 1006 = .ok (.iconst 1, 1) := by decide +kernel
theorem dL_law_1007 : decode cL_law 1007 = .ok (.iadd, 1) := by decide +kernel
theorem dL_law_1008 : decode cL_law 1008 = .ok (.iaload, 1) := by decide +kernel
theorem dL_law_1009 : decode cL_law 1009 = .ok (.aload_n 0, 1) := by decide +kernel
theorem dL_law_1010 : decode cL_law 1010 = .ok (.iload_n 3, 1) := by decide +kernel
theorem dL_law_1011 : decode cL_law 1011 = .ok (.iconst 2, 1) := by decide +kernel
theorem dL_law_1012 : decode cL_law 1012 = .ok (.iadd, 1) := by decide +kernel
theorem dL_law_1013 : decode cL_law 1013 = .ok (.iaload, 1) := by decide +kernel
theorem dL_law_1014 : decode cL_law 1014 = .ok (.aload_n 0, 1) := by decide +kernel
theorem dL_law_1015 : decode cL_law 1015 = .ok (.iload_n 3, 1) := by decide +kernel
theorem dL_law_1016 : decode cL_law 1016 = .ok (.iconst 3, 1) := by decide +kernel
theorem dL_law_1017 : decode cL_law 1017 = .ok (.iadd, 1) := by decide +kernel
theorem dL_law_1018 : decode cL_law 1018 = .ok (.iaload, 1) := by decide +kernel
theorem dL_law_1019 : decode cL_law 1019 = .ok (.invokevirtual 125, 3) := by decide +kernel
theorem dL_law_1022 : decode cL_law 1022 = .ok (.if_icmp .eq 240, 3) := by decide +kernel
theorem dL_law_1025 : decode cL_law 1025 = .ok (.iconst 0, 1) := by decide +kernel
theorem dL_law_1026 : decode cL_law 1026 = .ok (.ireturn, 1) := by decide +kernel
theorem dL_law_1027 : decode cL_law 1027 = .ok (.aload_n 1, 1) := by decide +kernel
theorem dL_law_1028 : decode cL_law 1028 = .ok (.aload_n 0, 1) := by decide +kernel
theorem dL_law_1029 : decode cL_law 1029 = .ok (.iload_n 3, 1) := by decide +kernel
theorem dL_law_1030 : decode cL_law 1030 = .ok (.iconst 1, 1) := by decide +kernel
theorem dL_law_1031 : decode cL_law 1031 = .ok (.iadd, 1) := by decide +kernel
theorem dL_law_1032 : decode cL_law 1032 = .ok (.iaload, 1) := by decide +kernel
theorem dL_law_1033 : decode cL_law 1033 = .ok (.aload_n 0, 1) := by decide +kernel
theorem dL_law_1034 : decode cL_law 1034 = .ok (.iload_n 3, 1) := by decide +kernel
theorem dL_law_1035 : decode cL_law 1035 = .ok (.iconst 2, 1) := by decide +kernel
theorem dL_law_1036 : decode cL_law 1036 = .ok (.iadd, 1) := by decide +kernel
theorem dL_law_1037 : decode cL_law 1037 = .ok (.iaload, 1) := by decide +kernel
theorem dL_law_1038 : decode cL_law 1038 = .ok (.aload_n 0, 1) := by decide +kernel
theorem dL_law_1039 : decode cL_law 1039 = .ok (.iload_n 3, 1) := by decide +kernel
theorem dL_law_1040 : decode cL_law 1040 = .ok (.iconst 3, 1) := by decide +kernel
theorem dL_law_1041 : decode cL_law 1041 = .ok (.iadd, 1) := by decide +kernel
theorem dL_law_1042 : decode cL_law 1042 = .ok (.iaload, 1) := by decide +kernel
theorem dL_law_1043 : decode cL_law 1043 = .ok (.invokevirtual 126, 3) := by decide +kernel
theorem dL_law_1046 : decode cL_law 1046 = .ok (.aload_n 2, 1) := by decide +kernel
theorem dL_law_1047 : decode cL_law 1047 = .ok (.aload_n 0, 1) := by decide +kernel
theorem dL_law_1048 : decode cL_law 1048 = .ok (.iload_n 3, 1) := by decide +kernel
theorem dL_law_1049 : decode cL_law 1049 = .ok (.iconst 1, 1) := by decide +kernel
theorem dL_law_1050 : decode cL_law 1050 = .ok (.iadd, 1) := by decide +kernel
theorem dL_law_1051 : decode cL_law 1051 = .ok (.iaload, 1) := by decide +kernel
theorem dL_law_1052 : decode cL_law 1052 = .ok (.aload_n 0, 1) := by decide +kernel
theorem dL_law_1053 : decode cL_law 1053 = .ok (.iload_n 3, 1) := by decide +kernel
theorem dL_law_1054 : decode cL_law 1054 = .ok (.iconst 2, 1) := by decide +kernel
theorem dL_law_1055 : decode cL_law 1055 = .ok (.iadd, 1) := by decide +kernel
theorem dL_law_1056 : decode cL_law 1056 = .ok (.iaload, 1) := by decide +kernel
theorem dL_law_1057 : decode cL_law 1057 = .ok (.aload_n 0, 1) := by decide +kernel
theorem dL_law_1058 : decode cL_law 1058 = .ok (.iload_n 3, 1) := by decide +kernel
theorem dL_law_1059 : decode cL_law 1059 = .ok (.iconst 3, 1) := by decide +kernel
theorem dL_law_1060 : decode cL_law 1060 = .ok (.iadd, 1) := by decide +kernel
theorem dL_law_1061 : decode cL_law 1061 = .ok (.iaload, 1) := by decide +kernel
theorem dL_law_1062 : decode cL_law 1062 = .ok (.invokevirtual 130, 3) := by decide +kernel
theorem dL_law_1065 : decode cL_law 1065 = .ok (.lcmp, 1) := by decide +kernel
theorem dL_law_1066 : decode cL_law 1066 = .ok (.ifCond .eq 196, 3) := by decide +kernel
theorem dL_law_1069 : decode cL_law 1069 = .ok (.iconst 0, 1) := by decide +kernel
theorem dL_law_1070 : decode cL_law 1070 = .ok (.ireturn, 1) := by decide +kernel
theorem dL_law_1071 : decode cL_law 1071 = .ok (.aload_n 1, 1) := by decide +kernel
theorem dL_law_1072 : decode cL_law 1072 = .ok (.aload_n 0, 1) := by decide +kernel
theorem dL_law_1073 : decode cL_law 1073 = .ok (.iload_n 3, 1) := by decide +kernel
theorem dL_law_1074 : decode cL_law 1074 = .ok (.iconst 1, 1) := by decide +kernel
theorem dL_law_1075 : decode cL_law 1075 = .ok (.iadd, 1) := by decide +kernel
theorem dL_law_1076 : decode cL_law 1076 = .ok (.iaload, 1) := by decide +kernel
theorem dL_law_1077 : decode cL_law 1077 = .ok (.aload_n 0, 1) := by decide +kernel
theorem dL_law_1078 : decode cL_law 1078 = .ok (.iload_n 3, 1) := by decide +kernel
theorem dL_law_1079 : decode cL_law 1079 = .ok (.iconst 2, 1) := by decide +kernel
theorem dL_law_1080 : decode cL_law 1080 = .ok (.iadd, 1) := by decide +kernel
theorem dL_law_1081 : decode cL_law 1081 = .ok (.iaload, 1) := by decide +kernel
theorem dL_law_1082 : decode cL_law 1082 = .ok (.aload_n 0, 1) := by decide +kernel
theorem dL_law_1083 : decode cL_law 1083 = .ok (.iload_n 3, 1) := by decide +kernel
theorem dL_law_1084 : decode cL_law 1084 = .ok (.iconst 3, 1) := by decide +kernel
theorem dL_law_1085 : decode cL_law 1085 = .ok (.iadd, 1) := by decide +kernel
theorem dL_law_1086 : decode cL_law 1086 = .ok (.iaload, 1) := by decide +kernel
theorem dL_law_1087 : decode cL_law 1087 = .ok (.aload_n 0, 1) := by decide +kernel
theorem dL_law_1088 : decode cL_law 1088 = .ok (.iload_n 3, 1) := by decide +kernel
theorem dL_law_1089 : decode cL_law 1089 = .ok (.iconst 4, 1) := by decide +kernel
theorem dL_law_1090 : decode cL_law 1090 = .ok (.iadd, 1) := by decide +kernel
theorem dL_law_1091 : decode cL_law 1091 = .ok (.iaload, 1) := by decide +kernel
theorem dL_law_1092 : decode cL_law 1092 = .ok (.aload_n 0, 1) := by decide +kernel
theorem dL_law_1093 : decode cL_law 1093 = .ok (.iload_n 3, 1) := by decide +kernel
theorem dL_law_1094 : decode cL_law 1094 = .ok (.iconst 5, 1) := by decide +kernel
theorem dL_law_1095 : decode cL_law 1095 = .ok (.iadd, 1) := by decide +kernel
theorem dL_law_1096 : decode cL_law 1096 = .ok (.iaload, 1) := by decide +kernel
theorem dL_law_1097 : decode cL_law 1097 = .ok (.invokevirtual 131, 3) := by decide +kernel
theorem dL_law_1100 : decode cL_law 1100 = .ok (.aload_n 2, 1) := by decide +kernel
theorem dL_law_1101 : decode cL_law 1101 = .ok (.aload_n 0, 1) := by decide +kernel
theorem dL_law_1102 : decode cL_law 1102 = .ok (.iload_n 3, 1) := by decide +kernel
theorem dL_law_1103 : decode cL_law 1103 = .ok (.iconst 1, 1) := by decide +kernel
theorem dL_law_1104 : decode cL_law 1104 = .ok (.iadd, 1) := by decide +kernel
theorem dL_law_1105 : decode cL_law 1105 = .ok (.iaload, 1) := by decide +kernel
theorem dL_law_1106 : decode cL_law 1106 = .ok (.aload_n 0, 1) := by decide +kernel
theorem dL_law_1107 : decode cL_law 1107 = .ok (.iload_n 3, 1) := by decide +kernel
theorem dL_law_1108 : decode cL_law 1108 = .ok (.iconst 2, 1) := by decide +kernel
theorem dL_law_1109 : decode cL_law 1109 = .ok (.iadd, 1) := by decide +kernel
theorem dL_law_1110 : decode cL_law 1110 = .ok (.iaload, 1) := by decide +kernel
theorem dL_law_1111 : decode cL_law 1111 = .ok (.aload_n 0, 1) := by decide +kernel
theorem dL_law_1112 : decode cL_law 1112 = .ok (.iload_n 3, 1) := by decide +kernel
theorem dL_law_1113 : decode cL_law 1113 = .ok (.iconst 3, 1) := by decide +kernel
theorem dL_law_1114 : decode cL_law 1114 = .ok (.iadd, 1) := by decide +kernel
theorem dL_law_1115 : decode cL_law 1115 = .ok (.iaload, 1) := by decide +kernel
theorem dL_law_1116 : decode cL_law 1116 = .ok (.aload_n 0, 1) := by decide +kernel
theorem dL_law_1117 : decode cL_law 1117 = .ok (.iload_n 3, 1) := by decide +kernel
theorem dL_law_1118 : decode cL_law 1118 = .ok (.iconst 4, 1) := by decide +kernel
theorem dL_law_1119 : decode cL_law 1119 = .ok (.iadd, 1) := by decide +kernel
theorem dL_law_1120 : decode cL_law 1120 = .ok (.iaload, 1) := by decide +kernel
theorem dL_law_1121 : decode cL_law 1121 = .ok (.aload_n 0, 1) := by decide +kernel
theorem dL_law_1122 : decode cL_law 1122 = .ok (.iload_n 3, 1) := by decide +kernel
theorem dL_law_1123 : decode cL_law 1123 = .ok (.iconst 5, 1) := by decide +kernel
theorem dL_law_1124 : decode cL_law 1124 = .ok (.iadd, 1) := by decide +kernel
theorem dL_law_1125 : decode cL_law 1125 = .ok (.iaload, 1) := by decide +kernel
theorem dL_law_1126 : decode cL_law 1126 = .ok (.invokevirtual 135, 3) := by decide +kernel
theorem dL_law_1129 : decode cL_law 1129 = .ok (.if_icmp .eq 133, 3) := by decide +kernel
theorem dL_law_1132 : decode cL_law 1132 = .ok (.iconst 0, 1) := by decide +kernel
theorem dL_law_1133 : decode cL_law 1133 = .ok (.ireturn, 1) := by decide +kernel
theorem dL_law_1134 : decode cL_law 1134 = .ok (.aload_n 1, 1) := by decide +kernel
theorem dL_law_1135 : decode cL_law 1135 = .ok (.aload_n 0, 1) := by decide +kernel
theorem dL_law_1136 : decode cL_law 1136 = .ok (.iload_n 3, 1) := by decide +kernel
theorem dL_law_1137 : decode cL_law 1137 = .ok (.iconst 1, 1) := by decide +kernel
theorem dL_law_1138 : decode cL_law 1138 = .ok (.iadd, 1) := by decide +kernel
theorem dL_law_1139 : decode cL_law 1139 = .ok (.iaload, 1) := by decide +kernel
theorem dL_law_1140 : decode cL_law 1140 = .ok (.invokevirtual 136, 3) := by decide +kernel
theorem dL_law_1143 : decode cL_law 1143 = .ok (.aload_n 2, 1) := by decide +kernel
theorem dL_law_1144 : decode cL_law 1144 = .ok (.aload_n 0, 1) := by decide +kernel
theorem dL_law_1145 : decode cL_law 1145 = .ok (.iload_n 3, 1) := by decide +kernel
theorem dL_law_1146 : decode cL_law 1146 = .ok (.iconst 1, 1) := by decide +kernel
theorem dL_law_1147 : decode cL_law 1147 = .ok (.iadd, 1) := by decide +kernel
theorem dL_law_1148 : decode cL_law 1148 = .ok (.iaload, 1) := by decide +kernel
theorem dL_law_1149 : decode cL_law 1149 = .ok (.invokevirtual 139, 3) := by decide +kernel
theorem dL_law_1152 : decode cL_law 1152 = .ok (.if_icmp .eq 110, 3) := by decide +kernel
theorem dL_law_1155 : decode cL_law 1155 = .ok (.iconst 0, 1) := by decide +kernel
theorem dL_law_1156 : decode cL_law 1156 = .ok (.ireturn, 1) := by decide +kernel
theorem dL_law_1157 : decode cL_law 1157 = .ok (.aload_n 1, 1) := by decide +kernel
theorem dL_law_1158 : decode cL_law 1158 = .ok (.aload_n 0, 1) := by decide +kernel
theorem dL_law_1159 : decode cL_law 1159 = .ok (.iload_n 3, 1) := by decide +kernel
theorem dL_law_1160 : decode cL_law 1160 = .ok (.iconst 1, 1) := by decide +kernel
theorem dL_law_1161 : decode cL_law 1161 = .ok (.iadd, 1) := by decide +kernel
theorem dL_law_1162 : decode cL_law 1162 = .ok (.iaload, 1) := by decide +kernel
theorem dL_law_1163 : decode cL_law 1163 = .ok (.invokevirtual 140, 3) := by decide +kernel
theorem dL_law_1166 : decode cL_law 1166 = .ok (.aload_n 2, 1) := by decide +kernel
theorem dL_law_1167 : decode cL_law 1167 = .ok (.aload_n 0, 1) := by decide +kernel
theorem dL_law_1168 : decode cL_law 1168 = .ok (.iload_n 3, 1) := by decide +kernel
theorem dL_law_1169 : decode cL_law 1169 = .ok (.iconst 1, 1) := by decide +kernel
theorem dL_law_1170 : decode cL_law 1170 = .ok (.iadd, 1) := by decide +kernel
theorem dL_law_1171 : decode cL_law 1171 = .ok (.iaload, 1) := by decide +kernel
theorem dL_law_1172 : decode cL_law 1172 = .ok (.invokevirtual 143, 3) := by decide +kernel
theorem dL_law_1175 : decode cL_law 1175 = .ok (.if_icmp .eq 87, 3) := by decide +kernel
theorem dL_law_1178 : decode cL_law 1178 = .ok (.iconst 0, 1) := by decide +kernel
theorem dL_law_1179 : decode cL_law 1179 = .ok (.ireturn, 1) := by decide +kernel
theorem dL_law_1180 : decode cL_law 1180 = .ok (.aload_n 1, 1) := by decide +kernel
theorem dL_law_1181 : decode cL_law 1181 = .ok (.aload_n 0, 1) := by decide +kernel
theorem dL_law_1182 : decode cL_law 1182 = .ok (.iload_n 3, 1) := by decide +kernel
theorem dL_law_1183 : decode cL_law 1183 = .ok (.iconst 1, 1) := by decide +kernel
theorem dL_law_1184 : decode cL_law 1184 = .ok (.iadd, 1) := by decide +kernel
theorem dL_law_1185 : decode cL_law 1185 = .ok (.iaload, 1) := by decide +kernel
theorem dL_law_1186 : decode cL_law 1186 = .ok (.aload_n 0, 1) := by decide +kernel
theorem dL_law_1187 : decode cL_law 1187 = .ok (.iload_n 3, 1) := by decide +kernel
theorem dL_law_1188 : decode cL_law 1188 = .ok (.iconst 2, 1) := by decide +kernel
theorem dL_law_1189 : decode cL_law 1189 = .ok (.iadd, 1) := by decide +kernel
theorem dL_law_1190 : decode cL_law 1190 = .ok (.iaload, 1) := by decide +kernel
theorem dL_law_1191 : decode cL_law 1191 = .ok (.invokevirtual 144, 3) := by decide +kernel
theorem dL_law_1194 : decode cL_law 1194 = .ok (.aload_n 2, 1) := by decide +kernel
theorem dL_law_1195 : decode cL_law 1195 = .ok (.aload_n 0, 1) := by decide +kernel
theorem dL_law_1196 : decode cL_law 1196 = .ok (.iload_n 3, 1) := by decide +kernel
theorem dL_law_1197 : decode cL_law 1197 = .ok (.iconst 1, 1) := by decide +kernel
theorem dL_law_1198 : decode cL_law 1198 = .ok (.iadd, 1) := by decide +kernel
theorem dL_law_1199 : decode cL_law 1199 = .ok (.iaload, 1) := by decide +kernel
theorem dL_law_1200 : decode cL_law 1200 = .ok (.aload_n 0, 1) := by decide +kernel
theorem dL_law_1201 : decode cL_law 1201 = .ok (.iload_n 3, 1) := by decide +kernel
theorem dL_law_1202 : decode cL_law 1202 = .ok (.iconst 2, 1) := by decide +kernel
theorem dL_law_1203 : decode cL_law 1203 = .ok (.iadd, 1) := by decide +kernel
theorem dL_law_1204 : decode cL_law 1204 = .ok (.iaload, 1) := by decide +kernel
theorem dL_law_1205 : decode cL_law 1205 = .ok (.invokevirtual 147, 3) := by decide +kernel
theorem dL_law_1208 : decode cL_law 1208 = .ok (.if_icmp .eq 54, 3) := by decide +kernel
theorem dL_law_1211 : decode cL_law 1211 = .ok (.iconst 0, 1) := by decide +kernel
theorem dL_law_1212 : decode cL_law 1212 = .ok (.ireturn, 1) := by decide +kernel
theorem dL_law_1213 : decode cL_law 1213 = .ok (.aload_n 1, 1) := by decide +kernel
theorem dL_law_1214 : decode cL_law 1214 = .ok (.invokevirtual 148, 3) := by decide +kernel
theorem dL_law_1217 : decode cL_law 1217 = .ok (.aload_n 2, 1) := by decide +kernel
theorem dL_law_1218 : decode cL_law 1218 = .ok (.invokevirtual 151, 3) := by decide +kernel
theorem dL_law_1221 : decode cL_law 1221 = .ok (.if_icmp .eq 41, 3) := by decide +kernel
theorem dL_law_1224 : decode cL_law 1224 = .ok (.iconst 0, 1) := by decide +kernel
theorem dL_law_1225 : decode cL_law 1225 = .ok (.ireturn, 1) := by decide +kernel
theorem dL_law_1226 : decode cL_law 1226 = .ok (.aload_n 1, 1) := by decide +kernel
theorem dL_law_1227 : decode cL_law 1227 = .ok (.invokevirtual 152, 3) := by decide +kernel
theorem dL_law_1230 : decode cL_law 1230 = .ok (.aload_n 2, 1) := by decide +kernel
theorem dL_law_1231 : decode cL_law 1231 = .ok (.invokevirtual 155, 3) := by decide +kernel
theorem dL_law_1234 : decode cL_law 1234 = .ok (.if_icmp .eq 28, 3) := by decide +kernel
theorem dL_law_1237 : decode cL_law 1237 = .ok (.iconst 0, 1) := by decide +kernel
theorem dL_law_1238 : decode cL_law 1238 = .ok (.ireturn, 1) := by decide +kernel
theorem dL_law_1239 : decode cL_law 1239 = .ok (.aload_n 1, 1) := by decide +kernel
theorem dL_law_1240 : decode cL_law 1240 = .ok (.aload_n 0, 1) := by decide +kernel
theorem dL_law_1241 : decode cL_law 1241 = .ok (.iload_n 3, 1) := by decide +kernel
theorem dL_law_1242 : decode cL_law 1242 = .ok (.iconst 1, 1) := by decide +kernel
theorem dL_law_1243 : decode cL_law 1243 = .ok (.iadd, 1) := by decide +kernel
theorem dL_law_1244 : decode cL_law 1244 = .ok (.iaload, 1) := by decide +kernel
theorem dL_law_1245 : decode cL_law 1245 = .ok (.invokevirtual 156, 3) := by decide +kernel
theorem dL_law_1248 : decode cL_law 1248 = .ok (.aload_n 2, 1) := by decide +kernel
theorem dL_law_1249 : decode cL_law 1249 = .ok (.aload_n 0, 1) := by decide +kernel
theorem dL_law_1250 : decode cL_law 1250 = .ok (.iload_n 3, 1) := by decide +kernel
theorem dL_law_1251 : decode cL_law 1251 = .ok (.iconst 1, 1) := by decide +kernel
theorem dL_law_1252 : decode cL_law 1252 = .ok (.iadd, 1) := by decide +kernel
theorem dL_law_1253 : decode cL_law 1253 = .ok (.iaload, 1) := by decide +kernel
theorem dL_law_1254 : decode cL_law 1254 = .ok (.invokevirtual 159, 3) := by decide +kernel
theorem dL_law_1257 : decode cL_law 1257 = .ok (.if_icmp .eq 5, 3) := by decide +kernel
theorem dL_law_1260 : decode cL_law 1260 = .ok (.iconst 0, 1) := by decide +kernel
theorem dL_law_1261 : decode cL_law 1261 = .ok (.ireturn, 1) := by decide +kernel
theorem dL_law_1262 : decode cL_law 1262 = .ok (.iinc 3 6, 3) := by decide +kernel
theorem dL_law_1265 : decode cL_law 1265 = .ok (.goto (-1247), 3) := by decide +kernel
theorem dL_law_1268 : decode cL_law 1268 = .ok (.iconst 1, 1) := by decide +kernel
theorem dL_law_1269 : decode cL_law 1269 = .ok (.ireturn, 1) := by decide +kernel
end
section
/-! methods with their codes; the words of the tables by their places -/
abbrev qMD : Type := MethodName × ByteArray × Nat × Option FieldType
abbrev mX6_init : qMD := (yX6_init, cX6_init, 2, none)
abbrev mX5_init : qMD := (yX5_init, cX5_init, 1, none)
abbrev mX4_init : qMD := (yX4_init, cX4_init, 1, none)
abbrev mX1_init : qMD := (yX1_init, cX1_init, 1, none)
abbrev mX0_init : qMD := (yX0_init, cX0_init, 1, none)
abbrev mX2_init : qMD := (yX2_init, cX2_init, 1, none)
abbrev mX3_init : qMD := (yX3_init, cX3_init, 1, none)
abbrev mX6_table : qMD := (yX6_table, cX6_table, 7, (some .int))
abbrev mX6_refusalOfRow : qMD := (yX6_refusalOfRow, cX6_refusalOfRow, 5, (some .int))
abbrev mX6_isSheet : qMD := (yX6_isSheet, cX6_isSheet, 1, (some .boolean))
abbrev mX6_isSort : qMD := (yX6_isSort, cX6_isSort, 1, (some .boolean))
abbrev mX6_faulty : qMD := (yX6_faulty, cX6_faulty, 2, (some .int))
abbrev mX3_holds : qMD := (yX3_holds, cX3_holds, 3, (some .boolean))
abbrev mX5_isRead : qMD := (yX5_isRead, cX5_isRead, 4, (some .boolean))
abbrev mX5_isSign : qMD := (yX5_isSign, cX5_isSign, 3, (some .boolean))
abbrev mX5_areDishesRead : qMD := (yX5_areDishesRead, cX5_areDishesRead, 3, (some .boolean))
abbrev mX5_digit : qMD := (yX5_digit, cX5_digit, 4, (some .int))
abbrev mX5_areGuestsRead : qMD := (yX5_areGuestsRead, cX5_areGuestsRead, 3, (some .boolean))
abbrev mX5_isGuestRead : qMD := (yX5_isGuestRead, cX5_isGuestRead, 3, (some .boolean))
abbrev mX5_kindOfLetter : qMD := (yX5_kindOfLetter, cX5_kindOfLetter, 2, (some .int))
abbrev mX5_isWorthRead : qMD := (yX5_isWorthRead, cX5_isWorthRead, 5, (some .boolean))
abbrev mX5_place : qMD := (yX5_place, cX5_place, 1, (some .int))
abbrev mX4_begin : qMD := (yX4_begin, cX4_begin, 3, none)
abbrev mX4_clearMemory : qMD := (yX4_clearMemory, cX4_clearMemory, 1, none)
abbrev mJ7_fill_53178 : qMD := (yJ7_fill_53178, cJ7_fill_53178, 4, none)
abbrev mX6_unsettle : qMD := (yX6_unsettle, cX6_unsettle, 1, none)
abbrev mX6_ofDish : qMD := (yX6_ofDish, cX6_ofDish, 3, (some .int))
abbrev mX6_isDish : qMD := (yX6_isDish, cX6_isDish, 2, (some .boolean))
abbrev mX6_ofGuest : qMD := (yX6_ofGuest, cX6_ofGuest, 3, (some .int))
abbrev mX6_isGuest : qMD := (yX6_isGuest, cX6_isGuest, 2, (some .boolean))
abbrev mX4_seatOf : qMD := (yX4_seatOf, cX4_seatOf, 4, (some .int))
abbrev mX6_worth : qMD := (yX6_worth, cX6_worth, 4, (some .int))
abbrev mX6_say : qMD := (yX6_say, cX6_say, 5, (some .int))
abbrev mX5_mayHave : qMD := (yX5_mayHave, cX5_mayHave, 3, (some .boolean))
abbrev mX6_swap : qMD := (yX6_swap, cX6_swap, 5, (some .int))
abbrev mX6_step : qMD := (yX6_step, cX6_step, 3, (some .int))
abbrev mX6_courses : qMD := (yX6_courses, cX6_courses, 3, (some .int))
abbrev mX6_isTable : qMD := (yX6_isTable, cX6_isTable, 1, (some .boolean))
abbrev mX6_dine : qMD := (yX6_dine, cX6_dine, 1, (some .int))
abbrev mX4_evening : qMD := (yX4_evening, cX4_evening, 3, none)
abbrev mX4_layOut : qMD := (yX4_layOut, cX4_layOut, 1, none)
abbrev mX4_askedFor : qMD := (yX4_askedFor, cX4_askedFor, 2, (some .int))
abbrev mX4_ask : qMD := (yX4_ask, cX4_ask, 6, none)
abbrev mX4_mannerOf : qMD := (yX4_mannerOf, cX4_mannerOf, 3, (some .int))
abbrev mX5_truly : qMD := (yX5_truly, cX5_truly, 3, (some .int))
abbrev mX4_wish : qMD := (yX4_wish, cX4_wish, 10, (some .int))
abbrev mX4_gladInAll : qMD := (yX4_gladInAll, cX4_gladInAll, 1, (some .int))
abbrev mX4_sum : qMD := (yX4_sum, cX4_sum, 4, (some .int))
abbrev mX6_forget : qMD := (yX6_forget, cX6_forget, 3, (some .int))
abbrev mX6_gets : qMD := (yX6_gets, cX6_gets, 3, (some .int))
abbrev mX6_tryEvening : qMD := (yX6_tryEvening, cX6_tryEvening, 1, none)
abbrev mX4_become : qMD := (yX4_become, cX4_become, 3, none)
abbrev mX6_glad : qMD := (yX6_glad, cX6_glad, 2, (some .int))
abbrev mX6_pays : qMD := (yX6_pays, cX6_pays, 4, (some .long))
abbrev mX6_isOneOfTwo : qMD := (yX6_isOneOfTwo, cX6_isOneOfTwo, 1, (some .boolean))
abbrev mX4_paidInAll : qMD := (yX4_paidInAll, cX4_paidInAll, 1, (some .int))
abbrev mX6_share : qMD := (yX6_share, cX6_share, 5, (some .long))
abbrev mX6_judge : qMD := (yX6_judge, cX6_judge, 8, (some .int))
abbrev mX6_firstThatCannotBe : qMD := (yX6_firstThatCannotBe, cX6_firstThatCannotBe, 7, (some .int))
abbrev mX4_isAnyFor : qMD := (yX4_isAnyFor, cX4_isAnyFor, 4, (some .boolean))
abbrev mX4_isFor : qMD := (yX4_isFor, cX4_isFor, 3, (some .boolean))
abbrev mX6_best : qMD := (yX6_best, cX6_best, 2, (some .int))
abbrev mX0_find : qMD := (yX0_find, cX0_find, 5, none)
abbrev mX0_weigh : qMD := (yX0_weigh, cX0_weigh, 3, none)
abbrev mJ7_fill_d0a16 : qMD := (yJ7_fill_d0a16, cJ7_fill_d0a16, 5, none)
abbrev mX0_reckonGains : qMD := (yX0_reckonGains, cX0_reckonGains, 6, none)
abbrev mX0_unit : qMD := (yX0_unit, cX0_unit, 4, (some .long))
abbrev mJ9_min_7cf53 : qMD := (yJ9_min_7cf53, cJ9_min_7cf53, 2, (some .int))
abbrev mX0_serve : qMD := (yX0_serve, cX0_serve, 5, none)
abbrev mJ9_max_f86c9 : qMD := (yJ9_max_f86c9, cJ9_max_f86c9, 4, (some .long))
abbrev mX0_gladInAll : qMD := (yX0_gladInAll, cX0_gladInAll, 1, (some .int))
abbrev mX0_dishOf : qMD := (yX0_dishOf, cX0_dishOf, 3, (some .int))
abbrev mX6_seats : qMD := (yX6_seats, cX6_seats, 3, (some .int))
abbrev mX2_find : qMD := (yX2_find, cX2_find, 4, none)
abbrev mX2_weigh : qMD := (yX2_weigh, cX2_weigh, 4, none)
abbrev mX4_gladOfLeast : qMD := (yX4_gladOfLeast, cX4_gladOfLeast, 3, (some .int))
abbrev mX2_isNextRow : qMD := (yX2_isNextRow, cX2_isNextRow, 6, (some .boolean))
abbrev mX2_exchange : qMD := (yX2_exchange, cX2_exchange, 4, none)
abbrev mX6_ever : qMD := (yX6_ever, cX6_ever, 2, (some .int))
abbrev mX6_walkOn : qMD := (yX6_walkOn, cX6_walkOn, 1, none)
abbrev mX1_walk : qMD := (yX1_walk, cX1_walk, 4, none)
abbrev mX1_findRing : qMD := (yX1_findRing, cX1_findRing, 4, none)
abbrev mX4_memory : qMD := (yX4_memory, cX4_memory, 4, (some .int))
abbrev mX1_placeBefore : qMD := (yX1_placeBefore, cX1_placeBefore, 3, (some .int))
abbrev mX6_mean : qMD := (yX6_mean, cX6_mean, 3, (some .long))
abbrev mX6_leaves : qMD := (yX6_leaves, cX6_leaves, 4, (some .int))
abbrev mX6_isGladderOtherwise : qMD := (yX6_isGladderOtherwise, cX6_isGladderOtherwise, 2, (some .boolean))
abbrev mX6_spite : qMD := (yX6_spite, cX6_spite, 5, (some .int))
abbrev mX6_firstWorse : qMD := (yX6_firstWorse, cX6_firstWorse, 4, (some .int))
abbrev mX6_lies : qMD := (yX6_lies, cX6_lies, 6, (some .int))
abbrev mX4_sayOnly : qMD := (yX4_sayOnly, cX4_sayOnly, 4, none)
abbrev mX6_chair : qMD := (yX6_chair, cX6_chair, 3, (some .long))
abbrev mX4_takeAway : qMD := (yX4_takeAway, cX4_takeAway, 3, none)
abbrev mX6_law : qMD := (yX6_law, cX6_law, 6, (some .int))
abbrev mX6_sheet : qMD := (yX6_sheet, cX6_sheet, 4, (some .int))
abbrev mX3_renew : qMD := (yX3_renew, cX3_renew, 3, none)
abbrev mX6_lose : qMD := (yX6_lose, cX6_lose, 2, (some .int))
abbrev mX6_put : qMD := (yX6_put, cX6_put, 4, (some .int))
abbrev mX3_write : qMD := (yX3_write, cX3_write, 3, none)
abbrev mX6_cell : qMD := (yX6_cell, cX6_cell, 5, (some .long))
abbrev mX6_copy : qMD := (yX6_copy, cX6_copy, 8, (some .int))
abbrev mX6_tell : qMD := (yX6_tell, cX6_tell, 2, (some .int))
abbrev mX6_payerTells : qMD := (yX6_payerTells, cX6_payerTells, 3, (some .int))
abbrev mX6_leaveNumber : qMD := (yX6_leaveNumber, cX6_leaveNumber, 2, none)
abbrev mX6_cheapTells : qMD := (yX6_cheapTells, cX6_cheapTells, 2, (some .int))
abbrev mX6_kindTells : qMD := (yX6_kindTells, cX6_kindTells, 2, (some .int))
abbrev mX6_greet : qMD := (yX6_greet, cX6_greet, 2, (some .int))
abbrev mX6_as : qMD := (yX6_as, cX6_as, 3, (some .int))
abbrev mX6_trace : qMD := (yX6_trace, cX6_trace, 1, (some .int))
abbrev mX6_fault : qMD := (yX6_fault, cX6_fault, 1, (some .int))
abbrev mX6_many : qMD := (yX6_many, cX6_many, 2, (some .int))
abbrev mX7_init : qMD := (yX7_init, cX7_init, 1, none)
abbrev mX7_table : qMD := (yX7_table, cX7_table, 7, (some .int))
abbrev mX7_isSheet : qMD := (yX7_isSheet, cX7_isSheet, 1, (some .boolean))
abbrev mX7_within : qMD := (yX7_within, cX7_within, 3, (some .boolean))
abbrev mX7_isSort : qMD := (yX7_isSort, cX7_isSort, 1, (some .boolean))
abbrev mX7_against : qMD := (yX7_against, cX7_against, 5, (some .int))
abbrev mX7_fails : qMD := (yX7_fails, cX7_fails, 2, (some .int))
abbrev mX7_readTable : qMD := (yX7_readTable, cX7_readTable, 3, (some .boolean))
abbrev mX7_isCode : qMD := (yX7_isCode, cX7_isCode, 3, (some .boolean))
abbrev mX7_digitAt : qMD := (yX7_digitAt, cX7_digitAt, 3, (some .int))
abbrev mX7_readGuest : qMD := (yX7_readGuest, cX7_readGuest, 6, (some .boolean))
abbrev mX7_takeTable : qMD := (yX7_takeTable, cX7_takeTable, 2, none)
abbrev mX7_ofDish : qMD := (yX7_ofDish, cX7_ofDish, 3, (some .int))
abbrev mX7_isDish : qMD := (yX7_isDish, cX7_isDish, 2, (some .boolean))
abbrev mX7_ofGuest : qMD := (yX7_ofGuest, cX7_ofGuest, 3, (some .int))
abbrev mX7_isGuest : qMD := (yX7_isGuest, cX7_isGuest, 2, (some .boolean))
abbrev mX7_seatOf : qMD := (yX7_seatOf, cX7_seatOf, 3, (some .int))
abbrev mX7_worth : qMD := (yX7_worth, cX7_worth, 4, (some .int))
abbrev mX7_say : qMD := (yX7_say, cX7_say, 5, (some .int))
abbrev mX7_swap : qMD := (yX7_swap, cX7_swap, 5, (some .int))
abbrev mX7_step : qMD := (yX7_step, cX7_step, 3, (some .int))
abbrev mX7_isTable : qMD := (yX7_isTable, cX7_isTable, 1, (some .boolean))
abbrev mX7_courses : qMD := (yX7_courses, cX7_courses, 3, (some .int))
abbrev mX7_dine : qMD := (yX7_dine, cX7_dine, 2, (some .int))
abbrev mX7_layNow : qMD := (yX7_layNow, cX7_layNow, 2, none)
abbrev mX7_goNight : qMD := (yX7_goNight, cX7_goNight, 2, none)
abbrev mX7_refill : qMD := (yX7_refill, cX7_refill, 2, none)
abbrev mX7_goCourse : qMD := (yX7_goCourse, cX7_goCourse, 6, none)
abbrev mX7_asked : qMD := (yX7_asked, cX7_asked, 7, (some .int))
abbrev mX7_howAsks : qMD := (yX7_howAsks, cX7_howAsks, 3, (some .int))
abbrev mX7_truly : qMD := (yX7_truly, cX7_truly, 3, (some .int))
abbrev mX7_isAhead : qMD := (yX7_isAhead, cX7_isAhead, 7, (some .boolean))
abbrev mX7_allGlad : qMD := (yX7_allGlad, cX7_allGlad, 3, (some .int))
abbrev mX7_forget : qMD := (yX7_forget, cX7_forget, 3, (some .int))
abbrev mX7_gets : qMD := (yX7_gets, cX7_gets, 3, (some .int))
abbrev mX7_glad : qMD := (yX7_glad, cX7_glad, 2, (some .int))
abbrev mX7_pays : qMD := (yX7_pays, cX7_pays, 7, (some .long))
abbrev mX7_share : qMD := (yX7_share, cX7_share, 11, (some .long))
abbrev mX7_judge : qMD := (yX7_judge, cX7_judge, 10, (some .int))
abbrev mX7_mayBe : qMD := (yX7_mayBe, cX7_mayBe, 4, (some .boolean))
abbrev mX7_best : qMD := (yX7_best, cX7_best, 2, (some .int))
abbrev mX7_findBest : qMD := (yX7_findBest, cX7_findBest, 3, none)
abbrev mX7_layWeights : qMD := (yX7_layWeights, cX7_layWeights, 5, none)
abbrev mX7_takes : qMD := (yX7_takes, cX7_takes, 3, none)
abbrev mX7_valueOf : qMD := (yX7_valueOf, cX7_valueOf, 3, (some .int))
abbrev mX7_mayHave : qMD := (yX7_mayHave, cX7_mayHave, 3, (some .boolean))
abbrev mX7_keepBest : qMD := (yX7_keepBest, cX7_keepBest, 3, none)
abbrev mX7_seats : qMD := (yX7_seats, cX7_seats, 3, (some .int))
abbrev mX7_findSeats : qMD := (yX7_findSeats, cX7_findSeats, 3, none)
abbrev mX7_isInPerm : qMD := (yX7_isInPerm, cX7_isInPerm, 4, (some .boolean))
abbrev mX7_trySeats : qMD := (yX7_trySeats, cX7_trySeats, 4, none)
abbrev mX7_leastGlad : qMD := (yX7_leastGlad, cX7_leastGlad, 3, (some .int))
abbrev mX7_ever : qMD := (yX7_ever, cX7_ever, 2, (some .int))
abbrev mX7_findRing : qMD := (yX7_findRing, cX7_findRing, 2, none)
abbrev mX7_keepMemory : qMD := (yX7_keepMemory, cX7_keepMemory, 3, none)
abbrev mX7_sameAs : qMD := (yX7_sameAs, cX7_sameAs, 3, (some .int))
abbrev mX7_areAlike : qMD := (yX7_areAlike, cX7_areAlike, 4, (some .boolean))
abbrev mX7_mean : qMD := (yX7_mean, cX7_mean, 5, (some .long))
abbrev mX7_gladInRing : qMD := (yX7_gladInRing, cX7_gladInRing, 5, (some .long))
abbrev mX7_leaves : qMD := (yX7_leaves, cX7_leaves, 3, (some .int))
abbrev mX7_wouldLeave : qMD := (yX7_wouldLeave, cX7_wouldLeave, 9, (some .boolean))
abbrev mX7_spite : qMD := (yX7_spite, cX7_spite, 5, (some .int))
abbrev mX7_swapOut : qMD := (yX7_swapOut, cX7_swapOut, 3, none)
abbrev mX7_swapIn : qMD := (yX7_swapIn, cX7_swapIn, 3, none)
abbrev mX7_areSame : qMD := (yX7_areSame, cX7_areSame, 2, (some .boolean))
abbrev mX7_lies : qMD := (yX7_lies, cX7_lies, 7, (some .int))
abbrev mX7_gladByLie : qMD := (yX7_gladByLie, cX7_gladByLie, 4, (some .int))
abbrev mX7_chair : qMD := (yX7_chair, cX7_chair, 4, (some .long))
abbrev mX7_law : qMD := (yX7_law, cX7_law, 5, (some .int))
abbrev mX7_sheet : qMD := (yX7_sheet, cX7_sheet, 5, (some .int))
abbrev mX7_lose : qMD := (yX7_lose, cX7_lose, 3, (some .int))
abbrev mX7_put : qMD := (yX7_put, cX7_put, 4, (some .int))
abbrev mX7_cell : qMD := (yX7_cell, cX7_cell, 4, (some .long))
abbrev mX7_lost : qMD := (yX7_lost, cX7_lost, 2, (some .long))
abbrev mX7_copy : qMD := (yX7_copy, cX7_copy, 10, (some .int))
abbrev mX7_tell : qMD := (yX7_tell, cX7_tell, 3, (some .int))
abbrev mX7_begins : qMD := (yX7_begins, cX7_begins, 2, none)
abbrev mX7_greet : qMD := (yX7_greet, cX7_greet, 2, (some .int))
abbrev mX7_as : qMD := (yX7_as, cX7_as, 3, (some .int))
abbrev mX7_trace : qMD := (yX7_trace, cX7_trace, 1, (some .int))
abbrev mX7_fault : qMD := (yX7_fault, cX7_fault, 1, (some .int))
abbrev mX7_many : qMD := (yX7_many, cX7_many, 2, (some .int))
def qtb : List Cond := lw_tbl.filter goodWord
theorem qtb_in {w : Cond} (i : Nat) (h : lw_tbl[i]? = some w) (hg : goodWord w = true) : w ∈ qtb := List.mem_filter.mpr ⟨List.mem_of_getElem? h, hg⟩
theorem qtb_good {w : Cond} (h : w ∈ qtb) : goodWord w = true := (List.mem_filter.mp h).2
theorem qtb_tbl {w : Cond} (h : w ∈ qtb) : w ∈ lw_tbl := (List.mem_filter.mp h).1
/-- a method that the tables know -/
def qMok (M : qMD) : Prop := Cond.code M.1 M.2.1 M.2.2.1 M.2.2.2 ∈ qtb ∧ Cond.initialized M.1.cls ∈ qtb ∧ plainName M.1.cls = true ∧ (M.1.cls ≠ "java/lang/invoke/MethodHandle" ∧ M.1.cls ≠ "java/lang/invoke/VarHandle") ∧ M.2.2.1 ≤ 23
/-- a call that is linked: of an instance's method, of a static one -/
def qVL (own : String) (index : Nat) (M : qMD) (n : Nat) : Prop := qMok M ∧ Cond.methodLink own index M.1 ∈ qtb ∧ Cond.instanceMethod M.1 ∈ qtb ∧ Cond.selects M.1.cls M.1 M.1 ∈ qtb ∧ (parseMethodDescriptor M.1.desc).map (fun d => d.parameters.length) = some n
def qSL (own : String) (index : Nat) (M : qMD) (n : Nat) : Prop := qMok M ∧ Cond.methodLink own index M.1 ∈ qtb ∧ Cond.static M.1 ∈ qtb ∧ (parseMethodDescriptor M.1.desc).map (fun d => d.parameters.length) = some n
theorem ok_X6_init : qMok mX6_init := ⟨(qtb_in 91 (by decide +kernel) (by decide +kernel)), (qtb_in 76 (by decide +kernel) (by decide +kernel)), (by decide +kernel), ⟨(by decide +kernel), (by decide +kernel)⟩, (by decide +kernel)⟩
theorem ok_X5_init : qMok mX5_init := ⟨(qtb_in 101 (by decide +kernel) (by decide +kernel)), (qtb_in 77 (by decide +kernel) (by decide +kernel)), (by decide +kernel), ⟨(by decide +kernel), (by decide +kernel)⟩, (by decide +kernel)⟩
theorem ok_X4_init : qMok mX4_init := ⟨(qtb_in 165 (by decide +kernel) (by decide +kernel)), (qtb_in 78 (by decide +kernel) (by decide +kernel)), (by decide +kernel), ⟨(by decide +kernel), (by decide +kernel)⟩, (by decide +kernel)⟩
theorem ok_X1_init : qMok mX1_init := ⟨(qtb_in 231 (by decide +kernel) (by decide +kernel)), (qtb_in 79 (by decide +kernel) (by decide +kernel)), (by decide +kernel), ⟨(by decide +kernel), (by decide +kernel)⟩, (by decide +kernel)⟩
theorem ok_X0_init : qMok mX0_init := ⟨(qtb_in 253 (by decide +kernel) (by decide +kernel)), (qtb_in 80 (by decide +kernel) (by decide +kernel)), (by decide +kernel), ⟨(by decide +kernel), (by decide +kernel)⟩, (by decide +kernel)⟩
theorem ok_X2_init : qMok mX2_init := ⟨(qtb_in 277 (by decide +kernel) (by decide +kernel)), (qtb_in 81 (by decide +kernel) (by decide +kernel)), (by decide +kernel), ⟨(by decide +kernel), (by decide +kernel)⟩, (by decide +kernel)⟩
theorem ok_X3_init : qMok mX3_init := ⟨(qtb_in 296 (by decide +kernel) (by decide +kernel)), (qtb_in 82 (by decide +kernel) (by decide +kernel)), (by decide +kernel), ⟨(by decide +kernel), (by decide +kernel)⟩, (by decide +kernel)⟩
theorem ok_X6_table : qMok mX6_table := ⟨(qtb_in 358 (by decide +kernel) (by decide +kernel)), (qtb_in 76 (by decide +kernel) (by decide +kernel)), (by decide +kernel), ⟨(by decide +kernel), (by decide +kernel)⟩, (by decide +kernel)⟩
theorem ok_X6_refusalOfRow : qMok mX6_refusalOfRow := ⟨(qtb_in 362 (by decide +kernel) (by decide +kernel)), (qtb_in 76 (by decide +kernel) (by decide +kernel)), (by decide +kernel), ⟨(by decide +kernel), (by decide +kernel)⟩, (by decide +kernel)⟩
theorem ok_X6_isSheet : qMok mX6_isSheet := ⟨(qtb_in 365 (by decide +kernel) (by decide +kernel)), (qtb_in 76 (by decide +kernel) (by decide +kernel)), (by decide +kernel), ⟨(by decide +kernel), (by decide +kernel)⟩, (by decide +kernel)⟩
theorem ok_X6_isSort : qMok mX6_isSort := ⟨(qtb_in 368 (by decide +kernel) (by decide +kernel)), (qtb_in 76 (by decide +kernel) (by decide +kernel)), (by decide +kernel), ⟨(by decide +kernel), (by decide +kernel)⟩, (by decide +kernel)⟩
theorem ok_X6_faulty : qMok mX6_faulty := ⟨(qtb_in 372 (by decide +kernel) (by decide +kernel)), (qtb_in 76 (by decide +kernel) (by decide +kernel)), (by decide +kernel), ⟨(by decide +kernel), (by decide +kernel)⟩, (by decide +kernel)⟩
theorem ok_X3_holds : qMok mX3_holds := ⟨(qtb_in 376 (by decide +kernel) (by decide +kernel)), (qtb_in 82 (by decide +kernel) (by decide +kernel)), (by decide +kernel), ⟨(by decide +kernel), (by decide +kernel)⟩, (by decide +kernel)⟩
theorem ok_X5_isRead : qMok mX5_isRead := ⟨(qtb_in 380 (by decide +kernel) (by decide +kernel)), (qtb_in 77 (by decide +kernel) (by decide +kernel)), (by decide +kernel), ⟨(by decide +kernel), (by decide +kernel)⟩, (by decide +kernel)⟩
theorem ok_X5_isSign : qMok mX5_isSign := ⟨(qtb_in 384 (by decide +kernel) (by decide +kernel)), (qtb_in 77 (by decide +kernel) (by decide +kernel)), (by decide +kernel), ⟨(by decide +kernel), (by decide +kernel)⟩, (by decide +kernel)⟩
theorem ok_X5_areDishesRead : qMok mX5_areDishesRead := ⟨(qtb_in 388 (by decide +kernel) (by decide +kernel)), (qtb_in 77 (by decide +kernel) (by decide +kernel)), (by decide +kernel), ⟨(by decide +kernel), (by decide +kernel)⟩, (by decide +kernel)⟩
theorem ok_X5_digit : qMok mX5_digit := ⟨(qtb_in 392 (by decide +kernel) (by decide +kernel)), (qtb_in 77 (by decide +kernel) (by decide +kernel)), (by decide +kernel), ⟨(by decide +kernel), (by decide +kernel)⟩, (by decide +kernel)⟩
theorem ok_X5_areGuestsRead : qMok mX5_areGuestsRead := ⟨(qtb_in 396 (by decide +kernel) (by decide +kernel)), (qtb_in 77 (by decide +kernel) (by decide +kernel)), (by decide +kernel), ⟨(by decide +kernel), (by decide +kernel)⟩, (by decide +kernel)⟩
theorem ok_X5_isGuestRead : qMok mX5_isGuestRead := ⟨(qtb_in 400 (by decide +kernel) (by decide +kernel)), (qtb_in 77 (by decide +kernel) (by decide +kernel)), (by decide +kernel), ⟨(by decide +kernel), (by decide +kernel)⟩, (by decide +kernel)⟩
theorem ok_X5_kindOfLetter : qMok mX5_kindOfLetter := ⟨(qtb_in 404 (by decide +kernel) (by decide +kernel)), (qtb_in 77 (by decide +kernel) (by decide +kernel)), (by decide +kernel), ⟨(by decide +kernel), (by decide +kernel)⟩, (by decide +kernel)⟩
theorem ok_X5_isWorthRead : qMok mX5_isWorthRead := ⟨(qtb_in 408 (by decide +kernel) (by decide +kernel)), (qtb_in 77 (by decide +kernel) (by decide +kernel)), (by decide +kernel), ⟨(by decide +kernel), (by decide +kernel)⟩, (by decide +kernel)⟩
theorem ok_X5_place : qMok mX5_place := ⟨(qtb_in 412 (by decide +kernel) (by decide +kernel)), (qtb_in 77 (by decide +kernel) (by decide +kernel)), (by decide +kernel), ⟨(by decide +kernel), (by decide +kernel)⟩, (by decide +kernel)⟩
theorem ok_X4_begin : qMok mX4_begin := ⟨(qtb_in 416 (by decide +kernel) (by decide +kernel)), (qtb_in 78 (by decide +kernel) (by decide +kernel)), (by decide +kernel), ⟨(by decide +kernel), (by decide +kernel)⟩, (by decide +kernel)⟩
theorem ok_X4_clearMemory : qMok mX4_clearMemory := ⟨(qtb_in 423 (by decide +kernel) (by decide +kernel)), (qtb_in 78 (by decide +kernel) (by decide +kernel)), (by decide +kernel), ⟨(by decide +kernel), (by decide +kernel)⟩, (by decide +kernel)⟩
theorem ok_J7_fill_53178 : qMok mJ7_fill_53178 := ⟨(qtb_in 426 (by decide +kernel) (by decide +kernel)), (qtb_in 85 (by decide +kernel) (by decide +kernel)), (by decide +kernel), ⟨(by decide +kernel), (by decide +kernel)⟩, (by decide +kernel)⟩
theorem ok_X6_unsettle : qMok mX6_unsettle := ⟨(qtb_in 430 (by decide +kernel) (by decide +kernel)), (qtb_in 76 (by decide +kernel) (by decide +kernel)), (by decide +kernel), ⟨(by decide +kernel), (by decide +kernel)⟩, (by decide +kernel)⟩
theorem ok_X6_ofDish : qMok mX6_ofDish := ⟨(qtb_in 434 (by decide +kernel) (by decide +kernel)), (qtb_in 76 (by decide +kernel) (by decide +kernel)), (by decide +kernel), ⟨(by decide +kernel), (by decide +kernel)⟩, (by decide +kernel)⟩
theorem ok_X6_isDish : qMok mX6_isDish := ⟨(qtb_in 438 (by decide +kernel) (by decide +kernel)), (qtb_in 76 (by decide +kernel) (by decide +kernel)), (by decide +kernel), ⟨(by decide +kernel), (by decide +kernel)⟩, (by decide +kernel)⟩
theorem ok_X6_ofGuest : qMok mX6_ofGuest := ⟨(qtb_in 442 (by decide +kernel) (by decide +kernel)), (qtb_in 76 (by decide +kernel) (by decide +kernel)), (by decide +kernel), ⟨(by decide +kernel), (by decide +kernel)⟩, (by decide +kernel)⟩
theorem ok_X6_isGuest : qMok mX6_isGuest := ⟨(qtb_in 446 (by decide +kernel) (by decide +kernel)), (qtb_in 76 (by decide +kernel) (by decide +kernel)), (by decide +kernel), ⟨(by decide +kernel), (by decide +kernel)⟩, (by decide +kernel)⟩
theorem ok_X4_seatOf : qMok mX4_seatOf := ⟨(qtb_in 450 (by decide +kernel) (by decide +kernel)), (qtb_in 78 (by decide +kernel) (by decide +kernel)), (by decide +kernel), ⟨(by decide +kernel), (by decide +kernel)⟩, (by decide +kernel)⟩
theorem ok_X6_worth : qMok mX6_worth := ⟨(qtb_in 454 (by decide +kernel) (by decide +kernel)), (qtb_in 76 (by decide +kernel) (by decide +kernel)), (by decide +kernel), ⟨(by decide +kernel), (by decide +kernel)⟩, (by decide +kernel)⟩
theorem ok_X6_say : qMok mX6_say := ⟨(qtb_in 458 (by decide +kernel) (by decide +kernel)), (qtb_in 76 (by decide +kernel) (by decide +kernel)), (by decide +kernel), ⟨(by decide +kernel), (by decide +kernel)⟩, (by decide +kernel)⟩
theorem ok_X5_mayHave : qMok mX5_mayHave := ⟨(qtb_in 462 (by decide +kernel) (by decide +kernel)), (qtb_in 77 (by decide +kernel) (by decide +kernel)), (by decide +kernel), ⟨(by decide +kernel), (by decide +kernel)⟩, (by decide +kernel)⟩
theorem ok_X6_swap : qMok mX6_swap := ⟨(qtb_in 466 (by decide +kernel) (by decide +kernel)), (qtb_in 76 (by decide +kernel) (by decide +kernel)), (by decide +kernel), ⟨(by decide +kernel), (by decide +kernel)⟩, (by decide +kernel)⟩
theorem ok_X6_step : qMok mX6_step := ⟨(qtb_in 470 (by decide +kernel) (by decide +kernel)), (qtb_in 76 (by decide +kernel) (by decide +kernel)), (by decide +kernel), ⟨(by decide +kernel), (by decide +kernel)⟩, (by decide +kernel)⟩
theorem ok_X6_courses : qMok mX6_courses := ⟨(qtb_in 474 (by decide +kernel) (by decide +kernel)), (qtb_in 76 (by decide +kernel) (by decide +kernel)), (by decide +kernel), ⟨(by decide +kernel), (by decide +kernel)⟩, (by decide +kernel)⟩
theorem ok_X6_isTable : qMok mX6_isTable := ⟨(qtb_in 478 (by decide +kernel) (by decide +kernel)), (qtb_in 76 (by decide +kernel) (by decide +kernel)), (by decide +kernel), ⟨(by decide +kernel), (by decide +kernel)⟩, (by decide +kernel)⟩
theorem ok_X6_dine : qMok mX6_dine := ⟨(qtb_in 482 (by decide +kernel) (by decide +kernel)), (qtb_in 76 (by decide +kernel) (by decide +kernel)), (by decide +kernel), ⟨(by decide +kernel), (by decide +kernel)⟩, (by decide +kernel)⟩
theorem ok_X4_evening : qMok mX4_evening := ⟨(qtb_in 486 (by decide +kernel) (by decide +kernel)), (qtb_in 78 (by decide +kernel) (by decide +kernel)), (by decide +kernel), ⟨(by decide +kernel), (by decide +kernel)⟩, (by decide +kernel)⟩
theorem ok_X4_layOut : qMok mX4_layOut := ⟨(qtb_in 490 (by decide +kernel) (by decide +kernel)), (qtb_in 78 (by decide +kernel) (by decide +kernel)), (by decide +kernel), ⟨(by decide +kernel), (by decide +kernel)⟩, (by decide +kernel)⟩
theorem ok_X4_askedFor : qMok mX4_askedFor := ⟨(qtb_in 494 (by decide +kernel) (by decide +kernel)), (qtb_in 78 (by decide +kernel) (by decide +kernel)), (by decide +kernel), ⟨(by decide +kernel), (by decide +kernel)⟩, (by decide +kernel)⟩
theorem ok_X4_ask : qMok mX4_ask := ⟨(qtb_in 498 (by decide +kernel) (by decide +kernel)), (qtb_in 78 (by decide +kernel) (by decide +kernel)), (by decide +kernel), ⟨(by decide +kernel), (by decide +kernel)⟩, (by decide +kernel)⟩
theorem ok_X4_mannerOf : qMok mX4_mannerOf := ⟨(qtb_in 502 (by decide +kernel) (by decide +kernel)), (qtb_in 78 (by decide +kernel) (by decide +kernel)), (by decide +kernel), ⟨(by decide +kernel), (by decide +kernel)⟩, (by decide +kernel)⟩
theorem ok_X5_truly : qMok mX5_truly := ⟨(qtb_in 506 (by decide +kernel) (by decide +kernel)), (qtb_in 77 (by decide +kernel) (by decide +kernel)), (by decide +kernel), ⟨(by decide +kernel), (by decide +kernel)⟩, (by decide +kernel)⟩
theorem ok_X4_wish : qMok mX4_wish := ⟨(qtb_in 510 (by decide +kernel) (by decide +kernel)), (qtb_in 78 (by decide +kernel) (by decide +kernel)), (by decide +kernel), ⟨(by decide +kernel), (by decide +kernel)⟩, (by decide +kernel)⟩
theorem ok_X4_gladInAll : qMok mX4_gladInAll := ⟨(qtb_in 514 (by decide +kernel) (by decide +kernel)), (qtb_in 78 (by decide +kernel) (by decide +kernel)), (by decide +kernel), ⟨(by decide +kernel), (by decide +kernel)⟩, (by decide +kernel)⟩
theorem ok_X4_sum : qMok mX4_sum := ⟨(qtb_in 518 (by decide +kernel) (by decide +kernel)), (qtb_in 78 (by decide +kernel) (by decide +kernel)), (by decide +kernel), ⟨(by decide +kernel), (by decide +kernel)⟩, (by decide +kernel)⟩
theorem ok_X6_forget : qMok mX6_forget := ⟨(qtb_in 522 (by decide +kernel) (by decide +kernel)), (qtb_in 76 (by decide +kernel) (by decide +kernel)), (by decide +kernel), ⟨(by decide +kernel), (by decide +kernel)⟩, (by decide +kernel)⟩
theorem ok_X6_gets : qMok mX6_gets := ⟨(qtb_in 527 (by decide +kernel) (by decide +kernel)), (qtb_in 76 (by decide +kernel) (by decide +kernel)), (by decide +kernel), ⟨(by decide +kernel), (by decide +kernel)⟩, (by decide +kernel)⟩
theorem ok_X6_tryEvening : qMok mX6_tryEvening := ⟨(qtb_in 531 (by decide +kernel) (by decide +kernel)), (qtb_in 76 (by decide +kernel) (by decide +kernel)), (by decide +kernel), ⟨(by decide +kernel), (by decide +kernel)⟩, (by decide +kernel)⟩
theorem ok_X4_become : qMok mX4_become := ⟨(qtb_in 535 (by decide +kernel) (by decide +kernel)), (qtb_in 78 (by decide +kernel) (by decide +kernel)), (by decide +kernel), ⟨(by decide +kernel), (by decide +kernel)⟩, (by decide +kernel)⟩
theorem ok_X6_glad : qMok mX6_glad := ⟨(qtb_in 539 (by decide +kernel) (by decide +kernel)), (qtb_in 76 (by decide +kernel) (by decide +kernel)), (by decide +kernel), ⟨(by decide +kernel), (by decide +kernel)⟩, (by decide +kernel)⟩
theorem ok_X6_pays : qMok mX6_pays := ⟨(qtb_in 543 (by decide +kernel) (by decide +kernel)), (qtb_in 76 (by decide +kernel) (by decide +kernel)), (by decide +kernel), ⟨(by decide +kernel), (by decide +kernel)⟩, (by decide +kernel)⟩
theorem ok_X6_isOneOfTwo : qMok mX6_isOneOfTwo := ⟨(qtb_in 546 (by decide +kernel) (by decide +kernel)), (qtb_in 76 (by decide +kernel) (by decide +kernel)), (by decide +kernel), ⟨(by decide +kernel), (by decide +kernel)⟩, (by decide +kernel)⟩
theorem ok_X4_paidInAll : qMok mX4_paidInAll := ⟨(qtb_in 551 (by decide +kernel) (by decide +kernel)), (qtb_in 78 (by decide +kernel) (by decide +kernel)), (by decide +kernel), ⟨(by decide +kernel), (by decide +kernel)⟩, (by decide +kernel)⟩
theorem ok_X6_share : qMok mX6_share := ⟨(qtb_in 554 (by decide +kernel) (by decide +kernel)), (qtb_in 76 (by decide +kernel) (by decide +kernel)), (by decide +kernel), ⟨(by decide +kernel), (by decide +kernel)⟩, (by decide +kernel)⟩
theorem ok_X6_judge : qMok mX6_judge := ⟨(qtb_in 558 (by decide +kernel) (by decide +kernel)), (qtb_in 76 (by decide +kernel) (by decide +kernel)), (by decide +kernel), ⟨(by decide +kernel), (by decide +kernel)⟩, (by decide +kernel)⟩
theorem ok_X6_firstThatCannotBe : qMok mX6_firstThatCannotBe := ⟨(qtb_in 562 (by decide +kernel) (by decide +kernel)), (qtb_in 76 (by decide +kernel) (by decide +kernel)), (by decide +kernel), ⟨(by decide +kernel), (by decide +kernel)⟩, (by decide +kernel)⟩
theorem ok_X4_isAnyFor : qMok mX4_isAnyFor := ⟨(qtb_in 568 (by decide +kernel) (by decide +kernel)), (qtb_in 78 (by decide +kernel) (by decide +kernel)), (by decide +kernel), ⟨(by decide +kernel), (by decide +kernel)⟩, (by decide +kernel)⟩
theorem ok_X4_isFor : qMok mX4_isFor := ⟨(qtb_in 572 (by decide +kernel) (by decide +kernel)), (qtb_in 78 (by decide +kernel) (by decide +kernel)), (by decide +kernel), ⟨(by decide +kernel), (by decide +kernel)⟩, (by decide +kernel)⟩
theorem ok_X6_best : qMok mX6_best := ⟨(qtb_in 578 (by decide +kernel) (by decide +kernel)), (qtb_in 76 (by decide +kernel) (by decide +kernel)), (by decide +kernel), ⟨(by decide +kernel), (by decide +kernel)⟩, (by decide +kernel)⟩
theorem ok_X0_find : qMok mX0_find := ⟨(qtb_in 582 (by decide +kernel) (by decide +kernel)), (qtb_in 80 (by decide +kernel) (by decide +kernel)), (by decide +kernel), ⟨(by decide +kernel), (by decide +kernel)⟩, (by decide +kernel)⟩
theorem ok_X0_weigh : qMok mX0_weigh := ⟨(qtb_in 586 (by decide +kernel) (by decide +kernel)), (qtb_in 80 (by decide +kernel) (by decide +kernel)), (by decide +kernel), ⟨(by decide +kernel), (by decide +kernel)⟩, (by decide +kernel)⟩
theorem ok_J7_fill_d0a16 : qMok mJ7_fill_d0a16 := ⟨(qtb_in 591 (by decide +kernel) (by decide +kernel)), (qtb_in 85 (by decide +kernel) (by decide +kernel)), (by decide +kernel), ⟨(by decide +kernel), (by decide +kernel)⟩, (by decide +kernel)⟩
theorem ok_X0_reckonGains : qMok mX0_reckonGains := ⟨(qtb_in 595 (by decide +kernel) (by decide +kernel)), (qtb_in 80 (by decide +kernel) (by decide +kernel)), (by decide +kernel), ⟨(by decide +kernel), (by decide +kernel)⟩, (by decide +kernel)⟩
theorem ok_X0_unit : qMok mX0_unit := ⟨(qtb_in 600 (by decide +kernel) (by decide +kernel)), (qtb_in 80 (by decide +kernel) (by decide +kernel)), (by decide +kernel), ⟨(by decide +kernel), (by decide +kernel)⟩, (by decide +kernel)⟩
theorem ok_X0_serve : qMok mX0_serve := ⟨(qtb_in 608 (by decide +kernel) (by decide +kernel)), (qtb_in 80 (by decide +kernel) (by decide +kernel)), (by decide +kernel), ⟨(by decide +kernel), (by decide +kernel)⟩, (by decide +kernel)⟩
theorem ok_X0_gladInAll : qMok mX0_gladInAll := ⟨(qtb_in 615 (by decide +kernel) (by decide +kernel)), (qtb_in 80 (by decide +kernel) (by decide +kernel)), (by decide +kernel), ⟨(by decide +kernel), (by decide +kernel)⟩, (by decide +kernel)⟩
theorem ok_X0_dishOf : qMok mX0_dishOf := ⟨(qtb_in 619 (by decide +kernel) (by decide +kernel)), (qtb_in 80 (by decide +kernel) (by decide +kernel)), (by decide +kernel), ⟨(by decide +kernel), (by decide +kernel)⟩, (by decide +kernel)⟩
theorem ok_X6_seats : qMok mX6_seats := ⟨(qtb_in 623 (by decide +kernel) (by decide +kernel)), (qtb_in 76 (by decide +kernel) (by decide +kernel)), (by decide +kernel), ⟨(by decide +kernel), (by decide +kernel)⟩, (by decide +kernel)⟩
theorem ok_X2_find : qMok mX2_find := ⟨(qtb_in 627 (by decide +kernel) (by decide +kernel)), (qtb_in 81 (by decide +kernel) (by decide +kernel)), (by decide +kernel), ⟨(by decide +kernel), (by decide +kernel)⟩, (by decide +kernel)⟩
theorem ok_X2_weigh : qMok mX2_weigh := ⟨(qtb_in 635 (by decide +kernel) (by decide +kernel)), (qtb_in 81 (by decide +kernel) (by decide +kernel)), (by decide +kernel), ⟨(by decide +kernel), (by decide +kernel)⟩, (by decide +kernel)⟩
theorem ok_X4_gladOfLeast : qMok mX4_gladOfLeast := ⟨(qtb_in 640 (by decide +kernel) (by decide +kernel)), (qtb_in 78 (by decide +kernel) (by decide +kernel)), (by decide +kernel), ⟨(by decide +kernel), (by decide +kernel)⟩, (by decide +kernel)⟩
theorem ok_X2_isNextRow : qMok mX2_isNextRow := ⟨(qtb_in 644 (by decide +kernel) (by decide +kernel)), (qtb_in 81 (by decide +kernel) (by decide +kernel)), (by decide +kernel), ⟨(by decide +kernel), (by decide +kernel)⟩, (by decide +kernel)⟩
theorem ok_X2_exchange : qMok mX2_exchange := ⟨(qtb_in 647 (by decide +kernel) (by decide +kernel)), (qtb_in 81 (by decide +kernel) (by decide +kernel)), (by decide +kernel), ⟨(by decide +kernel), (by decide +kernel)⟩, (by decide +kernel)⟩
theorem ok_X6_ever : qMok mX6_ever := ⟨(qtb_in 651 (by decide +kernel) (by decide +kernel)), (qtb_in 76 (by decide +kernel) (by decide +kernel)), (by decide +kernel), ⟨(by decide +kernel), (by decide +kernel)⟩, (by decide +kernel)⟩
theorem ok_X6_walkOn : qMok mX6_walkOn := ⟨(qtb_in 655 (by decide +kernel) (by decide +kernel)), (qtb_in 76 (by decide +kernel) (by decide +kernel)), (by decide +kernel), ⟨(by decide +kernel), (by decide +kernel)⟩, (by decide +kernel)⟩
theorem ok_X1_walk : qMok mX1_walk := ⟨(qtb_in 659 (by decide +kernel) (by decide +kernel)), (qtb_in 79 (by decide +kernel) (by decide +kernel)), (by decide +kernel), ⟨(by decide +kernel), (by decide +kernel)⟩, (by decide +kernel)⟩
theorem ok_X1_findRing : qMok mX1_findRing := ⟨(qtb_in 663 (by decide +kernel) (by decide +kernel)), (qtb_in 79 (by decide +kernel) (by decide +kernel)), (by decide +kernel), ⟨(by decide +kernel), (by decide +kernel)⟩, (by decide +kernel)⟩
theorem ok_X4_memory : qMok mX4_memory := ⟨(qtb_in 667 (by decide +kernel) (by decide +kernel)), (qtb_in 78 (by decide +kernel) (by decide +kernel)), (by decide +kernel), ⟨(by decide +kernel), (by decide +kernel)⟩, (by decide +kernel)⟩
theorem ok_X1_placeBefore : qMok mX1_placeBefore := ⟨(qtb_in 672 (by decide +kernel) (by decide +kernel)), (qtb_in 79 (by decide +kernel) (by decide +kernel)), (by decide +kernel), ⟨(by decide +kernel), (by decide +kernel)⟩, (by decide +kernel)⟩
theorem ok_X6_mean : qMok mX6_mean := ⟨(qtb_in 677 (by decide +kernel) (by decide +kernel)), (qtb_in 76 (by decide +kernel) (by decide +kernel)), (by decide +kernel), ⟨(by decide +kernel), (by decide +kernel)⟩, (by decide +kernel)⟩
theorem ok_X6_leaves : qMok mX6_leaves := ⟨(qtb_in 681 (by decide +kernel) (by decide +kernel)), (qtb_in 76 (by decide +kernel) (by decide +kernel)), (by decide +kernel), ⟨(by decide +kernel), (by decide +kernel)⟩, (by decide +kernel)⟩
theorem ok_X6_isGladderOtherwise : qMok mX6_isGladderOtherwise := ⟨(qtb_in 685 (by decide +kernel) (by decide +kernel)), (qtb_in 76 (by decide +kernel) (by decide +kernel)), (by decide +kernel), ⟨(by decide +kernel), (by decide +kernel)⟩, (by decide +kernel)⟩
theorem ok_X6_spite : qMok mX6_spite := ⟨(qtb_in 689 (by decide +kernel) (by decide +kernel)), (qtb_in 76 (by decide +kernel) (by decide +kernel)), (by decide +kernel), ⟨(by decide +kernel), (by decide +kernel)⟩, (by decide +kernel)⟩
theorem ok_X6_firstWorse : qMok mX6_firstWorse := ⟨(qtb_in 693 (by decide +kernel) (by decide +kernel)), (qtb_in 76 (by decide +kernel) (by decide +kernel)), (by decide +kernel), ⟨(by decide +kernel), (by decide +kernel)⟩, (by decide +kernel)⟩
theorem ok_X6_lies : qMok mX6_lies := ⟨(qtb_in 699 (by decide +kernel) (by decide +kernel)), (qtb_in 76 (by decide +kernel) (by decide +kernel)), (by decide +kernel), ⟨(by decide +kernel), (by decide +kernel)⟩, (by decide +kernel)⟩
theorem ok_X4_sayOnly : qMok mX4_sayOnly := ⟨(qtb_in 703 (by decide +kernel) (by decide +kernel)), (qtb_in 78 (by decide +kernel) (by decide +kernel)), (by decide +kernel), ⟨(by decide +kernel), (by decide +kernel)⟩, (by decide +kernel)⟩
theorem ok_X6_chair : qMok mX6_chair := ⟨(qtb_in 707 (by decide +kernel) (by decide +kernel)), (qtb_in 76 (by decide +kernel) (by decide +kernel)), (by decide +kernel), ⟨(by decide +kernel), (by decide +kernel)⟩, (by decide +kernel)⟩
theorem ok_X4_takeAway : qMok mX4_takeAway := ⟨(qtb_in 711 (by decide +kernel) (by decide +kernel)), (qtb_in 78 (by decide +kernel) (by decide +kernel)), (by decide +kernel), ⟨(by decide +kernel), (by decide +kernel)⟩, (by decide +kernel)⟩
theorem ok_X6_law : qMok mX6_law := ⟨(qtb_in 716 (by decide +kernel) (by decide +kernel)), (qtb_in 76 (by decide +kernel) (by decide +kernel)), (by decide +kernel), ⟨(by decide +kernel), (by decide +kernel)⟩, (by decide +kernel)⟩
theorem ok_X6_sheet : qMok mX6_sheet := ⟨(qtb_in 720 (by decide +kernel) (by decide +kernel)), (qtb_in 76 (by decide +kernel) (by decide +kernel)), (by decide +kernel), ⟨(by decide +kernel), (by decide +kernel)⟩, (by decide +kernel)⟩
theorem ok_X3_renew : qMok mX3_renew := ⟨(qtb_in 724 (by decide +kernel) (by decide +kernel)), (qtb_in 82 (by decide +kernel) (by decide +kernel)), (by decide +kernel), ⟨(by decide +kernel), (by decide +kernel)⟩, (by decide +kernel)⟩
theorem ok_X6_lose : qMok mX6_lose := ⟨(qtb_in 729 (by decide +kernel) (by decide +kernel)), (qtb_in 76 (by decide +kernel) (by decide +kernel)), (by decide +kernel), ⟨(by decide +kernel), (by decide +kernel)⟩, (by decide +kernel)⟩
theorem ok_X6_put : qMok mX6_put := ⟨(qtb_in 733 (by decide +kernel) (by decide +kernel)), (qtb_in 76 (by decide +kernel) (by decide +kernel)), (by decide +kernel), ⟨(by decide +kernel), (by decide +kernel)⟩, (by decide +kernel)⟩
theorem ok_X3_write : qMok mX3_write := ⟨(qtb_in 737 (by decide +kernel) (by decide +kernel)), (qtb_in 82 (by decide +kernel) (by decide +kernel)), (by decide +kernel), ⟨(by decide +kernel), (by decide +kernel)⟩, (by decide +kernel)⟩
theorem ok_X6_cell : qMok mX6_cell := ⟨(qtb_in 741 (by decide +kernel) (by decide +kernel)), (qtb_in 76 (by decide +kernel) (by decide +kernel)), (by decide +kernel), ⟨(by decide +kernel), (by decide +kernel)⟩, (by decide +kernel)⟩
theorem ok_X6_copy : qMok mX6_copy := ⟨(qtb_in 745 (by decide +kernel) (by decide +kernel)), (qtb_in 76 (by decide +kernel) (by decide +kernel)), (by decide +kernel), ⟨(by decide +kernel), (by decide +kernel)⟩, (by decide +kernel)⟩
theorem ok_X6_tell : qMok mX6_tell := ⟨(qtb_in 750 (by decide +kernel) (by decide +kernel)), (qtb_in 76 (by decide +kernel) (by decide +kernel)), (by decide +kernel), ⟨(by decide +kernel), (by decide +kernel)⟩, (by decide +kernel)⟩
theorem ok_X6_payerTells : qMok mX6_payerTells := ⟨(qtb_in 754 (by decide +kernel) (by decide +kernel)), (qtb_in 76 (by decide +kernel) (by decide +kernel)), (by decide +kernel), ⟨(by decide +kernel), (by decide +kernel)⟩, (by decide +kernel)⟩
theorem ok_X6_leaveNumber : qMok mX6_leaveNumber := ⟨(qtb_in 758 (by decide +kernel) (by decide +kernel)), (qtb_in 76 (by decide +kernel) (by decide +kernel)), (by decide +kernel), ⟨(by decide +kernel), (by decide +kernel)⟩, (by decide +kernel)⟩
theorem ok_X6_cheapTells : qMok mX6_cheapTells := ⟨(qtb_in 762 (by decide +kernel) (by decide +kernel)), (qtb_in 76 (by decide +kernel) (by decide +kernel)), (by decide +kernel), ⟨(by decide +kernel), (by decide +kernel)⟩, (by decide +kernel)⟩
theorem ok_X6_kindTells : qMok mX6_kindTells := ⟨(qtb_in 766 (by decide +kernel) (by decide +kernel)), (qtb_in 76 (by decide +kernel) (by decide +kernel)), (by decide +kernel), ⟨(by decide +kernel), (by decide +kernel)⟩, (by decide +kernel)⟩
theorem ok_X6_greet : qMok mX6_greet := ⟨(qtb_in 770 (by decide +kernel) (by decide +kernel)), (qtb_in 76 (by decide +kernel) (by decide +kernel)), (by decide +kernel), ⟨(by decide +kernel), (by decide +kernel)⟩, (by decide +kernel)⟩
theorem ok_X6_as : qMok mX6_as := ⟨(qtb_in 774 (by decide +kernel) (by decide +kernel)), (qtb_in 76 (by decide +kernel) (by decide +kernel)), (by decide +kernel), ⟨(by decide +kernel), (by decide +kernel)⟩, (by decide +kernel)⟩
theorem ok_X6_trace : qMok mX6_trace := ⟨(qtb_in 778 (by decide +kernel) (by decide +kernel)), (qtb_in 76 (by decide +kernel) (by decide +kernel)), (by decide +kernel), ⟨(by decide +kernel), (by decide +kernel)⟩, (by decide +kernel)⟩
theorem ok_X6_fault : qMok mX6_fault := ⟨(qtb_in 782 (by decide +kernel) (by decide +kernel)), (qtb_in 76 (by decide +kernel) (by decide +kernel)), (by decide +kernel), ⟨(by decide +kernel), (by decide +kernel)⟩, (by decide +kernel)⟩
theorem ok_X6_many : qMok mX6_many := ⟨(qtb_in 786 (by decide +kernel) (by decide +kernel)), (qtb_in 76 (by decide +kernel) (by decide +kernel)), (by decide +kernel), ⟨(by decide +kernel), (by decide +kernel)⟩, (by decide +kernel)⟩
theorem ok_X7_init : qMok mX7_init := ⟨(qtb_in 791 (by decide +kernel) (by decide +kernel)), (qtb_in 83 (by decide +kernel) (by decide +kernel)), (by decide +kernel), ⟨(by decide +kernel), (by decide +kernel)⟩, (by decide +kernel)⟩
theorem ok_X7_table : qMok mX7_table := ⟨(qtb_in 950 (by decide +kernel) (by decide +kernel)), (qtb_in 83 (by decide +kernel) (by decide +kernel)), (by decide +kernel), ⟨(by decide +kernel), (by decide +kernel)⟩, (by decide +kernel)⟩
theorem ok_X7_isSheet : qMok mX7_isSheet := ⟨(qtb_in 953 (by decide +kernel) (by decide +kernel)), (qtb_in 83 (by decide +kernel) (by decide +kernel)), (by decide +kernel), ⟨(by decide +kernel), (by decide +kernel)⟩, (by decide +kernel)⟩
theorem ok_X7_within : qMok mX7_within := ⟨(qtb_in 956 (by decide +kernel) (by decide +kernel)), (qtb_in 83 (by decide +kernel) (by decide +kernel)), (by decide +kernel), ⟨(by decide +kernel), (by decide +kernel)⟩, (by decide +kernel)⟩
theorem ok_X7_isSort : qMok mX7_isSort := ⟨(qtb_in 959 (by decide +kernel) (by decide +kernel)), (qtb_in 83 (by decide +kernel) (by decide +kernel)), (by decide +kernel), ⟨(by decide +kernel), (by decide +kernel)⟩, (by decide +kernel)⟩
theorem ok_X7_against : qMok mX7_against := ⟨(qtb_in 963 (by decide +kernel) (by decide +kernel)), (qtb_in 83 (by decide +kernel) (by decide +kernel)), (by decide +kernel), ⟨(by decide +kernel), (by decide +kernel)⟩, (by decide +kernel)⟩
theorem ok_X7_fails : qMok mX7_fails := ⟨(qtb_in 967 (by decide +kernel) (by decide +kernel)), (qtb_in 83 (by decide +kernel) (by decide +kernel)), (by decide +kernel), ⟨(by decide +kernel), (by decide +kernel)⟩, (by decide +kernel)⟩
theorem ok_X7_readTable : qMok mX7_readTable := ⟨(qtb_in 971 (by decide +kernel) (by decide +kernel)), (qtb_in 83 (by decide +kernel) (by decide +kernel)), (by decide +kernel), ⟨(by decide +kernel), (by decide +kernel)⟩, (by decide +kernel)⟩
theorem ok_X7_isCode : qMok mX7_isCode := ⟨(qtb_in 975 (by decide +kernel) (by decide +kernel)), (qtb_in 83 (by decide +kernel) (by decide +kernel)), (by decide +kernel), ⟨(by decide +kernel), (by decide +kernel)⟩, (by decide +kernel)⟩
theorem ok_X7_digitAt : qMok mX7_digitAt := ⟨(qtb_in 979 (by decide +kernel) (by decide +kernel)), (qtb_in 83 (by decide +kernel) (by decide +kernel)), (by decide +kernel), ⟨(by decide +kernel), (by decide +kernel)⟩, (by decide +kernel)⟩
theorem ok_X7_readGuest : qMok mX7_readGuest := ⟨(qtb_in 983 (by decide +kernel) (by decide +kernel)), (qtb_in 83 (by decide +kernel) (by decide +kernel)), (by decide +kernel), ⟨(by decide +kernel), (by decide +kernel)⟩, (by decide +kernel)⟩
theorem ok_X7_takeTable : qMok mX7_takeTable := ⟨(qtb_in 987 (by decide +kernel) (by decide +kernel)), (qtb_in 83 (by decide +kernel) (by decide +kernel)), (by decide +kernel), ⟨(by decide +kernel), (by decide +kernel)⟩, (by decide +kernel)⟩
theorem ok_X7_ofDish : qMok mX7_ofDish := ⟨(qtb_in 991 (by decide +kernel) (by decide +kernel)), (qtb_in 83 (by decide +kernel) (by decide +kernel)), (by decide +kernel), ⟨(by decide +kernel), (by decide +kernel)⟩, (by decide +kernel)⟩
theorem ok_X7_isDish : qMok mX7_isDish := ⟨(qtb_in 995 (by decide +kernel) (by decide +kernel)), (qtb_in 83 (by decide +kernel) (by decide +kernel)), (by decide +kernel), ⟨(by decide +kernel), (by decide +kernel)⟩, (by decide +kernel)⟩
theorem ok_X7_ofGuest : qMok mX7_ofGuest := ⟨(qtb_in 999 (by decide +kernel) (by decide +kernel)), (qtb_in 83 (by decide +kernel) (by decide +kernel)), (by decide +kernel), ⟨(by decide +kernel), (by decide +kernel)⟩, (by decide +kernel)⟩
theorem ok_X7_isGuest : qMok mX7_isGuest := ⟨(qtb_in 1003 (by decide +kernel) (by decide +kernel)), (qtb_in 83 (by decide +kernel) (by decide +kernel)), (by decide +kernel), ⟨(by decide +kernel), (by decide +kernel)⟩, (by decide +kernel)⟩
theorem ok_X7_seatOf : qMok mX7_seatOf := ⟨(qtb_in 1007 (by decide +kernel) (by decide +kernel)), (qtb_in 83 (by decide +kernel) (by decide +kernel)), (by decide +kernel), ⟨(by decide +kernel), (by decide +kernel)⟩, (by decide +kernel)⟩
theorem ok_X7_worth : qMok mX7_worth := ⟨(qtb_in 1011 (by decide +kernel) (by decide +kernel)), (qtb_in 83 (by decide +kernel) (by decide +kernel)), (by decide +kernel), ⟨(by decide +kernel), (by decide +kernel)⟩, (by decide +kernel)⟩
theorem ok_X7_say : qMok mX7_say := ⟨(qtb_in 1015 (by decide +kernel) (by decide +kernel)), (qtb_in 83 (by decide +kernel) (by decide +kernel)), (by decide +kernel), ⟨(by decide +kernel), (by decide +kernel)⟩, (by decide +kernel)⟩
theorem ok_X7_swap : qMok mX7_swap := ⟨(qtb_in 1019 (by decide +kernel) (by decide +kernel)), (qtb_in 83 (by decide +kernel) (by decide +kernel)), (by decide +kernel), ⟨(by decide +kernel), (by decide +kernel)⟩, (by decide +kernel)⟩
theorem ok_X7_step : qMok mX7_step := ⟨(qtb_in 1023 (by decide +kernel) (by decide +kernel)), (qtb_in 83 (by decide +kernel) (by decide +kernel)), (by decide +kernel), ⟨(by decide +kernel), (by decide +kernel)⟩, (by decide +kernel)⟩
theorem ok_X7_isTable : qMok mX7_isTable := ⟨(qtb_in 1027 (by decide +kernel) (by decide +kernel)), (qtb_in 83 (by decide +kernel) (by decide +kernel)), (by decide +kernel), ⟨(by decide +kernel), (by decide +kernel)⟩, (by decide +kernel)⟩
theorem ok_X7_courses : qMok mX7_courses := ⟨(qtb_in 1031 (by decide +kernel) (by decide +kernel)), (qtb_in 83 (by decide +kernel) (by decide +kernel)), (by decide +kernel), ⟨(by decide +kernel), (by decide +kernel)⟩, (by decide +kernel)⟩
theorem ok_X7_dine : qMok mX7_dine := ⟨(qtb_in 1035 (by decide +kernel) (by decide +kernel)), (qtb_in 83 (by decide +kernel) (by decide +kernel)), (by decide +kernel), ⟨(by decide +kernel), (by decide +kernel)⟩, (by decide +kernel)⟩
theorem ok_X7_layNow : qMok mX7_layNow := ⟨(qtb_in 1039 (by decide +kernel) (by decide +kernel)), (qtb_in 83 (by decide +kernel) (by decide +kernel)), (by decide +kernel), ⟨(by decide +kernel), (by decide +kernel)⟩, (by decide +kernel)⟩
theorem ok_X7_goNight : qMok mX7_goNight := ⟨(qtb_in 1043 (by decide +kernel) (by decide +kernel)), (qtb_in 83 (by decide +kernel) (by decide +kernel)), (by decide +kernel), ⟨(by decide +kernel), (by decide +kernel)⟩, (by decide +kernel)⟩
theorem ok_X7_refill : qMok mX7_refill := ⟨(qtb_in 1047 (by decide +kernel) (by decide +kernel)), (qtb_in 83 (by decide +kernel) (by decide +kernel)), (by decide +kernel), ⟨(by decide +kernel), (by decide +kernel)⟩, (by decide +kernel)⟩
theorem ok_X7_goCourse : qMok mX7_goCourse := ⟨(qtb_in 1051 (by decide +kernel) (by decide +kernel)), (qtb_in 83 (by decide +kernel) (by decide +kernel)), (by decide +kernel), ⟨(by decide +kernel), (by decide +kernel)⟩, (by decide +kernel)⟩
theorem ok_X7_asked : qMok mX7_asked := ⟨(qtb_in 1055 (by decide +kernel) (by decide +kernel)), (qtb_in 83 (by decide +kernel) (by decide +kernel)), (by decide +kernel), ⟨(by decide +kernel), (by decide +kernel)⟩, (by decide +kernel)⟩
theorem ok_X7_howAsks : qMok mX7_howAsks := ⟨(qtb_in 1059 (by decide +kernel) (by decide +kernel)), (qtb_in 83 (by decide +kernel) (by decide +kernel)), (by decide +kernel), ⟨(by decide +kernel), (by decide +kernel)⟩, (by decide +kernel)⟩
theorem ok_X7_truly : qMok mX7_truly := ⟨(qtb_in 1063 (by decide +kernel) (by decide +kernel)), (qtb_in 83 (by decide +kernel) (by decide +kernel)), (by decide +kernel), ⟨(by decide +kernel), (by decide +kernel)⟩, (by decide +kernel)⟩
theorem ok_X7_isAhead : qMok mX7_isAhead := ⟨(qtb_in 1067 (by decide +kernel) (by decide +kernel)), (qtb_in 83 (by decide +kernel) (by decide +kernel)), (by decide +kernel), ⟨(by decide +kernel), (by decide +kernel)⟩, (by decide +kernel)⟩
theorem ok_X7_allGlad : qMok mX7_allGlad := ⟨(qtb_in 1071 (by decide +kernel) (by decide +kernel)), (qtb_in 83 (by decide +kernel) (by decide +kernel)), (by decide +kernel), ⟨(by decide +kernel), (by decide +kernel)⟩, (by decide +kernel)⟩
theorem ok_X7_forget : qMok mX7_forget := ⟨(qtb_in 1075 (by decide +kernel) (by decide +kernel)), (qtb_in 83 (by decide +kernel) (by decide +kernel)), (by decide +kernel), ⟨(by decide +kernel), (by decide +kernel)⟩, (by decide +kernel)⟩
theorem ok_X7_gets : qMok mX7_gets := ⟨(qtb_in 1079 (by decide +kernel) (by decide +kernel)), (qtb_in 83 (by decide +kernel) (by decide +kernel)), (by decide +kernel), ⟨(by decide +kernel), (by decide +kernel)⟩, (by decide +kernel)⟩
theorem ok_X7_glad : qMok mX7_glad := ⟨(qtb_in 1083 (by decide +kernel) (by decide +kernel)), (qtb_in 83 (by decide +kernel) (by decide +kernel)), (by decide +kernel), ⟨(by decide +kernel), (by decide +kernel)⟩, (by decide +kernel)⟩
theorem ok_X7_pays : qMok mX7_pays := ⟨(qtb_in 1087 (by decide +kernel) (by decide +kernel)), (qtb_in 83 (by decide +kernel) (by decide +kernel)), (by decide +kernel), ⟨(by decide +kernel), (by decide +kernel)⟩, (by decide +kernel)⟩
theorem ok_X7_share : qMok mX7_share := ⟨(qtb_in 1091 (by decide +kernel) (by decide +kernel)), (qtb_in 83 (by decide +kernel) (by decide +kernel)), (by decide +kernel), ⟨(by decide +kernel), (by decide +kernel)⟩, (by decide +kernel)⟩
theorem ok_X7_judge : qMok mX7_judge := ⟨(qtb_in 1095 (by decide +kernel) (by decide +kernel)), (qtb_in 83 (by decide +kernel) (by decide +kernel)), (by decide +kernel), ⟨(by decide +kernel), (by decide +kernel)⟩, (by decide +kernel)⟩
theorem ok_X7_mayBe : qMok mX7_mayBe := ⟨(qtb_in 1099 (by decide +kernel) (by decide +kernel)), (qtb_in 83 (by decide +kernel) (by decide +kernel)), (by decide +kernel), ⟨(by decide +kernel), (by decide +kernel)⟩, (by decide +kernel)⟩
theorem ok_X7_best : qMok mX7_best := ⟨(qtb_in 1103 (by decide +kernel) (by decide +kernel)), (qtb_in 83 (by decide +kernel) (by decide +kernel)), (by decide +kernel), ⟨(by decide +kernel), (by decide +kernel)⟩, (by decide +kernel)⟩
theorem ok_X7_findBest : qMok mX7_findBest := ⟨(qtb_in 1107 (by decide +kernel) (by decide +kernel)), (qtb_in 83 (by decide +kernel) (by decide +kernel)), (by decide +kernel), ⟨(by decide +kernel), (by decide +kernel)⟩, (by decide +kernel)⟩
theorem ok_X7_layWeights : qMok mX7_layWeights := ⟨(qtb_in 1111 (by decide +kernel) (by decide +kernel)), (qtb_in 83 (by decide +kernel) (by decide +kernel)), (by decide +kernel), ⟨(by decide +kernel), (by decide +kernel)⟩, (by decide +kernel)⟩
theorem ok_X7_takes : qMok mX7_takes := ⟨(qtb_in 1115 (by decide +kernel) (by decide +kernel)), (qtb_in 83 (by decide +kernel) (by decide +kernel)), (by decide +kernel), ⟨(by decide +kernel), (by decide +kernel)⟩, (by decide +kernel)⟩
theorem ok_X7_valueOf : qMok mX7_valueOf := ⟨(qtb_in 1119 (by decide +kernel) (by decide +kernel)), (qtb_in 83 (by decide +kernel) (by decide +kernel)), (by decide +kernel), ⟨(by decide +kernel), (by decide +kernel)⟩, (by decide +kernel)⟩
theorem ok_X7_mayHave : qMok mX7_mayHave := ⟨(qtb_in 1123 (by decide +kernel) (by decide +kernel)), (qtb_in 83 (by decide +kernel) (by decide +kernel)), (by decide +kernel), ⟨(by decide +kernel), (by decide +kernel)⟩, (by decide +kernel)⟩
theorem ok_X7_keepBest : qMok mX7_keepBest := ⟨(qtb_in 1127 (by decide +kernel) (by decide +kernel)), (qtb_in 83 (by decide +kernel) (by decide +kernel)), (by decide +kernel), ⟨(by decide +kernel), (by decide +kernel)⟩, (by decide +kernel)⟩
theorem ok_X7_seats : qMok mX7_seats := ⟨(qtb_in 1131 (by decide +kernel) (by decide +kernel)), (qtb_in 83 (by decide +kernel) (by decide +kernel)), (by decide +kernel), ⟨(by decide +kernel), (by decide +kernel)⟩, (by decide +kernel)⟩
theorem ok_X7_findSeats : qMok mX7_findSeats := ⟨(qtb_in 1135 (by decide +kernel) (by decide +kernel)), (qtb_in 83 (by decide +kernel) (by decide +kernel)), (by decide +kernel), ⟨(by decide +kernel), (by decide +kernel)⟩, (by decide +kernel)⟩
theorem ok_X7_isInPerm : qMok mX7_isInPerm := ⟨(qtb_in 1139 (by decide +kernel) (by decide +kernel)), (qtb_in 83 (by decide +kernel) (by decide +kernel)), (by decide +kernel), ⟨(by decide +kernel), (by decide +kernel)⟩, (by decide +kernel)⟩
theorem ok_X7_trySeats : qMok mX7_trySeats := ⟨(qtb_in 1143 (by decide +kernel) (by decide +kernel)), (qtb_in 83 (by decide +kernel) (by decide +kernel)), (by decide +kernel), ⟨(by decide +kernel), (by decide +kernel)⟩, (by decide +kernel)⟩
theorem ok_X7_leastGlad : qMok mX7_leastGlad := ⟨(qtb_in 1147 (by decide +kernel) (by decide +kernel)), (qtb_in 83 (by decide +kernel) (by decide +kernel)), (by decide +kernel), ⟨(by decide +kernel), (by decide +kernel)⟩, (by decide +kernel)⟩
theorem ok_X7_ever : qMok mX7_ever := ⟨(qtb_in 1151 (by decide +kernel) (by decide +kernel)), (qtb_in 83 (by decide +kernel) (by decide +kernel)), (by decide +kernel), ⟨(by decide +kernel), (by decide +kernel)⟩, (by decide +kernel)⟩
theorem ok_X7_findRing : qMok mX7_findRing := ⟨(qtb_in 1155 (by decide +kernel) (by decide +kernel)), (qtb_in 83 (by decide +kernel) (by decide +kernel)), (by decide +kernel), ⟨(by decide +kernel), (by decide +kernel)⟩, (by decide +kernel)⟩
theorem ok_X7_keepMemory : qMok mX7_keepMemory := ⟨(qtb_in 1159 (by decide +kernel) (by decide +kernel)), (qtb_in 83 (by decide +kernel) (by decide +kernel)), (by decide +kernel), ⟨(by decide +kernel), (by decide +kernel)⟩, (by decide +kernel)⟩
theorem ok_X7_sameAs : qMok mX7_sameAs := ⟨(qtb_in 1163 (by decide +kernel) (by decide +kernel)), (qtb_in 83 (by decide +kernel) (by decide +kernel)), (by decide +kernel), ⟨(by decide +kernel), (by decide +kernel)⟩, (by decide +kernel)⟩
theorem ok_X7_areAlike : qMok mX7_areAlike := ⟨(qtb_in 1167 (by decide +kernel) (by decide +kernel)), (qtb_in 83 (by decide +kernel) (by decide +kernel)), (by decide +kernel), ⟨(by decide +kernel), (by decide +kernel)⟩, (by decide +kernel)⟩
theorem ok_X7_mean : qMok mX7_mean := ⟨(qtb_in 1171 (by decide +kernel) (by decide +kernel)), (qtb_in 83 (by decide +kernel) (by decide +kernel)), (by decide +kernel), ⟨(by decide +kernel), (by decide +kernel)⟩, (by decide +kernel)⟩
theorem ok_X7_gladInRing : qMok mX7_gladInRing := ⟨(qtb_in 1175 (by decide +kernel) (by decide +kernel)), (qtb_in 83 (by decide +kernel) (by decide +kernel)), (by decide +kernel), ⟨(by decide +kernel), (by decide +kernel)⟩, (by decide +kernel)⟩
theorem ok_X7_leaves : qMok mX7_leaves := ⟨(qtb_in 1179 (by decide +kernel) (by decide +kernel)), (qtb_in 83 (by decide +kernel) (by decide +kernel)), (by decide +kernel), ⟨(by decide +kernel), (by decide +kernel)⟩, (by decide +kernel)⟩
theorem ok_X7_wouldLeave : qMok mX7_wouldLeave := ⟨(qtb_in 1183 (by decide +kernel) (by decide +kernel)), (qtb_in 83 (by decide +kernel) (by decide +kernel)), (by decide +kernel), ⟨(by decide +kernel), (by decide +kernel)⟩, (by decide +kernel)⟩
theorem ok_X7_spite : qMok mX7_spite := ⟨(qtb_in 1187 (by decide +kernel) (by decide +kernel)), (qtb_in 83 (by decide +kernel) (by decide +kernel)), (by decide +kernel), ⟨(by decide +kernel), (by decide +kernel)⟩, (by decide +kernel)⟩
theorem ok_X7_swapOut : qMok mX7_swapOut := ⟨(qtb_in 1191 (by decide +kernel) (by decide +kernel)), (qtb_in 83 (by decide +kernel) (by decide +kernel)), (by decide +kernel), ⟨(by decide +kernel), (by decide +kernel)⟩, (by decide +kernel)⟩
theorem ok_X7_swapIn : qMok mX7_swapIn := ⟨(qtb_in 1195 (by decide +kernel) (by decide +kernel)), (qtb_in 83 (by decide +kernel) (by decide +kernel)), (by decide +kernel), ⟨(by decide +kernel), (by decide +kernel)⟩, (by decide +kernel)⟩
theorem ok_X7_areSame : qMok mX7_areSame := ⟨(qtb_in 1199 (by decide +kernel) (by decide +kernel)), (qtb_in 83 (by decide +kernel) (by decide +kernel)), (by decide +kernel), ⟨(by decide +kernel), (by decide +kernel)⟩, (by decide +kernel)⟩
theorem ok_X7_lies : qMok mX7_lies := ⟨(qtb_in 1203 (by decide +kernel) (by decide +kernel)), (qtb_in 83 (by decide +kernel) (by decide +kernel)), (by decide +kernel), ⟨(by decide +kernel), (by decide +kernel)⟩, (by decide +kernel)⟩
theorem ok_X7_gladByLie : qMok mX7_gladByLie := ⟨(qtb_in 1207 (by decide +kernel) (by decide +kernel)), (qtb_in 83 (by decide +kernel) (by decide +kernel)), (by decide +kernel), ⟨(by decide +kernel), (by decide +kernel)⟩, (by decide +kernel)⟩
theorem ok_X7_chair : qMok mX7_chair := ⟨(qtb_in 1211 (by decide +kernel) (by decide +kernel)), (qtb_in 83 (by decide +kernel) (by decide +kernel)), (by decide +kernel), ⟨(by decide +kernel), (by decide +kernel)⟩, (by decide +kernel)⟩
theorem ok_X7_law : qMok mX7_law := ⟨(qtb_in 1215 (by decide +kernel) (by decide +kernel)), (qtb_in 83 (by decide +kernel) (by decide +kernel)), (by decide +kernel), ⟨(by decide +kernel), (by decide +kernel)⟩, (by decide +kernel)⟩
theorem ok_X7_sheet : qMok mX7_sheet := ⟨(qtb_in 1219 (by decide +kernel) (by decide +kernel)), (qtb_in 83 (by decide +kernel) (by decide +kernel)), (by decide +kernel), ⟨(by decide +kernel), (by decide +kernel)⟩, (by decide +kernel)⟩
theorem ok_X7_lose : qMok mX7_lose := ⟨(qtb_in 1223 (by decide +kernel) (by decide +kernel)), (qtb_in 83 (by decide +kernel) (by decide +kernel)), (by decide +kernel), ⟨(by decide +kernel), (by decide +kernel)⟩, (by decide +kernel)⟩
theorem ok_X7_put : qMok mX7_put := ⟨(qtb_in 1227 (by decide +kernel) (by decide +kernel)), (qtb_in 83 (by decide +kernel) (by decide +kernel)), (by decide +kernel), ⟨(by decide +kernel), (by decide +kernel)⟩, (by decide +kernel)⟩
theorem ok_X7_cell : qMok mX7_cell := ⟨(qtb_in 1231 (by decide +kernel) (by decide +kernel)), (qtb_in 83 (by decide +kernel) (by decide +kernel)), (by decide +kernel), ⟨(by decide +kernel), (by decide +kernel)⟩, (by decide +kernel)⟩
theorem ok_X7_lost : qMok mX7_lost := ⟨(qtb_in 1235 (by decide +kernel) (by decide +kernel)), (qtb_in 83 (by decide +kernel) (by decide +kernel)), (by decide +kernel), ⟨(by decide +kernel), (by decide +kernel)⟩, (by decide +kernel)⟩
theorem ok_X7_copy : qMok mX7_copy := ⟨(qtb_in 1239 (by decide +kernel) (by decide +kernel)), (qtb_in 83 (by decide +kernel) (by decide +kernel)), (by decide +kernel), ⟨(by decide +kernel), (by decide +kernel)⟩, (by decide +kernel)⟩
theorem ok_X7_tell : qMok mX7_tell := ⟨(qtb_in 1243 (by decide +kernel) (by decide +kernel)), (qtb_in 83 (by decide +kernel) (by decide +kernel)), (by decide +kernel), ⟨(by decide +kernel), (by decide +kernel)⟩, (by decide +kernel)⟩
theorem ok_X7_begins : qMok mX7_begins := ⟨(qtb_in 1247 (by decide +kernel) (by decide +kernel)), (qtb_in 83 (by decide +kernel) (by decide +kernel)), (by decide +kernel), ⟨(by decide +kernel), (by decide +kernel)⟩, (by decide +kernel)⟩
theorem ok_X7_greet : qMok mX7_greet := ⟨(qtb_in 1251 (by decide +kernel) (by decide +kernel)), (qtb_in 83 (by decide +kernel) (by decide +kernel)), (by decide +kernel), ⟨(by decide +kernel), (by decide +kernel)⟩, (by decide +kernel)⟩
theorem ok_X7_as : qMok mX7_as := ⟨(qtb_in 1255 (by decide +kernel) (by decide +kernel)), (qtb_in 83 (by decide +kernel) (by decide +kernel)), (by decide +kernel), ⟨(by decide +kernel), (by decide +kernel)⟩, (by decide +kernel)⟩
theorem ok_X7_trace : qMok mX7_trace := ⟨(qtb_in 1259 (by decide +kernel) (by decide +kernel)), (qtb_in 83 (by decide +kernel) (by decide +kernel)), (by decide +kernel), ⟨(by decide +kernel), (by decide +kernel)⟩, (by decide +kernel)⟩
theorem ok_X7_fault : qMok mX7_fault := ⟨(qtb_in 1263 (by decide +kernel) (by decide +kernel)), (qtb_in 83 (by decide +kernel) (by decide +kernel)), (by decide +kernel), ⟨(by decide +kernel), (by decide +kernel)⟩, (by decide +kernel)⟩
theorem ok_X7_many : qMok mX7_many := ⟨(qtb_in 1267 (by decide +kernel) (by decide +kernel)), (qtb_in 83 (by decide +kernel) (by decide +kernel)), (by decide +kernel), ⟨(by decide +kernel), (by decide +kernel)⟩, (by decide +kernel)⟩
theorem vl_L_13 : qVL RL 13 mX6_table 4 := ⟨ok_X6_table, (qtb_in 355 (by decide +kernel) (by decide +kernel)), (qtb_in 356 (by decide +kernel) (by decide +kernel)), (qtb_in 357 (by decide +kernel) (by decide +kernel)), (by decide +kernel)⟩
theorem vl_X6_65 : qVL RX6 65 mX6_refusalOfRow 4 := ⟨ok_X6_refusalOfRow, (qtb_in 359 (by decide +kernel) (by decide +kernel)), (qtb_in 361 (by decide +kernel) (by decide +kernel)), (qtb_in 0 (by decide +kernel) (by decide +kernel)), (by decide +kernel)⟩
theorem sl_X6_249 : qSL RX6 249 mX6_isSheet 1 := ⟨ok_X6_isSheet, (qtb_in 363 (by decide +kernel) (by decide +kernel)), (qtb_in 364 (by decide +kernel) (by decide +kernel)), (by decide +kernel)⟩
theorem sl_X6_252 : qSL RX6 252 mX6_isSort 1 := ⟨ok_X6_isSort, (qtb_in 366 (by decide +kernel) (by decide +kernel)), (qtb_in 367 (by decide +kernel) (by decide +kernel)), (by decide +kernel)⟩
theorem vl_X6_255 : qVL RX6 255 mX6_faulty 1 := ⟨ok_X6_faulty, (qtb_in 369 (by decide +kernel) (by decide +kernel)), (qtb_in 371 (by decide +kernel) (by decide +kernel)), (qtb_in 1 (by decide +kernel) (by decide +kernel)), (by decide +kernel)⟩
theorem vl_X6_264 : qVL RX6 264 mX3_holds 2 := ⟨ok_X3_holds, (qtb_in 373 (by decide +kernel) (by decide +kernel)), (qtb_in 374 (by decide +kernel) (by decide +kernel)), (qtb_in 375 (by decide +kernel) (by decide +kernel)), (by decide +kernel)⟩
theorem vl_X6_69 : qVL RX6 69 mX5_isRead 3 := ⟨ok_X5_isRead, (qtb_in 377 (by decide +kernel) (by decide +kernel)), (qtb_in 378 (by decide +kernel) (by decide +kernel)), (qtb_in 379 (by decide +kernel) (by decide +kernel)), (by decide +kernel)⟩
theorem vl_X5_45 : qVL RX5 45 mX5_isSign 2 := ⟨ok_X5_isSign, (qtb_in 381 (by decide +kernel) (by decide +kernel)), (qtb_in 383 (by decide +kernel) (by decide +kernel)), (qtb_in 2 (by decide +kernel) (by decide +kernel)), (by decide +kernel)⟩
theorem vl_X5_49 : qVL RX5 49 mX5_areDishesRead 1 := ⟨ok_X5_areDishesRead, (qtb_in 385 (by decide +kernel) (by decide +kernel)), (qtb_in 387 (by decide +kernel) (by decide +kernel)), (qtb_in 3 (by decide +kernel) (by decide +kernel)), (by decide +kernel)⟩
theorem vl_X5_56 : qVL RX5 56 mX5_digit 3 := ⟨ok_X5_digit, (qtb_in 389 (by decide +kernel) (by decide +kernel)), (qtb_in 391 (by decide +kernel) (by decide +kernel)), (qtb_in 4 (by decide +kernel) (by decide +kernel)), (by decide +kernel)⟩
theorem vl_X5_53 : qVL RX5 53 mX5_areGuestsRead 1 := ⟨ok_X5_areGuestsRead, (qtb_in 393 (by decide +kernel) (by decide +kernel)), (qtb_in 395 (by decide +kernel) (by decide +kernel)), (qtb_in 5 (by decide +kernel) (by decide +kernel)), (by decide +kernel)⟩
theorem vl_X5_63 : qVL RX5 63 mX5_isGuestRead 2 := ⟨ok_X5_isGuestRead, (qtb_in 397 (by decide +kernel) (by decide +kernel)), (qtb_in 399 (by decide +kernel) (by decide +kernel)), (qtb_in 6 (by decide +kernel) (by decide +kernel)), (by decide +kernel)⟩
theorem vl_X5_67 : qVL RX5 67 mX5_kindOfLetter 1 := ⟨ok_X5_kindOfLetter, (qtb_in 401 (by decide +kernel) (by decide +kernel)), (qtb_in 403 (by decide +kernel) (by decide +kernel)), (qtb_in 7 (by decide +kernel) (by decide +kernel)), (by decide +kernel)⟩
theorem vl_X5_71 : qVL RX5 71 mX5_isWorthRead 2 := ⟨ok_X5_isWorthRead, (qtb_in 405 (by decide +kernel) (by decide +kernel)), (qtb_in 407 (by decide +kernel) (by decide +kernel)), (qtb_in 8 (by decide +kernel) (by decide +kernel)), (by decide +kernel)⟩
theorem vl_X6_73 : qVL RX6 73 mX5_place 0 := ⟨ok_X5_place, (qtb_in 409 (by decide +kernel) (by decide +kernel)), (qtb_in 410 (by decide +kernel) (by decide +kernel)), (qtb_in 411 (by decide +kernel) (by decide +kernel)), (by decide +kernel)⟩
theorem vl_X6_77 : qVL RX6 77 mX4_begin 1 := ⟨ok_X4_begin, (qtb_in 413 (by decide +kernel) (by decide +kernel)), (qtb_in 414 (by decide +kernel) (by decide +kernel)), (qtb_in 415 (by decide +kernel) (by decide +kernel)), (by decide +kernel)⟩
theorem vl_X4_71 : qVL RX4 71 mX4_clearMemory 0 := ⟨ok_X4_clearMemory, (qtb_in 420 (by decide +kernel) (by decide +kernel)), (qtb_in 421 (by decide +kernel) (by decide +kernel)), (qtb_in 422 (by decide +kernel) (by decide +kernel)), (by decide +kernel)⟩
theorem sl_X4_74 : qSL RX4 74 mJ7_fill_53178 2 := ⟨ok_J7_fill_53178, (qtb_in 424 (by decide +kernel) (by decide +kernel)), (qtb_in 425 (by decide +kernel) (by decide +kernel)), (by decide +kernel)⟩
theorem vl_X6_85 : qVL RX6 85 mX6_unsettle 0 := ⟨ok_X6_unsettle, (qtb_in 427 (by decide +kernel) (by decide +kernel)), (qtb_in 429 (by decide +kernel) (by decide +kernel)), (qtb_in 9 (by decide +kernel) (by decide +kernel)), (by decide +kernel)⟩
theorem vl_L_18 : qVL RL 18 mX6_ofDish 2 := ⟨ok_X6_ofDish, (qtb_in 431 (by decide +kernel) (by decide +kernel)), (qtb_in 432 (by decide +kernel) (by decide +kernel)), (qtb_in 433 (by decide +kernel) (by decide +kernel)), (by decide +kernel)⟩
theorem vl_X6_91 : qVL RX6 91 mX6_isDish 1 := ⟨ok_X6_isDish, (qtb_in 435 (by decide +kernel) (by decide +kernel)), (qtb_in 437 (by decide +kernel) (by decide +kernel)), (qtb_in 10 (by decide +kernel) (by decide +kernel)), (by decide +kernel)⟩
theorem vl_L_23 : qVL RL 23 mX6_ofGuest 2 := ⟨ok_X6_ofGuest, (qtb_in 439 (by decide +kernel) (by decide +kernel)), (qtb_in 440 (by decide +kernel) (by decide +kernel)), (qtb_in 441 (by decide +kernel) (by decide +kernel)), (by decide +kernel)⟩
theorem vl_X6_102 : qVL RX6 102 mX6_isGuest 1 := ⟨ok_X6_isGuest, (qtb_in 443 (by decide +kernel) (by decide +kernel)), (qtb_in 445 (by decide +kernel) (by decide +kernel)), (qtb_in 11 (by decide +kernel) (by decide +kernel)), (by decide +kernel)⟩
theorem vl_X6_114 : qVL RX6 114 mX4_seatOf 1 := ⟨ok_X4_seatOf, (qtb_in 447 (by decide +kernel) (by decide +kernel)), (qtb_in 448 (by decide +kernel) (by decide +kernel)), (qtb_in 449 (by decide +kernel) (by decide +kernel)), (by decide +kernel)⟩
theorem vl_L_27 : qVL RL 27 mX6_worth 3 := ⟨ok_X6_worth, (qtb_in 451 (by decide +kernel) (by decide +kernel)), (qtb_in 452 (by decide +kernel) (by decide +kernel)), (qtb_in 453 (by decide +kernel) (by decide +kernel)), (by decide +kernel)⟩
theorem vl_L_32 : qVL RL 32 mX6_say 3 := ⟨ok_X6_say, (qtb_in 455 (by decide +kernel) (by decide +kernel)), (qtb_in 456 (by decide +kernel) (by decide +kernel)), (qtb_in 457 (by decide +kernel) (by decide +kernel)), (by decide +kernel)⟩
theorem vl_X6_128 : qVL RX6 128 mX5_mayHave 2 := ⟨ok_X5_mayHave, (qtb_in 459 (by decide +kernel) (by decide +kernel)), (qtb_in 460 (by decide +kernel) (by decide +kernel)), (qtb_in 461 (by decide +kernel) (by decide +kernel)), (by decide +kernel)⟩
theorem vl_L_37 : qVL RL 37 mX6_swap 2 := ⟨ok_X6_swap, (qtb_in 463 (by decide +kernel) (by decide +kernel)), (qtb_in 464 (by decide +kernel) (by decide +kernel)), (qtb_in 465 (by decide +kernel) (by decide +kernel)), (by decide +kernel)⟩
theorem vl_L_41 : qVL RL 41 mX6_step 1 := ⟨ok_X6_step, (qtb_in 467 (by decide +kernel) (by decide +kernel)), (qtb_in 468 (by decide +kernel) (by decide +kernel)), (qtb_in 469 (by decide +kernel) (by decide +kernel)), (by decide +kernel)⟩
theorem vl_L_46 : qVL RL 46 mX6_courses 1 := ⟨ok_X6_courses, (qtb_in 471 (by decide +kernel) (by decide +kernel)), (qtb_in 472 (by decide +kernel) (by decide +kernel)), (qtb_in 473 (by decide +kernel) (by decide +kernel)), (by decide +kernel)⟩
theorem vl_X6_138 : qVL RX6 138 mX6_isTable 0 := ⟨ok_X6_isTable, (qtb_in 475 (by decide +kernel) (by decide +kernel)), (qtb_in 477 (by decide +kernel) (by decide +kernel)), (qtb_in 12 (by decide +kernel) (by decide +kernel)), (by decide +kernel)⟩
theorem vl_L_50 : qVL RL 50 mX6_dine 0 := ⟨ok_X6_dine, (qtb_in 479 (by decide +kernel) (by decide +kernel)), (qtb_in 480 (by decide +kernel) (by decide +kernel)), (qtb_in 481 (by decide +kernel) (by decide +kernel)), (by decide +kernel)⟩
theorem vl_X6_145 : qVL RX6 145 mX4_evening 0 := ⟨ok_X4_evening, (qtb_in 483 (by decide +kernel) (by decide +kernel)), (qtb_in 484 (by decide +kernel) (by decide +kernel)), (qtb_in 485 (by decide +kernel) (by decide +kernel)), (by decide +kernel)⟩
theorem vl_X4_97 : qVL RX4 97 mX4_layOut 0 := ⟨ok_X4_layOut, (qtb_in 487 (by decide +kernel) (by decide +kernel)), (qtb_in 488 (by decide +kernel) (by decide +kernel)), (qtb_in 489 (by decide +kernel) (by decide +kernel)), (by decide +kernel)⟩
theorem vl_X4_100 : qVL RX4 100 mX4_askedFor 1 := ⟨ok_X4_askedFor, (qtb_in 491 (by decide +kernel) (by decide +kernel)), (qtb_in 492 (by decide +kernel) (by decide +kernel)), (qtb_in 493 (by decide +kernel) (by decide +kernel)), (by decide +kernel)⟩
theorem vl_X4_103 : qVL RX4 103 mX4_ask 3 := ⟨ok_X4_ask, (qtb_in 495 (by decide +kernel) (by decide +kernel)), (qtb_in 497 (by decide +kernel) (by decide +kernel)), (qtb_in 13 (by decide +kernel) (by decide +kernel)), (by decide +kernel)⟩
theorem vl_X4_107 : qVL RX4 107 mX4_mannerOf 1 := ⟨ok_X4_mannerOf, (qtb_in 499 (by decide +kernel) (by decide +kernel)), (qtb_in 501 (by decide +kernel) (by decide +kernel)), (qtb_in 14 (by decide +kernel) (by decide +kernel)), (by decide +kernel)⟩
theorem vl_X4_120 : qVL RX4 120 mX5_truly 2 := ⟨ok_X5_truly, (qtb_in 503 (by decide +kernel) (by decide +kernel)), (qtb_in 504 (by decide +kernel) (by decide +kernel)), (qtb_in 505 (by decide +kernel) (by decide +kernel)), (by decide +kernel)⟩
theorem vl_X4_110 : qVL RX4 110 mX4_wish 2 := ⟨ok_X4_wish, (qtb_in 507 (by decide +kernel) (by decide +kernel)), (qtb_in 509 (by decide +kernel) (by decide +kernel)), (qtb_in 15 (by decide +kernel) (by decide +kernel)), (by decide +kernel)⟩
theorem vl_X6_148 : qVL RX6 148 mX4_gladInAll 0 := ⟨ok_X4_gladInAll, (qtb_in 511 (by decide +kernel) (by decide +kernel)), (qtb_in 512 (by decide +kernel) (by decide +kernel)), (qtb_in 513 (by decide +kernel) (by decide +kernel)), (by decide +kernel)⟩
theorem vl_X4_126 : qVL RX4 126 mX4_sum 1 := ⟨ok_X4_sum, (qtb_in 515 (by decide +kernel) (by decide +kernel)), (qtb_in 517 (by decide +kernel) (by decide +kernel)), (qtb_in 16 (by decide +kernel) (by decide +kernel)), (by decide +kernel)⟩
theorem vl_L_55 : qVL RL 55 mX6_forget 0 := ⟨ok_X6_forget, (qtb_in 519 (by decide +kernel) (by decide +kernel)), (qtb_in 520 (by decide +kernel) (by decide +kernel)), (qtb_in 521 (by decide +kernel) (by decide +kernel)), (by decide +kernel)⟩
theorem vl_X6_151 : qVL RX6 151 mX4_clearMemory 0 := ⟨ok_X4_clearMemory, (qtb_in 523 (by decide +kernel) (by decide +kernel)), (qtb_in 421 (by decide +kernel) (by decide +kernel)), (qtb_in 422 (by decide +kernel) (by decide +kernel)), (by decide +kernel)⟩
theorem vl_L_59 : qVL RL 59 mX6_gets 2 := ⟨ok_X6_gets, (qtb_in 524 (by decide +kernel) (by decide +kernel)), (qtb_in 525 (by decide +kernel) (by decide +kernel)), (qtb_in 526 (by decide +kernel) (by decide +kernel)), (by decide +kernel)⟩
theorem vl_X6_154 : qVL RX6 154 mX6_tryEvening 0 := ⟨ok_X6_tryEvening, (qtb_in 528 (by decide +kernel) (by decide +kernel)), (qtb_in 530 (by decide +kernel) (by decide +kernel)), (qtb_in 17 (by decide +kernel) (by decide +kernel)), (by decide +kernel)⟩
theorem vl_X6_198 : qVL RX6 198 mX4_become 1 := ⟨ok_X4_become, (qtb_in 532 (by decide +kernel) (by decide +kernel)), (qtb_in 533 (by decide +kernel) (by decide +kernel)), (qtb_in 534 (by decide +kernel) (by decide +kernel)), (by decide +kernel)⟩
theorem vl_L_63 : qVL RL 63 mX6_glad 1 := ⟨ok_X6_glad, (qtb_in 536 (by decide +kernel) (by decide +kernel)), (qtb_in 537 (by decide +kernel) (by decide +kernel)), (qtb_in 538 (by decide +kernel) (by decide +kernel)), (by decide +kernel)⟩
theorem vl_L_67 : qVL RL 67 mX6_pays 3 := ⟨ok_X6_pays, (qtb_in 540 (by decide +kernel) (by decide +kernel)), (qtb_in 541 (by decide +kernel) (by decide +kernel)), (qtb_in 542 (by decide +kernel) (by decide +kernel)), (by decide +kernel)⟩
theorem sl_X6_163 : qSL RX6 163 mX6_isOneOfTwo 1 := ⟨ok_X6_isOneOfTwo, (qtb_in 544 (by decide +kernel) (by decide +kernel)), (qtb_in 545 (by decide +kernel) (by decide +kernel)), (by decide +kernel)⟩
theorem vl_X6_168 : qVL RX6 168 mX4_paidInAll 0 := ⟨ok_X4_paidInAll, (qtb_in 548 (by decide +kernel) (by decide +kernel)), (qtb_in 549 (by decide +kernel) (by decide +kernel)), (qtb_in 550 (by decide +kernel) (by decide +kernel)), (by decide +kernel)⟩
theorem sl_X6_171 : qSL RX6 171 mX6_share 3 := ⟨ok_X6_share, (qtb_in 552 (by decide +kernel) (by decide +kernel)), (qtb_in 553 (by decide +kernel) (by decide +kernel)), (by decide +kernel)⟩
theorem vl_L_72 : qVL RL 72 mX6_judge 4 := ⟨ok_X6_judge, (qtb_in 555 (by decide +kernel) (by decide +kernel)), (qtb_in 556 (by decide +kernel) (by decide +kernel)), (qtb_in 557 (by decide +kernel) (by decide +kernel)), (by decide +kernel)⟩
theorem vl_X6_181 : qVL RX6 181 mX6_firstThatCannotBe 3 := ⟨ok_X6_firstThatCannotBe, (qtb_in 559 (by decide +kernel) (by decide +kernel)), (qtb_in 561 (by decide +kernel) (by decide +kernel)), (qtb_in 18 (by decide +kernel) (by decide +kernel)), (by decide +kernel)⟩
theorem vl_X6_297 : qVL RX6 297 mX4_layOut 0 := ⟨ok_X4_layOut, (qtb_in 563 (by decide +kernel) (by decide +kernel)), (qtb_in 488 (by decide +kernel) (by decide +kernel)), (qtb_in 489 (by decide +kernel) (by decide +kernel)), (by decide +kernel)⟩
theorem vl_X6_300 : qVL RX6 300 mX4_askedFor 1 := ⟨ok_X4_askedFor, (qtb_in 564 (by decide +kernel) (by decide +kernel)), (qtb_in 492 (by decide +kernel) (by decide +kernel)), (qtb_in 493 (by decide +kernel) (by decide +kernel)), (by decide +kernel)⟩
theorem vl_X6_303 : qVL RX6 303 mX4_isAnyFor 1 := ⟨ok_X4_isAnyFor, (qtb_in 565 (by decide +kernel) (by decide +kernel)), (qtb_in 566 (by decide +kernel) (by decide +kernel)), (qtb_in 567 (by decide +kernel) (by decide +kernel)), (by decide +kernel)⟩
theorem vl_X4_94 : qVL RX4 94 mX4_isFor 2 := ⟨ok_X4_isFor, (qtb_in 569 (by decide +kernel) (by decide +kernel)), (qtb_in 570 (by decide +kernel) (by decide +kernel)), (qtb_in 571 (by decide +kernel) (by decide +kernel)), (by decide +kernel)⟩
theorem vl_X4_83 : qVL RX4 83 mX5_mayHave 2 := ⟨ok_X5_mayHave, (qtb_in 573 (by decide +kernel) (by decide +kernel)), (qtb_in 460 (by decide +kernel) (by decide +kernel)), (qtb_in 461 (by decide +kernel) (by decide +kernel)), (by decide +kernel)⟩
theorem vl_X6_306 : qVL RX6 306 mX4_isFor 2 := ⟨ok_X4_isFor, (qtb_in 574 (by decide +kernel) (by decide +kernel)), (qtb_in 570 (by decide +kernel) (by decide +kernel)), (qtb_in 571 (by decide +kernel) (by decide +kernel)), (by decide +kernel)⟩
theorem vl_L_76 : qVL RL 76 mX6_best 1 := ⟨ok_X6_best, (qtb_in 575 (by decide +kernel) (by decide +kernel)), (qtb_in 576 (by decide +kernel) (by decide +kernel)), (qtb_in 577 (by decide +kernel) (by decide +kernel)), (by decide +kernel)⟩
theorem vl_X6_189 : qVL RX6 189 mX0_find 1 := ⟨ok_X0_find, (qtb_in 579 (by decide +kernel) (by decide +kernel)), (qtb_in 580 (by decide +kernel) (by decide +kernel)), (qtb_in 581 (by decide +kernel) (by decide +kernel)), (by decide +kernel)⟩
theorem vl_X0_22 : qVL RX0 22 mX0_weigh 1 := ⟨ok_X0_weigh, (qtb_in 583 (by decide +kernel) (by decide +kernel)), (qtb_in 585 (by decide +kernel) (by decide +kernel)), (qtb_in 19 (by decide +kernel) (by decide +kernel)), (by decide +kernel)⟩
theorem vl_X0_89 : qVL RX0 89 mX4_askedFor 1 := ⟨ok_X4_askedFor, (qtb_in 587 (by decide +kernel) (by decide +kernel)), (qtb_in 492 (by decide +kernel) (by decide +kernel)), (qtb_in 493 (by decide +kernel) (by decide +kernel)), (by decide +kernel)⟩
theorem sl_X0_28 : qSL RX0 28 mJ7_fill_d0a16 2 := ⟨ok_J7_fill_d0a16, (qtb_in 589 (by decide +kernel) (by decide +kernel)), (qtb_in 590 (by decide +kernel) (by decide +kernel)), (by decide +kernel)⟩
theorem vl_X0_46 : qVL RX0 46 mX0_reckonGains 2 := ⟨ok_X0_reckonGains, (qtb_in 592 (by decide +kernel) (by decide +kernel)), (qtb_in 594 (by decide +kernel) (by decide +kernel)), (qtb_in 20 (by decide +kernel) (by decide +kernel)), (by decide +kernel)⟩
theorem vl_X0_103 : qVL RX0 103 mX5_mayHave 2 := ⟨ok_X5_mayHave, (qtb_in 596 (by decide +kernel) (by decide +kernel)), (qtb_in 460 (by decide +kernel) (by decide +kernel)), (qtb_in 461 (by decide +kernel) (by decide +kernel)), (by decide +kernel)⟩
theorem sl_X0_80 : qSL RX0 80 mX0_unit 1 := ⟨ok_X0_unit, (qtb_in 598 (by decide +kernel) (by decide +kernel)), (qtb_in 599 (by decide +kernel) (by decide +kernel)), (by decide +kernel)⟩
theorem vl_X0_62 : qVL RX0 62 mX0_serve 1 := ⟨ok_X0_serve, (qtb_in 605 (by decide +kernel) (by decide +kernel)), (qtb_in 607 (by decide +kernel) (by decide +kernel)), (qtb_in 21 (by decide +kernel) (by decide +kernel)), (by decide +kernel)⟩
theorem vl_X6_193 : qVL RX6 193 mX0_gladInAll 0 := ⟨ok_X0_gladInAll, (qtb_in 612 (by decide +kernel) (by decide +kernel)), (qtb_in 613 (by decide +kernel) (by decide +kernel)), (qtb_in 614 (by decide +kernel) (by decide +kernel)), (by decide +kernel)⟩
theorem vl_X6_194 : qVL RX6 194 mX0_dishOf 1 := ⟨ok_X0_dishOf, (qtb_in 616 (by decide +kernel) (by decide +kernel)), (qtb_in 617 (by decide +kernel) (by decide +kernel)), (qtb_in 618 (by decide +kernel) (by decide +kernel)), (by decide +kernel)⟩
theorem vl_L_80 : qVL RL 80 mX6_seats 2 := ⟨ok_X6_seats, (qtb_in 620 (by decide +kernel) (by decide +kernel)), (qtb_in 621 (by decide +kernel) (by decide +kernel)), (qtb_in 622 (by decide +kernel) (by decide +kernel)), (by decide +kernel)⟩
theorem vl_X6_201 : qVL RX6 201 mX2_find 1 := ⟨ok_X2_find, (qtb_in 624 (by decide +kernel) (by decide +kernel)), (qtb_in 625 (by decide +kernel) (by decide +kernel)), (qtb_in 626 (by decide +kernel) (by decide +kernel)), (by decide +kernel)⟩
theorem sl_X2_20 : qSL RX2 20 mJ7_fill_53178 2 := ⟨ok_J7_fill_53178, (qtb_in 628 (by decide +kernel) (by decide +kernel)), (qtb_in 425 (by decide +kernel) (by decide +kernel)), (by decide +kernel)⟩
theorem vl_X2_35 : qVL RX2 35 mX4_clearMemory 0 := ⟨ok_X4_clearMemory, (qtb_in 629 (by decide +kernel) (by decide +kernel)), (qtb_in 421 (by decide +kernel) (by decide +kernel)), (qtb_in 422 (by decide +kernel) (by decide +kernel)), (by decide +kernel)⟩
theorem vl_X2_38 : qVL RX2 38 mX4_evening 0 := ⟨ok_X4_evening, (qtb_in 630 (by decide +kernel) (by decide +kernel)), (qtb_in 484 (by decide +kernel) (by decide +kernel)), (qtb_in 485 (by decide +kernel) (by decide +kernel)), (by decide +kernel)⟩
theorem vl_X2_41 : qVL RX2 41 mX4_gladInAll 0 := ⟨ok_X4_gladInAll, (qtb_in 631 (by decide +kernel) (by decide +kernel)), (qtb_in 512 (by decide +kernel) (by decide +kernel)), (qtb_in 513 (by decide +kernel) (by decide +kernel)), (by decide +kernel)⟩
theorem vl_X2_45 : qVL RX2 45 mX2_weigh 3 := ⟨ok_X2_weigh, (qtb_in 632 (by decide +kernel) (by decide +kernel)), (qtb_in 634 (by decide +kernel) (by decide +kernel)), (qtb_in 22 (by decide +kernel) (by decide +kernel)), (by decide +kernel)⟩
theorem vl_X2_49 : qVL RX2 49 mX4_gladOfLeast 0 := ⟨ok_X4_gladOfLeast, (qtb_in 637 (by decide +kernel) (by decide +kernel)), (qtb_in 638 (by decide +kernel) (by decide +kernel)), (qtb_in 639 (by decide +kernel) (by decide +kernel)), (by decide +kernel)⟩
theorem sl_X2_52 : qSL RX2 52 mX2_isNextRow 2 := ⟨ok_X2_isNextRow, (qtb_in 642 (by decide +kernel) (by decide +kernel)), (qtb_in 643 (by decide +kernel) (by decide +kernel)), (by decide +kernel)⟩
theorem sl_X2_66 : qSL RX2 66 mX2_exchange 3 := ⟨ok_X2_exchange, (qtb_in 645 (by decide +kernel) (by decide +kernel)), (qtb_in 646 (by decide +kernel) (by decide +kernel)), (by decide +kernel)⟩
theorem vl_L_84 : qVL RL 84 mX6_ever 1 := ⟨ok_X6_ever, (qtb_in 648 (by decide +kernel) (by decide +kernel)), (qtb_in 649 (by decide +kernel) (by decide +kernel)), (qtb_in 650 (by decide +kernel) (by decide +kernel)), (by decide +kernel)⟩
theorem vl_X6_208 : qVL RX6 208 mX6_walkOn 0 := ⟨ok_X6_walkOn, (qtb_in 652 (by decide +kernel) (by decide +kernel)), (qtb_in 654 (by decide +kernel) (by decide +kernel)), (qtb_in 23 (by decide +kernel) (by decide +kernel)), (by decide +kernel)⟩
theorem vl_X6_219 : qVL RX6 219 mX1_walk 1 := ⟨ok_X1_walk, (qtb_in 656 (by decide +kernel) (by decide +kernel)), (qtb_in 657 (by decide +kernel) (by decide +kernel)), (qtb_in 658 (by decide +kernel) (by decide +kernel)), (by decide +kernel)⟩
theorem vl_X1_22 : qVL RX1 22 mX1_findRing 1 := ⟨ok_X1_findRing, (qtb_in 660 (by decide +kernel) (by decide +kernel)), (qtb_in 662 (by decide +kernel) (by decide +kernel)), (qtb_in 24 (by decide +kernel) (by decide +kernel)), (by decide +kernel)⟩
theorem vl_X1_41 : qVL RX1 41 mX4_memory 0 := ⟨ok_X4_memory, (qtb_in 664 (by decide +kernel) (by decide +kernel)), (qtb_in 665 (by decide +kernel) (by decide +kernel)), (qtb_in 666 (by decide +kernel) (by decide +kernel)), (by decide +kernel)⟩
theorem vl_X1_32 : qVL RX1 32 mX4_evening 0 := ⟨ok_X4_evening, (qtb_in 668 (by decide +kernel) (by decide +kernel)), (qtb_in 484 (by decide +kernel) (by decide +kernel)), (qtb_in 485 (by decide +kernel) (by decide +kernel)), (by decide +kernel)⟩
theorem vl_X1_45 : qVL RX1 45 mX1_placeBefore 1 := ⟨ok_X1_placeBefore, (qtb_in 669 (by decide +kernel) (by decide +kernel)), (qtb_in 671 (by decide +kernel) (by decide +kernel)), (qtb_in 25 (by decide +kernel) (by decide +kernel)), (by decide +kernel)⟩
theorem sl_X1_26 : qSL RX1 26 mJ7_fill_53178 2 := ⟨ok_J7_fill_53178, (qtb_in 673 (by decide +kernel) (by decide +kernel)), (qtb_in 425 (by decide +kernel) (by decide +kernel)), (by decide +kernel)⟩
theorem vl_L_88 : qVL RL 88 mX6_mean 2 := ⟨ok_X6_mean, (qtb_in 674 (by decide +kernel) (by decide +kernel)), (qtb_in 675 (by decide +kernel) (by decide +kernel)), (qtb_in 676 (by decide +kernel) (by decide +kernel)), (by decide +kernel)⟩
theorem vl_L_93 : qVL RL 93 mX6_leaves 0 := ⟨ok_X6_leaves, (qtb_in 678 (by decide +kernel) (by decide +kernel)), (qtb_in 679 (by decide +kernel) (by decide +kernel)), (qtb_in 680 (by decide +kernel) (by decide +kernel)), (by decide +kernel)⟩
theorem vl_X6_222 : qVL RX6 222 mX6_isGladderOtherwise 1 := ⟨ok_X6_isGladderOtherwise, (qtb_in 682 (by decide +kernel) (by decide +kernel)), (qtb_in 684 (by decide +kernel) (by decide +kernel)), (qtb_in 26 (by decide +kernel) (by decide +kernel)), (by decide +kernel)⟩
theorem vl_L_97 : qVL RL 97 mX6_spite 2 := ⟨ok_X6_spite, (qtb_in 686 (by decide +kernel) (by decide +kernel)), (qtb_in 687 (by decide +kernel) (by decide +kernel)), (qtb_in 688 (by decide +kernel) (by decide +kernel)), (by decide +kernel)⟩
theorem vl_X6_228 : qVL RX6 228 mX6_firstWorse 2 := ⟨ok_X6_firstWorse, (qtb_in 690 (by decide +kernel) (by decide +kernel)), (qtb_in 692 (by decide +kernel) (by decide +kernel)), (qtb_in 27 (by decide +kernel) (by decide +kernel)), (by decide +kernel)⟩
theorem vl_X6_294 : qVL RX6 294 mX5_truly 2 := ⟨ok_X5_truly, (qtb_in 694 (by decide +kernel) (by decide +kernel)), (qtb_in 504 (by decide +kernel) (by decide +kernel)), (qtb_in 505 (by decide +kernel) (by decide +kernel)), (by decide +kernel)⟩
theorem vl_X6_232 : qVL RX6 232 mX4_memory 0 := ⟨ok_X4_memory, (qtb_in 695 (by decide +kernel) (by decide +kernel)), (qtb_in 665 (by decide +kernel) (by decide +kernel)), (qtb_in 666 (by decide +kernel) (by decide +kernel)), (by decide +kernel)⟩
theorem vl_L_101 : qVL RL 101 mX6_lies 2 := ⟨ok_X6_lies, (qtb_in 696 (by decide +kernel) (by decide +kernel)), (qtb_in 697 (by decide +kernel) (by decide +kernel)), (qtb_in 698 (by decide +kernel) (by decide +kernel)), (by decide +kernel)⟩
theorem vl_X6_238 : qVL RX6 238 mX4_sayOnly 2 := ⟨ok_X4_sayOnly, (qtb_in 700 (by decide +kernel) (by decide +kernel)), (qtb_in 701 (by decide +kernel) (by decide +kernel)), (qtb_in 702 (by decide +kernel) (by decide +kernel)), (by decide +kernel)⟩
theorem vl_L_105 : qVL RL 105 mX6_chair 1 := ⟨ok_X6_chair, (qtb_in 704 (by decide +kernel) (by decide +kernel)), (qtb_in 705 (by decide +kernel) (by decide +kernel)), (qtb_in 706 (by decide +kernel) (by decide +kernel)), (by decide +kernel)⟩
theorem vl_X6_242 : qVL RX6 242 mX4_takeAway 1 := ⟨ok_X4_takeAway, (qtb_in 708 (by decide +kernel) (by decide +kernel)), (qtb_in 709 (by decide +kernel) (by decide +kernel)), (qtb_in 710 (by decide +kernel) (by decide +kernel)), (by decide +kernel)⟩
theorem vl_X4_87 : qVL RX4 87 mX4_seatOf 1 := ⟨ok_X4_seatOf, (qtb_in 712 (by decide +kernel) (by decide +kernel)), (qtb_in 448 (by decide +kernel) (by decide +kernel)), (qtb_in 449 (by decide +kernel) (by decide +kernel)), (by decide +kernel)⟩
theorem vl_L_110 : qVL RL 110 mX6_law 1 := ⟨ok_X6_law, (qtb_in 713 (by decide +kernel) (by decide +kernel)), (qtb_in 714 (by decide +kernel) (by decide +kernel)), (qtb_in 715 (by decide +kernel) (by decide +kernel)), (by decide +kernel)⟩
theorem vl_L_114 : qVL RL 114 mX6_sheet 3 := ⟨ok_X6_sheet, (qtb_in 717 (by decide +kernel) (by decide +kernel)), (qtb_in 718 (by decide +kernel) (by decide +kernel)), (qtb_in 719 (by decide +kernel) (by decide +kernel)), (by decide +kernel)⟩
theorem vl_X6_258 : qVL RX6 258 mX3_renew 2 := ⟨ok_X3_renew, (qtb_in 721 (by decide +kernel) (by decide +kernel)), (qtb_in 722 (by decide +kernel) (by decide +kernel)), (qtb_in 723 (by decide +kernel) (by decide +kernel)), (by decide +kernel)⟩
theorem sl_X3_26 : qSL RX3 26 mJ7_fill_53178 2 := ⟨ok_J7_fill_53178, (qtb_in 725 (by decide +kernel) (by decide +kernel)), (qtb_in 425 (by decide +kernel) (by decide +kernel)), (by decide +kernel)⟩
theorem vl_L_118 : qVL RL 118 mX6_lose 1 := ⟨ok_X6_lose, (qtb_in 726 (by decide +kernel) (by decide +kernel)), (qtb_in 727 (by decide +kernel) (by decide +kernel)), (qtb_in 728 (by decide +kernel) (by decide +kernel)), (by decide +kernel)⟩
theorem vl_L_122 : qVL RL 122 mX6_put 3 := ⟨ok_X6_put, (qtb_in 730 (by decide +kernel) (by decide +kernel)), (qtb_in 731 (by decide +kernel) (by decide +kernel)), (qtb_in 732 (by decide +kernel) (by decide +kernel)), (by decide +kernel)⟩
theorem vl_X6_267 : qVL RX6 267 mX3_write 2 := ⟨ok_X3_write, (qtb_in 734 (by decide +kernel) (by decide +kernel)), (qtb_in 735 (by decide +kernel) (by decide +kernel)), (qtb_in 736 (by decide +kernel) (by decide +kernel)), (by decide +kernel)⟩
theorem vl_L_126 : qVL RL 126 mX6_cell 3 := ⟨ok_X6_cell, (qtb_in 738 (by decide +kernel) (by decide +kernel)), (qtb_in 739 (by decide +kernel) (by decide +kernel)), (qtb_in 740 (by decide +kernel) (by decide +kernel)), (by decide +kernel)⟩
theorem vl_L_131 : qVL RL 131 mX6_copy 5 := ⟨ok_X6_copy, (qtb_in 742 (by decide +kernel) (by decide +kernel)), (qtb_in 743 (by decide +kernel) (by decide +kernel)), (qtb_in 744 (by decide +kernel) (by decide +kernel)), (by decide +kernel)⟩
theorem vl_L_136 : qVL RL 136 mX6_tell 1 := ⟨ok_X6_tell, (qtb_in 747 (by decide +kernel) (by decide +kernel)), (qtb_in 748 (by decide +kernel) (by decide +kernel)), (qtb_in 749 (by decide +kernel) (by decide +kernel)), (by decide +kernel)⟩
theorem vl_X6_279 : qVL RX6 279 mX6_payerTells 1 := ⟨ok_X6_payerTells, (qtb_in 751 (by decide +kernel) (by decide +kernel)), (qtb_in 753 (by decide +kernel) (by decide +kernel)), (qtb_in 28 (by decide +kernel) (by decide +kernel)), (by decide +kernel)⟩
theorem vl_X6_288 : qVL RX6 288 mX6_leaveNumber 1 := ⟨ok_X6_leaveNumber, (qtb_in 755 (by decide +kernel) (by decide +kernel)), (qtb_in 757 (by decide +kernel) (by decide +kernel)), (qtb_in 29 (by decide +kernel) (by decide +kernel)), (by decide +kernel)⟩
theorem vl_X6_282 : qVL RX6 282 mX6_cheapTells 1 := ⟨ok_X6_cheapTells, (qtb_in 759 (by decide +kernel) (by decide +kernel)), (qtb_in 761 (by decide +kernel) (by decide +kernel)), (qtb_in 30 (by decide +kernel) (by decide +kernel)), (by decide +kernel)⟩
theorem vl_X6_285 : qVL RX6 285 mX6_kindTells 1 := ⟨ok_X6_kindTells, (qtb_in 763 (by decide +kernel) (by decide +kernel)), (qtb_in 765 (by decide +kernel) (by decide +kernel)), (qtb_in 31 (by decide +kernel) (by decide +kernel)), (by decide +kernel)⟩
theorem vl_L_140 : qVL RL 140 mX6_greet 1 := ⟨ok_X6_greet, (qtb_in 767 (by decide +kernel) (by decide +kernel)), (qtb_in 768 (by decide +kernel) (by decide +kernel)), (qtb_in 769 (by decide +kernel) (by decide +kernel)), (by decide +kernel)⟩
theorem vl_L_144 : qVL RL 144 mX6_as 2 := ⟨ok_X6_as, (qtb_in 771 (by decide +kernel) (by decide +kernel)), (qtb_in 772 (by decide +kernel) (by decide +kernel)), (qtb_in 773 (by decide +kernel) (by decide +kernel)), (by decide +kernel)⟩
theorem vl_L_148 : qVL RL 148 mX6_trace 0 := ⟨ok_X6_trace, (qtb_in 775 (by decide +kernel) (by decide +kernel)), (qtb_in 776 (by decide +kernel) (by decide +kernel)), (qtb_in 777 (by decide +kernel) (by decide +kernel)), (by decide +kernel)⟩
theorem vl_L_152 : qVL RL 152 mX6_fault 0 := ⟨ok_X6_fault, (qtb_in 779 (by decide +kernel) (by decide +kernel)), (qtb_in 780 (by decide +kernel) (by decide +kernel)), (qtb_in 781 (by decide +kernel) (by decide +kernel)), (by decide +kernel)⟩
theorem vl_L_156 : qVL RL 156 mX6_many 1 := ⟨ok_X6_many, (qtb_in 783 (by decide +kernel) (by decide +kernel)), (qtb_in 784 (by decide +kernel) (by decide +kernel)), (qtb_in 785 (by decide +kernel) (by decide +kernel)), (by decide +kernel)⟩
theorem vl_L_17 : qVL RL 17 mX7_table 4 := ⟨ok_X7_table, (qtb_in 947 (by decide +kernel) (by decide +kernel)), (qtb_in 948 (by decide +kernel) (by decide +kernel)), (qtb_in 949 (by decide +kernel) (by decide +kernel)), (by decide +kernel)⟩
theorem sl_X7_134 : qSL RX7 134 mX7_isSheet 1 := ⟨ok_X7_isSheet, (qtb_in 951 (by decide +kernel) (by decide +kernel)), (qtb_in 952 (by decide +kernel) (by decide +kernel)), (by decide +kernel)⟩
theorem sl_X7_121 : qSL RX7 121 mX7_within 3 := ⟨ok_X7_within, (qtb_in 954 (by decide +kernel) (by decide +kernel)), (qtb_in 955 (by decide +kernel) (by decide +kernel)), (by decide +kernel)⟩
theorem sl_X7_138 : qSL RX7 138 mX7_isSort 1 := ⟨ok_X7_isSort, (qtb_in 957 (by decide +kernel) (by decide +kernel)), (qtb_in 958 (by decide +kernel) (by decide +kernel)), (by decide +kernel)⟩
theorem vl_X7_141 : qVL RX7 141 mX7_against 4 := ⟨ok_X7_against, (qtb_in 960 (by decide +kernel) (by decide +kernel)), (qtb_in 962 (by decide +kernel) (by decide +kernel)), (qtb_in 32 (by decide +kernel) (by decide +kernel)), (by decide +kernel)⟩
theorem vl_X7_145 : qVL RX7 145 mX7_fails 1 := ⟨ok_X7_fails, (qtb_in 964 (by decide +kernel) (by decide +kernel)), (qtb_in 966 (by decide +kernel) (by decide +kernel)), (qtb_in 33 (by decide +kernel) (by decide +kernel)), (by decide +kernel)⟩
theorem vl_X7_149 : qVL RX7 149 mX7_readTable 1 := ⟨ok_X7_readTable, (qtb_in 968 (by decide +kernel) (by decide +kernel)), (qtb_in 970 (by decide +kernel) (by decide +kernel)), (qtb_in 34 (by decide +kernel) (by decide +kernel)), (by decide +kernel)⟩
theorem vl_X7_170 : qVL RX7 170 mX7_isCode 2 := ⟨ok_X7_isCode, (qtb_in 972 (by decide +kernel) (by decide +kernel)), (qtb_in 974 (by decide +kernel) (by decide +kernel)), (qtb_in 35 (by decide +kernel) (by decide +kernel)), (by decide +kernel)⟩
theorem vl_X7_174 : qVL RX7 174 mX7_digitAt 2 := ⟨ok_X7_digitAt, (qtb_in 976 (by decide +kernel) (by decide +kernel)), (qtb_in 978 (by decide +kernel) (by decide +kernel)), (qtb_in 36 (by decide +kernel) (by decide +kernel)), (by decide +kernel)⟩
theorem vl_X7_178 : qVL RX7 178 mX7_readGuest 1 := ⟨ok_X7_readGuest, (qtb_in 980 (by decide +kernel) (by decide +kernel)), (qtb_in 982 (by decide +kernel) (by decide +kernel)), (qtb_in 37 (by decide +kernel) (by decide +kernel)), (by decide +kernel)⟩
theorem vl_X7_152 : qVL RX7 152 mX7_takeTable 0 := ⟨ok_X7_takeTable, (qtb_in 984 (by decide +kernel) (by decide +kernel)), (qtb_in 986 (by decide +kernel) (by decide +kernel)), (qtb_in 38 (by decide +kernel) (by decide +kernel)), (by decide +kernel)⟩
theorem vl_L_22 : qVL RL 22 mX7_ofDish 2 := ⟨ok_X7_ofDish, (qtb_in 988 (by decide +kernel) (by decide +kernel)), (qtb_in 989 (by decide +kernel) (by decide +kernel)), (qtb_in 990 (by decide +kernel) (by decide +kernel)), (by decide +kernel)⟩
theorem vl_X7_181 : qVL RX7 181 mX7_isDish 1 := ⟨ok_X7_isDish, (qtb_in 992 (by decide +kernel) (by decide +kernel)), (qtb_in 994 (by decide +kernel) (by decide +kernel)), (qtb_in 39 (by decide +kernel) (by decide +kernel)), (by decide +kernel)⟩
theorem vl_L_26 : qVL RL 26 mX7_ofGuest 2 := ⟨ok_X7_ofGuest, (qtb_in 996 (by decide +kernel) (by decide +kernel)), (qtb_in 997 (by decide +kernel) (by decide +kernel)), (qtb_in 998 (by decide +kernel) (by decide +kernel)), (by decide +kernel)⟩
theorem vl_X7_184 : qVL RX7 184 mX7_isGuest 1 := ⟨ok_X7_isGuest, (qtb_in 1000 (by decide +kernel) (by decide +kernel)), (qtb_in 1002 (by decide +kernel) (by decide +kernel)), (qtb_in 40 (by decide +kernel) (by decide +kernel)), (by decide +kernel)⟩
theorem vl_X7_187 : qVL RX7 187 mX7_seatOf 1 := ⟨ok_X7_seatOf, (qtb_in 1004 (by decide +kernel) (by decide +kernel)), (qtb_in 1006 (by decide +kernel) (by decide +kernel)), (qtb_in 41 (by decide +kernel) (by decide +kernel)), (by decide +kernel)⟩
theorem vl_L_31 : qVL RL 31 mX7_worth 3 := ⟨ok_X7_worth, (qtb_in 1008 (by decide +kernel) (by decide +kernel)), (qtb_in 1009 (by decide +kernel) (by decide +kernel)), (qtb_in 1010 (by decide +kernel) (by decide +kernel)), (by decide +kernel)⟩
theorem vl_L_36 : qVL RL 36 mX7_say 3 := ⟨ok_X7_say, (qtb_in 1012 (by decide +kernel) (by decide +kernel)), (qtb_in 1013 (by decide +kernel) (by decide +kernel)), (qtb_in 1014 (by decide +kernel) (by decide +kernel)), (by decide +kernel)⟩
theorem vl_L_40 : qVL RL 40 mX7_swap 2 := ⟨ok_X7_swap, (qtb_in 1016 (by decide +kernel) (by decide +kernel)), (qtb_in 1017 (by decide +kernel) (by decide +kernel)), (qtb_in 1018 (by decide +kernel) (by decide +kernel)), (by decide +kernel)⟩
theorem vl_L_45 : qVL RL 45 mX7_step 1 := ⟨ok_X7_step, (qtb_in 1020 (by decide +kernel) (by decide +kernel)), (qtb_in 1021 (by decide +kernel) (by decide +kernel)), (qtb_in 1022 (by decide +kernel) (by decide +kernel)), (by decide +kernel)⟩
theorem vl_X7_190 : qVL RX7 190 mX7_isTable 0 := ⟨ok_X7_isTable, (qtb_in 1024 (by decide +kernel) (by decide +kernel)), (qtb_in 1026 (by decide +kernel) (by decide +kernel)), (qtb_in 42 (by decide +kernel) (by decide +kernel)), (by decide +kernel)⟩
theorem vl_L_49 : qVL RL 49 mX7_courses 1 := ⟨ok_X7_courses, (qtb_in 1028 (by decide +kernel) (by decide +kernel)), (qtb_in 1029 (by decide +kernel) (by decide +kernel)), (qtb_in 1030 (by decide +kernel) (by decide +kernel)), (by decide +kernel)⟩
theorem vl_L_54 : qVL RL 54 mX7_dine 0 := ⟨ok_X7_dine, (qtb_in 1032 (by decide +kernel) (by decide +kernel)), (qtb_in 1033 (by decide +kernel) (by decide +kernel)), (qtb_in 1034 (by decide +kernel) (by decide +kernel)), (by decide +kernel)⟩
theorem vl_X7_224 : qVL RX7 224 mX7_layNow 0 := ⟨ok_X7_layNow, (qtb_in 1036 (by decide +kernel) (by decide +kernel)), (qtb_in 1038 (by decide +kernel) (by decide +kernel)), (qtb_in 43 (by decide +kernel) (by decide +kernel)), (by decide +kernel)⟩
theorem vl_X7_227 : qVL RX7 227 mX7_goNight 0 := ⟨ok_X7_goNight, (qtb_in 1040 (by decide +kernel) (by decide +kernel)), (qtb_in 1042 (by decide +kernel) (by decide +kernel)), (qtb_in 44 (by decide +kernel) (by decide +kernel)), (by decide +kernel)⟩
theorem vl_X7_213 : qVL RX7 213 mX7_refill 0 := ⟨ok_X7_refill, (qtb_in 1044 (by decide +kernel) (by decide +kernel)), (qtb_in 1046 (by decide +kernel) (by decide +kernel)), (qtb_in 45 (by decide +kernel) (by decide +kernel)), (by decide +kernel)⟩
theorem vl_X7_216 : qVL RX7 216 mX7_goCourse 1 := ⟨ok_X7_goCourse, (qtb_in 1048 (by decide +kernel) (by decide +kernel)), (qtb_in 1050 (by decide +kernel) (by decide +kernel)), (qtb_in 46 (by decide +kernel) (by decide +kernel)), (by decide +kernel)⟩
theorem vl_X7_220 : qVL RX7 220 mX7_asked 3 := ⟨ok_X7_asked, (qtb_in 1052 (by decide +kernel) (by decide +kernel)), (qtb_in 1054 (by decide +kernel) (by decide +kernel)), (qtb_in 47 (by decide +kernel) (by decide +kernel)), (by decide +kernel)⟩
theorem vl_X7_206 : qVL RX7 206 mX7_howAsks 2 := ⟨ok_X7_howAsks, (qtb_in 1056 (by decide +kernel) (by decide +kernel)), (qtb_in 1058 (by decide +kernel) (by decide +kernel)), (qtb_in 48 (by decide +kernel) (by decide +kernel)), (by decide +kernel)⟩
theorem vl_X7_203 : qVL RX7 203 mX7_truly 2 := ⟨ok_X7_truly, (qtb_in 1060 (by decide +kernel) (by decide +kernel)), (qtb_in 1062 (by decide +kernel) (by decide +kernel)), (qtb_in 49 (by decide +kernel) (by decide +kernel)), (by decide +kernel)⟩
theorem vl_X7_209 : qVL RX7 209 mX7_isAhead 4 := ⟨ok_X7_isAhead, (qtb_in 1064 (by decide +kernel) (by decide +kernel)), (qtb_in 1066 (by decide +kernel) (by decide +kernel)), (qtb_in 50 (by decide +kernel) (by decide +kernel)), (by decide +kernel)⟩
theorem vl_X7_230 : qVL RX7 230 mX7_allGlad 0 := ⟨ok_X7_allGlad, (qtb_in 1068 (by decide +kernel) (by decide +kernel)), (qtb_in 1070 (by decide +kernel) (by decide +kernel)), (qtb_in 51 (by decide +kernel) (by decide +kernel)), (by decide +kernel)⟩
theorem vl_L_58 : qVL RL 58 mX7_forget 0 := ⟨ok_X7_forget, (qtb_in 1072 (by decide +kernel) (by decide +kernel)), (qtb_in 1073 (by decide +kernel) (by decide +kernel)), (qtb_in 1074 (by decide +kernel) (by decide +kernel)), (by decide +kernel)⟩
theorem vl_L_62 : qVL RL 62 mX7_gets 2 := ⟨ok_X7_gets, (qtb_in 1076 (by decide +kernel) (by decide +kernel)), (qtb_in 1077 (by decide +kernel) (by decide +kernel)), (qtb_in 1078 (by decide +kernel) (by decide +kernel)), (by decide +kernel)⟩
theorem vl_L_66 : qVL RL 66 mX7_glad 1 := ⟨ok_X7_glad, (qtb_in 1080 (by decide +kernel) (by decide +kernel)), (qtb_in 1081 (by decide +kernel) (by decide +kernel)), (qtb_in 1082 (by decide +kernel) (by decide +kernel)), (by decide +kernel)⟩
theorem vl_L_71 : qVL RL 71 mX7_pays 3 := ⟨ok_X7_pays, (qtb_in 1084 (by decide +kernel) (by decide +kernel)), (qtb_in 1085 (by decide +kernel) (by decide +kernel)), (qtb_in 1086 (by decide +kernel) (by decide +kernel)), (by decide +kernel)⟩
theorem sl_X7_234 : qSL RX7 234 mX7_share 3 := ⟨ok_X7_share, (qtb_in 1089 (by decide +kernel) (by decide +kernel)), (qtb_in 1090 (by decide +kernel) (by decide +kernel)), (by decide +kernel)⟩
theorem vl_L_75 : qVL RL 75 mX7_judge 4 := ⟨ok_X7_judge, (qtb_in 1092 (by decide +kernel) (by decide +kernel)), (qtb_in 1093 (by decide +kernel) (by decide +kernel)), (qtb_in 1094 (by decide +kernel) (by decide +kernel)), (by decide +kernel)⟩
theorem vl_X7_238 : qVL RX7 238 mX7_mayBe 2 := ⟨ok_X7_mayBe, (qtb_in 1096 (by decide +kernel) (by decide +kernel)), (qtb_in 1098 (by decide +kernel) (by decide +kernel)), (qtb_in 52 (by decide +kernel) (by decide +kernel)), (by decide +kernel)⟩
theorem vl_L_79 : qVL RL 79 mX7_best 1 := ⟨ok_X7_best, (qtb_in 1100 (by decide +kernel) (by decide +kernel)), (qtb_in 1101 (by decide +kernel) (by decide +kernel)), (qtb_in 1102 (by decide +kernel) (by decide +kernel)), (by decide +kernel)⟩
theorem vl_X7_260 : qVL RX7 260 mX7_findBest 0 := ⟨ok_X7_findBest, (qtb_in 1104 (by decide +kernel) (by decide +kernel)), (qtb_in 1106 (by decide +kernel) (by decide +kernel)), (qtb_in 53 (by decide +kernel) (by decide +kernel)), (by decide +kernel)⟩
theorem vl_X7_241 : qVL RX7 241 mX7_layWeights 0 := ⟨ok_X7_layWeights, (qtb_in 1108 (by decide +kernel) (by decide +kernel)), (qtb_in 1110 (by decide +kernel) (by decide +kernel)), (qtb_in 54 (by decide +kernel) (by decide +kernel)), (by decide +kernel)⟩
theorem vl_X7_247 : qVL RX7 247 mX7_takes 2 := ⟨ok_X7_takes, (qtb_in 1112 (by decide +kernel) (by decide +kernel)), (qtb_in 1114 (by decide +kernel) (by decide +kernel)), (qtb_in 55 (by decide +kernel) (by decide +kernel)), (by decide +kernel)⟩
theorem vl_X7_251 : qVL RX7 251 mX7_valueOf 2 := ⟨ok_X7_valueOf, (qtb_in 1116 (by decide +kernel) (by decide +kernel)), (qtb_in 1118 (by decide +kernel) (by decide +kernel)), (qtb_in 56 (by decide +kernel) (by decide +kernel)), (by decide +kernel)⟩
theorem vl_X7_254 : qVL RX7 254 mX7_mayHave 2 := ⟨ok_X7_mayHave, (qtb_in 1120 (by decide +kernel) (by decide +kernel)), (qtb_in 1122 (by decide +kernel) (by decide +kernel)), (qtb_in 57 (by decide +kernel) (by decide +kernel)), (by decide +kernel)⟩
theorem vl_X7_257 : qVL RX7 257 mX7_keepBest 1 := ⟨ok_X7_keepBest, (qtb_in 1124 (by decide +kernel) (by decide +kernel)), (qtb_in 1126 (by decide +kernel) (by decide +kernel)), (qtb_in 58 (by decide +kernel) (by decide +kernel)), (by decide +kernel)⟩
theorem vl_L_83 : qVL RL 83 mX7_seats 2 := ⟨ok_X7_seats, (qtb_in 1128 (by decide +kernel) (by decide +kernel)), (qtb_in 1129 (by decide +kernel) (by decide +kernel)), (qtb_in 1130 (by decide +kernel) (by decide +kernel)), (by decide +kernel)⟩
theorem vl_X7_272 : qVL RX7 272 mX7_findSeats 1 := ⟨ok_X7_findSeats, (qtb_in 1132 (by decide +kernel) (by decide +kernel)), (qtb_in 1134 (by decide +kernel) (by decide +kernel)), (qtb_in 59 (by decide +kernel) (by decide +kernel)), (by decide +kernel)⟩
theorem vl_X7_263 : qVL RX7 263 mX7_isInPerm 2 := ⟨ok_X7_isInPerm, (qtb_in 1136 (by decide +kernel) (by decide +kernel)), (qtb_in 1138 (by decide +kernel) (by decide +kernel)), (qtb_in 60 (by decide +kernel) (by decide +kernel)), (by decide +kernel)⟩
theorem vl_X7_266 : qVL RX7 266 mX7_trySeats 1 := ⟨ok_X7_trySeats, (qtb_in 1140 (by decide +kernel) (by decide +kernel)), (qtb_in 1142 (by decide +kernel) (by decide +kernel)), (qtb_in 61 (by decide +kernel) (by decide +kernel)), (by decide +kernel)⟩
theorem vl_X7_269 : qVL RX7 269 mX7_leastGlad 0 := ⟨ok_X7_leastGlad, (qtb_in 1144 (by decide +kernel) (by decide +kernel)), (qtb_in 1146 (by decide +kernel) (by decide +kernel)), (qtb_in 62 (by decide +kernel) (by decide +kernel)), (by decide +kernel)⟩
theorem vl_L_87 : qVL RL 87 mX7_ever 1 := ⟨ok_X7_ever, (qtb_in 1148 (by decide +kernel) (by decide +kernel)), (qtb_in 1149 (by decide +kernel) (by decide +kernel)), (qtb_in 1150 (by decide +kernel) (by decide +kernel)), (by decide +kernel)⟩
theorem vl_X7_290 : qVL RX7 290 mX7_findRing 0 := ⟨ok_X7_findRing, (qtb_in 1152 (by decide +kernel) (by decide +kernel)), (qtb_in 1154 (by decide +kernel) (by decide +kernel)), (qtb_in 63 (by decide +kernel) (by decide +kernel)), (by decide +kernel)⟩
theorem vl_X7_278 : qVL RX7 278 mX7_keepMemory 1 := ⟨ok_X7_keepMemory, (qtb_in 1156 (by decide +kernel) (by decide +kernel)), (qtb_in 1158 (by decide +kernel) (by decide +kernel)), (qtb_in 64 (by decide +kernel) (by decide +kernel)), (by decide +kernel)⟩
theorem vl_X7_284 : qVL RX7 284 mX7_sameAs 1 := ⟨ok_X7_sameAs, (qtb_in 1160 (by decide +kernel) (by decide +kernel)), (qtb_in 1162 (by decide +kernel) (by decide +kernel)), (qtb_in 65 (by decide +kernel) (by decide +kernel)), (by decide +kernel)⟩
theorem vl_X7_275 : qVL RX7 275 mX7_areAlike 2 := ⟨ok_X7_areAlike, (qtb_in 1164 (by decide +kernel) (by decide +kernel)), (qtb_in 1166 (by decide +kernel) (by decide +kernel)), (qtb_in 66 (by decide +kernel) (by decide +kernel)), (by decide +kernel)⟩
theorem vl_L_92 : qVL RL 92 mX7_mean 2 := ⟨ok_X7_mean, (qtb_in 1168 (by decide +kernel) (by decide +kernel)), (qtb_in 1169 (by decide +kernel) (by decide +kernel)), (qtb_in 1170 (by decide +kernel) (by decide +kernel)), (by decide +kernel)⟩
theorem vl_X7_293 : qVL RX7 293 mX7_gladInRing 1 := ⟨ok_X7_gladInRing, (qtb_in 1172 (by decide +kernel) (by decide +kernel)), (qtb_in 1174 (by decide +kernel) (by decide +kernel)), (qtb_in 67 (by decide +kernel) (by decide +kernel)), (by decide +kernel)⟩
theorem vl_L_96 : qVL RL 96 mX7_leaves 0 := ⟨ok_X7_leaves, (qtb_in 1176 (by decide +kernel) (by decide +kernel)), (qtb_in 1177 (by decide +kernel) (by decide +kernel)), (qtb_in 1178 (by decide +kernel) (by decide +kernel)), (by decide +kernel)⟩
theorem vl_X7_297 : qVL RX7 297 mX7_wouldLeave 1 := ⟨ok_X7_wouldLeave, (qtb_in 1180 (by decide +kernel) (by decide +kernel)), (qtb_in 1182 (by decide +kernel) (by decide +kernel)), (qtb_in 68 (by decide +kernel) (by decide +kernel)), (by decide +kernel)⟩
theorem vl_L_100 : qVL RL 100 mX7_spite 2 := ⟨ok_X7_spite, (qtb_in 1184 (by decide +kernel) (by decide +kernel)), (qtb_in 1185 (by decide +kernel) (by decide +kernel)), (qtb_in 1186 (by decide +kernel) (by decide +kernel)), (by decide +kernel)⟩
theorem vl_X7_300 : qVL RX7 300 mX7_swapOut 1 := ⟨ok_X7_swapOut, (qtb_in 1188 (by decide +kernel) (by decide +kernel)), (qtb_in 1190 (by decide +kernel) (by decide +kernel)), (qtb_in 69 (by decide +kernel) (by decide +kernel)), (by decide +kernel)⟩
theorem vl_X7_304 : qVL RX7 304 mX7_swapIn 1 := ⟨ok_X7_swapIn, (qtb_in 1192 (by decide +kernel) (by decide +kernel)), (qtb_in 1194 (by decide +kernel) (by decide +kernel)), (qtb_in 70 (by decide +kernel) (by decide +kernel)), (by decide +kernel)⟩
theorem vl_X7_307 : qVL RX7 307 mX7_areSame 0 := ⟨ok_X7_areSame, (qtb_in 1196 (by decide +kernel) (by decide +kernel)), (qtb_in 1198 (by decide +kernel) (by decide +kernel)), (qtb_in 71 (by decide +kernel) (by decide +kernel)), (by decide +kernel)⟩
theorem vl_L_104 : qVL RL 104 mX7_lies 2 := ⟨ok_X7_lies, (qtb_in 1200 (by decide +kernel) (by decide +kernel)), (qtb_in 1201 (by decide +kernel) (by decide +kernel)), (qtb_in 1202 (by decide +kernel) (by decide +kernel)), (by decide +kernel)⟩
theorem vl_X7_310 : qVL RX7 310 mX7_gladByLie 2 := ⟨ok_X7_gladByLie, (qtb_in 1204 (by decide +kernel) (by decide +kernel)), (qtb_in 1206 (by decide +kernel) (by decide +kernel)), (qtb_in 72 (by decide +kernel) (by decide +kernel)), (by decide +kernel)⟩
theorem vl_L_109 : qVL RL 109 mX7_chair 1 := ⟨ok_X7_chair, (qtb_in 1208 (by decide +kernel) (by decide +kernel)), (qtb_in 1209 (by decide +kernel) (by decide +kernel)), (qtb_in 1210 (by decide +kernel) (by decide +kernel)), (by decide +kernel)⟩
theorem vl_L_113 : qVL RL 113 mX7_law 1 := ⟨ok_X7_law, (qtb_in 1212 (by decide +kernel) (by decide +kernel)), (qtb_in 1213 (by decide +kernel) (by decide +kernel)), (qtb_in 1214 (by decide +kernel) (by decide +kernel)), (by decide +kernel)⟩
theorem vl_L_117 : qVL RL 117 mX7_sheet 3 := ⟨ok_X7_sheet, (qtb_in 1216 (by decide +kernel) (by decide +kernel)), (qtb_in 1217 (by decide +kernel) (by decide +kernel)), (qtb_in 1218 (by decide +kernel) (by decide +kernel)), (by decide +kernel)⟩
theorem vl_L_121 : qVL RL 121 mX7_lose 1 := ⟨ok_X7_lose, (qtb_in 1220 (by decide +kernel) (by decide +kernel)), (qtb_in 1221 (by decide +kernel) (by decide +kernel)), (qtb_in 1222 (by decide +kernel) (by decide +kernel)), (by decide +kernel)⟩
theorem vl_L_125 : qVL RL 125 mX7_put 3 := ⟨ok_X7_put, (qtb_in 1224 (by decide +kernel) (by decide +kernel)), (qtb_in 1225 (by decide +kernel) (by decide +kernel)), (qtb_in 1226 (by decide +kernel) (by decide +kernel)), (by decide +kernel)⟩
theorem vl_L_130 : qVL RL 130 mX7_cell 3 := ⟨ok_X7_cell, (qtb_in 1228 (by decide +kernel) (by decide +kernel)), (qtb_in 1229 (by decide +kernel) (by decide +kernel)), (qtb_in 1230 (by decide +kernel) (by decide +kernel)), (by decide +kernel)⟩
theorem vl_X7_313 : qVL RX7 313 mX7_lost 1 := ⟨ok_X7_lost, (qtb_in 1232 (by decide +kernel) (by decide +kernel)), (qtb_in 1234 (by decide +kernel) (by decide +kernel)), (qtb_in 73 (by decide +kernel) (by decide +kernel)), (by decide +kernel)⟩
theorem vl_L_135 : qVL RL 135 mX7_copy 5 := ⟨ok_X7_copy, (qtb_in 1236 (by decide +kernel) (by decide +kernel)), (qtb_in 1237 (by decide +kernel) (by decide +kernel)), (qtb_in 1238 (by decide +kernel) (by decide +kernel)), (by decide +kernel)⟩
theorem vl_L_139 : qVL RL 139 mX7_tell 1 := ⟨ok_X7_tell, (qtb_in 1240 (by decide +kernel) (by decide +kernel)), (qtb_in 1241 (by decide +kernel) (by decide +kernel)), (qtb_in 1242 (by decide +kernel) (by decide +kernel)), (by decide +kernel)⟩
theorem vl_X7_319 : qVL RX7 319 mX7_begins 1 := ⟨ok_X7_begins, (qtb_in 1244 (by decide +kernel) (by decide +kernel)), (qtb_in 1246 (by decide +kernel) (by decide +kernel)), (qtb_in 74 (by decide +kernel) (by decide +kernel)), (by decide +kernel)⟩
theorem vl_L_143 : qVL RL 143 mX7_greet 1 := ⟨ok_X7_greet, (qtb_in 1248 (by decide +kernel) (by decide +kernel)), (qtb_in 1249 (by decide +kernel) (by decide +kernel)), (qtb_in 1250 (by decide +kernel) (by decide +kernel)), (by decide +kernel)⟩
theorem vl_L_147 : qVL RL 147 mX7_as 2 := ⟨ok_X7_as, (qtb_in 1252 (by decide +kernel) (by decide +kernel)), (qtb_in 1253 (by decide +kernel) (by decide +kernel)), (qtb_in 1254 (by decide +kernel) (by decide +kernel)), (by decide +kernel)⟩
theorem vl_L_151 : qVL RL 151 mX7_trace 0 := ⟨ok_X7_trace, (qtb_in 1256 (by decide +kernel) (by decide +kernel)), (qtb_in 1257 (by decide +kernel) (by decide +kernel)), (qtb_in 1258 (by decide +kernel) (by decide +kernel)), (by decide +kernel)⟩
theorem vl_L_155 : qVL RL 155 mX7_fault 0 := ⟨ok_X7_fault, (qtb_in 1260 (by decide +kernel) (by decide +kernel)), (qtb_in 1261 (by decide +kernel) (by decide +kernel)), (qtb_in 1262 (by decide +kernel) (by decide +kernel)), (by decide +kernel)⟩
theorem vl_L_159 : qVL RL 159 mX7_many 1 := ⟨ok_X7_many, (qtb_in 1264 (by decide +kernel) (by decide +kernel)), (qtb_in 1265 (by decide +kernel) (by decide +kernel)), (qtb_in 1266 (by decide +kernel) (by decide +kernel)), (by decide +kernel)⟩
/-- the type of a class's field, by numbers; how many there are -/
def qty (c k : Nat) : FieldType := match c with
  | 0 => tyX0 k | 1 => tyX1 k | 2 => tyX2 k | 3 => tyX3 k | 4 => tyX4 k | 5 => tyX5 k | 6 => tyX6 k | _ => tyX7 k
def qnf (c : Nat) : Nat := match c with
  | 0 => 5 | 1 => 4 | 2 => 3 | 3 => 4 | 4 => 13 | 5 => 11 | 6 => 13 | _ => 51
/-- a class, by its number -/
def qCok (ci : Nat) (C : String) (T : u_T) (N : Nat) : Prop := vwCl[ci]? = some (C, T, N) ∧ N = qnf ci ∧ (∀ w ∈ u_ws C T N, w ∈ qtb) ∧ (∀ k, k < N → parseFieldDescriptor (T k).2.2.1 = some (qty ci k)) ∧ (∀ a, a < N → ∀ b, b < N → a ≠ b → (T a).2.1 ≠ (T b).2.1)
theorem q_inl {ws : List Cond} {is : List Nat} (h : ws.map some = is.map (fun i => lw_tbl[i]?)) (hg : ws.all goodWord = true) : ∀ w ∈ ws, w ∈ qtb := by
  intro w hw
  have h1 : some w ∈ ws.map some := List.mem_map.mpr ⟨w, hw, rfl⟩
  rw [h] at h1
  obtain ⟨i, -, hi⟩ := List.mem_map.mp h1
  exact qtb_in i hi (List.all_eq_true.mp hg w hw)
theorem cu_0 : ∀ w ∈ u_ws RX0 TX0 5, w ∈ qtb := by
  have h : (u_ws RX0 TX0 5).map some = [261, 263, 265, 267, 269].map (fun i => lw_tbl[i]?) := by decide +kernel
  have hg : (u_ws RX0 TX0 5).all goodWord = true := by decide +kernel
  exact fun w hw => q_inl h hg w hw
theorem ck_0 : qCok 0 RX0 TX0 5 := ⟨rfl, rfl, cu_0, tyX0_ok, nmX0⟩
theorem cu_1 : ∀ w ∈ u_ws RX1 TX1 4, w ∈ qtb := by
  have h : (u_ws RX1 TX1 4).map some = [240, 242, 244, 246].map (fun i => lw_tbl[i]?) := by decide +kernel
  have hg : (u_ws RX1 TX1 4).all goodWord = true := by decide +kernel
  exact fun w hw => q_inl h hg w hw
theorem ck_1 : qCok 1 RX1 TX1 4 := ⟨rfl, rfl, cu_1, tyX1_ok, nmX1⟩
theorem cu_2 : ∀ w ∈ u_ws RX2 TX2 3, w ∈ qtb := by
  have h : (u_ws RX2 TX2 3).map some = [286, 288, 290].map (fun i => lw_tbl[i]?) := by decide +kernel
  have hg : (u_ws RX2 TX2 3).all goodWord = true := by decide +kernel
  exact fun w hw => q_inl h hg w hw
theorem ck_2 : qCok 2 RX2 TX2 3 := ⟨rfl, rfl, cu_2, tyX2_ok, nmX2⟩
theorem cu_3 : ∀ w ∈ u_ws RX3 TX3 4, w ∈ qtb := by
  have h : (u_ws RX3 TX3 4).map some = [306, 308, 310, 312].map (fun i => lw_tbl[i]?) := by decide +kernel
  have hg : (u_ws RX3 TX3 4).all goodWord = true := by decide +kernel
  exact fun w hw => q_inl h hg w hw
theorem ck_3 : qCok 3 RX3 TX3 4 := ⟨rfl, rfl, cu_3, tyX3_ok, nmX3⟩
theorem cu_4 : ∀ w ∈ u_ws RX4 TX4 13, w ∈ qtb := by
  have h : (u_ws RX4 TX4 13).map some = [200, 202, 204, 206, 208, 210, 212, 214, 216, 218, 220, 222, 224].map (fun i => lw_tbl[i]?) := by decide +kernel
  have hg : (u_ws RX4 TX4 13).all goodWord = true := by decide +kernel
  exact fun w hw => q_inl h hg w hw
theorem ck_4 : qCok 4 RX4 TX4 13 := ⟨rfl, rfl, cu_4, tyX4_ok, nmX4⟩
theorem cu_5 : ∀ w ∈ u_ws RX5 TX5 11, w ∈ qtb := by
  have h : (u_ws RX5 TX5 11).map some = [137, 139, 141, 143, 145, 147, 149, 151, 153, 155, 157].map (fun i => lw_tbl[i]?) := by decide +kernel
  have hg : (u_ws RX5 TX5 11).all goodWord = true := by decide +kernel
  exact fun w hw => q_inl h hg w hw
theorem ck_5 : qCok 5 RX5 TX5 11 := ⟨rfl, rfl, cu_5, tyX5_ok, nmX5⟩
theorem cu_6 : ∀ w ∈ u_ws RX6 TX6 13, w ∈ qtb := by
  have h : (u_ws RX6 TX6 13).map some = [328, 330, 332, 334, 336, 338, 340, 342, 344, 346, 348, 350, 352].map (fun i => lw_tbl[i]?) := by decide +kernel
  have hg : (u_ws RX6 TX6 13).all goodWord = true := by decide +kernel
  exact fun w hw => q_inl h hg w hw
theorem ck_6 : qCok 6 RX6 TX6 13 := ⟨rfl, rfl, cu_6, tyX6_ok, nmX6⟩
theorem cu_7 : ∀ w ∈ u_ws RX7 TX7 51, w ∈ qtb := by
  have h : (u_ws RX7 TX7 51).map some = [844, 846, 848, 850, 852, 854, 856, 858, 860, 862, 864, 866, 868, 870, 872, 874, 876, 878, 880, 882, 884, 886, 888, 890, 892, 894, 896, 898, 900, 902, 904, 906, 908, 910, 912, 914, 916, 918, 920, 922, 924, 926, 928, 930, 932, 934, 936, 938, 940, 942, 944].map (fun i => lw_tbl[i]?) := by decide +kernel
  have hg : (u_ws RX7 TX7 51).all goodWord = true := by decide +kernel
  exact fun w hw => q_inl h hg w hw
theorem ck_7 : qCok 7 RX7 TX7 51 := ⟨rfl, rfl, cu_7, tyX7_ok, nmX7⟩
/-- a field that is linked: by the class that reads, the place in its pool, the number of the class that has it, the field's number -/
def qFL (own : String) (index ci k : Nat) : Prop := ∃ C T N, qCok ci C T N ∧ k < N ∧ Cond.fieldLink own index (T k).1 (T k).2.1 (T k).2.2.1 ∈ qtb
/-- it isn't final -/
def qFW (ci k : Nat) : Prop := ∃ C T N, vwCl[ci]? = some (C, T, N) ∧ (T k).2.2.2 = false
theorem fl_X5_9 : qFL RX5 9 5 0 := ⟨RX5, TX5, 11, ck_5, (by decide +kernel), (qtb_in 105 (by decide +kernel) (by decide +kernel))⟩
theorem fl_X0_50 : qFL RX0 50 5 0 := ⟨RX5, TX5, 11, ck_5, (by decide +kernel), (qtb_in 106 (by decide +kernel) (by decide +kernel))⟩
theorem fl_X6_95 : qFL RX6 95 5 0 := ⟨RX5, TX5, 11, ck_5, (by decide +kernel), (qtb_in 107 (by decide +kernel) (by decide +kernel))⟩
theorem fl_X4_91 : qFL RX4 91 5 0 := ⟨RX5, TX5, 11, ck_5, (by decide +kernel), (qtb_in 108 (by decide +kernel) (by decide +kernel))⟩
theorem fl_X5_15 : qFL RX5 15 5 1 := ⟨RX5, TX5, 11, ck_5, (by decide +kernel), (qtb_in 109 (by decide +kernel) (by decide +kernel))⟩
theorem fl_X6_99 : qFL RX6 99 5 1 := ⟨RX5, TX5, 11, ck_5, (by decide +kernel), (qtb_in 110 (by decide +kernel) (by decide +kernel))⟩
theorem fl_X4_117 : qFL RX4 117 5 1 := ⟨RX5, TX5, 11, ck_5, (by decide +kernel), (qtb_in 111 (by decide +kernel) (by decide +kernel))⟩
theorem fl_X5_18 : qFL RX5 18 5 2 := ⟨RX5, TX5, 11, ck_5, (by decide +kernel), (qtb_in 112 (by decide +kernel) (by decide +kernel))⟩
theorem fl_X4_61 : qFL RX4 61 5 2 := ⟨RX5, TX5, 11, ck_5, (by decide +kernel), (qtb_in 113 (by decide +kernel) (by decide +kernel))⟩
theorem fl_X6_105 : qFL RX6 105 5 2 := ⟨RX5, TX5, 11, ck_5, (by decide +kernel), (qtb_in 114 (by decide +kernel) (by decide +kernel))⟩
theorem fl_X5_21 : qFL RX5 21 5 3 := ⟨RX5, TX5, 11, ck_5, (by decide +kernel), (qtb_in 115 (by decide +kernel) (by decide +kernel))⟩
theorem fl_X6_108 : qFL RX6 108 5 3 := ⟨RX5, TX5, 11, ck_5, (by decide +kernel), (qtb_in 116 (by decide +kernel) (by decide +kernel))⟩
theorem fl_X0_93 : qFL RX0 93 5 3 := ⟨RX5, TX5, 11, ck_5, (by decide +kernel), (qtb_in 117 (by decide +kernel) (by decide +kernel))⟩
theorem fl_X4_114 : qFL RX4 114 5 3 := ⟨RX5, TX5, 11, ck_5, (by decide +kernel), (qtb_in 118 (by decide +kernel) (by decide +kernel))⟩
theorem fl_X5_24 : qFL RX5 24 5 4 := ⟨RX5, TX5, 11, ck_5, (by decide +kernel), (qtb_in 119 (by decide +kernel) (by decide +kernel))⟩
theorem fl_X6_111 : qFL RX6 111 5 4 := ⟨RX5, TX5, 11, ck_5, (by decide +kernel), (qtb_in 120 (by decide +kernel) (by decide +kernel))⟩
theorem fl_X4_123 : qFL RX4 123 5 4 := ⟨RX5, TX5, 11, ck_5, (by decide +kernel), (qtb_in 121 (by decide +kernel) (by decide +kernel))⟩
theorem fl_X5_29 : qFL RX5 29 5 5 := ⟨RX5, TX5, 11, ck_5, (by decide +kernel), (qtb_in 122 (by decide +kernel) (by decide +kernel))⟩
theorem fl_X4_62 : qFL RX4 62 5 5 := ⟨RX5, TX5, 11, ck_5, (by decide +kernel), (qtb_in 123 (by decide +kernel) (by decide +kernel))⟩
theorem fl_X6_125 : qFL RX6 125 5 5 := ⟨RX5, TX5, 11, ck_5, (by decide +kernel), (qtb_in 124 (by decide +kernel) (by decide +kernel))⟩
theorem fl_X0_99 : qFL RX0 99 5 5 := ⟨RX5, TX5, 11, ck_5, (by decide +kernel), (qtb_in 125 (by decide +kernel) (by decide +kernel))⟩
theorem fl_X0_40 : qFL RX0 40 5 6 := ⟨RX5, TX5, 11, ck_5, (by decide +kernel), (qtb_in 126 (by decide +kernel) (by decide +kernel))⟩
theorem fl_X4_80 : qFL RX4 80 5 6 := ⟨RX5, TX5, 11, ck_5, (by decide +kernel), (qtb_in 127 (by decide +kernel) (by decide +kernel))⟩
theorem fl_X5_60 : qFL RX5 60 5 6 := ⟨RX5, TX5, 11, ck_5, (by decide +kernel), (qtb_in 128 (by decide +kernel) (by decide +kernel))⟩
theorem fl_X6_235 : qFL RX6 235 5 6 := ⟨RX5, TX5, 11, ck_5, (by decide +kernel), (qtb_in 129 (by decide +kernel) (by decide +kernel))⟩
theorem fl_X4_49 : qFL RX4 49 5 7 := ⟨RX5, TX5, 11, ck_5, (by decide +kernel), (qtb_in 130 (by decide +kernel) (by decide +kernel))⟩
theorem fl_X5_42 : qFL RX5 42 5 7 := ⟨RX5, TX5, 11, ck_5, (by decide +kernel), (qtb_in 131 (by decide +kernel) (by decide +kernel))⟩
theorem fl_X0_53 : qFL RX0 53 5 7 := ⟨RX5, TX5, 11, ck_5, (by decide +kernel), (qtb_in 132 (by decide +kernel) (by decide +kernel))⟩
theorem fl_X6_88 : qFL RX6 88 5 7 := ⟨RX5, TX5, 11, ck_5, (by decide +kernel), (qtb_in 133 (by decide +kernel) (by decide +kernel))⟩
theorem fl_X5_32 : qFL RX5 32 5 8 := ⟨RX5, TX5, 11, ck_5, (by decide +kernel), (qtb_in 134 (by decide +kernel) (by decide +kernel))⟩
theorem fl_X5_36 : qFL RX5 36 5 9 := ⟨RX5, TX5, 11, ck_5, (by decide +kernel), (qtb_in 135 (by decide +kernel) (by decide +kernel))⟩
theorem fl_X5_39 : qFL RX5 39 5 10 := ⟨RX5, TX5, 11, ck_5, (by decide +kernel), (qtb_in 136 (by decide +kernel) (by decide +kernel))⟩
theorem fl_X4_12 : qFL RX4 12 4 0 := ⟨RX4, TX4, 13, ck_4, (by decide +kernel), (qtb_in 170 (by decide +kernel) (by decide +kernel))⟩
theorem fl_X0_34 : qFL RX0 34 4 0 := ⟨RX4, TX4, 13, ck_4, (by decide +kernel), (qtb_in 171 (by decide +kernel) (by decide +kernel))⟩
theorem fl_X4_18 : qFL RX4 18 4 1 := ⟨RX4, TX4, 13, ck_4, (by decide +kernel), (qtb_in 172 (by decide +kernel) (by decide +kernel))⟩
theorem fl_X2_32 : qFL RX2 32 4 1 := ⟨RX4, TX4, 13, ck_4, (by decide +kernel), (qtb_in 173 (by decide +kernel) (by decide +kernel))⟩
theorem fl_X0_96 : qFL RX0 96 4 1 := ⟨RX4, TX4, 13, ck_4, (by decide +kernel), (qtb_in 174 (by decide +kernel) (by decide +kernel))⟩
theorem fl_X6_132 : qFL RX6 132 4 1 := ⟨RX4, TX4, 13, ck_4, (by decide +kernel), (qtb_in 175 (by decide +kernel) (by decide +kernel))⟩
theorem fl_X4_22 : qFL RX4 22 4 2 := ⟨RX4, TX4, 13, ck_4, (by decide +kernel), (qtb_in 176 (by decide +kernel) (by decide +kernel))⟩
theorem fl_X6_218 : qFL RX6 218 4 2 := ⟨RX4, TX4, 13, ck_4, (by decide +kernel), (qtb_in 177 (by decide +kernel) (by decide +kernel))⟩
theorem fl_X4_25 : qFL RX4 25 4 3 := ⟨RX4, TX4, 13, ck_4, (by decide +kernel), (qtb_in 178 (by decide +kernel) (by decide +kernel))⟩
theorem fl_X6_118 : qFL RX6 118 4 3 := ⟨RX4, TX4, 13, ck_4, (by decide +kernel), (qtb_in 179 (by decide +kernel) (by decide +kernel))⟩
theorem fl_X4_30 : qFL RX4 30 4 4 := ⟨RX4, TX4, 13, ck_4, (by decide +kernel), (qtb_in 180 (by decide +kernel) (by decide +kernel))⟩
theorem fl_X6_121 : qFL RX6 121 4 4 := ⟨RX4, TX4, 13, ck_4, (by decide +kernel), (qtb_in 181 (by decide +kernel) (by decide +kernel))⟩
theorem fl_X4_52 : qFL RX4 52 4 5 := ⟨RX4, TX4, 13, ck_4, (by decide +kernel), (qtb_in 182 (by decide +kernel) (by decide +kernel))⟩
theorem fl_X2_26 : qFL RX2 26 4 5 := ⟨RX4, TX4, 13, ck_4, (by decide +kernel), (qtb_in 183 (by decide +kernel) (by decide +kernel))⟩
theorem fl_X0_86 : qFL RX0 86 4 5 := ⟨RX4, TX4, 13, ck_4, (by decide +kernel), (qtb_in 184 (by decide +kernel) (by decide +kernel))⟩
theorem fl_X4_55 : qFL RX4 55 4 6 := ⟨RX4, TX4, 13, ck_4, (by decide +kernel), (qtb_in 185 (by decide +kernel) (by decide +kernel))⟩
theorem fl_X6_135 : qFL RX6 135 4 6 := ⟨RX4, TX4, 13, ck_4, (by decide +kernel), (qtb_in 186 (by decide +kernel) (by decide +kernel))⟩
theorem fl_X4_58 : qFL RX4 58 4 7 := ⟨RX4, TX4, 13, ck_4, (by decide +kernel), (qtb_in 187 (by decide +kernel) (by decide +kernel))⟩
theorem fl_X6_142 : qFL RX6 142 4 7 := ⟨RX4, TX4, 13, ck_4, (by decide +kernel), (qtb_in 188 (by decide +kernel) (by decide +kernel))⟩
theorem fl_X4_33 : qFL RX4 33 4 8 := ⟨RX4, TX4, 13, ck_4, (by decide +kernel), (qtb_in 189 (by decide +kernel) (by decide +kernel))⟩
theorem fl_X6_225 : qFL RX6 225 4 8 := ⟨RX4, TX4, 13, ck_4, (by decide +kernel), (qtb_in 190 (by decide +kernel) (by decide +kernel))⟩
theorem fl_X4_37 : qFL RX4 37 4 9 := ⟨RX4, TX4, 13, ck_4, (by decide +kernel), (qtb_in 191 (by decide +kernel) (by decide +kernel))⟩
theorem fl_X6_309 : qFL RX6 309 4 9 := ⟨RX4, TX4, 13, ck_4, (by decide +kernel), (qtb_in 192 (by decide +kernel) (by decide +kernel))⟩
theorem fl_X4_40 : qFL RX4 40 4 10 := ⟨RX4, TX4, 13, ck_4, (by decide +kernel), (qtb_in 193 (by decide +kernel) (by decide +kernel))⟩
theorem fl_X6_157 : qFL RX6 157 4 10 := ⟨RX4, TX4, 13, ck_4, (by decide +kernel), (qtb_in 194 (by decide +kernel) (by decide +kernel))⟩
theorem fl_X4_43 : qFL RX4 43 4 11 := ⟨RX4, TX4, 13, ck_4, (by decide +kernel), (qtb_in 195 (by decide +kernel) (by decide +kernel))⟩
theorem fl_X1_37 : qFL RX1 37 4 11 := ⟨RX4, TX4, 13, ck_4, (by decide +kernel), (qtb_in 196 (by decide +kernel) (by decide +kernel))⟩
theorem fl_X6_160 : qFL RX6 160 4 11 := ⟨RX4, TX4, 13, ck_4, (by decide +kernel), (qtb_in 197 (by decide +kernel) (by decide +kernel))⟩
theorem fl_X4_46 : qFL RX4 46 4 12 := ⟨RX4, TX4, 13, ck_4, (by decide +kernel), (qtb_in 198 (by decide +kernel) (by decide +kernel))⟩
theorem fl_X6_175 : qFL RX6 175 4 12 := ⟨RX4, TX4, 13, ck_4, (by decide +kernel), (qtb_in 199 (by decide +kernel) (by decide +kernel))⟩
theorem fl_X1_9 : qFL RX1 9 1 0 := ⟨RX1, TX1, 4, ck_1, (by decide +kernel), (qtb_in 233 (by decide +kernel) (by decide +kernel))⟩
theorem fl_X6_217 : qFL RX6 217 1 0 := ⟨RX1, TX1, 4, ck_1, (by decide +kernel), (qtb_in 234 (by decide +kernel) (by decide +kernel))⟩
theorem fl_X1_15 : qFL RX1 15 1 1 := ⟨RX1, TX1, 4, ck_1, (by decide +kernel), (qtb_in 235 (by decide +kernel) (by decide +kernel))⟩
theorem fl_X1_38 : qFL RX1 38 1 2 := ⟨RX1, TX1, 4, ck_1, (by decide +kernel), (qtb_in 236 (by decide +kernel) (by decide +kernel))⟩
theorem fl_X6_211 : qFL RX6 211 1 2 := ⟨RX1, TX1, 4, ck_1, (by decide +kernel), (qtb_in 237 (by decide +kernel) (by decide +kernel))⟩
theorem fl_X1_18 : qFL RX1 18 1 3 := ⟨RX1, TX1, 4, ck_1, (by decide +kernel), (qtb_in 238 (by decide +kernel) (by decide +kernel))⟩
theorem fl_X6_214 : qFL RX6 214 1 3 := ⟨RX1, TX1, 4, ck_1, (by decide +kernel), (qtb_in 239 (by decide +kernel) (by decide +kernel))⟩
theorem fl_X0_74 : qFL RX0 74 0 0 := ⟨RX0, TX0, 5, ck_0, (by decide +kernel), (qtb_in 255 (by decide +kernel) (by decide +kernel))⟩
theorem fl_X6_185 : qFL RX6 185 0 0 := ⟨RX0, TX0, 5, ck_0, (by decide +kernel), (qtb_in 256 (by decide +kernel) (by decide +kernel))⟩
theorem fl_X0_9 : qFL RX0 9 0 1 := ⟨RX0, TX0, 5, ck_0, (by decide +kernel), (qtb_in 257 (by decide +kernel) (by decide +kernel))⟩
theorem fl_X0_15 : qFL RX0 15 0 2 := ⟨RX0, TX0, 5, ck_0, (by decide +kernel), (qtb_in 258 (by decide +kernel) (by decide +kernel))⟩
theorem fl_X0_18 : qFL RX0 18 0 3 := ⟨RX0, TX0, 5, ck_0, (by decide +kernel), (qtb_in 259 (by decide +kernel) (by decide +kernel))⟩
theorem fl_X0_66 : qFL RX0 66 0 4 := ⟨RX0, TX0, 5, ck_0, (by decide +kernel), (qtb_in 260 (by decide +kernel) (by decide +kernel))⟩
theorem fl_X2_56 : qFL RX2 56 2 0 := ⟨RX2, TX2, 3, ck_2, (by decide +kernel), (qtb_in 280 (by decide +kernel) (by decide +kernel))⟩
theorem fl_X6_197 : qFL RX6 197 2 0 := ⟨RX2, TX2, 3, ck_2, (by decide +kernel), (qtb_in 281 (by decide +kernel) (by decide +kernel))⟩
theorem fl_X2_11 : qFL RX2 11 2 1 := ⟨RX2, TX2, 3, ck_2, (by decide +kernel), (qtb_in 282 (by decide +kernel) (by decide +kernel))⟩
theorem fl_X6_202 : qFL RX6 202 2 1 := ⟨RX2, TX2, 3, ck_2, (by decide +kernel), (qtb_in 283 (by decide +kernel) (by decide +kernel))⟩
theorem fl_X2_17 : qFL RX2 17 2 2 := ⟨RX2, TX2, 3, ck_2, (by decide +kernel), (qtb_in 284 (by decide +kernel) (by decide +kernel))⟩
theorem fl_X6_205 : qFL RX6 205 2 2 := ⟨RX2, TX2, 3, ck_2, (by decide +kernel), (qtb_in 285 (by decide +kernel) (by decide +kernel))⟩
theorem fl_X3_9 : qFL RX3 9 3 0 := ⟨RX3, TX3, 4, ck_3, (by decide +kernel), (qtb_in 298 (by decide +kernel) (by decide +kernel))⟩
theorem fl_X5_74 : qFL RX5 74 3 0 := ⟨RX3, TX3, 4, ck_3, (by decide +kernel), (qtb_in 299 (by decide +kernel) (by decide +kernel))⟩
theorem fl_X6_178 : qFL RX6 178 3 0 := ⟨RX3, TX3, 4, ck_3, (by decide +kernel), (qtb_in 300 (by decide +kernel) (by decide +kernel))⟩
theorem fl_X3_15 : qFL RX3 15 3 1 := ⟨RX3, TX3, 4, ck_3, (by decide +kernel), (qtb_in 301 (by decide +kernel) (by decide +kernel))⟩
theorem fl_X6_261 : qFL RX6 261 3 1 := ⟨RX3, TX3, 4, ck_3, (by decide +kernel), (qtb_in 302 (by decide +kernel) (by decide +kernel))⟩
theorem fl_X3_19 : qFL RX3 19 3 2 := ⟨RX3, TX3, 4, ck_3, (by decide +kernel), (qtb_in 303 (by decide +kernel) (by decide +kernel))⟩
theorem fl_X6_270 : qFL RX6 270 3 2 := ⟨RX3, TX3, 4, ck_3, (by decide +kernel), (qtb_in 304 (by decide +kernel) (by decide +kernel))⟩
theorem fl_X3_23 : qFL RX3 23 3 3 := ⟨RX3, TX3, 4, ck_3, (by decide +kernel), (qtb_in 305 (by decide +kernel) (by decide +kernel))⟩
theorem fl_X6_13 : qFL RX6 13 6 0 := ⟨RX6, TX6, 13, ck_6, (by decide +kernel), (qtb_in 315 (by decide +kernel) (by decide +kernel))⟩
theorem fl_X6_20 : qFL RX6 20 6 1 := ⟨RX6, TX6, 13, ck_6, (by decide +kernel), (qtb_in 316 (by decide +kernel) (by decide +kernel))⟩
theorem fl_X6_24 : qFL RX6 24 6 2 := ⟨RX6, TX6, 13, ck_6, (by decide +kernel), (qtb_in 317 (by decide +kernel) (by decide +kernel))⟩
theorem fl_X6_30 : qFL RX6 30 6 3 := ⟨RX6, TX6, 13, ck_6, (by decide +kernel), (qtb_in 318 (by decide +kernel) (by decide +kernel))⟩
theorem fl_X6_34 : qFL RX6 34 6 4 := ⟨RX6, TX6, 13, ck_6, (by decide +kernel), (qtb_in 319 (by decide +kernel) (by decide +kernel))⟩
theorem fl_X6_37 : qFL RX6 37 6 5 := ⟨RX6, TX6, 13, ck_6, (by decide +kernel), (qtb_in 320 (by decide +kernel) (by decide +kernel))⟩
theorem fl_X6_43 : qFL RX6 43 6 6 := ⟨RX6, TX6, 13, ck_6, (by decide +kernel), (qtb_in 321 (by decide +kernel) (by decide +kernel))⟩
theorem fl_X6_47 : qFL RX6 47 6 7 := ⟨RX6, TX6, 13, ck_6, (by decide +kernel), (qtb_in 322 (by decide +kernel) (by decide +kernel))⟩
theorem fl_X6_53 : qFL RX6 53 6 8 := ⟨RX6, TX6, 13, ck_6, (by decide +kernel), (qtb_in 323 (by decide +kernel) (by decide +kernel))⟩
theorem fl_X6_60 : qFL RX6 60 6 9 := ⟨RX6, TX6, 13, ck_6, (by decide +kernel), (qtb_in 324 (by decide +kernel) (by decide +kernel))⟩
theorem fl_X6_81 : qFL RX6 81 6 10 := ⟨RX6, TX6, 13, ck_6, (by decide +kernel), (qtb_in 325 (by decide +kernel) (by decide +kernel))⟩
theorem fl_X6_291 : qFL RX6 291 6 11 := ⟨RX6, TX6, 13, ck_6, (by decide +kernel), (qtb_in 326 (by decide +kernel) (by decide +kernel))⟩
theorem fl_X6_246 : qFL RX6 246 6 12 := ⟨RX6, TX6, 13, ck_6, (by decide +kernel), (qtb_in 327 (by decide +kernel) (by decide +kernel))⟩
theorem fl_X7_115 : qFL RX7 115 7 0 := ⟨RX7, TX7, 51, ck_7, (by decide +kernel), (qtb_in 793 (by decide +kernel) (by decide +kernel))⟩
theorem fl_X7_316 : qFL RX7 316 7 1 := ⟨RX7, TX7, 51, ck_7, (by decide +kernel), (qtb_in 794 (by decide +kernel) (by decide +kernel))⟩
theorem fl_X7_9 : qFL RX7 9 7 2 := ⟨RX7, TX7, 51, ck_7, (by decide +kernel), (qtb_in 795 (by decide +kernel) (by decide +kernel))⟩
theorem fl_X7_13 : qFL RX7 13 7 3 := ⟨RX7, TX7, 51, ck_7, (by decide +kernel), (qtb_in 796 (by decide +kernel) (by decide +kernel))⟩
theorem fl_X7_16 : qFL RX7 16 7 4 := ⟨RX7, TX7, 51, ck_7, (by decide +kernel), (qtb_in 797 (by decide +kernel) (by decide +kernel))⟩
theorem fl_X7_125 : qFL RX7 125 7 5 := ⟨RX7, TX7, 51, ck_7, (by decide +kernel), (qtb_in 798 (by decide +kernel) (by decide +kernel))⟩
theorem fl_X7_128 : qFL RX7 128 7 6 := ⟨RX7, TX7, 51, ck_7, (by decide +kernel), (qtb_in 799 (by decide +kernel) (by decide +kernel))⟩
theorem fl_X7_19 : qFL RX7 19 7 7 := ⟨RX7, TX7, 51, ck_7, (by decide +kernel), (qtb_in 800 (by decide +kernel) (by decide +kernel))⟩
theorem fl_X7_22 : qFL RX7 22 7 8 := ⟨RX7, TX7, 51, ck_7, (by decide +kernel), (qtb_in 801 (by decide +kernel) (by decide +kernel))⟩
theorem fl_X7_25 : qFL RX7 25 7 9 := ⟨RX7, TX7, 51, ck_7, (by decide +kernel), (qtb_in 802 (by decide +kernel) (by decide +kernel))⟩
theorem fl_X7_28 : qFL RX7 28 7 10 := ⟨RX7, TX7, 51, ck_7, (by decide +kernel), (qtb_in 803 (by decide +kernel) (by decide +kernel))⟩
theorem fl_X7_31 : qFL RX7 31 7 11 := ⟨RX7, TX7, 51, ck_7, (by decide +kernel), (qtb_in 804 (by decide +kernel) (by decide +kernel))⟩
theorem fl_X7_34 : qFL RX7 34 7 12 := ⟨RX7, TX7, 51, ck_7, (by decide +kernel), (qtb_in 805 (by decide +kernel) (by decide +kernel))⟩
theorem fl_X7_37 : qFL RX7 37 7 13 := ⟨RX7, TX7, 51, ck_7, (by decide +kernel), (qtb_in 806 (by decide +kernel) (by decide +kernel))⟩
theorem fl_X7_40 : qFL RX7 40 7 14 := ⟨RX7, TX7, 51, ck_7, (by decide +kernel), (qtb_in 807 (by decide +kernel) (by decide +kernel))⟩
theorem fl_X7_43 : qFL RX7 43 7 15 := ⟨RX7, TX7, 51, ck_7, (by decide +kernel), (qtb_in 808 (by decide +kernel) (by decide +kernel))⟩
theorem fl_X7_161 : qFL RX7 161 7 16 := ⟨RX7, TX7, 51, ck_7, (by decide +kernel), (qtb_in 809 (by decide +kernel) (by decide +kernel))⟩
theorem fl_X7_164 : qFL RX7 164 7 17 := ⟨RX7, TX7, 51, ck_7, (by decide +kernel), (qtb_in 810 (by decide +kernel) (by decide +kernel))⟩
theorem fl_X7_167 : qFL RX7 167 7 18 := ⟨RX7, TX7, 51, ck_7, (by decide +kernel), (qtb_in 811 (by decide +kernel) (by decide +kernel))⟩
theorem fl_X7_131 : qFL RX7 131 7 19 := ⟨RX7, TX7, 51, ck_7, (by decide +kernel), (qtb_in 812 (by decide +kernel) (by decide +kernel))⟩
theorem fl_X7_155 : qFL RX7 155 7 20 := ⟨RX7, TX7, 51, ck_7, (by decide +kernel), (qtb_in 813 (by decide +kernel) (by decide +kernel))⟩
theorem fl_X7_158 : qFL RX7 158 7 21 := ⟨RX7, TX7, 51, ck_7, (by decide +kernel), (qtb_in 814 (by decide +kernel) (by decide +kernel))⟩
theorem fl_X7_46 : qFL RX7 46 7 22 := ⟨RX7, TX7, 51, ck_7, (by decide +kernel), (qtb_in 815 (by decide +kernel) (by decide +kernel))⟩
theorem fl_X7_49 : qFL RX7 49 7 23 := ⟨RX7, TX7, 51, ck_7, (by decide +kernel), (qtb_in 816 (by decide +kernel) (by decide +kernel))⟩
theorem fl_X7_52 : qFL RX7 52 7 24 := ⟨RX7, TX7, 51, ck_7, (by decide +kernel), (qtb_in 817 (by decide +kernel) (by decide +kernel))⟩
theorem fl_X7_55 : qFL RX7 55 7 25 := ⟨RX7, TX7, 51, ck_7, (by decide +kernel), (qtb_in 818 (by decide +kernel) (by decide +kernel))⟩
theorem fl_X7_58 : qFL RX7 58 7 26 := ⟨RX7, TX7, 51, ck_7, (by decide +kernel), (qtb_in 819 (by decide +kernel) (by decide +kernel))⟩
theorem fl_X7_61 : qFL RX7 61 7 27 := ⟨RX7, TX7, 51, ck_7, (by decide +kernel), (qtb_in 820 (by decide +kernel) (by decide +kernel))⟩
theorem fl_X7_194 : qFL RX7 194 7 28 := ⟨RX7, TX7, 51, ck_7, (by decide +kernel), (qtb_in 821 (by decide +kernel) (by decide +kernel))⟩
theorem fl_X7_64 : qFL RX7 64 7 29 := ⟨RX7, TX7, 51, ck_7, (by decide +kernel), (qtb_in 822 (by decide +kernel) (by decide +kernel))⟩
theorem fl_X7_197 : qFL RX7 197 7 30 := ⟨RX7, TX7, 51, ck_7, (by decide +kernel), (qtb_in 823 (by decide +kernel) (by decide +kernel))⟩
theorem fl_X7_67 : qFL RX7 67 7 31 := ⟨RX7, TX7, 51, ck_7, (by decide +kernel), (qtb_in 824 (by decide +kernel) (by decide +kernel))⟩
theorem fl_X7_70 : qFL RX7 70 7 32 := ⟨RX7, TX7, 51, ck_7, (by decide +kernel), (qtb_in 825 (by decide +kernel) (by decide +kernel))⟩
theorem fl_X7_200 : qFL RX7 200 7 33 := ⟨RX7, TX7, 51, ck_7, (by decide +kernel), (qtb_in 826 (by decide +kernel) (by decide +kernel))⟩
theorem fl_X7_73 : qFL RX7 73 7 34 := ⟨RX7, TX7, 51, ck_7, (by decide +kernel), (qtb_in 827 (by decide +kernel) (by decide +kernel))⟩
theorem fl_X7_76 : qFL RX7 76 7 35 := ⟨RX7, TX7, 51, ck_7, (by decide +kernel), (qtb_in 828 (by decide +kernel) (by decide +kernel))⟩
theorem fl_X7_79 : qFL RX7 79 7 36 := ⟨RX7, TX7, 51, ck_7, (by decide +kernel), (qtb_in 829 (by decide +kernel) (by decide +kernel))⟩
theorem fl_X7_82 : qFL RX7 82 7 37 := ⟨RX7, TX7, 51, ck_7, (by decide +kernel), (qtb_in 830 (by decide +kernel) (by decide +kernel))⟩
theorem fl_X7_85 : qFL RX7 85 7 38 := ⟨RX7, TX7, 51, ck_7, (by decide +kernel), (qtb_in 831 (by decide +kernel) (by decide +kernel))⟩
theorem fl_X7_88 : qFL RX7 88 7 39 := ⟨RX7, TX7, 51, ck_7, (by decide +kernel), (qtb_in 832 (by decide +kernel) (by decide +kernel))⟩
theorem fl_X7_91 : qFL RX7 91 7 40 := ⟨RX7, TX7, 51, ck_7, (by decide +kernel), (qtb_in 833 (by decide +kernel) (by decide +kernel))⟩
theorem fl_X7_94 : qFL RX7 94 7 41 := ⟨RX7, TX7, 51, ck_7, (by decide +kernel), (qtb_in 834 (by decide +kernel) (by decide +kernel))⟩
theorem fl_X7_244 : qFL RX7 244 7 42 := ⟨RX7, TX7, 51, ck_7, (by decide +kernel), (qtb_in 835 (by decide +kernel) (by decide +kernel))⟩
theorem fl_X7_97 : qFL RX7 97 7 43 := ⟨RX7, TX7, 51, ck_7, (by decide +kernel), (qtb_in 836 (by decide +kernel) (by decide +kernel))⟩
theorem fl_X7_100 : qFL RX7 100 7 44 := ⟨RX7, TX7, 51, ck_7, (by decide +kernel), (qtb_in 837 (by decide +kernel) (by decide +kernel))⟩
theorem fl_X7_281 : qFL RX7 281 7 45 := ⟨RX7, TX7, 51, ck_7, (by decide +kernel), (qtb_in 838 (by decide +kernel) (by decide +kernel))⟩
theorem fl_X7_287 : qFL RX7 287 7 46 := ⟨RX7, TX7, 51, ck_7, (by decide +kernel), (qtb_in 839 (by decide +kernel) (by decide +kernel))⟩
theorem fl_X7_103 : qFL RX7 103 7 47 := ⟨RX7, TX7, 51, ck_7, (by decide +kernel), (qtb_in 840 (by decide +kernel) (by decide +kernel))⟩
theorem fl_X7_106 : qFL RX7 106 7 48 := ⟨RX7, TX7, 51, ck_7, (by decide +kernel), (qtb_in 841 (by decide +kernel) (by decide +kernel))⟩
theorem fl_X7_109 : qFL RX7 109 7 49 := ⟨RX7, TX7, 51, ck_7, (by decide +kernel), (qtb_in 842 (by decide +kernel) (by decide +kernel))⟩
theorem fl_X7_112 : qFL RX7 112 7 50 := ⟨RX7, TX7, 51, ck_7, (by decide +kernel), (qtb_in 843 (by decide +kernel) (by decide +kernel))⟩
theorem fw_0_0 : qFW 0 0 := ⟨RX0, TX0, 5, rfl, rfl⟩
theorem fw_0_4 : qFW 0 4 := ⟨RX0, TX0, 5, rfl, rfl⟩
theorem fw_1_2 : qFW 1 2 := ⟨RX1, TX1, 4, rfl, rfl⟩
theorem fw_1_3 : qFW 1 3 := ⟨RX1, TX1, 4, rfl, rfl⟩
theorem fw_2_0 : qFW 2 0 := ⟨RX2, TX2, 3, rfl, rfl⟩
theorem fw_3_1 : qFW 3 1 := ⟨RX3, TX3, 4, rfl, rfl⟩
theorem fw_3_2 : qFW 3 2 := ⟨RX3, TX3, 4, rfl, rfl⟩
theorem fw_3_3 : qFW 3 3 := ⟨RX3, TX3, 4, rfl, rfl⟩
theorem fw_4_0 : qFW 4 0 := ⟨RX4, TX4, 13, rfl, rfl⟩
theorem fw_4_5 : qFW 4 5 := ⟨RX4, TX4, 13, rfl, rfl⟩
theorem fw_4_6 : qFW 4 6 := ⟨RX4, TX4, 13, rfl, rfl⟩
theorem fw_4_7 : qFW 4 7 := ⟨RX4, TX4, 13, rfl, rfl⟩
theorem fw_4_8 : qFW 4 8 := ⟨RX4, TX4, 13, rfl, rfl⟩
theorem fw_5_6 : qFW 5 6 := ⟨RX5, TX5, 11, rfl, rfl⟩
theorem fw_5_7 : qFW 5 7 := ⟨RX5, TX5, 11, rfl, rfl⟩
theorem fw_5_8 : qFW 5 8 := ⟨RX5, TX5, 11, rfl, rfl⟩
theorem fw_5_9 : qFW 5 9 := ⟨RX5, TX5, 11, rfl, rfl⟩
theorem fw_5_10 : qFW 5 10 := ⟨RX5, TX5, 11, rfl, rfl⟩
theorem fw_6_1 : qFW 6 1 := ⟨RX6, TX6, 13, rfl, rfl⟩
theorem fw_6_2 : qFW 6 2 := ⟨RX6, TX6, 13, rfl, rfl⟩
theorem fw_6_10 : qFW 6 10 := ⟨RX6, TX6, 13, rfl, rfl⟩
theorem fw_6_11 : qFW 6 11 := ⟨RX6, TX6, 13, rfl, rfl⟩
theorem fw_6_12 : qFW 6 12 := ⟨RX6, TX6, 13, rfl, rfl⟩
theorem fw_7_0 : qFW 7 0 := ⟨RX7, TX7, 51, rfl, rfl⟩
theorem fw_7_1 : qFW 7 1 := ⟨RX7, TX7, 51, rfl, rfl⟩
theorem fw_7_5 : qFW 7 5 := ⟨RX7, TX7, 51, rfl, rfl⟩
theorem fw_7_6 : qFW 7 6 := ⟨RX7, TX7, 51, rfl, rfl⟩
theorem fw_7_16 : qFW 7 16 := ⟨RX7, TX7, 51, rfl, rfl⟩
theorem fw_7_17 : qFW 7 17 := ⟨RX7, TX7, 51, rfl, rfl⟩
theorem fw_7_18 : qFW 7 18 := ⟨RX7, TX7, 51, rfl, rfl⟩
theorem fw_7_19 : qFW 7 19 := ⟨RX7, TX7, 51, rfl, rfl⟩
theorem fw_7_20 : qFW 7 20 := ⟨RX7, TX7, 51, rfl, rfl⟩
theorem fw_7_21 : qFW 7 21 := ⟨RX7, TX7, 51, rfl, rfl⟩
theorem fw_7_28 : qFW 7 28 := ⟨RX7, TX7, 51, rfl, rfl⟩
theorem fw_7_30 : qFW 7 30 := ⟨RX7, TX7, 51, rfl, rfl⟩
theorem fw_7_33 : qFW 7 33 := ⟨RX7, TX7, 51, rfl, rfl⟩
theorem fw_7_42 : qFW 7 42 := ⟨RX7, TX7, 51, rfl, rfl⟩
theorem fw_7_45 : qFW 7 45 := ⟨RX7, TX7, 51, rfl, rfl⟩
theorem fw_7_46 : qFW 7 46 := ⟨RX7, TX7, 51, rfl, rfl⟩
end
section
/-! THE PURE HEAP: what the machine's cells stand for. A number of the machine stands for an integer (zI, zL); a cell by its address: its kind and size, what its places hold (ints, longs, addresses: 0 is null) -/
def zI (e : Int) : Int32 := Int32.ofInt e
def zL (e : Int) : Int64 := Int64.ofInt e
abbrev in32 (e : Int) : Prop := -2147483648 ≤ e ∧ e < 2147483648
abbrev in64 (e : Int) : Prop := -9223372036854775808 ≤ e ∧ e < 9223372036854775808
theorem zI_toInt {e : Int} (h : in32 e) : (zI e).toInt = e := Int32.toInt_ofInt_of_le (by have := h.1; omega) (by have := h.2; omega)
theorem zI_of (x : Int32) : zI x.toInt = x := Int32.ofInt_toInt x
theorem zI_in (x : Int32) : in32 x.toInt := ⟨by have := Int32.le_toInt x; omega, by have := Int32.toInt_lt x; omega⟩
theorem zI_add (a b : Int) : zI a + zI b = zI (a + b) := (Int32.ofInt_add a b).symm
theorem zI_sub (a b : Int) : zI a - zI b = zI (a - b) := (Int32.ofInt_sub a b).symm
theorem zI_mul (a b : Int) : zI a * zI b = zI (a * b) := (Int32.ofInt_mul a b).symm
theorem zI_eq {a b : Int} (ha : in32 a) (hb : in32 b) : zI a = zI b ↔ a = b := by
  rw [← Int32.toInt_inj, zI_toInt ha, zI_toInt hb]
theorem zI_lt {a b : Int} (ha : in32 a) (hb : in32 b) : zI a < zI b ↔ a < b := by
  rw [Int32.lt_iff_toInt_lt, zI_toInt ha, zI_toInt hb]
theorem zI_le {a b : Int} (ha : in32 a) (hb : in32 b) : zI a ≤ zI b ↔ a ≤ b := by
  rw [Int32.le_iff_toInt_le, zI_toInt ha, zI_toInt hb]
theorem zI_cl {e : Int} (h0 : 0 ≤ e) (h1 : e < 2147483648) : (((zI e).toNatClampNeg : Nat) : Int) = e := by
  show (((zI e).toInt.toNat : Nat) : Int) = e
  rw [zI_toInt ⟨by omega, h1⟩]
  omega
theorem zI_vp {i : Int} {n : Nat} (h : 0 ≤ i ∧ i < (n : Int)) (hn : i < 2147483648) : vp_in (zI i) n := by
  rw [vp_in_iff, zI_toInt ⟨by omega, hn⟩]
  exact h
theorem zI_div {a b : Int} (ha : 0 ≤ a) (ha2 : a < 2147483648) (hb : 0 < b) (hb2 : b < 2147483648) : zI a / zI b = zI (a / b) := by
  have h := Int32.ofInt_tdiv (a := a) (b := b) (by show (-2147483648 : Int) ≤ a; omega) (by show a ≤ (2147483647 : Int); omega) (by show (-2147483648 : Int) ≤ b; omega) (by show b ≤ (2147483647 : Int); omega)
  rw [Int.tdiv_eq_ediv_of_nonneg ha] at h
  exact h.symm
theorem zI_rem {a b : Int} (ha : 0 ≤ a) (ha2 : a < 2147483648) (hb : 0 < b) (hb2 : b < 2147483648) : zI a - zI a / zI b * zI b = zI (a % b) := by
  rw [zI_div ha ha2 hb hb2, zI_mul, zI_sub, Int.emod_def, Int.mul_comm]
theorem zL_toInt {e : Int} (h : in64 e) : (zL e).toInt = e := Int64.toInt_ofInt_of_le (by have := h.1; omega) (by have := h.2; omega)
theorem zL_of (x : Int64) : zL x.toInt = x := Int64.ofInt_toInt x
theorem zL_add (a b : Int) : zL a + zL b = zL (a + b) := (Int64.ofInt_add a b).symm
theorem zL_sub (a b : Int) : zL a - zL b = zL (a - b) := (Int64.ofInt_sub a b).symm
theorem zL_mul (a b : Int) : zL a * zL b = zL (a * b) := (Int64.ofInt_mul a b).symm
theorem zL_eq {a b : Int} (ha : in64 a) (hb : in64 b) : zL a = zL b ↔ a = b := by
  rw [← Int64.toInt_inj, zL_toInt ha, zL_toInt hb]
theorem zL_lt {a b : Int} (ha : in64 a) (hb : in64 b) : zL a < zL b ↔ a < b := by
  rw [Int64.lt_iff_toInt_lt, zL_toInt ha, zL_toInt hb]
theorem zL_le {a b : Int} (ha : in64 a) (hb : in64 b) : zL a ≤ zL b ↔ a ≤ b := by
  rw [Int64.le_iff_toInt_le, zL_toInt ha, zL_toInt hb]
theorem zL_div {a b : Int} (ha : 0 ≤ a) (ha2 : a < 9223372036854775808) (hb : 0 < b) (hb2 : b < 9223372036854775808) : zL a / zL b = zL (a / b) := by
  have h := Int64.ofInt_tdiv (a := a) (b := b) (by show (-9223372036854775808 : Int) ≤ a; omega) (by show a ≤ (9223372036854775807 : Int); omega) (by show (-9223372036854775808 : Int) ≤ b; omega) (by show b ≤ (9223372036854775807 : Int); omega)
  rw [Int.tdiv_eq_ediv_of_nonneg ha] at h
  exact h.symm
theorem zL_rem {a b : Int} (ha : 0 ≤ a) (ha2 : a < 9223372036854775808) (hb : 0 < b) (hb2 : b < 9223372036854775808) : zL a - zL a / zL b * zL b = zL (a % b) := by
  rw [zL_div ha ha2 hb hb2, zL_mul, zL_sub, Int.emod_def, Int.mul_comm]
theorem zIL {e : Int} (h : in32 e) : (zI e).toInt64 = zL e := by
  rw [← Int64.toInt_inj, Int32.toInt_toInt64, zI_toInt h, zL_toInt ⟨by omega, by omega⟩]
theorem zLI (e : Int) : (zL e).toInt32 = zI e := Int64.toInt32_ofInt
abbrev qSh : Type := Nat → Nat × Nat
abbrev qI : Type := Nat → Int → Int
abbrev qR : Type := Nat → Int → Nat
abbrev qS : Type := Nat × qSh × qI × qI × qR
abbrev qEv : Type := va_G × (ClassId × ClassId × ClassId × ClassId) × Nat
/-- f, but v at the place i of the cell a -/
def up {α : Type} (f : Nat → Int → α) (a : Nat) (i : Int) (v : α) : Nat → Int → α := fun b j => if b = a ∧ j = i then v else f b j
theorem up_eq {α : Type} (f : Nat → Int → α) (a : Nat) (i : Int) (v : α) : up f a i v a i = v := if_pos ⟨rfl, rfl⟩
theorem up_na {α : Type} (f : Nat → Int → α) {a b : Nat} (i j : Int) (v : α) (h : b ≠ a) : up f a i v b j = f b j := if_neg (fun q => h q.1)
theorem up_ni {α : Type} (f : Nat → Int → α) {a b : Nat} {i j : Int} (v : α) (h : j ≠ i) : up f a i v b j = f b j := if_neg (fun q => h q.2)
def qrf (r : Nat) : Option Nat := if r = 0 then none else some r
def qfv (ty : FieldType) (i l : Int) (r : Nat) : Value := match ty with
  | .int => .int (zI i)
  | .boolean => .int (zI i)
  | .long => .long (zL l)
  | _ => va_rf (qrf r)
def qel (E : qEv) (S : qS) (a : Nat) : va_E := match (S.2.1 a).1 with
  | 0 => .inl (E.2.1.1, (S.2.1 a).2, .inl (fun k => zI (S.2.2.1 a k)))
  | 1 => .inl (E.2.1.2.1, (S.2.1 a).2, .inr (.inl (fun k => zL (S.2.2.2.1 a k))))
  | 2 => .inl (E.2.1.2.2.1, (S.2.1 a).2, .inr (.inr (.inr (.inr (fun k => qrf (S.2.2.2.2 a k))))))
  | 3 => .inl (E.2.1.2.2.2, (S.2.1 a).2, .inr (.inr (.inr (.inr (fun k => qrf (S.2.2.2.2 a k))))))
  | c + 4 => .inr (c, (List.range (qnf c)).map (fun k => qfv (qty c k) (S.2.2.1 a k) (S.2.2.2.1 a k) (S.2.2.2.2 a k)))
def qws (E : qEv) (S : qS) : va_W := (List.range S.1).map (fun k => (E.2.2 + k, qel E S (E.2.2 + k)))
def qtys (E : qEv) : List (ClassId × FieldType) := [(E.2.1.1, .int), (E.2.1.2.1, .long), (E.2.1.2.2.1, .array .int), (E.2.1.2.2.2, .object RX3)]
/-- an address of the world -/
def qad (E : qEv) (S : qS) (a : Nat) : Prop := E.2.2 ≤ a ∧ a < E.2.2 + S.1
theorem qws_at {E : qEv} {S : qS} {a : Nat} (h : qad E S a) : (qws E S)[a - E.2.2]? = some (a, qel E S a) := by
  obtain ⟨h1, h2⟩ := h
  have e : E.2.2 + (a - E.2.2) = a := by omega
  unfold qws
  rw [List.getElem?_map, List.getElem?_range (by omega)]
  show some (E.2.2 + (a - E.2.2), qel E S (E.2.2 + (a - E.2.2))) = _
  rw [e]
/-- one cell changed: the world of the changed state -/
theorem qws_set {E : qEv} {S S' : qS} {a : Nat} {x : va_E} (h : qad E S a) (hn : S'.1 = S.1) (hx : qel E S' a = x) (ho : ∀ b, b ≠ a → qel E S' b = qel E S b) : (qws E S).set (a - E.2.2) (a, x) = qws E S' := by
  obtain ⟨h1, h2⟩ := h
  apply List.ext_getElem?
  intro k
  unfold qws
  rw [hn, List.getElem?_set, List.getElem?_map, List.getElem?_map]
  by_cases hk : k < S.1
  · rw [List.getElem?_range hk]
    by_cases e : a - E.2.2 = k
    · rw [if_pos e, if_pos (by rw [List.length_map, List.length_range]; omega)]
      have e2 : E.2.2 + k = a := by omega
      show some (a, x) = some (E.2.2 + k, qel E S' (E.2.2 + k))
      rw [e2, hx]
    · rw [if_neg e]
      show some (E.2.2 + k, qel E S (E.2.2 + k)) = some (E.2.2 + k, qel E S' (E.2.2 + k))
      rw [ho _ (by omega)]
  · rw [if_neg (by omega)]
    simp [hk]
def qD (E : qEv) (S : qS) (A : Nat → Prop) (hA : ∀ q, E.2.2 ≤ q → A q) : va_D A (qws E S) := by
  have key : ∀ (i : Nat) (p : Nat × va_E), (qws E S)[i]? = some p → p.1 = E.2.2 + i := by
    intro i p h
    unfold qws at h
    rw [List.getElem?_map] at h
    cases hi : (List.range S.1)[i]? with
    | none => rw [hi] at h; cases h
    | some j =>
      rw [hi] at h
      cases h
      have := List.getElem?_eq_some_iff.mp hi
      obtain ⟨hl, e⟩ := this
      rw [List.getElem_range] at e
      subst e
      rfl
  exact ⟨fun i j p q hi hj e => by rw [key i p hi, key j q hj] at e; omega, fun k q hk => hA _ (by rw [key k q hk]; omega)⟩
/-- what else the tables say -/
def qnest : List Cond := [.methodLinkNest RX6 19 yX5_init RX6, .methodLinkNest RX6 29 yX4_init RX6, .methodLinkNest RX4 11 yX5_init RX6, .methodLinkNest RX6 42 yX1_init RX6, .methodLinkNest RX6 52 yX0_init RX6, .methodLinkNest RX6 59 yX2_init RX6, .methodLinkNest RX6 64 yX3_init RX6]
def qKs (E : qEv) (U : State) : Prop := va_K E.1 vwCl (qtys E) U ∧ (∀ w ∈ qnest, va_Nw w U) ∧ (Cond.arrayOver (.array .int)).before #[] U = true ∧ (Cond.arrayOver (.object RX3)).before #[] U = true
def qAt (E : qEv) (S : qS) (U : State) : Prop := U.heap.size = E.2.2 + S.1 ∧ va_P E.1 vwCl (qws E S) U.heap
/-- how a walk stands: its room; its end; what else is known of its start -/
abbrev qMo : Type := Room × (List Frame → Array Value → State → State → Prop) × (State → Prop)
def qwl (M : qMD) : List Cond := Cond.code M.1 M.2.1 M.2.2.1 M.2.2.2 :: qtb
def qrm (d mc ms : Nat) : Room := { frames := d, cells := mc, slots := ms, locals := 42 * d }
abbrev qPost : Type := Option Value → qS → Prop
def qA (E : qEv) : Nat → Prop := fun q => E.2.2 ≤ q
def qQc (E : qEv) (n1 : Nat) (F : qPost) : Array Value → State → Outcome → State → Prop := fun _ st oc t => (∃ (r : Option Value) (S' : qS), oc = .returned r ∧ S'.1 = n1 ∧ F r S' ∧ va_P E.1 vwCl (qws E S') t.heap) ∧ va_F (qA E) st t
/-- a method's contract: called so in a heap S, with d calls' room, it comes back, with F of its answer and of the heap then -/
def Ct (l : Launch) (E : qEv) (d : Nat) (M : qMD) (as : List Value) (S : qS) (mc ms : Nat) (F : qPost) : Prop :=
  Met l M.1 (qwl M) (qrm d mc ms) (va_Pc as (fun U => qAt E S U ∧ qKs E U)) (qQc E (S.1 + mc) F) mc ms (qA E)
/-- what is known in a walk -/
def qB (E : qEv) (Y : qMo) (M : qMD) (p : Program) (s : State) (m : MethodId) (args : Array Value) (meth : Method) (c : Code) : Prop :=
  p.tables.exec = Jvm.exec ∧ c.code = M.2.1 ∧ c.maxLocals = M.2.2.1 ∧ meth.sig.returnType = M.2.2.2 ∧ s.vm.findClass M.1.cls = some m.cls ∧ meth.locks = false ∧ (∀ w ∈ qwl M, w.before args s = true) ∧ meth.name = M.1.name ∧ qKs E s ∧ E.2.2 ≤ s.heap.size ∧ Y.2.2 s
/-- the heap of the walk -/
def qHp (E : qEv) (S : qS) (s : State) (k : Nat) (H : Heap) (locs : List Loc) : Prop := s.heap.size + k = E.2.2 + S.1 ∧ va_P E.1 vwCl (qws E S) H ∧ va_S (qA E) s.heap H locs
/-- from here (this place, these locals, this stack, this heap) the walk comes to its end -/
def Wk (l : Launch) (E : qEv) (Y : qMo) (M : qMD) (k j : Nat) (pc : Nat) (lo : List (Nat × Value)) (st : List Value) (S : qS) : Prop :=
  ∀ (p : Program) (e : Env) (s : State) (m : MethodId) (args : Array Value) (below : List Frame) (meth : Method) (c : Code) (H : Heap) (locs : List Loc) (ls : Array Slot),
    qB E Y M p s m args meth c → qHp E S s k H locs → lv_has ls M.2.2.1 lo → W p l e Y.1 s m args below meth c H locs k j (Y.2.1 below args s) (F0 m pc ls st)
/-- the standing of a method's walk -/
def qmo (E : qEv) (d n1 mc ms : Nat) (F : qPost) : qMo := (qrm d mc ms, fun below args s => MQ below (qQc E n1 F) args s mc ms (qA E), fun _ => True)
end
section
/-! ROWS: an instruction's, over the pure heap -/
def lget : List (Nat × Value) → Nat → Option Value
  | [], _ => none
  | (j, v) :: r, i => match Nat.beq j i with
    | true => some v
    | false => lget r i
theorem lget_mem : ∀ {lo : List (Nat × Value)} {i : Nat} {v : Value}, lget lo i = some v → (i, v) ∈ lo
  | [], _, _, h => by cases h
  | (j, w) :: r, i, v, h => by
    unfold lget at h
    cases hb : Nat.beq j i with
    | true =>
      rw [hb] at h
      have e : j = i := Nat.eq_of_beq_eq_true hb
      cases h
      subst e
      exact List.mem_cons_self
    | false =>
      rw [hb] at h
      exact List.mem_cons_of_mem _ (lget_mem h)
def lcat2 : Value → Bool
  | .long _ => true
  | .double _ => true
  | _ => false
theorem lcat2_ok (v : Value) (h : lcat2 v = false) : ¬ v.category = 2 := by cases v <;> simp_all [lcat2, Value.category]
def ldrop (i : Nat) : List (Nat × Value) → List (Nat × Value)
  | [] => []
  | (j, w) :: r => match Nat.beq j i with
    | true => ldrop i r
    | false => match Nat.beq (j + 1) i, lcat2 w with
      | true, true => ldrop i r
      | _, _ => (j, w) :: ldrop i r
def lins (i : Nat) (v : Value) : List (Nat × Value) → List (Nat × Value)
  | [] => [(i, v)]
  | (j, w) :: r => match Nat.ble j i with
    | true => (j, w) :: lins i v r
    | false => (i, v) :: (j, w) :: r
theorem lins_mem {i : Nat} {v : Value} {q : Nat × Value} : ∀ {l : List (Nat × Value)}, q ∈ lins i v l → q = (i, v) ∨ q ∈ l
  | [], h => Or.inl (List.mem_singleton.mp h)
  | (j, w) :: r, h => by
    unfold lins at h
    cases hb : Nat.ble j i with
    | true =>
      rw [hb] at h
      rcases List.mem_cons.mp h with h | h
      · exact Or.inr (h ▸ List.mem_cons_self)
      · rcases lins_mem h with h | h
        · exact Or.inl h
        · exact Or.inr (List.mem_cons_of_mem _ h)
    | false =>
      rw [hb] at h
      rcases List.mem_cons.mp h with h | h
      · exact Or.inl h
      · exact Or.inr h
theorem ldrop_mem {i : Nat} {q : Nat × Value} : ∀ {l : List (Nat × Value)}, q ∈ ldrop i l → q ∈ l ∧ q.1 ≠ i ∧ ¬ (q.1 + 1 = i ∧ q.2.category = 2)
  | [], h => by cases h
  | (j, w) :: r, h => by
    unfold ldrop at h
    cases hb : Nat.beq j i with
    | true =>
      rw [hb] at h
      obtain ⟨h1, h2⟩ := ldrop_mem h
      exact ⟨List.mem_cons_of_mem _ h1, h2⟩
    | false =>
      rw [hb] at h
      have hji : j ≠ i := Nat.ne_of_beq_eq_false hb
      cases hc : Nat.beq (j + 1) i with
      | true =>
        cases hw : lcat2 w with
        | true =>
          rw [hc, hw] at h
          obtain ⟨h1, h2⟩ := ldrop_mem h
          exact ⟨List.mem_cons_of_mem _ h1, h2⟩
        | false =>
          rw [hc, hw] at h
          rcases List.mem_cons.mp h with h | h
          · subst h
            exact ⟨List.mem_cons_self, hji, fun q => lcat2_ok w hw q.2⟩
          · obtain ⟨h1, h2⟩ := ldrop_mem h
            exact ⟨List.mem_cons_of_mem _ h1, h2⟩
      | false =>
        rw [hc] at h
        have hji2 : j + 1 ≠ i := Nat.ne_of_beq_eq_false hc
        rcases List.mem_cons.mp h with h | h
        · subst h
          exact ⟨List.mem_cons_self, hji, fun q => hji2 q.1⟩
        · obtain ⟨h1, h2⟩ := ldrop_mem h
          exact ⟨List.mem_cons_of_mem _ h1, h2⟩
def lset (i : Nat) (v : Value) (lo : List (Nat × Value)) : List (Nat × Value) := lins i v (ldrop i lo)
/-- a long: its second half goes too -/
def ldrop2 (i : Nat) : List (Nat × Value) → List (Nat × Value)
  | [] => []
  | (j, w) :: r => match Nat.beq j (i + 1) with
    | true => ldrop2 i r
    | false => (j, w) :: ldrop2 i r
theorem ldrop2_mem {i : Nat} {q : Nat × Value} : ∀ {l : List (Nat × Value)}, q ∈ ldrop2 i l → q ∈ l ∧ q.1 ≠ i + 1
  | [], h => by cases h
  | (j, w) :: r, h => by
    unfold ldrop2 at h
    cases hb : Nat.beq j (i + 1) with
    | true =>
      rw [hb] at h
      obtain ⟨h1, h2⟩ := ldrop2_mem h
      exact ⟨List.mem_cons_of_mem _ h1, h2⟩
    | false =>
      rw [hb] at h
      rcases List.mem_cons.mp h with h | h
      · subst h
        exact ⟨List.mem_cons_self, Nat.ne_of_beq_eq_false hb⟩
      · obtain ⟨h1, h2⟩ := ldrop2_mem h
        exact ⟨List.mem_cons_of_mem _ h1, h2⟩
def lset2 (i : Nat) (v : Value) (lo : List (Nat × Value)) : List (Nat × Value) := lins i v (ldrop2 i (ldrop i lo))
theorem lset_has {ls : Array Slot} {nL i : Nat} {v : Value} {lo : List (Nat × Value)} (h : lv_has ls nL ((i, v) :: lo.filter (fun q => !(q.1 == i) && !(q.1 + 1 == i && q.2.category == 2)))) : lv_has ls nL (lset i v lo) := by
  refine ⟨h.1, h.2.1, fun q hq => ?_⟩
  rcases lins_mem hq with rfl | hq
  · exact h.2.2 _ List.mem_cons_self
  · obtain ⟨h1, h2, h3⟩ := ldrop_mem hq
    refine h.2.2 q (List.mem_cons_of_mem _ (List.mem_filter.mpr ⟨h1, ?_⟩))
    simp only [Bool.and_eq_true, Bool.not_eq_true', beq_eq_false_iff_ne, Bool.and_eq_false_iff, ne_eq]
    refine ⟨h2, ?_⟩
    by_cases e : q.1 + 1 = i
    · exact Or.inr (fun c => h3 ⟨e, c⟩)
    · exact Or.inl e
theorem lset2_has {ls : Array Slot} {nL i : Nat} {v : Value} {lo : List (Nat × Value)} (h : lv_has ls nL ((i, v) :: lo.filter (fun q => !(q.1 == i) && (!(q.1 == i + 1) && !(q.1 + 1 == i && q.2.category == 2))))) : lv_has ls nL (lset2 i v lo) := by
  refine ⟨h.1, h.2.1, fun q hq => ?_⟩
  rcases lins_mem hq with rfl | hq
  · exact h.2.2 _ List.mem_cons_self
  · obtain ⟨h0, h4⟩ := ldrop2_mem hq
    obtain ⟨h1, h2, h3⟩ := ldrop_mem h0
    refine h.2.2 q (List.mem_cons_of_mem _ (List.mem_filter.mpr ⟨h1, ?_⟩))
    simp only [Bool.and_eq_true, Bool.not_eq_true', beq_eq_false_iff_ne, Bool.and_eq_false_iff, ne_eq]
    refine ⟨h2, h4, ?_⟩
    by_cases e : q.1 + 1 = i
    · exact Or.inr (fun c => h3 ⟨e, c⟩)
    · exact Or.inl e
section QR
variable {l : Launch} {E : qEv} {Y : qMo} {M : qMD} {k j : Nat} {pc q : Nat} {lo : List (Nat × Value)} {st : List Value} {S : qS}
theorem wk_iconst {n : Int} (hd : decode M.2.1 pc = .ok (.iconst n, 1)) (hq : pc + 1 = q) (h : Wk l E Y M k j q lo (.int (zI n) :: st) S) : Wk l E Y M k j pc lo st S := by
  subst hq
  intro p e s m args below meth c H locs ls hB hH hl
  exact lv_iconst hB.1 hB.2.1 hd rfl (h p e s m args below meth c H locs ls hB hH hl)
theorem wk_bipush {n : Int} (hd : decode M.2.1 pc = .ok (.bipush n, 2)) (hq : pc + 2 = q) (hv : (Int8.ofInt n).toInt32 = zI n) (h : Wk l E Y M k j q lo (.int (zI n) :: st) S) : Wk l E Y M k j pc lo st S := by
  subst hq
  intro p e s m args below meth c H locs ls hB hH hl
  exact lv_bipush hB.1 hB.2.1 hd hv (h p e s m args below meth c H locs ls hB hH hl)
theorem wk_sipush {n : Int} (hd : decode M.2.1 pc = .ok (.sipush n, 3)) (hq : pc + 3 = q) (hv : (Int16.ofInt n).toInt32 = zI n) (h : Wk l E Y M k j q lo (.int (zI n) :: st) S) : Wk l E Y M k j pc lo st S := by
  subst hq
  intro p e s m args below meth c H locs ls hB hH hl
  exact lv_sipush hB.1 hB.2.1 hd hv (h p e s m args below meth c H locs ls hB hH hl)
theorem wk_lconst {n : Fin 2} {z : Int} (hd : decode M.2.1 pc = .ok (.lconst n, 1)) (hq : pc + 1 = q) (hz : Int64.ofNat (n : Nat) = zL z) (h : Wk l E Y M k j q lo (.long (zL z) :: st) S) : Wk l E Y M k j pc lo st S := by
  subst hq
  intro p e s m args below meth c H locs ls hB hH hl
  exact lv_lconst hB.1 hB.2.1 hd hz (h p e s m args below meth c H locs ls hB hH hl)
theorem wk_ldc2 {index : Nat} {z : Int} {v : Int64} (hd : decode M.2.1 pc = .ok (.ldc2_w index, 3)) (hq : pc + 3 = q) (hw : Cond.constantLong M.1.cls index v ∈ qtb) (hz : v = zL z) (h : Wk l E Y M k j q lo (.long (zL z) :: st) S) : Wk l E Y M k j pc lo st S := by
  subst hq
  subst hz
  intro p e s m args below meth c H locs ls hB hH hl
  exact lv_ldc2 hB.1 hB.2.1 hB.2.2.2.2.1 (hB.2.2.2.2.2.2.1 _ (List.mem_cons_of_mem _ hw)) hd (h p e s m args below meth c H locs ls hB hH hl)
theorem wk_iload_n {kk : Fin 4} {i : Nat} {x : Int32} (hd : decode M.2.1 pc = .ok (.iload_n kk, 1)) (hq : pc + 1 = q) (hi : (kk : Nat) = i) (hg : lget lo i = some (.int x)) (h : Wk l E Y M k j q lo (.int x :: st) S) : Wk l E Y M k j pc lo st S := by
  subst hq
  intro p e s m args below meth c H locs ls hB hH hl
  exact lv_iload_n hB.1 hB.2.1 hd hi (hl.2.2 _ (lget_mem hg)) (h p e s m args below meth c H locs ls hB hH hl)
theorem wk_iload {i : Nat} {x : Int32} (hd : decode M.2.1 pc = .ok (.iload i, 2)) (hq : pc + 2 = q) (hg : lget lo i = some (.int x)) (h : Wk l E Y M k j q lo (.int x :: st) S) : Wk l E Y M k j pc lo st S := by
  subst hq
  intro p e s m args below meth c H locs ls hB hH hl
  exact lv_iload hB.1 hB.2.1 hd (hl.2.2 _ (lget_mem hg)) (h p e s m args below meth c H locs ls hB hH hl)
theorem wk_lload_n {kk : Fin 4} {i : Nat} {x : Int64} (hd : decode M.2.1 pc = .ok (.lload_n kk, 1)) (hq : pc + 1 = q) (hi : (kk : Nat) = i) (hg : lget lo i = some (.long x)) (h : Wk l E Y M k j q lo (.long x :: st) S) : Wk l E Y M k j pc lo st S := by
  subst hq
  intro p e s m args below meth c H locs ls hB hH hl
  exact lv_lload_n hB.1 hB.2.1 hd hi (hl.2.2 _ (lget_mem hg)) (h p e s m args below meth c H locs ls hB hH hl)
theorem wk_lload {i : Nat} {x : Int64} (hd : decode M.2.1 pc = .ok (.lload i, 2)) (hq : pc + 2 = q) (hg : lget lo i = some (.long x)) (h : Wk l E Y M k j q lo (.long x :: st) S) : Wk l E Y M k j pc lo st S := by
  subst hq
  intro p e s m args below meth c H locs ls hB hH hl
  exact lv_lload hB.1 hB.2.1 hd (hl.2.2 _ (lget_mem hg)) (h p e s m args below meth c H locs ls hB hH hl)
theorem wk_aload_n {kk : Fin 4} {i a : Nat} (hd : decode M.2.1 pc = .ok (.aload_n kk, 1)) (hq : pc + 1 = q) (hi : (kk : Nat) = i) (hg : lget lo i = some (.ref a)) (h : Wk l E Y M k j q lo (.ref a :: st) S) : Wk l E Y M k j pc lo st S := by
  subst hq
  intro p e s m args below meth c H locs ls hB hH hl
  exact lv_aload_n hB.1 hB.2.1 hd hi (hl.2.2 _ (lget_mem hg)) (h p e s m args below meth c H locs ls hB hH hl)
theorem wk_aload {i a : Nat} (hd : decode M.2.1 pc = .ok (.aload i, 2)) (hq : pc + 2 = q) (hg : lget lo i = some (.ref a)) (h : Wk l E Y M k j q lo (.ref a :: st) S) : Wk l E Y M k j pc lo st S := by
  subst hq
  intro p e s m args below meth c H locs ls hB hH hl
  exact lv_aload hB.1 hB.2.1 hd (hl.2.2 _ (lget_mem hg)) (h p e s m args below meth c H locs ls hB hH hl)
theorem wk_istore_n {kk : Fin 4} {i : Nat} {x : Int32} {lo' : List (Nat × Value)} (hd : decode M.2.1 pc = .ok (.istore_n kk, 1)) (hq : pc + 1 = q) (hi : (kk : Nat) = i) (hn : i < M.2.2.1) (hs : lset i (.int x) lo = lo') (h : Wk l E Y M k j q lo' st S) : Wk l E Y M k j pc lo (.int x :: st) S := by
  subst hq
  subst hs
  intro p e s m args below meth c H locs ls hB hH hl
  exact lv_istore_n hB.1 hB.2.1 hd hi hl hn rfl (fun ls hl => h p e s m args below meth c H locs ls hB hH (lset_has hl))
theorem wk_istore {i : Nat} {x : Int32} {lo' : List (Nat × Value)} (hd : decode M.2.1 pc = .ok (.istore i, 2)) (hq : pc + 2 = q) (hn : i < M.2.2.1) (hs : lset i (.int x) lo = lo') (h : Wk l E Y M k j q lo' st S) : Wk l E Y M k j pc lo (.int x :: st) S := by
  subst hq
  subst hs
  intro p e s m args below meth c H locs ls hB hH hl
  exact lv_istore hB.1 hB.2.1 hd hl hn rfl (fun ls hl => h p e s m args below meth c H locs ls hB hH (lset_has hl))
theorem wk_astore_n {kk : Fin 4} {i a : Nat} {lo' : List (Nat × Value)} (hd : decode M.2.1 pc = .ok (.astore_n kk, 1)) (hq : pc + 1 = q) (hi : (kk : Nat) = i) (hn : i < M.2.2.1) (hs : lset i (.ref a) lo = lo') (h : Wk l E Y M k j q lo' st S) : Wk l E Y M k j pc lo (.ref a :: st) S := by
  subst hq
  subst hs
  intro p e s m args below meth c H locs ls hB hH hl
  exact lv_astore_n hB.1 hB.2.1 hd hi hl hn rfl (fun ls hl => h p e s m args below meth c H locs ls hB hH (lset_has hl))
theorem wk_astore {i a : Nat} {lo' : List (Nat × Value)} (hd : decode M.2.1 pc = .ok (.astore i, 2)) (hq : pc + 2 = q) (hn : i < M.2.2.1) (hs : lset i (.ref a) lo = lo') (h : Wk l E Y M k j q lo' st S) : Wk l E Y M k j pc lo (.ref a :: st) S := by
  subst hq
  subst hs
  intro p e s m args below meth c H locs ls hB hH hl
  exact lv_astore hB.1 hB.2.1 hd hl hn rfl (fun ls hl => h p e s m args below meth c H locs ls hB hH (lset_has hl))
theorem wk_lstore_n {kk : Fin 4} {i : Nat} {x : Int64} {lo' : List (Nat × Value)} (hd : decode M.2.1 pc = .ok (.lstore_n kk, 1)) (hq : pc + 1 = q) (hi : (kk : Nat) = i) (hn : i + 1 < M.2.2.1) (hs : lset2 i (.long x) lo = lo') (h : Wk l E Y M k j q lo' st S) : Wk l E Y M k j pc lo (.long x :: st) S := by
  subst hq
  subst hs
  intro p e s m args below meth c H locs ls hB hH hl
  exact lv_lstore_n hB.1 hB.2.1 hd hi hl hn rfl (fun ls hl => h p e s m args below meth c H locs ls hB hH (lset2_has hl))
theorem wk_lstore {i : Nat} {x : Int64} {lo' : List (Nat × Value)} (hd : decode M.2.1 pc = .ok (.lstore i, 2)) (hq : pc + 2 = q) (hn : i + 1 < M.2.2.1) (hs : lset2 i (.long x) lo = lo') (h : Wk l E Y M k j q lo' st S) : Wk l E Y M k j pc lo (.long x :: st) S := by
  subst hq
  subst hs
  intro p e s m args below meth c H locs ls hB hH hl
  exact lv_lstore hB.1 hB.2.1 hd hl hn rfl (fun ls hl => h p e s m args below meth c H locs ls hB hH (lset2_has hl))
theorem lget_at : ∀ {lo : List (Nat × Value)} {i : Nat} {v : Value}, lget lo i = some v → ∃ t : Nat, lo[t]? = some (i, v) := fun h => List.getElem?_of_mem (lget_mem h)
theorem wk_iinc {i : Nat} {n x : Int} {lo' : List (Nat × Value)} (hd : decode M.2.1 pc = .ok (.iinc i n, 3)) (hq : pc + 3 = q) (hg : lget lo i = some (.int (zI x))) (hn : i < M.2.2.1) (hs : lset i (.int (zI (x + n))) lo = lo') (h : Wk l E Y M k j q lo' st S) : Wk l E Y M k j pc lo st S := by
  subst hq
  subst hs
  intro p e s m args below meth c H locs ls hB hH hl
  obtain ⟨t, ht⟩ := lget_at hg
  exact lv_iinc (v := zI (x + n)) (k := t) hB.1 hB.2.1 hd hl ht (zI_add x n) hn rfl (fun ls hl => h p e s m args below meth c H locs ls hB hH (lset_has hl))
theorem wk_iadd {a b : Int} (hd : decode M.2.1 pc = .ok (.iadd, 1)) (hq : pc + 1 = q) (h : Wk l E Y M k j q lo (.int (zI (a + b)) :: st) S) : Wk l E Y M k j pc lo (.int (zI b) :: .int (zI a) :: st) S := by
  subst hq
  intro p e s m args below meth c H locs ls hB hH hl
  refine lv_iadd hB.1 hB.2.1 hd ?_
  rw [zI_add]
  exact h p e s m args below meth c H locs ls hB hH hl
theorem wk_isub {a b : Int} (hd : decode M.2.1 pc = .ok (.isub, 1)) (hq : pc + 1 = q) (h : Wk l E Y M k j q lo (.int (zI (a - b)) :: st) S) : Wk l E Y M k j pc lo (.int (zI b) :: .int (zI a) :: st) S := by
  subst hq
  intro p e s m args below meth c H locs ls hB hH hl
  refine lv_isub hB.1 hB.2.1 hd ?_
  rw [zI_sub]
  exact h p e s m args below meth c H locs ls hB hH hl
theorem wk_imul {a b : Int} (hd : decode M.2.1 pc = .ok (.imul, 1)) (hq : pc + 1 = q) (h : Wk l E Y M k j q lo (.int (zI (a * b)) :: st) S) : Wk l E Y M k j pc lo (.int (zI b) :: .int (zI a) :: st) S := by
  subst hq
  intro p e s m args below meth c H locs ls hB hH hl
  refine lv_imul hB.1 hB.2.1 hd ?_
  rw [zI_mul]
  exact h p e s m args below meth c H locs ls hB hH hl
theorem zI_ne0 {b : Int} (hb : 0 < b) (hb2 : b < 2147483648) : ¬ zI b = 0 := fun h => by
  have := (zI_eq (a := b) (b := 0) ⟨by omega, hb2⟩ ⟨by omega, by omega⟩).mp h
  omega
theorem wk_idiv {a b : Int} (hd : decode M.2.1 pc = .ok (.idiv, 1)) (hq : pc + 1 = q) (ha : 0 ≤ a ∧ a < 2147483648) (hb : 0 < b ∧ b < 2147483648) (h : Wk l E Y M k j q lo (.int (zI (a / b)) :: st) S) : Wk l E Y M k j pc lo (.int (zI b) :: .int (zI a) :: st) S := by
  subst hq
  intro p e s m args below meth c H locs ls hB hH hl
  refine lv_idiv hB.1 hB.2.1 hd (zI_ne0 hb.1 hb.2) ?_
  rw [zI_div ha.1 ha.2 hb.1 hb.2]
  exact h p e s m args below meth c H locs ls hB hH hl
theorem wk_irem {a b : Int} (hd : decode M.2.1 pc = .ok (.irem, 1)) (hq : pc + 1 = q) (ha : 0 ≤ a ∧ a < 2147483648) (hb : 0 < b ∧ b < 2147483648) (h : Wk l E Y M k j q lo (.int (zI (a % b)) :: st) S) : Wk l E Y M k j pc lo (.int (zI b) :: .int (zI a) :: st) S := by
  subst hq
  intro p e s m args below meth c H locs ls hB hH hl
  refine lv_irem hB.1 hB.2.1 hd (zI_ne0 hb.1 hb.2) ?_
  rw [zI_rem ha.1 ha.2 hb.1 hb.2]
  exact h p e s m args below meth c H locs ls hB hH hl
theorem zL_ne0 {b : Int} (hb : 0 < b) (hb2 : b < 9223372036854775808) : ¬ zL b = 0 := fun h => by
  have := (zL_eq (a := b) (b := 0) ⟨by omega, hb2⟩ ⟨by omega, by omega⟩).mp h
  omega
theorem wk_ladd {a b : Int} (hd : decode M.2.1 pc = .ok (.ladd, 1)) (hq : pc + 1 = q) (h : Wk l E Y M k j q lo (.long (zL (a + b)) :: st) S) : Wk l E Y M k j pc lo (.long (zL b) :: .long (zL a) :: st) S := by
  subst hq
  intro p e s m args below meth c H locs ls hB hH hl
  refine lv_ladd hB.1 hB.2.1 hd ?_
  rw [zL_add]
  exact h p e s m args below meth c H locs ls hB hH hl
theorem wk_lmul {a b : Int} (hd : decode M.2.1 pc = .ok (.lmul, 1)) (hq : pc + 1 = q) (h : Wk l E Y M k j q lo (.long (zL (a * b)) :: st) S) : Wk l E Y M k j pc lo (.long (zL b) :: .long (zL a) :: st) S := by
  subst hq
  intro p e s m args below meth c H locs ls hB hH hl
  refine lv_lmul hB.1 hB.2.1 hd ?_
  rw [zL_mul]
  exact h p e s m args below meth c H locs ls hB hH hl
theorem wk_ldiv {a b : Int} (hd : decode M.2.1 pc = .ok (.ldiv, 1)) (hq : pc + 1 = q) (ha : 0 ≤ a ∧ a < 9223372036854775808) (hb : 0 < b ∧ b < 9223372036854775808) (h : Wk l E Y M k j q lo (.long (zL (a / b)) :: st) S) : Wk l E Y M k j pc lo (.long (zL b) :: .long (zL a) :: st) S := by
  subst hq
  intro p e s m args below meth c H locs ls hB hH hl
  refine lv_ldiv hB.1 hB.2.1 hd (zL_ne0 hb.1 hb.2) ?_
  rw [zL_div ha.1 ha.2 hb.1 hb.2]
  exact h p e s m args below meth c H locs ls hB hH hl
theorem wk_lrem {a b : Int} (hd : decode M.2.1 pc = .ok (.lrem, 1)) (hq : pc + 1 = q) (ha : 0 ≤ a ∧ a < 9223372036854775808) (hb : 0 < b ∧ b < 9223372036854775808) (h : Wk l E Y M k j q lo (.long (zL (a % b)) :: st) S) : Wk l E Y M k j pc lo (.long (zL b) :: .long (zL a) :: st) S := by
  subst hq
  intro p e s m args below meth c H locs ls hB hH hl
  refine lv_lrem hB.1 hB.2.1 hd (zL_ne0 hb.1 hb.2) ?_
  rw [zL_rem ha.1 ha.2 hb.1 hb.2]
  exact h p e s m args below meth c H locs ls hB hH hl
theorem wk_i2l {a : Int} (hd : decode M.2.1 pc = .ok (.i2l, 1)) (hq : pc + 1 = q) (ha : in32 a) (h : Wk l E Y M k j q lo (.long (zL a) :: st) S) : Wk l E Y M k j pc lo (.int (zI a) :: st) S := by
  subst hq
  intro p e s m args below meth c H locs ls hB hH hl
  exact lv_i2l hB.1 hB.2.1 hd (zIL ha) (h p e s m args below meth c H locs ls hB hH hl)
theorem wk_l2i {a : Int} (hd : decode M.2.1 pc = .ok (.l2i, 1)) (hq : pc + 1 = q) (h : Wk l E Y M k j q lo (.int (zI a) :: st) S) : Wk l E Y M k j pc lo (.long (zL a) :: st) S := by
  subst hq
  intro p e s m args below meth c H locs ls hB hH hl
  exact lv_l2i hB.1 hB.2.1 hd (zLI a) (h p e s m args below meth c H locs ls hB hH hl)
end QR
end
section
/-! ROWS: branches, switches, the stack, bits -/
section QR2
variable {l : Launch} {E : qEv} {Y : qMo} {M : qMD} {k j : Nat} {pc q : Nat} {lo : List (Nat × Value)} {st : List Value} {S : qS}
theorem z_0 : (0 : Int32) = zI 0 := by decide +kernel
theorem wk_icmp_eq {a b : Int} {off : Int} {t : Nat} (hd : decode M.2.1 pc = .ok (.if_icmp .eq off, 3)) (ht : (pc : Int) + off = (t : Int)) (hq : pc + 3 = q) (ha : in32 a) (hb : in32 b) (kt : a = b → Wk l E Y M k j t lo st S) (kf : a ≠ b → Wk l E Y M k j q lo st S) : Wk l E Y M k j pc lo (.int (zI b) :: .int (zI a) :: st) S := by
  subst hq
  intro p e s m args below meth c H locs ls hB hH hl
  exact lv_icmp_eq hB.1 hB.2.1 hd ht (fun h => kt ((zI_eq ha hb).mp h) p e s m args below meth c H locs ls hB hH hl) (fun h => kf (fun e => h ((zI_eq ha hb).mpr e)) p e s m args below meth c H locs ls hB hH hl)
theorem wk_if_eq {a : Int} {off : Int} {t : Nat} (hd : decode M.2.1 pc = .ok (.ifCond .eq off, 3)) (ht : (pc : Int) + off = (t : Int)) (hq : pc + 3 = q) (ha : in32 a) (kt : a = 0 → Wk l E Y M k j t lo st S) (kf : a ≠ 0 → Wk l E Y M k j q lo st S) : Wk l E Y M k j pc lo (.int (zI a) :: st) S := by
  subst hq
  have hb : in32 0 := ⟨by omega, by omega⟩
  intro p e s m args below meth c H locs ls hB hH hl
  exact lv_if_eq hB.1 hB.2.1 hd ht (fun h => kt (by rw [z_0] at h; exact (zI_eq ha hb).mp h) p e s m args below meth c H locs ls hB hH hl) (fun h => kf (by rw [z_0] at h; exact fun e => h ((zI_eq ha hb).mpr e)) p e s m args below meth c H locs ls hB hH hl)
theorem wk_icmp_ne {a b : Int} {off : Int} {t : Nat} (hd : decode M.2.1 pc = .ok (.if_icmp .ne off, 3)) (ht : (pc : Int) + off = (t : Int)) (hq : pc + 3 = q) (ha : in32 a) (hb : in32 b) (kt : a ≠ b → Wk l E Y M k j t lo st S) (kf : a = b → Wk l E Y M k j q lo st S) : Wk l E Y M k j pc lo (.int (zI b) :: .int (zI a) :: st) S := by
  subst hq
  intro p e s m args below meth c H locs ls hB hH hl
  exact lv_icmp_ne hB.1 hB.2.1 hd ht (fun h => kt (fun e => h ((zI_eq ha hb).mpr e)) p e s m args below meth c H locs ls hB hH hl) (fun h => kf ((zI_eq ha hb).mp h) p e s m args below meth c H locs ls hB hH hl)
theorem wk_if_ne {a : Int} {off : Int} {t : Nat} (hd : decode M.2.1 pc = .ok (.ifCond .ne off, 3)) (ht : (pc : Int) + off = (t : Int)) (hq : pc + 3 = q) (ha : in32 a) (kt : a ≠ 0 → Wk l E Y M k j t lo st S) (kf : a = 0 → Wk l E Y M k j q lo st S) : Wk l E Y M k j pc lo (.int (zI a) :: st) S := by
  subst hq
  have hb : in32 0 := ⟨by omega, by omega⟩
  intro p e s m args below meth c H locs ls hB hH hl
  exact lv_if_ne hB.1 hB.2.1 hd ht (fun h => kt (by rw [z_0] at h; exact fun e => h ((zI_eq ha hb).mpr e)) p e s m args below meth c H locs ls hB hH hl) (fun h => kf (by rw [z_0] at h; exact (zI_eq ha hb).mp h) p e s m args below meth c H locs ls hB hH hl)
theorem wk_icmp_lt {a b : Int} {off : Int} {t : Nat} (hd : decode M.2.1 pc = .ok (.if_icmp .lt off, 3)) (ht : (pc : Int) + off = (t : Int)) (hq : pc + 3 = q) (ha : in32 a) (hb : in32 b) (kt : a < b → Wk l E Y M k j t lo st S) (kf : b ≤ a → Wk l E Y M k j q lo st S) : Wk l E Y M k j pc lo (.int (zI b) :: .int (zI a) :: st) S := by
  subst hq
  intro p e s m args below meth c H locs ls hB hH hl
  exact lv_icmp_lt hB.1 hB.2.1 hd ht (fun h => kt ((zI_lt ha hb).mp h) p e s m args below meth c H locs ls hB hH hl) (fun h => kf ((by have := mt (zI_lt ha hb).mpr h; omega)) p e s m args below meth c H locs ls hB hH hl)
theorem wk_if_lt {a : Int} {off : Int} {t : Nat} (hd : decode M.2.1 pc = .ok (.ifCond .lt off, 3)) (ht : (pc : Int) + off = (t : Int)) (hq : pc + 3 = q) (ha : in32 a) (kt : a < 0 → Wk l E Y M k j t lo st S) (kf : 0 ≤ a → Wk l E Y M k j q lo st S) : Wk l E Y M k j pc lo (.int (zI a) :: st) S := by
  subst hq
  have hb : in32 0 := ⟨by omega, by omega⟩
  intro p e s m args below meth c H locs ls hB hH hl
  exact lv_if_lt hB.1 hB.2.1 hd ht (fun h => kt (by rw [z_0] at h; exact (zI_lt ha hb).mp h) p e s m args below meth c H locs ls hB hH hl) (fun h => kf (by rw [z_0] at h; exact (by have := mt (zI_lt ha hb).mpr h; omega)) p e s m args below meth c H locs ls hB hH hl)
theorem wk_icmp_ge {a b : Int} {off : Int} {t : Nat} (hd : decode M.2.1 pc = .ok (.if_icmp .ge off, 3)) (ht : (pc : Int) + off = (t : Int)) (hq : pc + 3 = q) (ha : in32 a) (hb : in32 b) (kt : b ≤ a → Wk l E Y M k j t lo st S) (kf : a < b → Wk l E Y M k j q lo st S) : Wk l E Y M k j pc lo (.int (zI b) :: .int (zI a) :: st) S := by
  subst hq
  intro p e s m args below meth c H locs ls hB hH hl
  exact lv_icmp_ge hB.1 hB.2.1 hd ht (fun h => kt ((zI_le hb ha).mp h) p e s m args below meth c H locs ls hB hH hl) (fun h => kf ((by have := mt (zI_le hb ha).mpr h; omega)) p e s m args below meth c H locs ls hB hH hl)
theorem wk_if_ge {a : Int} {off : Int} {t : Nat} (hd : decode M.2.1 pc = .ok (.ifCond .ge off, 3)) (ht : (pc : Int) + off = (t : Int)) (hq : pc + 3 = q) (ha : in32 a) (kt : 0 ≤ a → Wk l E Y M k j t lo st S) (kf : a < 0 → Wk l E Y M k j q lo st S) : Wk l E Y M k j pc lo (.int (zI a) :: st) S := by
  subst hq
  have hb : in32 0 := ⟨by omega, by omega⟩
  intro p e s m args below meth c H locs ls hB hH hl
  exact lv_if_ge hB.1 hB.2.1 hd ht (fun h => kt (by rw [z_0] at h; exact (zI_le hb ha).mp h) p e s m args below meth c H locs ls hB hH hl) (fun h => kf (by rw [z_0] at h; exact (by have := mt (zI_le hb ha).mpr h; omega)) p e s m args below meth c H locs ls hB hH hl)
theorem wk_icmp_gt {a b : Int} {off : Int} {t : Nat} (hd : decode M.2.1 pc = .ok (.if_icmp .gt off, 3)) (ht : (pc : Int) + off = (t : Int)) (hq : pc + 3 = q) (ha : in32 a) (hb : in32 b) (kt : b < a → Wk l E Y M k j t lo st S) (kf : a ≤ b → Wk l E Y M k j q lo st S) : Wk l E Y M k j pc lo (.int (zI b) :: .int (zI a) :: st) S := by
  subst hq
  intro p e s m args below meth c H locs ls hB hH hl
  exact lv_icmp_gt hB.1 hB.2.1 hd ht (fun h => kt ((zI_lt hb ha).mp h) p e s m args below meth c H locs ls hB hH hl) (fun h => kf ((by have := mt (zI_lt hb ha).mpr h; omega)) p e s m args below meth c H locs ls hB hH hl)
theorem wk_if_gt {a : Int} {off : Int} {t : Nat} (hd : decode M.2.1 pc = .ok (.ifCond .gt off, 3)) (ht : (pc : Int) + off = (t : Int)) (hq : pc + 3 = q) (ha : in32 a) (kt : 0 < a → Wk l E Y M k j t lo st S) (kf : a ≤ 0 → Wk l E Y M k j q lo st S) : Wk l E Y M k j pc lo (.int (zI a) :: st) S := by
  subst hq
  have hb : in32 0 := ⟨by omega, by omega⟩
  intro p e s m args below meth c H locs ls hB hH hl
  exact lv_if_gt hB.1 hB.2.1 hd ht (fun h => kt (by rw [z_0] at h; exact (zI_lt hb ha).mp h) p e s m args below meth c H locs ls hB hH hl) (fun h => kf (by rw [z_0] at h; exact (by have := mt (zI_lt hb ha).mpr h; omega)) p e s m args below meth c H locs ls hB hH hl)
theorem wk_icmp_le {a b : Int} {off : Int} {t : Nat} (hd : decode M.2.1 pc = .ok (.if_icmp .le off, 3)) (ht : (pc : Int) + off = (t : Int)) (hq : pc + 3 = q) (ha : in32 a) (hb : in32 b) (kt : a ≤ b → Wk l E Y M k j t lo st S) (kf : b < a → Wk l E Y M k j q lo st S) : Wk l E Y M k j pc lo (.int (zI b) :: .int (zI a) :: st) S := by
  subst hq
  intro p e s m args below meth c H locs ls hB hH hl
  exact lv_icmp_le hB.1 hB.2.1 hd ht (fun h => kt ((zI_le ha hb).mp h) p e s m args below meth c H locs ls hB hH hl) (fun h => kf ((by have := mt (zI_le ha hb).mpr h; omega)) p e s m args below meth c H locs ls hB hH hl)
theorem wk_if_le {a : Int} {off : Int} {t : Nat} (hd : decode M.2.1 pc = .ok (.ifCond .le off, 3)) (ht : (pc : Int) + off = (t : Int)) (hq : pc + 3 = q) (ha : in32 a) (kt : a ≤ 0 → Wk l E Y M k j t lo st S) (kf : 0 < a → Wk l E Y M k j q lo st S) : Wk l E Y M k j pc lo (.int (zI a) :: st) S := by
  subst hq
  have hb : in32 0 := ⟨by omega, by omega⟩
  intro p e s m args below meth c H locs ls hB hH hl
  exact lv_if_le hB.1 hB.2.1 hd ht (fun h => kt (by rw [z_0] at h; exact (zI_le ha hb).mp h) p e s m args below meth c H locs ls hB hH hl) (fun h => kf (by rw [z_0] at h; exact (by have := mt (zI_le ha hb).mpr h; omega)) p e s m args below meth c H locs ls hB hH hl)
theorem wk_goto {off : Int} {t : Nat} (hd : decode M.2.1 pc = .ok (.goto off, 3)) (ht : (pc : Int) + off = (t : Int)) (h : Wk l E Y M k j t lo st S) : Wk l E Y M k j pc lo st S := by
  intro p e s m args below meth c H locs ls hB hH hl
  exact lv_goto hB.1 hB.2.1 hd ht (h p e s m args below meth c H locs ls hB hH hl)
/-- a long compare and the branch behind it -/
theorem wk_lcmp {a b : Int} (hd : decode M.2.1 pc = .ok (.lcmp, 1)) (hq : pc + 1 = q) (ha : in64 a) (hb : in64 b) (h1 : b < a → Wk l E Y M k j q lo (.int (zI 1) :: st) S) (h2 : a = b → Wk l E Y M k j q lo (.int (zI 0) :: st) S) (h3 : a < b → Wk l E Y M k j q lo (.int (zI (-1)) :: st) S) : Wk l E Y M k j pc lo (.long (zL b) :: .long (zL a) :: st) S := by
  subst hq
  intro p e s m args below meth c H locs ls hB hH hl
  refine W.lcmp hB.1 hB.2.1 hd ?_
  rcases (by omega : b < a ∨ a = b ∨ a < b) with hc | hc | hc
  · rw [show lg_cmp (zL a) (zL b) = zI 1 by unfold lg_cmp; rw [if_pos ((zL_lt hb ha).mpr hc)]; rfl]
    exact h1 hc p e s m args below meth c H locs ls hB hH hl
  · rw [show lg_cmp (zL a) (zL b) = zI 0 by subst hc; simp [lg_cmp]; rfl]
    exact h2 hc p e s m args below meth c H locs ls hB hH hl
  · rw [show lg_cmp (zL a) (zL b) = zI (-1) by
      unfold lg_cmp
      rw [if_neg (fun h => by have := (zL_lt hb ha).mp h; omega)]
      first
        | rw [if_pos ((zL_lt ha hb).mpr hc)]; rfl
        | rw [if_neg (fun h => by have := (zL_eq ha hb).mp h; omega)]; rfl]
    exact h3 hc p e s m args below meth c H locs ls hB hH hl
theorem wk_dup {v : Value} (hd : decode M.2.1 pc = .ok (.dup, 1)) (hq : pc + 1 = q) (hv : v.category = 1) (h : Wk l E Y M k j q lo (v :: v :: st) S) : Wk l E Y M k j pc lo (v :: st) S := by
  subst hq
  intro p e s m args below meth c H locs ls hB hH hl
  exact lv_dup hB.1 hB.2.1 hd hv (h p e s m args below meth c H locs ls hB hH hl)
theorem wk_dup_x1 {v w : Value} (hd : decode M.2.1 pc = .ok (.dup_x1, 1)) (hq : pc + 1 = q) (hv : v.category = 1) (hw : w.category = 1) (h : Wk l E Y M k j q lo (v :: w :: v :: st) S) : Wk l E Y M k j pc lo (v :: w :: st) S := by
  subst hq
  intro p e s m args below meth c H locs ls hB hH hl
  exact lv_dup_x1 hB.1 hB.2.1 hd hv hw (h p e s m args below meth c H locs ls hB hH hl)
theorem wk_dup2 {v w : Value} (hd : decode M.2.1 pc = .ok (.dup2, 1)) (hq : pc + 1 = q) (hv : v.category = 1) (hw : w.category = 1) (h : Wk l E Y M k j q lo (v :: w :: v :: w :: st) S) : Wk l E Y M k j pc lo (v :: w :: st) S := by
  subst hq
  intro p e s m args below meth c H locs ls hB hH hl
  exact lv_dup2_11 hB.1 hB.2.1 hd hv hw (h p e s m args below meth c H locs ls hB hH hl)
theorem wk_pop {v : Value} (hd : decode M.2.1 pc = .ok (.pop, 1)) (hq : pc + 1 = q) (hv : v.category = 1) (h : Wk l E Y M k j q lo st S) : Wk l E Y M k j pc lo (v :: st) S := by
  subst hq
  intro p e s m args below meth c H locs ls hB hH hl
  exact lv_pop hB.1 hB.2.1 hd hv (h p e s m args below meth c H locs ls hB hH hl)
/-- a byte, a short of a number -/
def zB (a : Int) : Int := ((zI a).toInt8.toInt32).toInt
def zS (a : Int) : Int := ((zI a).toInt16.toInt32).toInt
theorem wk_i2b {a : Int} (hd : decode M.2.1 pc = .ok (.i2b, 1)) (hq : pc + 1 = q) (h : Wk l E Y M k j q lo (.int (zI (zB a)) :: st) S) : Wk l E Y M k j pc lo (.int (zI a) :: st) S := by
  subst hq
  intro p e s m args below meth c H locs ls hB hH hl
  exact lv_i2b hB.1 hB.2.1 hd (zI_of _).symm (h p e s m args below meth c H locs ls hB hH hl)
theorem wk_i2s {a : Int} (hd : decode M.2.1 pc = .ok (.i2s, 1)) (hq : pc + 1 = q) (h : Wk l E Y M k j q lo (.int (zI (zS a)) :: st) S) : Wk l E Y M k j pc lo (.int (zI a) :: st) S := by
  subst hq
  intro p e s m args below meth c H locs ls hB hH hl
  exact lv_i2s hB.1 hB.2.1 hd (zI_of _).symm (h p e s m args below meth c H locs ls hB hH hl)
def zAnd (a b : Int) : Int := (zI a &&& zI b).toInt
def zOr (a b : Int) : Int := (zI a ||| zI b).toInt
def zXor (a b : Int) : Int := (zI a ^^^ zI b).toInt
def zShl (a b : Int) : Int := (zI a <<< (zI b &&& 31)).toInt
theorem wk_iand {a b : Int} (hd : decode M.2.1 pc = .ok (.iand, 1)) (hq : pc + 1 = q) (h : Wk l E Y M k j q lo (.int (zI (zAnd a b)) :: st) S) : Wk l E Y M k j pc lo (.int (zI b) :: .int (zI a) :: st) S := by
  subst hq
  intro p e s m args below meth c H locs ls hB hH hl
  refine lv_iand hB.1 hB.2.1 hd ?_
  rw [← zI_of (zI a &&& zI b)]
  exact h p e s m args below meth c H locs ls hB hH hl
theorem wk_ior {a b : Int} (hd : decode M.2.1 pc = .ok (.ior, 1)) (hq : pc + 1 = q) (h : Wk l E Y M k j q lo (.int (zI (zOr a b)) :: st) S) : Wk l E Y M k j pc lo (.int (zI b) :: .int (zI a) :: st) S := by
  subst hq
  intro p e s m args below meth c H locs ls hB hH hl
  refine lv_ior hB.1 hB.2.1 hd ?_
  rw [← zI_of (zI a ||| zI b)]
  exact h p e s m args below meth c H locs ls hB hH hl
theorem wk_ixor {a b : Int} (hd : decode M.2.1 pc = .ok (.ixor, 1)) (hq : pc + 1 = q) (h : Wk l E Y M k j q lo (.int (zI (zXor a b)) :: st) S) : Wk l E Y M k j pc lo (.int (zI b) :: .int (zI a) :: st) S := by
  subst hq
  intro p e s m args below meth c H locs ls hB hH hl
  refine lv_ixor hB.1 hB.2.1 hd ?_
  rw [← zI_of (zI a ^^^ zI b)]
  exact h p e s m args below meth c H locs ls hB hH hl
theorem wk_ishl {a b : Int} (hd : decode M.2.1 pc = .ok (.ishl, 1)) (hq : pc + 1 = q) (h : Wk l E Y M k j q lo (.int (zI (zShl a b)) :: st) S) : Wk l E Y M k j pc lo (.int (zI b) :: .int (zI a) :: st) S := by
  subst hq
  intro p e s m args below meth c H locs ls hB hH hl
  refine lv_ishl hB.1 hB.2.1 hd ?_
  rw [← zI_of (zI a <<< (zI b &&& 31))]
  exact h p e s m args below meth c H locs ls hB hH hl
theorem wk_tsIn {a : Int} {dflt lo0 hi : Int} {offs : Array Int} {len : Nat} {off : Int} {t : Nat} (hd : decode M.2.1 pc = .ok (.tableswitch dflt lo0 hi offs, len)) (ha : in32 a) (h1 : lo0 ≤ a) (h2 : a ≤ hi) (ho : offs[(a - lo0).toNat]? = some off) (ht : (pc : Int) + off = (t : Int)) (h : Wk l E Y M k j t lo st S) : Wk l E Y M k j pc lo (.int (zI a) :: st) S := by
  intro p e s m args below meth c H locs ls hB hH hl
  exact lv_tableIn hB.1 hB.2.1 hd (by rw [zI_toInt ha]; omega) (by rw [zI_toInt ha]; omega) (by rw [zI_toInt ha]; exact ho) ht (h p e s m args below meth c H locs ls hB hH hl)
theorem wk_tsOut {a : Int} {dflt lo0 hi : Int} {offs : Array Int} {len : Nat} {t : Nat} (hd : decode M.2.1 pc = .ok (.tableswitch dflt lo0 hi offs, len)) (ha : in32 a) (h1 : a < lo0 ∨ hi < a) (ht : (pc : Int) + dflt = (t : Int)) (h : Wk l E Y M k j t lo st S) : Wk l E Y M k j pc lo (.int (zI a) :: st) S := by
  intro p e s m args below meth c H locs ls hB hH hl
  exact lv_tableOut hB.1 hB.2.1 hd (by rw [zI_toInt ha]; omega) ht (h p e s m args below meth c H locs ls hB hH hl)
theorem wk_lookup {a : Int} {dflt : Int} {ps : Array (Int × Int)} {len : Nat} {off : Int} {t : Nat} (hd : decode M.2.1 pc = .ok (.lookupswitch dflt ps, len)) (ha : in32 a) (hp : (ps.toList.zip (ps.toList.drop 1)).all (fun (a, next) => a.1 < next.1) = true) (ho : Op.lookupswitch.offset ps.toList dflt a = off) (ht : (pc : Int) + off = (t : Int)) (h : Wk l E Y M k j t lo st S) : Wk l E Y M k j pc lo (.int (zI a) :: st) S := by
  intro p e s m args below meth c H locs ls hB hH hl
  exact lv_lookup hB.1 hB.2.1 hd hp (by rw [zI_toInt ha]; exact ho) ht (h p e s m args below meth c H locs ls hB hH hl)
end QR2
end
section
/-! ROWS: fields and arrays of the pure heap -/
/-- a cell of the world: base, how many cells there are, their kinds; its address, kind (0 ints, 1 longs, 2 rows of ints, 3 sheets, 4 and a class's number), size -/
def isC (b n : Nat) (sh : qSh) (a kd z : Nat) : Prop := b ≤ a ∧ a < b + n ∧ sh a = (kd, z) ∧ z < 2147483648
theorem isC.ad {E : qEv} {n : Nat} {sh : qSh} {I L : qI} {R : qR} {a kd z : Nat} (h : isC E.2.2 n sh a kd z) : qad E (n, sh, I, L, R) a := ⟨h.1, h.2.1⟩
theorem qel_i {E : qEv} {n : Nat} {sh : qSh} {I L : qI} {R : qR} {a z : Nat} (h : sh a = (0, z)) : qel E (n, sh, I, L, R) a = .inl (E.2.1.1, z, .inl (fun k => zI (I a k))) := by
  unfold qel
  simp only [h]
theorem qel_l {E : qEv} {n : Nat} {sh : qSh} {I L : qI} {R : qR} {a z : Nat} (h : sh a = (1, z)) : qel E (n, sh, I, L, R) a = .inl (E.2.1.2.1, z, .inr (.inl (fun k => zL (L a k)))) := by
  unfold qel
  simp only [h]
theorem qel_r {E : qEv} {n : Nat} {sh : qSh} {I L : qI} {R : qR} {a z : Nat} (h : sh a = (2, z)) : qel E (n, sh, I, L, R) a = .inl (E.2.1.2.2.1, z, .inr (.inr (.inr (.inr (fun k => qrf (R a k)))))) := by
  unfold qel
  simp only [h]
theorem qel_s {E : qEv} {n : Nat} {sh : qSh} {I L : qI} {R : qR} {a z : Nat} (h : sh a = (3, z)) : qel E (n, sh, I, L, R) a = .inl (E.2.1.2.2.2, z, .inr (.inr (.inr (.inr (fun k => qrf (R a k)))))) := by
  unfold qel
  simp only [h]
theorem qel_o {E : qEv} {n : Nat} {sh : qSh} {I L : qI} {R : qR} {a c z : Nat} (h : sh a = (c + 4, z)) : qel E (n, sh, I, L, R) a = .inr (c, (List.range (qnf c)).map (fun k => qfv (qty c k) (I a k) (L a k) (R a k))) := by
  unfold qel
  simp only [h]
/-- what isn't written stays -/
theorem qel_same {E : qEv} {n : Nat} {sh : qSh} {I L I' L' : qI} {R R' : qR} {b : Nat} (hI : ∀ j, I' b j = I b j) (hL : ∀ j, L' b j = L b j) (hR : ∀ j, R' b j = R b j) : qel E (n, sh, I', L', R') b = qel E (n, sh, I, L, R) b := by
  unfold qel
  simp only [hI, hL, hR]
theorem qfs_set {N f : Nat} {g g' : Nat → Value} {v : Value} (hv : g' f = v) (ho : ∀ k, k ≠ f → g' k = g k) : ((List.range N).map g).set f v = (List.range N).map g' := by
  apply List.ext_getElem?
  intro k
  rw [List.getElem?_set, List.getElem?_map, List.getElem?_map]
  by_cases e : f = k
  · subst e
    rw [if_pos rfl, List.length_map, List.length_range]
    by_cases h : f < N
    · rw [if_pos h, List.getElem?_range h]
      show some v = some (g' f)
      rw [hv]
    · rw [if_neg h]
      simp [h]
  · rw [if_neg e]
    by_cases h : k < N
    · rw [List.getElem?_range h]
      show some (g k) = some (g' k)
      rw [ho k (fun q => e q.symm)]
    · simp [h]
section QR3
variable {l : Launch} {E : qEv} {Y : qMo} {M : qMD} {k j : Nat} {pc q : Nat} {lo : List (Nat × Value)} {st : List Value} {n : Nat} {sh : qSh} {I L : qI} {R : qR}
theorem qB.K {s : State} {p : Program} {m : MethodId} {args : Array Value} {meth : Method} {c : Code} (h : qB E Y M p s m args meth c) : qKs E s := h.2.2.2.2.2.2.2.2.1
theorem qB.ts {s : State} {p : Program} {m : MethodId} {args : Array Value} {meth : Method} {c : Code} (h : qB E Y M p s m args meth c) {w : Cond} (hw : w ∈ qtb) : w.before args s = true := h.2.2.2.2.2.2.1 _ (List.mem_cons_of_mem _ hw)
theorem qB.tq {s : State} {p : Program} {m : MethodId} {args : Array Value} {meth : Method} {c : Code} (h : qB E Y M p s m args meth c) : ∀ w ∈ qtb, w.before args s = true := fun _ hw => h.ts hw
/-- a field is read -/
theorem wk_get {index ci f a z : Nat} (hd : decode M.2.1 pc = .ok (.getfield index, 3)) (hq : pc + 3 = q) (hf : qFL M.1.cls index ci f) (hs : isC E.2.2 n sh a (ci + 4) z)
    (h : Wk l E Y M k j q lo (qfv (qty ci f) (I a f) (L a f) (R a f) :: st) (n, sh, I, L, R)) : Wk l E Y M k j pc lo (.ref a :: st) (n, sh, I, L, R) := by
  subst hq
  obtain ⟨C, T, N, ⟨c1, c2, c3, c4, c5⟩, hk, hw⟩ := hf
  intro p e s m args below meth c H locs ls hB hH hl
  have he := qws_at (E := E) (S := (n, sh, I, L, R)) (isC.ad hs)
  rw [qel_o hs.2.2.1] at he
  exact va_get hB.1 hB.2.1 hB.tq c3 hB.2.2.2.2.1 hB.K.1 hH.2.1 (a - E.2.2) he c1 f hk (hB.ts hw) (fun _ h9 => h9) (by rw [List.getElem?_map, List.getElem?_range (by omega)]; rfl) hd (h p e s m args below meth c H locs ls hB hH hl)
theorem wk_getI {index ci f a z : Nat} {fi : Int} (hd : decode M.2.1 pc = .ok (.getfield index, 3)) (hq : pc + 3 = q) (hf : qFL M.1.cls index ci f) (hty : qty ci f = .int) (hfi : ((f : Nat) : Int) = fi) (hs : isC E.2.2 n sh a (ci + 4) z)
    (h : Wk l E Y M k j q lo (.int (zI (I a fi)) :: st) (n, sh, I, L, R)) : Wk l E Y M k j pc lo (.ref a :: st) (n, sh, I, L, R) := by
  subst hfi
  refine wk_get hd hq hf hs ?_
  rw [hty]
  exact h
theorem wk_getZ {index ci f a z : Nat} {fi : Int} (hd : decode M.2.1 pc = .ok (.getfield index, 3)) (hq : pc + 3 = q) (hf : qFL M.1.cls index ci f) (hty : qty ci f = .boolean) (hfi : ((f : Nat) : Int) = fi) (hs : isC E.2.2 n sh a (ci + 4) z)
    (h : Wk l E Y M k j q lo (.int (zI (I a fi)) :: st) (n, sh, I, L, R)) : Wk l E Y M k j pc lo (.ref a :: st) (n, sh, I, L, R) := by
  subst hfi
  refine wk_get hd hq hf hs ?_
  rw [hty]
  exact h
theorem wk_getJ {index ci f a z : Nat} {fi : Int} (hd : decode M.2.1 pc = .ok (.getfield index, 3)) (hq : pc + 3 = q) (hf : qFL M.1.cls index ci f) (hty : qty ci f = .long) (hfi : ((f : Nat) : Int) = fi) (hs : isC E.2.2 n sh a (ci + 4) z)
    (h : Wk l E Y M k j q lo (.long (zL (L a fi)) :: st) (n, sh, I, L, R)) : Wk l E Y M k j pc lo (.ref a :: st) (n, sh, I, L, R) := by
  subst hfi
  refine wk_get hd hq hf hs ?_
  rw [hty]
  exact h
/-- the type is a reference's -/
def qisR : FieldType → Bool
  | .object _ => true
  | .array _ => true
  | _ => false
theorem qfv_r {ty : FieldType} (h : qisR ty = true) (i l : Int) (r : Nat) : qfv ty i l r = va_rf (qrf r) := by cases ty <;> first | rfl | cases h
theorem qrf_1 {r : Nat} (h : r ≠ 0) : va_rf (qrf r) = .ref r := by unfold qrf; rw [if_neg h]; rfl
theorem wk_getR {index ci f a z r : Nat} {fi : Int} (hd : decode M.2.1 pc = .ok (.getfield index, 3)) (hq : pc + 3 = q) (hf : qFL M.1.cls index ci f) (hty : qisR (qty ci f) = true) (hfi : ((f : Nat) : Int) = fi) (hs : isC E.2.2 n sh a (ci + 4) z) (hr : R a fi = r ∧ r ≠ 0)
    (h : Wk l E Y M k j q lo (.ref r :: st) (n, sh, I, L, R)) : Wk l E Y M k j pc lo (.ref a :: st) (n, sh, I, L, R) := by
  subst hfi
  refine wk_get hd hq hf hs ?_
  rw [qfv_r hty, hr.1, qrf_1 hr.2]
  exact h
/-- a field is written -/
theorem wk_put {index ci f a z : Nat} {v : Value} {I' L' : qI} {R' : qR} (hd : decode M.2.1 pc = .ok (.putfield index, 3)) (hq : pc + 3 = q) (hf : qFL M.1.cls index ci f) (hfw : qFW ci f) (hs : isC E.2.2 n sh a (ci + 4) z)
    (hn : narrow (qty ci f) v = v) (hfit : fits (qty ci f) v = true) (hv : qfv (qty ci f) (I' a f) (L' a f) (R' a f) = v)
    (ho : ∀ g : Nat, g ≠ f → I' a g = I a g ∧ L' a g = L a g ∧ R' a g = R a g) (hb : ∀ b i, b ≠ a → I' b i = I b i ∧ L' b i = L b i ∧ R' b i = R b i)
    (h : Wk l E Y M k j q lo st (n, sh, I', L', R')) : Wk l E Y M k j pc lo (v :: .ref a :: st) (n, sh, I, L, R) := by
  subst hq
  obtain ⟨C, T, N, ⟨c1, c2, c3, c4, c5⟩, hk, hw⟩ := hf
  obtain ⟨C2, T2, N2, d1, d2⟩ := hfw
  rw [c1] at d1
  cases d1
  intro p e s m args below meth c H locs ls hB hH hl
  have he := qws_at (E := E) (S := (n, sh, I, L, R)) (isC.ad hs)
  rw [qel_o hs.2.2.1] at he
  have hset : (qws E (n, sh, I, L, R)).set (a - E.2.2) (a, .inr (ci, ((List.range (qnf ci)).map (fun k => qfv (qty ci k) (I a k) (L a k) (R a k))).set f v)) = qws E (n, sh, I', L', R') := by
    refine qws_set (isC.ad hs) rfl ?_ (fun b hb' => qel_same (fun j => (hb b j hb').1) (fun j => (hb b j hb').2.1) (fun j => (hb b j hb').2.2))
    rw [qel_o hs.2.2.1]
    refine congrArg (fun z => Sum.inr (ci, z)) (qfs_set (g := fun k : Nat => qfv (qty ci k) (I a k) (L a k) (R a k)) (g' := fun k : Nat => qfv (qty ci k) (I' a k) (L' a k) (R' a k)) (f := f) (v := v) hv (fun g hg => ?_)).symm
    obtain ⟨e1, e2, e3⟩ := ho g hg
    show qfv (qty ci g) (I' a g) (L' a g) (R' a g) = qfv (qty ci g) (I a g) (L a g) (R a g)
    rw [e1, e2, e3]
  refine va_put hB.1 hB.2.1 hB.tq c3 (qty ci) c4 c5 hB.2.2.2.2.1 hB.K.1 hH.2.1 (qD E _ (qA E) (fun _ h => h)) hH.2.2 (a - E.2.2) he c1 f hk (hB.ts hw) (fun _ h9 => h9) d2 (c4 f hk) hn hfit (by rw [List.length_map, List.length_range]; omega) hd (fun H1 locs1 hP1 _ hS1 => ?_)
  rw [hset] at hP1
  exact h p e s m args below meth c H1 locs1 ls hB ⟨hH.1, hP1, hS1⟩ hl
theorem up_o {α : Type} (I : Nat → Int → α) (a f : Nat) (v : α) : ∀ g : Nat, g ≠ f → up I a f v a g = I a g := fun g hg => up_ni I v (fun e => hg (Int.ofNat.inj e))
theorem up_b {α : Type} (I : Nat → Int → α) (a : Nat) (f : Int) (v : α) : ∀ b i, b ≠ a → up I a f v b i = I b i := fun b i hb => up_na I f i v hb
theorem wk_putI {index ci f a z : Nat} {fi v : Int} (hd : decode M.2.1 pc = .ok (.putfield index, 3)) (hq : pc + 3 = q) (hf : qFL M.1.cls index ci f) (hfw : qFW ci f) (hty : qty ci f = .int) (hfi : ((f : Nat) : Int) = fi) (hs : isC E.2.2 n sh a (ci + 4) z)
    (h : Wk l E Y M k j q lo st (n, sh, up I a fi v, L, R)) : Wk l E Y M k j pc lo (.int (zI v) :: .ref a :: st) (n, sh, I, L, R) := by
  subst hfi
  exact wk_put hd hq hf hfw hs (by rw [hty]; rfl) (by rw [hty]; rfl) (by rw [hty, up_eq]; rfl) (fun g hg => ⟨up_o I a f v g hg, rfl, rfl⟩) (fun b i hb => ⟨up_b I a f v b i hb, rfl, rfl⟩) h
theorem zI_bit {v : Int} (hv : v = 0 ∨ v = 1) : narrow .boolean (.int (zI v)) = .int (zI v) ∧ fits .boolean (.int (zI v)) = true := by
  rcases hv with rfl | rfl <;> decide +kernel
theorem wk_putZ {index ci f a z : Nat} {fi v : Int} (hd : decode M.2.1 pc = .ok (.putfield index, 3)) (hq : pc + 3 = q) (hf : qFL M.1.cls index ci f) (hfw : qFW ci f) (hty : qty ci f = .boolean) (hv : v = 0 ∨ v = 1) (hfi : ((f : Nat) : Int) = fi) (hs : isC E.2.2 n sh a (ci + 4) z)
    (h : Wk l E Y M k j q lo st (n, sh, up I a fi v, L, R)) : Wk l E Y M k j pc lo (.int (zI v) :: .ref a :: st) (n, sh, I, L, R) := by
  subst hfi
  exact wk_put hd hq hf hfw hs (by rw [hty]; exact (zI_bit hv).1) (by rw [hty]; exact (zI_bit hv).2) (by rw [hty, up_eq]; rfl) (fun g hg => ⟨up_o I a f v g hg, rfl, rfl⟩) (fun b i hb => ⟨up_b I a f v b i hb, rfl, rfl⟩) h
theorem wk_putJ {index ci f a z : Nat} {fi v : Int} (hd : decode M.2.1 pc = .ok (.putfield index, 3)) (hq : pc + 3 = q) (hf : qFL M.1.cls index ci f) (hfw : qFW ci f) (hty : qty ci f = .long) (hfi : ((f : Nat) : Int) = fi) (hs : isC E.2.2 n sh a (ci + 4) z)
    (h : Wk l E Y M k j q lo st (n, sh, I, up L a fi v, R)) : Wk l E Y M k j pc lo (.long (zL v) :: .ref a :: st) (n, sh, I, L, R) := by
  subst hfi
  exact wk_put hd hq hf hfw hs (by rw [hty]; rfl) (by rw [hty]; rfl) (by rw [hty, up_eq]; rfl) (fun g hg => ⟨rfl, up_o L a f v g hg, rfl⟩) (fun b i hb => ⟨rfl, up_b L a f v b i hb, rfl⟩) h
theorem wk_putR {index ci f a z r : Nat} {fi : Int} (hd : decode M.2.1 pc = .ok (.putfield index, 3)) (hq : pc + 3 = q) (hf : qFL M.1.cls index ci f) (hfw : qFW ci f) (hty : qisR (qty ci f) = true) (hr : r ≠ 0) (hfi : ((f : Nat) : Int) = fi) (hs : isC E.2.2 n sh a (ci + 4) z)
    (h : Wk l E Y M k j q lo st (n, sh, I, L, up R a fi r)) : Wk l E Y M k j pc lo (.ref r :: .ref a :: st) (n, sh, I, L, R) := by
  subst hfi
  refine wk_put hd hq hf hfw hs ?_ ?_ (by rw [qfv_r hty, up_eq, qrf_1 hr]) (fun g hg => ⟨rfl, rfl, up_o R a f r g hg⟩) (fun b i hb => ⟨rfl, rfl, up_b R a f r b i hb⟩) h
  · generalize qty ci f = ty at hty ⊢
    cases ty <;> first | rfl | cases hty
  · generalize qty ci f = ty at hty ⊢
    cases ty <;> first | rfl | cases hty
/-- arrays of ints -/
theorem wk_iald {a z : Nat} {i : Int} (hd : decode M.2.1 pc = .ok (.iaload, 1)) (hq : pc + 1 = q) (hs : isC E.2.2 n sh a 0 z) (hi : 0 ≤ i ∧ i < (z : Int))
    (h : Wk l E Y M k j q lo (.int (zI (I a i)) :: st) (n, sh, I, L, R)) : Wk l E Y M k j pc lo (.int (zI i) :: .ref a :: st) (n, sh, I, L, R) := by
  subst hq
  have h31 : i < 2147483648 := by have := hs.2.2.2; omega
  intro p e s m args below meth c H locs ls hB hH hl
  have he := qws_at (E := E) (S := (n, sh, I, L, R)) (isC.ad hs)
  rw [qel_i hs.2.2.1] at he
  refine va_iald hB.1 hB.2.1 hB.K.1 hH.2.1 (a - E.2.2) 0 he rfl (zI_vp hi h31) hd ?_
  show W _ _ _ _ _ _ _ _ _ _ _ _ _ _ _ (F0 m (pc + 1) ls (.int (zI (I a (((zI i).toNatClampNeg : Nat) : Int))) :: st))
  rw [zI_cl hi.1 h31]
  exact h p e s m args below meth c H locs ls hB hH hl
theorem wk_iast {a z : Nat} {i v : Int} (hd : decode M.2.1 pc = .ok (.iastore, 1)) (hq : pc + 1 = q) (hs : isC E.2.2 n sh a 0 z) (hi : 0 ≤ i ∧ i < (z : Int))
    (h : Wk l E Y M k j q lo st (n, sh, up I a i v, L, R)) : Wk l E Y M k j pc lo (.int (zI v) :: .int (zI i) :: .ref a :: st) (n, sh, I, L, R) := by
  subst hq
  have h31 : i < 2147483648 := by have := hs.2.2.2; omega
  intro p e s m args below meth c H locs ls hB hH hl
  have he := qws_at (E := E) (S := (n, sh, I, L, R)) (isC.ad hs)
  rw [qel_i hs.2.2.1] at he
  have hset : (qws E (n, sh, I, L, R)).set (a - E.2.2) (a, .inl (E.2.1.1, z, .inl (upd (fun k : Nat => zI (I a k)) (zI i).toNatClampNeg (zI v)))) = qws E (n, sh, up I a i v, L, R) := by
    refine qws_set (isC.ad hs) rfl ?_ (fun b hb => qel_same (fun j => up_b I a i v b j hb) (fun _ => rfl) (fun _ => rfl))
    rw [qel_i hs.2.2.1]
    refine congrArg (fun f => Sum.inl (E.2.1.1, z, Sum.inl f)) (funext fun g => ?_)
    have hc := zI_cl hi.1 h31
    by_cases e : g = (zI i).toNatClampNeg
    · rw [show upd (fun k : Nat => zI (I a k)) (zI i).toNatClampNeg (zI v) g = zI v from if_pos e, e, hc, up_eq]
    · rw [show upd (fun k : Nat => zI (I a k)) (zI i).toNatClampNeg (zI v) g = zI (I a g) from if_neg e, up_ni I v (fun h => e (by omega))]
  refine va_iast hB.1 hB.2.1 hB.K.1 hH.2.1 (qD E _ (qA E) (fun _ h => h)) hH.2.2 (a - E.2.2) 0 he rfl (zI_vp hi h31) hd (fun H1 locs1 hP1 _ hS1 => ?_)
  rw [hset] at hP1
  exact h p e s m args below meth c H1 locs1 ls hB ⟨hH.1, hP1, hS1⟩ hl
theorem wk_lald {a z : Nat} {i : Int} (hd : decode M.2.1 pc = .ok (.laload, 1)) (hq : pc + 1 = q) (hs : isC E.2.2 n sh a 1 z) (hi : 0 ≤ i ∧ i < (z : Int))
    (h : Wk l E Y M k j q lo (.long (zL (L a i)) :: st) (n, sh, I, L, R)) : Wk l E Y M k j pc lo (.int (zI i) :: .ref a :: st) (n, sh, I, L, R) := by
  subst hq
  have h31 : i < 2147483648 := by have := hs.2.2.2; omega
  intro p e s m args below meth c H locs ls hB hH hl
  have he := qws_at (E := E) (S := (n, sh, I, L, R)) (isC.ad hs)
  rw [qel_l hs.2.2.1] at he
  refine va_lald hB.1 hB.2.1 hB.K.1 hH.2.1 (a - E.2.2) 1 he rfl (zI_vp hi h31) hd ?_
  show W _ _ _ _ _ _ _ _ _ _ _ _ _ _ _ (F0 m (pc + 1) ls (.long (zL (L a (((zI i).toNatClampNeg : Nat) : Int))) :: st))
  rw [zI_cl hi.1 h31]
  exact h p e s m args below meth c H locs ls hB hH hl
theorem wk_last {a z : Nat} {i v : Int} (hd : decode M.2.1 pc = .ok (.lastore, 1)) (hq : pc + 1 = q) (hs : isC E.2.2 n sh a 1 z) (hi : 0 ≤ i ∧ i < (z : Int))
    (h : Wk l E Y M k j q lo st (n, sh, I, up L a i v, R)) : Wk l E Y M k j pc lo (.long (zL v) :: .int (zI i) :: .ref a :: st) (n, sh, I, L, R) := by
  subst hq
  have h31 : i < 2147483648 := by have := hs.2.2.2; omega
  intro p e s m args below meth c H locs ls hB hH hl
  have he := qws_at (E := E) (S := (n, sh, I, L, R)) (isC.ad hs)
  rw [qel_l hs.2.2.1] at he
  have hset : (qws E (n, sh, I, L, R)).set (a - E.2.2) (a, .inl (E.2.1.2.1, z, .inr (.inl (vp_updL (fun k : Nat => zL (L a k)) (zI i).toNatClampNeg (zL v))))) = qws E (n, sh, I, up L a i v, R) := by
    refine qws_set (isC.ad hs) rfl ?_ (fun b hb => qel_same (fun _ => rfl) (fun j => up_b L a i v b j hb) (fun _ => rfl))
    rw [qel_l hs.2.2.1]
    refine congrArg (fun f => Sum.inl (E.2.1.2.1, z, Sum.inr (Sum.inl f))) (funext fun g => ?_)
    have hc := zI_cl hi.1 h31
    by_cases e : g = (zI i).toNatClampNeg
    · rw [show vp_updL (fun k : Nat => zL (L a k)) (zI i).toNatClampNeg (zL v) g = zL v from if_pos e, e, hc, up_eq]
    · rw [show vp_updL (fun k : Nat => zL (L a k)) (zI i).toNatClampNeg (zL v) g = zL (L a g) from if_neg e, up_ni L v (fun h => e (by omega))]
  refine va_last hB.1 hB.2.1 hB.K.1 hH.2.1 (qD E _ (qA E) (fun _ h => h)) hH.2.2 (a - E.2.2) 1 he rfl (zI_vp hi h31) hd (fun H1 locs1 hP1 _ hS1 => ?_)
  rw [hset] at hP1
  exact h p e s m args below meth c H1 locs1 ls hB ⟨hH.1, hP1, hS1⟩ hl
/-- rows of rows of ints, of sheets -/
theorem wk_aald2 {a z r : Nat} {i : Int} (hd : decode M.2.1 pc = .ok (.aaload, 1)) (hq : pc + 1 = q) (hs : isC E.2.2 n sh a 2 z) (hi : 0 ≤ i ∧ i < (z : Int)) (hr : R a i = r ∧ r ≠ 0)
    (h : Wk l E Y M k j q lo (.ref r :: st) (n, sh, I, L, R)) : Wk l E Y M k j pc lo (.int (zI i) :: .ref a :: st) (n, sh, I, L, R) := by
  subst hq
  have h31 : i < 2147483648 := by have := hs.2.2.2; omega
  intro p e s m args below meth c H locs ls hB hH hl
  have he := qws_at (E := E) (S := (n, sh, I, L, R)) (isC.ad hs)
  rw [qel_r hs.2.2.1] at he
  have hv := zI_vp hi h31
  have hlt : (zI i).toNatClampNeg < z := Nat.not_le.mp fun q => hv (Or.inr q)
  refine W.aald (v := va_rf (qrf (R a (((zI i).toNatClampNeg : Nat) : Int)))) (ty := .array .int) hB.1 hB.2.1 (hH.2.1 _ _ he) ((hB.K.1.2 2 _ rfl).1 z (fun j => va_rf (qrf (R a j)))) rfl (fun q => by cases q) (by show ¬ (zI i < 0 ∨ (arrV _ _ _).slots.size ≤ _); rw [arrV_size]; exact hv) (by show (arrV _ _ _).slots[_]? = _; rw [arrV_read _ _ hlt]) rfl rfl hd ?_
  rw [zI_cl hi.1 h31, hr.1, qrf_1 hr.2]
  exact h p e s m args below meth c H locs ls hB hH hl
theorem wk_aald3 {a z r : Nat} {i : Int} (hd : decode M.2.1 pc = .ok (.aaload, 1)) (hq : pc + 1 = q) (hs : isC E.2.2 n sh a 3 z) (hi : 0 ≤ i ∧ i < (z : Int)) (hr : R a i = r ∧ r ≠ 0)
    (h : Wk l E Y M k j q lo (.ref r :: st) (n, sh, I, L, R)) : Wk l E Y M k j pc lo (.int (zI i) :: .ref a :: st) (n, sh, I, L, R) := by
  subst hq
  have h31 : i < 2147483648 := by have := hs.2.2.2; omega
  intro p e s m args below meth c H locs ls hB hH hl
  have he := qws_at (E := E) (S := (n, sh, I, L, R)) (isC.ad hs)
  rw [qel_s hs.2.2.1] at he
  refine va_aldq hB.1 hB.2.1 hB.K.1 hH.2.1 (a - E.2.2) 3 he rfl (zI_vp hi h31) hd ?_
  rw [zI_cl hi.1 h31, hr.1, qrf_1 hr.2]
  exact h p e s m args below meth c H locs ls hB hH hl
theorem wk_alen {a z kd : Nat} (hd : decode M.2.1 pc = .ok (.arraylength, 1)) (hq : pc + 1 = q) (hs : isC E.2.2 n sh a kd z) (hk : kd < 2)
    (h : Wk l E Y M k j q lo (.int (zI z) :: st) (n, sh, I, L, R)) : Wk l E Y M k j pc lo (.ref a :: st) (n, sh, I, L, R) := by
  subst hq
  intro p e s m args below meth c H locs ls hB hH hl
  have he := qws_at (E := E) (S := (n, sh, I, L, R)) (isC.ad hs)
  rcases (by omega : kd = 0 ∨ kd = 1) with rfl | rfl
  · rw [qel_i hs.2.2.1] at he
    exact va_alen hB.1 hB.2.1 hB.K.1 hH.2.1 (a - E.2.2) 0 he rfl rfl hd (h p e s m args below meth c H locs ls hB hH hl)
  · rw [qel_l hs.2.2.1] at he
    exact va_alen hB.1 hB.2.1 hB.K.1 hH.2.1 (a - E.2.2) 1 he rfl rfl hd (h p e s m args below meth c H locs ls hB hH hl)
end QR3
end
section
/-! ROWS: a method's start and end, calls -/
theorem qwl_good (M : qMD) (hM : qMok M) (M' : qMD) : GoodIn (qwl M') (qwl M) := by
  intro w hw
  rcases List.mem_cons.mp hw with rfl | hw
  · exact ⟨List.mem_cons_of_mem _ hM.1, Or.inl rfl⟩
  · exact ⟨List.mem_cons_of_mem _ hw, good_of_word (qtb_good hw)⟩
section QR4
variable {l : Launch} {E : qEv} {Y : qMo} {M : qMD} {k j : Nat} {pc q : Nat} {lo : List (Nat × Value)} {st : List Value} {S : qS}
theorem arrayOver_mv {ty : FieldType} {s U : State} (hW : s.vm.Alike U.vm) (h : (Cond.arrayOver ty).before #[] s = true) : (Cond.arrayOver ty).before #[] U = true := by
  have h1 : (Cond.arrayOver ty).before #[] (s.setVm U.vm) = true := by rw [Cond.arrayOver_setVmC hW]; exact h
  first
    | exact h1
    | (cases ty <;> exact h1)
    | (simp only [Cond.before, Cond.holds, Cond.value] at h1 ⊢; exact h1)
theorem qKs.warm {s U : State} (hW : s.WarmedH U.vm) (h : qKs E s) : qKs E U := by
  refine ⟨va_K.moved hW.alike h.1, fun w hw => ?_, arrayOver_mv hW.alike h.2.2.1, arrayOver_mv hW.alike h.2.2.2⟩
  have h1 := h.2.1 w hw
  unfold qnest at hw
  simp only [List.mem_cons, List.not_mem_nil, or_false] at hw
  rcases hw with rfl | rfl | rfl | rfl | rfl | rfl | rfl <;> exact va_Nw.warmM hW h1
theorem qKs.same {s U : State} (hv : s.vm = U.vm) (h : qKs E s) : qKs E U := by
  refine ⟨va_K.moved (by rw [hv]; exact Vm.Alike.refl _) h.1, fun w hw => ?_, arrayOver_mv (by rw [hv]; exact Vm.Alike.refl _) h.2.2.1, arrayOver_mv (by rw [hv]; exact Vm.Alike.refl _) h.2.2.2⟩
  have h1 := h.2.1 w hw
  unfold qnest at hw
  simp only [List.mem_cons, List.not_mem_nil, or_false] at hw
  rcases hw with rfl | rfl | rfl | rfl | rfl | rfl | rfl <;> exact va_Nw.same rfl hv h1
theorem qblind {as : List Value} : FrameBlind (va_Pc as (fun U => qAt E S U ∧ qKs E U)) := fun a U g mk h => ⟨h.1, h.2.1, qKs.same (s := U) (U := U.calling g mk a) rfl h.2.2⟩
/-- a method's contract, by its walk -/
theorem Ct.of {d mc ms : Nat} {as : List Value} {F : qPost} {lo : List (Nat × Value)} (hM : qMok M) (hlen : (lg_sl as).length ≤ M.2.2.1) (hlo : lv_args 0 as = lo) (h : Wk l E (qmo E d (S.1 + mc) mc ms F) M 0 0 0 lo [] S) : Ct l E d M as S mc ms F := by
  subst hlo
  refine Met.ofW (cc := M.2.1) (maxL := M.2.2.1) (ret := M.2.2.2) (ws' := qtb) hM.2.2.1 rfl ?_
  intro p e s m args below meth c s₁ B hml hv
  obtain ⟨rfl, ⟨hsz, hP⟩, hK⟩ := hv
  have hl := lv_entry as (n := M.2.2.1) hlen
  rw [lg_entry_eq]
  exact h p e s m as.toArray below meth c s.heap [] _ ⟨B.exec, B.bytes, hml, B.returns, findClass_of_methodNamed B.named, B.notSynchronized, atoms_spec (ws := qwl M) B.pre, (name_of_methodNamed B.named B.method).1, hK, by omega, trivial⟩ ⟨by rw [hsz]; rfl, hP, va_S.rf⟩ hl
theorem qmo_end {d n1 mc ms : Nat} {F : qPost} {p : Program} {e : Env} {s : State} {m : MethodId} {args : Array Value} {below : List Frame} {meth : Method} {c : Code} {H : Heap} {locs : List Loc} (hH : qHp E S s k H locs) {r : Option Value} (hF : F r S) (hn : S.1 = n1) : ∀ t : State, t.heap = H → s.WarmedH t.vm → qQc E n1 F args s (.returned r) t :=
  fun t ht _ => ⟨⟨r, S, rfl, hn, hF, by rw [ht]; exact hH.2.1⟩, hH.2.2.F ht⟩
theorem wk_ret {d n1 mc ms : Nat} {F : qPost} (hd : decode M.2.1 pc = .ok (.return_, 1)) (hr : M.2.2.2 = none) (hk : k ≤ mc ∧ j ≤ ms) (hn : S.1 = n1) (hF : F none S) : Wk l E (qmo E d n1 mc ms F) M k j pc lo [] S := by
  intro p e s m args below meth c H locs ls hB hH hl
  exact W.widen hk.1 hk.2 (W.vret hB.1 hB.2.1 (hB.2.2.2.1.trans hr) (qmo_end (d := d) (mc := mc) (ms := ms) (e := e) (p := p) (m := m) (below := below) (meth := meth) (c := c) hH hF hn) (fun q hq => hH.2.2.2.2 q hq) hd hB.2.2.2.2.2.1)
theorem wk_iret {d n1 mc ms : Nat} {F : qPost} {v : Int} (hd : decode M.2.1 pc = .ok (.ireturn, 1)) (hr : M.2.2.2 = some .int) (hk : k ≤ mc ∧ j ≤ ms) (hn : S.1 = n1) (hF : F (some (.int (zI v))) S) : Wk l E (qmo E d n1 mc ms F) M k j pc lo [.int (zI v)] S := by
  intro p e s m args below meth c H locs ls hB hH hl
  exact W.widen hk.1 hk.2 (W.iret hB.1 hB.2.1 (hB.2.2.2.1.trans hr) (qmo_end (d := d) (mc := mc) (ms := ms) (e := e) (p := p) (m := m) (below := below) (meth := meth) (c := c) hH hF hn) (fun q hq => hH.2.2.2.2 q hq) hd hB.2.2.2.2.2.1)
theorem wk_zret {d n1 mc ms : Nat} {F : qPost} {v : Int} (hd : decode M.2.1 pc = .ok (.ireturn, 1)) (hr : M.2.2.2 = some .boolean) (hv : v = 0 ∨ v = 1) (hk : k ≤ mc ∧ j ≤ ms) (hn : S.1 = n1) (hF : F (some (.int (zI v))) S) : Wk l E (qmo E d n1 mc ms F) M k j pc lo [.int (zI v)] S := by
  intro p e s m args below meth c H locs ls hB hH hl
  exact W.widen hk.1 hk.2 (W.zret hB.1 hB.2.1 (hB.2.2.2.1.trans hr) (zI_bit hv).1 (qmo_end (d := d) (mc := mc) (ms := ms) (e := e) (p := p) (m := m) (below := below) (meth := meth) (c := c) hH hF hn) (fun q hq => hH.2.2.2.2 q hq) hd hB.2.2.2.2.2.1)
theorem wk_lret {d n1 mc ms : Nat} {F : qPost} {v : Int} (hd : decode M.2.1 pc = .ok (.lreturn, 1)) (hr : M.2.2.2 = some .long) (hk : k ≤ mc ∧ j ≤ ms) (hn : S.1 = n1) (hF : F (some (.long (zL v))) S) : Wk l E (qmo E d n1 mc ms F) M k j pc lo [.long (zL v)] S := by
  intro p e s m args below meth c H locs ls hB hH hl
  exact W.widen hk.1 hk.2 (W.lret hB.1 hB.2.1 (hB.2.2.2.1.trans hr) (qmo_end (d := d) (mc := mc) (ms := ms) (e := e) (p := p) (m := m) (below := below) (meth := meth) (c := c) hH hF hn) (fun q hq => hH.2.2.2.2 q hq) hd hB.2.2.2.2.2.1)
/-- how many cells there are is known -/
theorem wk_size {p : Program} {e : Env} {R : Room} {s : State} {m : MethodId} {args : Array Value} {below : List Frame} {meth : Method} {c : Code} {H : Heap} {locs : List Loc} {Q : State → Prop} {g : JFrame} (hbs : E.2.2 ≤ s.heap.size) (hH : qHp E S s k H locs)
    (h : H.size = E.2.2 + S.1 → W p l e R s m args below meth c H locs k j Q g) : W p l e R s m args below meth c H locs k j Q g := by
  intro T hT X
  have h1 := X.heapSize
  rw [hT] at h1
  have h2 := hH.1
  have h3 : E.2.2 + S.1 ≤ H.size := by
    by_cases h0 : S.1 = 0
    · have := hH.2.2.1
      omega
    · have h4 := qws_at (E := E) (S := S) (a := E.2.2 + (S.1 - 1)) ⟨by omega, by omega⟩
      have h5 := (hH.2.1 _ _ h4).lt
      have h6 : E.2.2 + (S.1 - 1) < H.size := h5
      omega
  exact h (by omega) T hT X
/-- the room that a call wants -/
def qRo (Y : qMo) (Mc : qMD) (d k j mc ms : Nat) : Prop := d + 1 ≤ Y.1.frames ∧ 8 + (Mc.2.2.1 + 11) + 42 * d ≤ Y.1.locals ∧ k + mc ≤ Y.1.cells ∧ j + ms ≤ Y.1.slots
theorem qRo_m {Mc : qMD} {d d' n1 k j mc ms mc' ms' : Nat} {F : qPost} (hM : qMok Mc) (hd : d + 1 ≤ d') (hk : k + mc ≤ mc') (hj : j + ms ≤ ms') : qRo (qmo E d' n1 mc' ms' F) Mc d k j mc ms := by
  have h := hM.2.2.2.2
  refine ⟨hd, ?_, hk, hj⟩
  show _ ≤ 42 * d'
  omega
/-- behind a call: what came back -/
def qpush (r : Option Value) (st : List Value) : List Value := r.toList ++ st
theorem wk_back {mc ms : Nat} {F : qPost} {p : Program} {e : Env} {s : State} {m : MethodId} {args : Array Value} {below : List Frame} {meth : Method} {c : Code} {H : Heap} {locs : List Loc} {ls : Array Slot} {g : JFrame} {a : Array Value}
    (hB : qB E Y M p s m args meth c) (hH : qHp E S s k H locs) (hl : lv_has ls M.2.2.1 lo) (hg : g = F0 m pc ls g.stack)
    (hr : va_Run p l e Y.1 s m args below meth c H locs k j mc ms g st (qQc E (S.1 + mc) F a) (qA E))
    (kk : ∀ r S', F r S' → S'.1 = S.1 + mc → Wk l E Y M (k + mc) (j + ms) (pc + 3) lo (qpush r st) S') : W p l e Y.1 s m args below meth c H locs k j (Y.2.1 below args s) g := by
  intro T hT X
  obtain ⟨v, st₀, t, T', L', h0, X', hL, e1, e2, ⟨⟨r, S', hv, hn, hF, hP'⟩, hz, hk'⟩, stp⟩ := hr T hT X
  cases hv
  rw [h0] at hz hk'
  have hW := kk v S' hF hn p e s m args below meth c T'.heap (locs ++ L') ls hB ⟨by have := hH.1; omega, by rw [e1]; exact hP', Nat.le_trans hH.2.2.1 (by rw [e1]; exact hz), fun q h1 h2 => by rw [e1, hk' q (Nat.lt_of_lt_of_le h1 hH.2.2.1) h2]; exact hH.2.2.2.1 q h1 h2, fun q hq => by
      rcases List.mem_append.mp hq with h | h
      · exact hH.2.2.2.2 q h
      · exact hL q h⟩ hl
  rw [hg] at stp ⊢
  obtain ⟨t2, a1, b1⟩ := hW T' rfl X'
  exact ⟨t2, stp t2 a1, b1⟩
theorem wk_inv {index cnt d a mc ms c4 z : Nat} {Mc : qMD} {As : List Value} {F : qPost} (hd : decode M.2.1 pc = .ok (.invokevirtual index, 3)) (hq : pc + 3 = q) (hl : qVL M.1.cls index Mc cnt) (hcnt : As.length = cnt)
    (hcls : ∃ T N, vwCl[c4]? = some (Mc.1.cls, T, N)) (hs : isC E.2.2 S.1 S.2.1 a (c4 + 4) z) (hC : Ct l E d Mc (.ref a :: As) S mc ms F) (hro : qRo Y Mc d k j mc ms) (hw : (st.map fun v => v.category).sum ≤ 8)
    (kk : ∀ r S', F r S' → S'.1 = S.1 + mc → Wk l E Y M (k + mc) (j + ms) q lo (qpush r st) S') : Wk l E Y M k j pc lo (As.reverse ++ .ref a :: st) S := by
  subst hq
  obtain ⟨hM, hml, hin, hsel, hdesc⟩ := hl
  intro p e s m args below meth c H locs ls hB hH hlv
  refine wk_size hB.2.2.2.2.2.2.2.2.2.1 hH (fun hsz => ?_)
  obtain ⟨TC, NC, hcl⟩ := hcls
  have hb0 := hB.1
  have hgood : GoodIn (qwl M) (wsV M.1.cls index Mc.1.cls Mc.1 (qwl Mc)) := by
    intro w hw
    unfold wsV at hw
    rcases List.mem_append.mp hw with h | h
    · simp only [List.mem_cons, List.not_mem_nil, or_false] at h
      rcases h with rfl | rfl | rfl | rfl
      · exact ⟨List.mem_cons_of_mem _ hml, good_of_word (qtb_good hml)⟩
      · exact ⟨List.mem_cons_of_mem _ hin, good_of_word (qtb_good hin)⟩
      · exact ⟨List.mem_cons_of_mem _ hsel, good_of_word (qtb_good hsel)⟩
      · exact ⟨List.mem_cons_of_mem _ hM.2.1, good_of_word (qtb_good hM.2.1)⟩
    · exact qwl_good Mc hM M w h
  have cw : CallW Y.1 s args M.1.cls Mc.1.cls index Mc.1 Mc.2.1 Mc.2.2.1 Mc.2.2.2 (qwl Mc) (qrm d mc ms) mc ms cnt :=
    cwV cnt hB.2.2.2.2.2.2.1 hgood rfl rfl rfl ⟨rfl, hM.2.2.2.1.1, hM.2.2.2.1.2, hdesc⟩ ⟨hro.1, hro.2.1⟩
  have he := qws_at (E := E) (S := S) (a := a) ⟨hs.1, hs.2.1⟩
  obtain ⟨n0, sh0, I0, L0, R0⟩ := S
  rw [qel_o hs.2.2.1] at he
  have hrecv := va_recv hB.K.1 hH.2.1 hcl he
  refine wk_back (st := st) hB hH hlv rfl (va_runV (As := As) (rest := st) ⟨hB.1, hB.2.1, hB.2.2.1, hB.2.2.2.2.1, hB.2.2.2.2.2.2.1⟩ hC cw ⟨qblind, hrecv, fun U hU hW => ⟨rfl, ⟨by rw [hU]; exact hsz, by rw [hU]; exact hH.2.1⟩, hB.K.warm hW⟩⟩ rfl hcnt hlv.1 rfl (lv_room hw) hd ⟨hro.2.2.1, hro.2.2.2⟩) kk
theorem wk_ins {index cnt d mc ms : Nat} {Mc : qMD} {As : List Value} {F : qPost} (hd : decode M.2.1 pc = .ok (.invokestatic index, 3)) (hq : pc + 3 = q) (hl : qSL M.1.cls index Mc cnt) (hcnt : As.length = cnt)
    (hC : Ct l E d Mc As S mc ms F) (hro : qRo Y Mc d k j mc ms) (hw : (st.map fun v => v.category).sum ≤ 8)
    (kk : ∀ r S', F r S' → S'.1 = S.1 + mc → Wk l E Y M (k + mc) (j + ms) q lo (qpush r st) S') : Wk l E Y M k j pc lo (As.reverse ++ st) S := by
  subst hq
  obtain ⟨hM, hml, hstat, hdesc⟩ := hl
  intro p e s m args below meth c H locs ls hB hH hlv
  refine wk_size hB.2.2.2.2.2.2.2.2.2.1 hH (fun hsz => ?_)
  have cw : CallB Y.1 s args M.1.cls index Mc.1 Mc.2.1 Mc.2.2.1 Mc.2.2.2 (qwl Mc) (qrm d mc ms) mc ms cnt ∧ (Cond.static Mc.1).before args s = true :=
    ⟨callB_of cnt hB.2.2.2.2.2.2.1 (qwl_good Mc hM M) rfl rfl rfl (hB.ts hM.2.1) (hB.ts hml) ⟨hM.2.2.2.1.1, hM.2.2.2.1.2, hdesc⟩ ⟨hro.1, hro.2.1⟩, hB.ts hstat⟩
  refine wk_back (st := st) hB hH hlv rfl (va_runS (As := As) (rest := st) ⟨hB.1, hB.2.1, hB.2.2.1, hB.2.2.2.2.1, hB.2.2.2.2.2.2.1⟩ hC cw ⟨qblind, fun U hU hW => ⟨rfl, ⟨by rw [hU]; exact hsz, by rw [hU]; exact hH.2.1⟩, hB.K.warm hW⟩⟩ rfl hcnt hlv.1 rfl (lv_room hw) hd ⟨hro.2.2.1, hro.2.2.2⟩) kk
end QR4
end
section
/-! ROWS: calls that make no cell, by their arguments and answers; arraycopy, min, max -/
def qV (n : Nat) (sh : qSh) (G : qI → qI → qR → Prop) : qPost := fun r S' => ∃ I' L' R', r = none ∧ S' = (n, sh, I', L', R') ∧ G I' L' R'
def qZ (n : Nat) (sh : qSh) (G : Int → qI → qI → qR → Prop) : qPost := fun r S' => ∃ v I' L' R', r = some (.int (zI v)) ∧ S' = (n, sh, I', L', R') ∧ G v I' L' R'
def qJ (n : Nat) (sh : qSh) (G : Int → qI → qI → qR → Prop) : qPost := fun r S' => ∃ v I' L' R', r = some (.long (zL v)) ∧ S' = (n, sh, I', L', R') ∧ G v I' L' R'
/-- an answer, and nothing is written -/
def qP (n : Nat) (sh : qSh) (I L : qI) (R : qR) (P : Int → Prop) : qPost := qZ n sh (fun v I' L' R' => I' = I ∧ L' = L ∧ R' = R ∧ P v)
def cpI (I : qI) (a b : Nat) (i j m : Int) : qI := fun c x => if c = b ∧ j ≤ x ∧ x < j + m then I a (i + (x - j)) else I c x
section QR5
variable {l : Launch} {E : qEv} {Y : qMo} {M : qMD} {k j : Nat} {pc q : Nat} {lo : List (Nat × Value)} {st : List Value} {n : Nat} {sh : qSh} {I L : qI} {R : qR}
theorem wk_cV0 {index d a c4 z : Nat} {Mc : qMD} {G : qI → qI → qR → Prop} (hd : decode M.2.1 pc = .ok (.invokevirtual index, 3)) (hq : pc + 3 = q) (hl : qVL M.1.cls index Mc 0) (hcls : ∃ T N, vwCl[c4]? = some (Mc.1.cls, T, N)) (hs : isC E.2.2 n sh a (c4 + 4) z)
    (hC : Ct l E d Mc (.ref a :: []) (n, sh, I, L, R) 0 0 (qV n sh G)) (hro : qRo Y Mc d k j 0 0) (hw : (st.map fun v => v.category).sum ≤ 8) (kk : ∀ I' L' R', G I' L' R' → Wk l E Y M k j q lo st (n, sh, I', L', R')) : Wk l E Y M k j pc lo (.ref a :: st) (n, sh, I, L, R) := by
  refine wk_inv (As := []) hd hq hl rfl hcls hs hC hro hw (fun r S' hF _ => ?_)
  obtain ⟨I', L', R', rfl, rfl, hG⟩ := hF
  exact kk I' L' R' hG
theorem wk_cZ0 {index d a c4 z : Nat} {Mc : qMD} {G : Int → qI → qI → qR → Prop} (hd : decode M.2.1 pc = .ok (.invokevirtual index, 3)) (hq : pc + 3 = q) (hl : qVL M.1.cls index Mc 0) (hcls : ∃ T N, vwCl[c4]? = some (Mc.1.cls, T, N)) (hs : isC E.2.2 n sh a (c4 + 4) z)
    (hC : Ct l E d Mc (.ref a :: []) (n, sh, I, L, R) 0 0 (qZ n sh G)) (hro : qRo Y Mc d k j 0 0) (hw : (st.map fun v => v.category).sum ≤ 8) (kk : ∀ v I' L' R', G v I' L' R' → Wk l E Y M k j q lo (.int (zI v) :: st) (n, sh, I', L', R')) : Wk l E Y M k j pc lo (.ref a :: st) (n, sh, I, L, R) := by
  refine wk_inv (As := []) hd hq hl rfl hcls hs hC hro hw (fun r S' hF _ => ?_)
  obtain ⟨v, I', L', R', rfl, rfl, hG⟩ := hF
  exact kk v I' L' R' hG
theorem wk_cJ0 {index d a c4 z : Nat} {Mc : qMD} {G : Int → qI → qI → qR → Prop} (hd : decode M.2.1 pc = .ok (.invokevirtual index, 3)) (hq : pc + 3 = q) (hl : qVL M.1.cls index Mc 0) (hcls : ∃ T N, vwCl[c4]? = some (Mc.1.cls, T, N)) (hs : isC E.2.2 n sh a (c4 + 4) z)
    (hC : Ct l E d Mc (.ref a :: []) (n, sh, I, L, R) 0 0 (qJ n sh G)) (hro : qRo Y Mc d k j 0 0) (hw : (st.map fun v => v.category).sum ≤ 8) (kk : ∀ v I' L' R', G v I' L' R' → Wk l E Y M k j q lo (.long (zL v) :: st) (n, sh, I', L', R')) : Wk l E Y M k j pc lo (.ref a :: st) (n, sh, I, L, R) := by
  refine wk_inv (As := []) hd hq hl rfl hcls hs hC hro hw (fun r S' hF _ => ?_)
  obtain ⟨v, I', L', R', rfl, rfl, hG⟩ := hF
  exact kk v I' L' R' hG
theorem wk_cP0 {index d a c4 z : Nat} {Mc : qMD} {P : Int → Prop} (hd : decode M.2.1 pc = .ok (.invokevirtual index, 3)) (hq : pc + 3 = q) (hl : qVL M.1.cls index Mc 0) (hcls : ∃ T N, vwCl[c4]? = some (Mc.1.cls, T, N)) (hs : isC E.2.2 n sh a (c4 + 4) z)
    (hC : Ct l E d Mc (.ref a :: []) (n, sh, I, L, R) 0 0 (qP n sh I L R P)) (hro : qRo Y Mc d k j 0 0) (hw : (st.map fun v => v.category).sum ≤ 8) (kk : ∀ v, P v → Wk l E Y M k j q lo (.int (zI v) :: st) (n, sh, I, L, R)) : Wk l E Y M k j pc lo (.ref a :: st) (n, sh, I, L, R) := by
  refine wk_inv (As := []) hd hq hl rfl hcls hs hC hro hw (fun r S' hF _ => ?_)
  obtain ⟨v, I', L', R', rfl, rfl, rfl, rfl, rfl, hG⟩ := hF
  exact kk v hG
theorem wk_cV1 {index d a c4 z : Nat} {Mc : qMD} {v1 : Value} {G : qI → qI → qR → Prop} (hd : decode M.2.1 pc = .ok (.invokevirtual index, 3)) (hq : pc + 3 = q) (hl : qVL M.1.cls index Mc 1) (hcls : ∃ T N, vwCl[c4]? = some (Mc.1.cls, T, N)) (hs : isC E.2.2 n sh a (c4 + 4) z)
    (hC : Ct l E d Mc (.ref a :: [v1]) (n, sh, I, L, R) 0 0 (qV n sh G)) (hro : qRo Y Mc d k j 0 0) (hw : (st.map fun v => v.category).sum ≤ 8) (kk : ∀ I' L' R', G I' L' R' → Wk l E Y M k j q lo st (n, sh, I', L', R')) : Wk l E Y M k j pc lo (v1 :: .ref a :: st) (n, sh, I, L, R) := by
  refine wk_inv (As := [v1]) hd hq hl rfl hcls hs hC hro hw (fun r S' hF _ => ?_)
  obtain ⟨I', L', R', rfl, rfl, hG⟩ := hF
  exact kk I' L' R' hG
theorem wk_sV1 {index d : Nat} {Mc : qMD} {v1 : Value} {G : qI → qI → qR → Prop} (hd : decode M.2.1 pc = .ok (.invokestatic index, 3)) (hq : pc + 3 = q) (hl : qSL M.1.cls index Mc 1)
    (hC : Ct l E d Mc [v1] (n, sh, I, L, R) 0 0 (qV n sh G)) (hro : qRo Y Mc d k j 0 0) (hw : (st.map fun v => v.category).sum ≤ 8) (kk : ∀ I' L' R', G I' L' R' → Wk l E Y M k j q lo st (n, sh, I', L', R')) : Wk l E Y M k j pc lo (v1 :: st) (n, sh, I, L, R) := by
  refine wk_ins (As := [v1]) hd hq hl rfl hC hro hw (fun r S' hF _ => ?_)
  obtain ⟨I', L', R', rfl, rfl, hG⟩ := hF
  exact kk I' L' R' hG
theorem wk_cZ1 {index d a c4 z : Nat} {Mc : qMD} {v1 : Value} {G : Int → qI → qI → qR → Prop} (hd : decode M.2.1 pc = .ok (.invokevirtual index, 3)) (hq : pc + 3 = q) (hl : qVL M.1.cls index Mc 1) (hcls : ∃ T N, vwCl[c4]? = some (Mc.1.cls, T, N)) (hs : isC E.2.2 n sh a (c4 + 4) z)
    (hC : Ct l E d Mc (.ref a :: [v1]) (n, sh, I, L, R) 0 0 (qZ n sh G)) (hro : qRo Y Mc d k j 0 0) (hw : (st.map fun v => v.category).sum ≤ 8) (kk : ∀ v I' L' R', G v I' L' R' → Wk l E Y M k j q lo (.int (zI v) :: st) (n, sh, I', L', R')) : Wk l E Y M k j pc lo (v1 :: .ref a :: st) (n, sh, I, L, R) := by
  refine wk_inv (As := [v1]) hd hq hl rfl hcls hs hC hro hw (fun r S' hF _ => ?_)
  obtain ⟨v, I', L', R', rfl, rfl, hG⟩ := hF
  exact kk v I' L' R' hG
theorem wk_sZ1 {index d : Nat} {Mc : qMD} {v1 : Value} {G : Int → qI → qI → qR → Prop} (hd : decode M.2.1 pc = .ok (.invokestatic index, 3)) (hq : pc + 3 = q) (hl : qSL M.1.cls index Mc 1)
    (hC : Ct l E d Mc [v1] (n, sh, I, L, R) 0 0 (qZ n sh G)) (hro : qRo Y Mc d k j 0 0) (hw : (st.map fun v => v.category).sum ≤ 8) (kk : ∀ v I' L' R', G v I' L' R' → Wk l E Y M k j q lo (.int (zI v) :: st) (n, sh, I', L', R')) : Wk l E Y M k j pc lo (v1 :: st) (n, sh, I, L, R) := by
  refine wk_ins (As := [v1]) hd hq hl rfl hC hro hw (fun r S' hF _ => ?_)
  obtain ⟨v, I', L', R', rfl, rfl, hG⟩ := hF
  exact kk v I' L' R' hG
theorem wk_cJ1 {index d a c4 z : Nat} {Mc : qMD} {v1 : Value} {G : Int → qI → qI → qR → Prop} (hd : decode M.2.1 pc = .ok (.invokevirtual index, 3)) (hq : pc + 3 = q) (hl : qVL M.1.cls index Mc 1) (hcls : ∃ T N, vwCl[c4]? = some (Mc.1.cls, T, N)) (hs : isC E.2.2 n sh a (c4 + 4) z)
    (hC : Ct l E d Mc (.ref a :: [v1]) (n, sh, I, L, R) 0 0 (qJ n sh G)) (hro : qRo Y Mc d k j 0 0) (hw : (st.map fun v => v.category).sum ≤ 8) (kk : ∀ v I' L' R', G v I' L' R' → Wk l E Y M k j q lo (.long (zL v) :: st) (n, sh, I', L', R')) : Wk l E Y M k j pc lo (v1 :: .ref a :: st) (n, sh, I, L, R) := by
  refine wk_inv (As := [v1]) hd hq hl rfl hcls hs hC hro hw (fun r S' hF _ => ?_)
  obtain ⟨v, I', L', R', rfl, rfl, hG⟩ := hF
  exact kk v I' L' R' hG
theorem wk_sJ1 {index d : Nat} {Mc : qMD} {v1 : Value} {G : Int → qI → qI → qR → Prop} (hd : decode M.2.1 pc = .ok (.invokestatic index, 3)) (hq : pc + 3 = q) (hl : qSL M.1.cls index Mc 1)
    (hC : Ct l E d Mc [v1] (n, sh, I, L, R) 0 0 (qJ n sh G)) (hro : qRo Y Mc d k j 0 0) (hw : (st.map fun v => v.category).sum ≤ 8) (kk : ∀ v I' L' R', G v I' L' R' → Wk l E Y M k j q lo (.long (zL v) :: st) (n, sh, I', L', R')) : Wk l E Y M k j pc lo (v1 :: st) (n, sh, I, L, R) := by
  refine wk_ins (As := [v1]) hd hq hl rfl hC hro hw (fun r S' hF _ => ?_)
  obtain ⟨v, I', L', R', rfl, rfl, hG⟩ := hF
  exact kk v I' L' R' hG
theorem wk_cP1 {index d a c4 z : Nat} {Mc : qMD} {v1 : Value} {P : Int → Prop} (hd : decode M.2.1 pc = .ok (.invokevirtual index, 3)) (hq : pc + 3 = q) (hl : qVL M.1.cls index Mc 1) (hcls : ∃ T N, vwCl[c4]? = some (Mc.1.cls, T, N)) (hs : isC E.2.2 n sh a (c4 + 4) z)
    (hC : Ct l E d Mc (.ref a :: [v1]) (n, sh, I, L, R) 0 0 (qP n sh I L R P)) (hro : qRo Y Mc d k j 0 0) (hw : (st.map fun v => v.category).sum ≤ 8) (kk : ∀ v, P v → Wk l E Y M k j q lo (.int (zI v) :: st) (n, sh, I, L, R)) : Wk l E Y M k j pc lo (v1 :: .ref a :: st) (n, sh, I, L, R) := by
  refine wk_inv (As := [v1]) hd hq hl rfl hcls hs hC hro hw (fun r S' hF _ => ?_)
  obtain ⟨v, I', L', R', rfl, rfl, rfl, rfl, rfl, hG⟩ := hF
  exact kk v hG
theorem wk_sP1 {index d : Nat} {Mc : qMD} {v1 : Value} {P : Int → Prop} (hd : decode M.2.1 pc = .ok (.invokestatic index, 3)) (hq : pc + 3 = q) (hl : qSL M.1.cls index Mc 1)
    (hC : Ct l E d Mc [v1] (n, sh, I, L, R) 0 0 (qP n sh I L R P)) (hro : qRo Y Mc d k j 0 0) (hw : (st.map fun v => v.category).sum ≤ 8) (kk : ∀ v, P v → Wk l E Y M k j q lo (.int (zI v) :: st) (n, sh, I, L, R)) : Wk l E Y M k j pc lo (v1 :: st) (n, sh, I, L, R) := by
  refine wk_ins (As := [v1]) hd hq hl rfl hC hro hw (fun r S' hF _ => ?_)
  obtain ⟨v, I', L', R', rfl, rfl, rfl, rfl, rfl, hG⟩ := hF
  exact kk v hG
theorem wk_cV2 {index d a c4 z : Nat} {Mc : qMD} {v1 v2 : Value} {G : qI → qI → qR → Prop} (hd : decode M.2.1 pc = .ok (.invokevirtual index, 3)) (hq : pc + 3 = q) (hl : qVL M.1.cls index Mc 2) (hcls : ∃ T N, vwCl[c4]? = some (Mc.1.cls, T, N)) (hs : isC E.2.2 n sh a (c4 + 4) z)
    (hC : Ct l E d Mc (.ref a :: [v1, v2]) (n, sh, I, L, R) 0 0 (qV n sh G)) (hro : qRo Y Mc d k j 0 0) (hw : (st.map fun v => v.category).sum ≤ 8) (kk : ∀ I' L' R', G I' L' R' → Wk l E Y M k j q lo st (n, sh, I', L', R')) : Wk l E Y M k j pc lo (v2 :: v1 :: .ref a :: st) (n, sh, I, L, R) := by
  refine wk_inv (As := [v1, v2]) hd hq hl rfl hcls hs hC hro hw (fun r S' hF _ => ?_)
  obtain ⟨I', L', R', rfl, rfl, hG⟩ := hF
  exact kk I' L' R' hG
theorem wk_sV2 {index d : Nat} {Mc : qMD} {v1 v2 : Value} {G : qI → qI → qR → Prop} (hd : decode M.2.1 pc = .ok (.invokestatic index, 3)) (hq : pc + 3 = q) (hl : qSL M.1.cls index Mc 2)
    (hC : Ct l E d Mc [v1, v2] (n, sh, I, L, R) 0 0 (qV n sh G)) (hro : qRo Y Mc d k j 0 0) (hw : (st.map fun v => v.category).sum ≤ 8) (kk : ∀ I' L' R', G I' L' R' → Wk l E Y M k j q lo st (n, sh, I', L', R')) : Wk l E Y M k j pc lo (v2 :: v1 :: st) (n, sh, I, L, R) := by
  refine wk_ins (As := [v1, v2]) hd hq hl rfl hC hro hw (fun r S' hF _ => ?_)
  obtain ⟨I', L', R', rfl, rfl, hG⟩ := hF
  exact kk I' L' R' hG
theorem wk_cZ2 {index d a c4 z : Nat} {Mc : qMD} {v1 v2 : Value} {G : Int → qI → qI → qR → Prop} (hd : decode M.2.1 pc = .ok (.invokevirtual index, 3)) (hq : pc + 3 = q) (hl : qVL M.1.cls index Mc 2) (hcls : ∃ T N, vwCl[c4]? = some (Mc.1.cls, T, N)) (hs : isC E.2.2 n sh a (c4 + 4) z)
    (hC : Ct l E d Mc (.ref a :: [v1, v2]) (n, sh, I, L, R) 0 0 (qZ n sh G)) (hro : qRo Y Mc d k j 0 0) (hw : (st.map fun v => v.category).sum ≤ 8) (kk : ∀ v I' L' R', G v I' L' R' → Wk l E Y M k j q lo (.int (zI v) :: st) (n, sh, I', L', R')) : Wk l E Y M k j pc lo (v2 :: v1 :: .ref a :: st) (n, sh, I, L, R) := by
  refine wk_inv (As := [v1, v2]) hd hq hl rfl hcls hs hC hro hw (fun r S' hF _ => ?_)
  obtain ⟨v, I', L', R', rfl, rfl, hG⟩ := hF
  exact kk v I' L' R' hG
theorem wk_sZ2 {index d : Nat} {Mc : qMD} {v1 v2 : Value} {G : Int → qI → qI → qR → Prop} (hd : decode M.2.1 pc = .ok (.invokestatic index, 3)) (hq : pc + 3 = q) (hl : qSL M.1.cls index Mc 2)
    (hC : Ct l E d Mc [v1, v2] (n, sh, I, L, R) 0 0 (qZ n sh G)) (hro : qRo Y Mc d k j 0 0) (hw : (st.map fun v => v.category).sum ≤ 8) (kk : ∀ v I' L' R', G v I' L' R' → Wk l E Y M k j q lo (.int (zI v) :: st) (n, sh, I', L', R')) : Wk l E Y M k j pc lo (v2 :: v1 :: st) (n, sh, I, L, R) := by
  refine wk_ins (As := [v1, v2]) hd hq hl rfl hC hro hw (fun r S' hF _ => ?_)
  obtain ⟨v, I', L', R', rfl, rfl, hG⟩ := hF
  exact kk v I' L' R' hG
theorem wk_cJ2 {index d a c4 z : Nat} {Mc : qMD} {v1 v2 : Value} {G : Int → qI → qI → qR → Prop} (hd : decode M.2.1 pc = .ok (.invokevirtual index, 3)) (hq : pc + 3 = q) (hl : qVL M.1.cls index Mc 2) (hcls : ∃ T N, vwCl[c4]? = some (Mc.1.cls, T, N)) (hs : isC E.2.2 n sh a (c4 + 4) z)
    (hC : Ct l E d Mc (.ref a :: [v1, v2]) (n, sh, I, L, R) 0 0 (qJ n sh G)) (hro : qRo Y Mc d k j 0 0) (hw : (st.map fun v => v.category).sum ≤ 8) (kk : ∀ v I' L' R', G v I' L' R' → Wk l E Y M k j q lo (.long (zL v) :: st) (n, sh, I', L', R')) : Wk l E Y M k j pc lo (v2 :: v1 :: .ref a :: st) (n, sh, I, L, R) := by
  refine wk_inv (As := [v1, v2]) hd hq hl rfl hcls hs hC hro hw (fun r S' hF _ => ?_)
  obtain ⟨v, I', L', R', rfl, rfl, hG⟩ := hF
  exact kk v I' L' R' hG
theorem wk_sJ2 {index d : Nat} {Mc : qMD} {v1 v2 : Value} {G : Int → qI → qI → qR → Prop} (hd : decode M.2.1 pc = .ok (.invokestatic index, 3)) (hq : pc + 3 = q) (hl : qSL M.1.cls index Mc 2)
    (hC : Ct l E d Mc [v1, v2] (n, sh, I, L, R) 0 0 (qJ n sh G)) (hro : qRo Y Mc d k j 0 0) (hw : (st.map fun v => v.category).sum ≤ 8) (kk : ∀ v I' L' R', G v I' L' R' → Wk l E Y M k j q lo (.long (zL v) :: st) (n, sh, I', L', R')) : Wk l E Y M k j pc lo (v2 :: v1 :: st) (n, sh, I, L, R) := by
  refine wk_ins (As := [v1, v2]) hd hq hl rfl hC hro hw (fun r S' hF _ => ?_)
  obtain ⟨v, I', L', R', rfl, rfl, hG⟩ := hF
  exact kk v I' L' R' hG
theorem wk_cP2 {index d a c4 z : Nat} {Mc : qMD} {v1 v2 : Value} {P : Int → Prop} (hd : decode M.2.1 pc = .ok (.invokevirtual index, 3)) (hq : pc + 3 = q) (hl : qVL M.1.cls index Mc 2) (hcls : ∃ T N, vwCl[c4]? = some (Mc.1.cls, T, N)) (hs : isC E.2.2 n sh a (c4 + 4) z)
    (hC : Ct l E d Mc (.ref a :: [v1, v2]) (n, sh, I, L, R) 0 0 (qP n sh I L R P)) (hro : qRo Y Mc d k j 0 0) (hw : (st.map fun v => v.category).sum ≤ 8) (kk : ∀ v, P v → Wk l E Y M k j q lo (.int (zI v) :: st) (n, sh, I, L, R)) : Wk l E Y M k j pc lo (v2 :: v1 :: .ref a :: st) (n, sh, I, L, R) := by
  refine wk_inv (As := [v1, v2]) hd hq hl rfl hcls hs hC hro hw (fun r S' hF _ => ?_)
  obtain ⟨v, I', L', R', rfl, rfl, rfl, rfl, rfl, hG⟩ := hF
  exact kk v hG
theorem wk_sP2 {index d : Nat} {Mc : qMD} {v1 v2 : Value} {P : Int → Prop} (hd : decode M.2.1 pc = .ok (.invokestatic index, 3)) (hq : pc + 3 = q) (hl : qSL M.1.cls index Mc 2)
    (hC : Ct l E d Mc [v1, v2] (n, sh, I, L, R) 0 0 (qP n sh I L R P)) (hro : qRo Y Mc d k j 0 0) (hw : (st.map fun v => v.category).sum ≤ 8) (kk : ∀ v, P v → Wk l E Y M k j q lo (.int (zI v) :: st) (n, sh, I, L, R)) : Wk l E Y M k j pc lo (v2 :: v1 :: st) (n, sh, I, L, R) := by
  refine wk_ins (As := [v1, v2]) hd hq hl rfl hC hro hw (fun r S' hF _ => ?_)
  obtain ⟨v, I', L', R', rfl, rfl, rfl, rfl, rfl, hG⟩ := hF
  exact kk v hG
theorem wk_cV3 {index d a c4 z : Nat} {Mc : qMD} {v1 v2 v3 : Value} {G : qI → qI → qR → Prop} (hd : decode M.2.1 pc = .ok (.invokevirtual index, 3)) (hq : pc + 3 = q) (hl : qVL M.1.cls index Mc 3) (hcls : ∃ T N, vwCl[c4]? = some (Mc.1.cls, T, N)) (hs : isC E.2.2 n sh a (c4 + 4) z)
    (hC : Ct l E d Mc (.ref a :: [v1, v2, v3]) (n, sh, I, L, R) 0 0 (qV n sh G)) (hro : qRo Y Mc d k j 0 0) (hw : (st.map fun v => v.category).sum ≤ 8) (kk : ∀ I' L' R', G I' L' R' → Wk l E Y M k j q lo st (n, sh, I', L', R')) : Wk l E Y M k j pc lo (v3 :: v2 :: v1 :: .ref a :: st) (n, sh, I, L, R) := by
  refine wk_inv (As := [v1, v2, v3]) hd hq hl rfl hcls hs hC hro hw (fun r S' hF _ => ?_)
  obtain ⟨I', L', R', rfl, rfl, hG⟩ := hF
  exact kk I' L' R' hG
theorem wk_sV3 {index d : Nat} {Mc : qMD} {v1 v2 v3 : Value} {G : qI → qI → qR → Prop} (hd : decode M.2.1 pc = .ok (.invokestatic index, 3)) (hq : pc + 3 = q) (hl : qSL M.1.cls index Mc 3)
    (hC : Ct l E d Mc [v1, v2, v3] (n, sh, I, L, R) 0 0 (qV n sh G)) (hro : qRo Y Mc d k j 0 0) (hw : (st.map fun v => v.category).sum ≤ 8) (kk : ∀ I' L' R', G I' L' R' → Wk l E Y M k j q lo st (n, sh, I', L', R')) : Wk l E Y M k j pc lo (v3 :: v2 :: v1 :: st) (n, sh, I, L, R) := by
  refine wk_ins (As := [v1, v2, v3]) hd hq hl rfl hC hro hw (fun r S' hF _ => ?_)
  obtain ⟨I', L', R', rfl, rfl, hG⟩ := hF
  exact kk I' L' R' hG
theorem wk_cZ3 {index d a c4 z : Nat} {Mc : qMD} {v1 v2 v3 : Value} {G : Int → qI → qI → qR → Prop} (hd : decode M.2.1 pc = .ok (.invokevirtual index, 3)) (hq : pc + 3 = q) (hl : qVL M.1.cls index Mc 3) (hcls : ∃ T N, vwCl[c4]? = some (Mc.1.cls, T, N)) (hs : isC E.2.2 n sh a (c4 + 4) z)
    (hC : Ct l E d Mc (.ref a :: [v1, v2, v3]) (n, sh, I, L, R) 0 0 (qZ n sh G)) (hro : qRo Y Mc d k j 0 0) (hw : (st.map fun v => v.category).sum ≤ 8) (kk : ∀ v I' L' R', G v I' L' R' → Wk l E Y M k j q lo (.int (zI v) :: st) (n, sh, I', L', R')) : Wk l E Y M k j pc lo (v3 :: v2 :: v1 :: .ref a :: st) (n, sh, I, L, R) := by
  refine wk_inv (As := [v1, v2, v3]) hd hq hl rfl hcls hs hC hro hw (fun r S' hF _ => ?_)
  obtain ⟨v, I', L', R', rfl, rfl, hG⟩ := hF
  exact kk v I' L' R' hG
theorem wk_sZ3 {index d : Nat} {Mc : qMD} {v1 v2 v3 : Value} {G : Int → qI → qI → qR → Prop} (hd : decode M.2.1 pc = .ok (.invokestatic index, 3)) (hq : pc + 3 = q) (hl : qSL M.1.cls index Mc 3)
    (hC : Ct l E d Mc [v1, v2, v3] (n, sh, I, L, R) 0 0 (qZ n sh G)) (hro : qRo Y Mc d k j 0 0) (hw : (st.map fun v => v.category).sum ≤ 8) (kk : ∀ v I' L' R', G v I' L' R' → Wk l E Y M k j q lo (.int (zI v) :: st) (n, sh, I', L', R')) : Wk l E Y M k j pc lo (v3 :: v2 :: v1 :: st) (n, sh, I, L, R) := by
  refine wk_ins (As := [v1, v2, v3]) hd hq hl rfl hC hro hw (fun r S' hF _ => ?_)
  obtain ⟨v, I', L', R', rfl, rfl, hG⟩ := hF
  exact kk v I' L' R' hG
theorem wk_cJ3 {index d a c4 z : Nat} {Mc : qMD} {v1 v2 v3 : Value} {G : Int → qI → qI → qR → Prop} (hd : decode M.2.1 pc = .ok (.invokevirtual index, 3)) (hq : pc + 3 = q) (hl : qVL M.1.cls index Mc 3) (hcls : ∃ T N, vwCl[c4]? = some (Mc.1.cls, T, N)) (hs : isC E.2.2 n sh a (c4 + 4) z)
    (hC : Ct l E d Mc (.ref a :: [v1, v2, v3]) (n, sh, I, L, R) 0 0 (qJ n sh G)) (hro : qRo Y Mc d k j 0 0) (hw : (st.map fun v => v.category).sum ≤ 8) (kk : ∀ v I' L' R', G v I' L' R' → Wk l E Y M k j q lo (.long (zL v) :: st) (n, sh, I', L', R')) : Wk l E Y M k j pc lo (v3 :: v2 :: v1 :: .ref a :: st) (n, sh, I, L, R) := by
  refine wk_inv (As := [v1, v2, v3]) hd hq hl rfl hcls hs hC hro hw (fun r S' hF _ => ?_)
  obtain ⟨v, I', L', R', rfl, rfl, hG⟩ := hF
  exact kk v I' L' R' hG
theorem wk_sJ3 {index d : Nat} {Mc : qMD} {v1 v2 v3 : Value} {G : Int → qI → qI → qR → Prop} (hd : decode M.2.1 pc = .ok (.invokestatic index, 3)) (hq : pc + 3 = q) (hl : qSL M.1.cls index Mc 3)
    (hC : Ct l E d Mc [v1, v2, v3] (n, sh, I, L, R) 0 0 (qJ n sh G)) (hro : qRo Y Mc d k j 0 0) (hw : (st.map fun v => v.category).sum ≤ 8) (kk : ∀ v I' L' R', G v I' L' R' → Wk l E Y M k j q lo (.long (zL v) :: st) (n, sh, I', L', R')) : Wk l E Y M k j pc lo (v3 :: v2 :: v1 :: st) (n, sh, I, L, R) := by
  refine wk_ins (As := [v1, v2, v3]) hd hq hl rfl hC hro hw (fun r S' hF _ => ?_)
  obtain ⟨v, I', L', R', rfl, rfl, hG⟩ := hF
  exact kk v I' L' R' hG
theorem wk_cP3 {index d a c4 z : Nat} {Mc : qMD} {v1 v2 v3 : Value} {P : Int → Prop} (hd : decode M.2.1 pc = .ok (.invokevirtual index, 3)) (hq : pc + 3 = q) (hl : qVL M.1.cls index Mc 3) (hcls : ∃ T N, vwCl[c4]? = some (Mc.1.cls, T, N)) (hs : isC E.2.2 n sh a (c4 + 4) z)
    (hC : Ct l E d Mc (.ref a :: [v1, v2, v3]) (n, sh, I, L, R) 0 0 (qP n sh I L R P)) (hro : qRo Y Mc d k j 0 0) (hw : (st.map fun v => v.category).sum ≤ 8) (kk : ∀ v, P v → Wk l E Y M k j q lo (.int (zI v) :: st) (n, sh, I, L, R)) : Wk l E Y M k j pc lo (v3 :: v2 :: v1 :: .ref a :: st) (n, sh, I, L, R) := by
  refine wk_inv (As := [v1, v2, v3]) hd hq hl rfl hcls hs hC hro hw (fun r S' hF _ => ?_)
  obtain ⟨v, I', L', R', rfl, rfl, rfl, rfl, rfl, hG⟩ := hF
  exact kk v hG
theorem wk_sP3 {index d : Nat} {Mc : qMD} {v1 v2 v3 : Value} {P : Int → Prop} (hd : decode M.2.1 pc = .ok (.invokestatic index, 3)) (hq : pc + 3 = q) (hl : qSL M.1.cls index Mc 3)
    (hC : Ct l E d Mc [v1, v2, v3] (n, sh, I, L, R) 0 0 (qP n sh I L R P)) (hro : qRo Y Mc d k j 0 0) (hw : (st.map fun v => v.category).sum ≤ 8) (kk : ∀ v, P v → Wk l E Y M k j q lo (.int (zI v) :: st) (n, sh, I, L, R)) : Wk l E Y M k j pc lo (v3 :: v2 :: v1 :: st) (n, sh, I, L, R) := by
  refine wk_ins (As := [v1, v2, v3]) hd hq hl rfl hC hro hw (fun r S' hF _ => ?_)
  obtain ⟨v, I', L', R', rfl, rfl, rfl, rfl, rfl, hG⟩ := hF
  exact kk v hG
theorem wk_cV4 {index d a c4 z : Nat} {Mc : qMD} {v1 v2 v3 v4 : Value} {G : qI → qI → qR → Prop} (hd : decode M.2.1 pc = .ok (.invokevirtual index, 3)) (hq : pc + 3 = q) (hl : qVL M.1.cls index Mc 4) (hcls : ∃ T N, vwCl[c4]? = some (Mc.1.cls, T, N)) (hs : isC E.2.2 n sh a (c4 + 4) z)
    (hC : Ct l E d Mc (.ref a :: [v1, v2, v3, v4]) (n, sh, I, L, R) 0 0 (qV n sh G)) (hro : qRo Y Mc d k j 0 0) (hw : (st.map fun v => v.category).sum ≤ 8) (kk : ∀ I' L' R', G I' L' R' → Wk l E Y M k j q lo st (n, sh, I', L', R')) : Wk l E Y M k j pc lo (v4 :: v3 :: v2 :: v1 :: .ref a :: st) (n, sh, I, L, R) := by
  refine wk_inv (As := [v1, v2, v3, v4]) hd hq hl rfl hcls hs hC hro hw (fun r S' hF _ => ?_)
  obtain ⟨I', L', R', rfl, rfl, hG⟩ := hF
  exact kk I' L' R' hG
theorem wk_sV4 {index d : Nat} {Mc : qMD} {v1 v2 v3 v4 : Value} {G : qI → qI → qR → Prop} (hd : decode M.2.1 pc = .ok (.invokestatic index, 3)) (hq : pc + 3 = q) (hl : qSL M.1.cls index Mc 4)
    (hC : Ct l E d Mc [v1, v2, v3, v4] (n, sh, I, L, R) 0 0 (qV n sh G)) (hro : qRo Y Mc d k j 0 0) (hw : (st.map fun v => v.category).sum ≤ 8) (kk : ∀ I' L' R', G I' L' R' → Wk l E Y M k j q lo st (n, sh, I', L', R')) : Wk l E Y M k j pc lo (v4 :: v3 :: v2 :: v1 :: st) (n, sh, I, L, R) := by
  refine wk_ins (As := [v1, v2, v3, v4]) hd hq hl rfl hC hro hw (fun r S' hF _ => ?_)
  obtain ⟨I', L', R', rfl, rfl, hG⟩ := hF
  exact kk I' L' R' hG
theorem wk_cZ4 {index d a c4 z : Nat} {Mc : qMD} {v1 v2 v3 v4 : Value} {G : Int → qI → qI → qR → Prop} (hd : decode M.2.1 pc = .ok (.invokevirtual index, 3)) (hq : pc + 3 = q) (hl : qVL M.1.cls index Mc 4) (hcls : ∃ T N, vwCl[c4]? = some (Mc.1.cls, T, N)) (hs : isC E.2.2 n sh a (c4 + 4) z)
    (hC : Ct l E d Mc (.ref a :: [v1, v2, v3, v4]) (n, sh, I, L, R) 0 0 (qZ n sh G)) (hro : qRo Y Mc d k j 0 0) (hw : (st.map fun v => v.category).sum ≤ 8) (kk : ∀ v I' L' R', G v I' L' R' → Wk l E Y M k j q lo (.int (zI v) :: st) (n, sh, I', L', R')) : Wk l E Y M k j pc lo (v4 :: v3 :: v2 :: v1 :: .ref a :: st) (n, sh, I, L, R) := by
  refine wk_inv (As := [v1, v2, v3, v4]) hd hq hl rfl hcls hs hC hro hw (fun r S' hF _ => ?_)
  obtain ⟨v, I', L', R', rfl, rfl, hG⟩ := hF
  exact kk v I' L' R' hG
theorem wk_sZ4 {index d : Nat} {Mc : qMD} {v1 v2 v3 v4 : Value} {G : Int → qI → qI → qR → Prop} (hd : decode M.2.1 pc = .ok (.invokestatic index, 3)) (hq : pc + 3 = q) (hl : qSL M.1.cls index Mc 4)
    (hC : Ct l E d Mc [v1, v2, v3, v4] (n, sh, I, L, R) 0 0 (qZ n sh G)) (hro : qRo Y Mc d k j 0 0) (hw : (st.map fun v => v.category).sum ≤ 8) (kk : ∀ v I' L' R', G v I' L' R' → Wk l E Y M k j q lo (.int (zI v) :: st) (n, sh, I', L', R')) : Wk l E Y M k j pc lo (v4 :: v3 :: v2 :: v1 :: st) (n, sh, I, L, R) := by
  refine wk_ins (As := [v1, v2, v3, v4]) hd hq hl rfl hC hro hw (fun r S' hF _ => ?_)
  obtain ⟨v, I', L', R', rfl, rfl, hG⟩ := hF
  exact kk v I' L' R' hG
theorem wk_cJ4 {index d a c4 z : Nat} {Mc : qMD} {v1 v2 v3 v4 : Value} {G : Int → qI → qI → qR → Prop} (hd : decode M.2.1 pc = .ok (.invokevirtual index, 3)) (hq : pc + 3 = q) (hl : qVL M.1.cls index Mc 4) (hcls : ∃ T N, vwCl[c4]? = some (Mc.1.cls, T, N)) (hs : isC E.2.2 n sh a (c4 + 4) z)
    (hC : Ct l E d Mc (.ref a :: [v1, v2, v3, v4]) (n, sh, I, L, R) 0 0 (qJ n sh G)) (hro : qRo Y Mc d k j 0 0) (hw : (st.map fun v => v.category).sum ≤ 8) (kk : ∀ v I' L' R', G v I' L' R' → Wk l E Y M k j q lo (.long (zL v) :: st) (n, sh, I', L', R')) : Wk l E Y M k j pc lo (v4 :: v3 :: v2 :: v1 :: .ref a :: st) (n, sh, I, L, R) := by
  refine wk_inv (As := [v1, v2, v3, v4]) hd hq hl rfl hcls hs hC hro hw (fun r S' hF _ => ?_)
  obtain ⟨v, I', L', R', rfl, rfl, hG⟩ := hF
  exact kk v I' L' R' hG
theorem wk_sJ4 {index d : Nat} {Mc : qMD} {v1 v2 v3 v4 : Value} {G : Int → qI → qI → qR → Prop} (hd : decode M.2.1 pc = .ok (.invokestatic index, 3)) (hq : pc + 3 = q) (hl : qSL M.1.cls index Mc 4)
    (hC : Ct l E d Mc [v1, v2, v3, v4] (n, sh, I, L, R) 0 0 (qJ n sh G)) (hro : qRo Y Mc d k j 0 0) (hw : (st.map fun v => v.category).sum ≤ 8) (kk : ∀ v I' L' R', G v I' L' R' → Wk l E Y M k j q lo (.long (zL v) :: st) (n, sh, I', L', R')) : Wk l E Y M k j pc lo (v4 :: v3 :: v2 :: v1 :: st) (n, sh, I, L, R) := by
  refine wk_ins (As := [v1, v2, v3, v4]) hd hq hl rfl hC hro hw (fun r S' hF _ => ?_)
  obtain ⟨v, I', L', R', rfl, rfl, hG⟩ := hF
  exact kk v I' L' R' hG
theorem wk_cP4 {index d a c4 z : Nat} {Mc : qMD} {v1 v2 v3 v4 : Value} {P : Int → Prop} (hd : decode M.2.1 pc = .ok (.invokevirtual index, 3)) (hq : pc + 3 = q) (hl : qVL M.1.cls index Mc 4) (hcls : ∃ T N, vwCl[c4]? = some (Mc.1.cls, T, N)) (hs : isC E.2.2 n sh a (c4 + 4) z)
    (hC : Ct l E d Mc (.ref a :: [v1, v2, v3, v4]) (n, sh, I, L, R) 0 0 (qP n sh I L R P)) (hro : qRo Y Mc d k j 0 0) (hw : (st.map fun v => v.category).sum ≤ 8) (kk : ∀ v, P v → Wk l E Y M k j q lo (.int (zI v) :: st) (n, sh, I, L, R)) : Wk l E Y M k j pc lo (v4 :: v3 :: v2 :: v1 :: .ref a :: st) (n, sh, I, L, R) := by
  refine wk_inv (As := [v1, v2, v3, v4]) hd hq hl rfl hcls hs hC hro hw (fun r S' hF _ => ?_)
  obtain ⟨v, I', L', R', rfl, rfl, rfl, rfl, rfl, hG⟩ := hF
  exact kk v hG
theorem wk_sP4 {index d : Nat} {Mc : qMD} {v1 v2 v3 v4 : Value} {P : Int → Prop} (hd : decode M.2.1 pc = .ok (.invokestatic index, 3)) (hq : pc + 3 = q) (hl : qSL M.1.cls index Mc 4)
    (hC : Ct l E d Mc [v1, v2, v3, v4] (n, sh, I, L, R) 0 0 (qP n sh I L R P)) (hro : qRo Y Mc d k j 0 0) (hw : (st.map fun v => v.category).sum ≤ 8) (kk : ∀ v, P v → Wk l E Y M k j q lo (.int (zI v) :: st) (n, sh, I, L, R)) : Wk l E Y M k j pc lo (v4 :: v3 :: v2 :: v1 :: st) (n, sh, I, L, R) := by
  refine wk_ins (As := [v1, v2, v3, v4]) hd hq hl rfl hC hro hw (fun r S' hF _ => ?_)
  obtain ⟨v, I', L', R', rfl, rfl, rfl, rfl, rfl, hG⟩ := hF
  exact kk v hG
theorem wk_cV5 {index d a c4 z : Nat} {Mc : qMD} {v1 v2 v3 v4 v5 : Value} {G : qI → qI → qR → Prop} (hd : decode M.2.1 pc = .ok (.invokevirtual index, 3)) (hq : pc + 3 = q) (hl : qVL M.1.cls index Mc 5) (hcls : ∃ T N, vwCl[c4]? = some (Mc.1.cls, T, N)) (hs : isC E.2.2 n sh a (c4 + 4) z)
    (hC : Ct l E d Mc (.ref a :: [v1, v2, v3, v4, v5]) (n, sh, I, L, R) 0 0 (qV n sh G)) (hro : qRo Y Mc d k j 0 0) (hw : (st.map fun v => v.category).sum ≤ 8) (kk : ∀ I' L' R', G I' L' R' → Wk l E Y M k j q lo st (n, sh, I', L', R')) : Wk l E Y M k j pc lo (v5 :: v4 :: v3 :: v2 :: v1 :: .ref a :: st) (n, sh, I, L, R) := by
  refine wk_inv (As := [v1, v2, v3, v4, v5]) hd hq hl rfl hcls hs hC hro hw (fun r S' hF _ => ?_)
  obtain ⟨I', L', R', rfl, rfl, hG⟩ := hF
  exact kk I' L' R' hG
theorem wk_sV5 {index d : Nat} {Mc : qMD} {v1 v2 v3 v4 v5 : Value} {G : qI → qI → qR → Prop} (hd : decode M.2.1 pc = .ok (.invokestatic index, 3)) (hq : pc + 3 = q) (hl : qSL M.1.cls index Mc 5)
    (hC : Ct l E d Mc [v1, v2, v3, v4, v5] (n, sh, I, L, R) 0 0 (qV n sh G)) (hro : qRo Y Mc d k j 0 0) (hw : (st.map fun v => v.category).sum ≤ 8) (kk : ∀ I' L' R', G I' L' R' → Wk l E Y M k j q lo st (n, sh, I', L', R')) : Wk l E Y M k j pc lo (v5 :: v4 :: v3 :: v2 :: v1 :: st) (n, sh, I, L, R) := by
  refine wk_ins (As := [v1, v2, v3, v4, v5]) hd hq hl rfl hC hro hw (fun r S' hF _ => ?_)
  obtain ⟨I', L', R', rfl, rfl, hG⟩ := hF
  exact kk I' L' R' hG
theorem wk_cZ5 {index d a c4 z : Nat} {Mc : qMD} {v1 v2 v3 v4 v5 : Value} {G : Int → qI → qI → qR → Prop} (hd : decode M.2.1 pc = .ok (.invokevirtual index, 3)) (hq : pc + 3 = q) (hl : qVL M.1.cls index Mc 5) (hcls : ∃ T N, vwCl[c4]? = some (Mc.1.cls, T, N)) (hs : isC E.2.2 n sh a (c4 + 4) z)
    (hC : Ct l E d Mc (.ref a :: [v1, v2, v3, v4, v5]) (n, sh, I, L, R) 0 0 (qZ n sh G)) (hro : qRo Y Mc d k j 0 0) (hw : (st.map fun v => v.category).sum ≤ 8) (kk : ∀ v I' L' R', G v I' L' R' → Wk l E Y M k j q lo (.int (zI v) :: st) (n, sh, I', L', R')) : Wk l E Y M k j pc lo (v5 :: v4 :: v3 :: v2 :: v1 :: .ref a :: st) (n, sh, I, L, R) := by
  refine wk_inv (As := [v1, v2, v3, v4, v5]) hd hq hl rfl hcls hs hC hro hw (fun r S' hF _ => ?_)
  obtain ⟨v, I', L', R', rfl, rfl, hG⟩ := hF
  exact kk v I' L' R' hG
theorem wk_sZ5 {index d : Nat} {Mc : qMD} {v1 v2 v3 v4 v5 : Value} {G : Int → qI → qI → qR → Prop} (hd : decode M.2.1 pc = .ok (.invokestatic index, 3)) (hq : pc + 3 = q) (hl : qSL M.1.cls index Mc 5)
    (hC : Ct l E d Mc [v1, v2, v3, v4, v5] (n, sh, I, L, R) 0 0 (qZ n sh G)) (hro : qRo Y Mc d k j 0 0) (hw : (st.map fun v => v.category).sum ≤ 8) (kk : ∀ v I' L' R', G v I' L' R' → Wk l E Y M k j q lo (.int (zI v) :: st) (n, sh, I', L', R')) : Wk l E Y M k j pc lo (v5 :: v4 :: v3 :: v2 :: v1 :: st) (n, sh, I, L, R) := by
  refine wk_ins (As := [v1, v2, v3, v4, v5]) hd hq hl rfl hC hro hw (fun r S' hF _ => ?_)
  obtain ⟨v, I', L', R', rfl, rfl, hG⟩ := hF
  exact kk v I' L' R' hG
theorem wk_cJ5 {index d a c4 z : Nat} {Mc : qMD} {v1 v2 v3 v4 v5 : Value} {G : Int → qI → qI → qR → Prop} (hd : decode M.2.1 pc = .ok (.invokevirtual index, 3)) (hq : pc + 3 = q) (hl : qVL M.1.cls index Mc 5) (hcls : ∃ T N, vwCl[c4]? = some (Mc.1.cls, T, N)) (hs : isC E.2.2 n sh a (c4 + 4) z)
    (hC : Ct l E d Mc (.ref a :: [v1, v2, v3, v4, v5]) (n, sh, I, L, R) 0 0 (qJ n sh G)) (hro : qRo Y Mc d k j 0 0) (hw : (st.map fun v => v.category).sum ≤ 8) (kk : ∀ v I' L' R', G v I' L' R' → Wk l E Y M k j q lo (.long (zL v) :: st) (n, sh, I', L', R')) : Wk l E Y M k j pc lo (v5 :: v4 :: v3 :: v2 :: v1 :: .ref a :: st) (n, sh, I, L, R) := by
  refine wk_inv (As := [v1, v2, v3, v4, v5]) hd hq hl rfl hcls hs hC hro hw (fun r S' hF _ => ?_)
  obtain ⟨v, I', L', R', rfl, rfl, hG⟩ := hF
  exact kk v I' L' R' hG
theorem wk_sJ5 {index d : Nat} {Mc : qMD} {v1 v2 v3 v4 v5 : Value} {G : Int → qI → qI → qR → Prop} (hd : decode M.2.1 pc = .ok (.invokestatic index, 3)) (hq : pc + 3 = q) (hl : qSL M.1.cls index Mc 5)
    (hC : Ct l E d Mc [v1, v2, v3, v4, v5] (n, sh, I, L, R) 0 0 (qJ n sh G)) (hro : qRo Y Mc d k j 0 0) (hw : (st.map fun v => v.category).sum ≤ 8) (kk : ∀ v I' L' R', G v I' L' R' → Wk l E Y M k j q lo (.long (zL v) :: st) (n, sh, I', L', R')) : Wk l E Y M k j pc lo (v5 :: v4 :: v3 :: v2 :: v1 :: st) (n, sh, I, L, R) := by
  refine wk_ins (As := [v1, v2, v3, v4, v5]) hd hq hl rfl hC hro hw (fun r S' hF _ => ?_)
  obtain ⟨v, I', L', R', rfl, rfl, hG⟩ := hF
  exact kk v I' L' R' hG
theorem wk_cP5 {index d a c4 z : Nat} {Mc : qMD} {v1 v2 v3 v4 v5 : Value} {P : Int → Prop} (hd : decode M.2.1 pc = .ok (.invokevirtual index, 3)) (hq : pc + 3 = q) (hl : qVL M.1.cls index Mc 5) (hcls : ∃ T N, vwCl[c4]? = some (Mc.1.cls, T, N)) (hs : isC E.2.2 n sh a (c4 + 4) z)
    (hC : Ct l E d Mc (.ref a :: [v1, v2, v3, v4, v5]) (n, sh, I, L, R) 0 0 (qP n sh I L R P)) (hro : qRo Y Mc d k j 0 0) (hw : (st.map fun v => v.category).sum ≤ 8) (kk : ∀ v, P v → Wk l E Y M k j q lo (.int (zI v) :: st) (n, sh, I, L, R)) : Wk l E Y M k j pc lo (v5 :: v4 :: v3 :: v2 :: v1 :: .ref a :: st) (n, sh, I, L, R) := by
  refine wk_inv (As := [v1, v2, v3, v4, v5]) hd hq hl rfl hcls hs hC hro hw (fun r S' hF _ => ?_)
  obtain ⟨v, I', L', R', rfl, rfl, rfl, rfl, rfl, hG⟩ := hF
  exact kk v hG
theorem wk_sP5 {index d : Nat} {Mc : qMD} {v1 v2 v3 v4 v5 : Value} {P : Int → Prop} (hd : decode M.2.1 pc = .ok (.invokestatic index, 3)) (hq : pc + 3 = q) (hl : qSL M.1.cls index Mc 5)
    (hC : Ct l E d Mc [v1, v2, v3, v4, v5] (n, sh, I, L, R) 0 0 (qP n sh I L R P)) (hro : qRo Y Mc d k j 0 0) (hw : (st.map fun v => v.category).sum ≤ 8) (kk : ∀ v, P v → Wk l E Y M k j q lo (.int (zI v) :: st) (n, sh, I, L, R)) : Wk l E Y M k j pc lo (v5 :: v4 :: v3 :: v2 :: v1 :: st) (n, sh, I, L, R) := by
  refine wk_ins (As := [v1, v2, v3, v4, v5]) hd hq hl rfl hC hro hw (fun r S' hF _ => ?_)
  obtain ⟨v, I', L', R', rfl, rfl, rfl, rfl, rfl, hG⟩ := hF
  exact kk v hG
theorem w_ac_s : Cond.static arraycopyName ∈ qtb := (qtb_in 418 (by decide +kernel) (by decide +kernel))
theorem w_ac_n : Cond.native arraycopyName ∈ qtb := (qtb_in 419 (by decide +kernel) (by decide +kernel))
theorem w_ac_i : Cond.initialized "java/lang/System" ∈ qtb := (qtb_in 84 (by decide +kernel) (by decide +kernel))
theorem w_ac_4 : Cond.methodLink RX4 65 arraycopyName ∈ qtb := (qtb_in 417 (by decide +kernel) (by decide +kernel))
theorem w_ac_2 : Cond.methodLink RX2 60 arraycopyName ∈ qtb := (qtb_in 636 (by decide +kernel) (by decide +kernel))
theorem w_ac_6 : Cond.methodLink RX6 273 arraycopyName ∈ qtb := (qtb_in 746 (by decide +kernel) (by decide +kernel))
theorem w_m_i : Cond.initialized "java/lang/Math" ∈ qtb := (qtb_in 86 (by decide +kernel) (by decide +kernel))
theorem w_mi_s : Cond.static Lib.Math.min.name ∈ qtb := (qtb_in 603 (by decide +kernel) (by decide +kernel))
theorem w_mi_c : Cond.code Lib.Math.min.name Lib.Math.min.code 2 (some .int) ∈ qtb := (qtb_in 604 (by decide +kernel) (by decide +kernel))
theorem w_mi_0 : Cond.methodLink RX0 56 Lib.Math.min.name ∈ qtb := (qtb_in 602 (by decide +kernel) (by decide +kernel))
theorem w_mi_4 : Cond.methodLink RX4 130 Lib.Math.min.name ∈ qtb := (qtb_in 641 (by decide +kernel) (by decide +kernel))
theorem w_mx_s : Cond.static Lib.MathLoose.max_long.x ∈ qtb := (qtb_in 610 (by decide +kernel) (by decide +kernel))
theorem w_mx_c : Cond.code Lib.MathLoose.max_long.x Lib.MathLoose.max_long.code 4 (some .long) ∈ qtb := (qtb_in 611 (by decide +kernel) (by decide +kernel))
theorem w_mx_0 : Cond.methodLink RX0 70 Lib.MathLoose.max_long.x ∈ qtb := (qtb_in 609 (by decide +kernel) (by decide +kernel))
theorem zI_cl2 {e : Int} (h0 : 0 ≤ e) (h1 : e < 2147483648) : (zI e).toNatClampNeg = e.toNat := by
  have := zI_cl h0 h1
  omega
theorem zI_nn {e : Int} (h0 : 0 ≤ e) (h1 : e < 2147483648) : ¬ zI e < 0 := fun h => by
  rw [show (0 : Int32) = zI 0 from rfl] at h
  have := (zI_lt (a := e) (b := 0) ⟨by omega, h1⟩ ⟨by omega, by omega⟩).mp h
  omega
theorem wk_copy {index a b za zb : Nat} {i jj m : Int} (hd : decode M.2.1 pc = .ok (.invokestatic index, 3)) (hq : pc + 3 = q) (hw : Cond.methodLink M.1.cls index arraycopyName ∈ qtb) (hsa : isC E.2.2 n sh a 0 za) (hsb : isC E.2.2 n sh b 0 zb)
    (h0 : 0 ≤ i ∧ 0 ≤ jj ∧ 0 ≤ m) (h1 : i + m ≤ (za : Int)) (h2 : jj + m ≤ (zb : Int)) (hf : 1 ≤ Y.1.frames) (hlo : (st.map fun v => v.category).sum + (nativeFrameWords "java/lang/System" "arraycopy" 5 + 11) ≤ Y.1.locals)
    (h : Wk l E Y M k j q lo st (n, sh, cpI I a b i jj m, L, R)) : Wk l E Y M k j pc lo (.int (zI m) :: .int (zI jj) :: .ref b :: .int (zI i) :: .ref a :: st) (n, sh, I, L, R) := by
  subst hq
  obtain ⟨g1, g2, g3⟩ := h0
  have z1 := hsa.2.2.2
  have z2 := hsb.2.2.2
  intro p e s m0 args below meth c H locs ls hB hH hl
  have hea := qws_at (E := E) (S := (n, sh, I, L, R)) (isC.ad hsa)
  rw [qel_i hsa.2.2.1] at hea
  have heb := qws_at (E := E) (S := (n, sh, I, L, R)) (isC.ad hsb)
  rw [qel_i hsb.2.2.1] at heb
  have e1 := zI_cl2 g1 (by omega)
  have e2 := zI_cl2 g2 (by omega)
  have e3 := zI_cl2 g3 (by omega)
  have hset : (qws E (n, sh, I, L, R)).set (b - E.2.2) (b, .inl (E.2.1.1, zb, .inl (va_cpy (fun k : Nat => zI (I a k)) (fun k : Nat => zI (I b k)) (zI i).toNatClampNeg (zI jj).toNatClampNeg (zI m).toNatClampNeg))) = qws E (n, sh, cpI I a b i jj m, L, R) := by
    refine qws_set (isC.ad hsb) rfl ?_ (fun c hc => qel_same (fun x => by unfold cpI; rw [if_neg (fun q => hc q.1)]) (fun _ => rfl) (fun _ => rfl))
    rw [qel_i hsb.2.2.1, e1, e2, e3]
    refine congrArg (fun f => Sum.inl (E.2.1.1, zb, Sum.inl f)) (funext fun g => ?_)
    unfold va_cpy cpI
    by_cases hg : jj.toNat ≤ g ∧ g < jj.toNat + m.toNat
    · rw [if_pos hg, if_pos ⟨rfl, by omega, by omega⟩]
      exact congrArg (fun x => zI (I a x)) (by omega)
    · rw [if_neg hg, if_neg (fun q => hg ⟨by omega, by omega⟩)]
  refine va_copyi hB.1 hB.2.1 (hB.2.2.1.trans hl.1.symm) hB.2.2.2.2.1 (hB.ts hw) (hB.ts w_ac_n) (hB.ts w_ac_s) (hB.ts w_ac_i) hB.K.1 hH.2.1 (qD E _ (qA E) (fun _ h => h)) hH.2.2 (a - E.2.2) (b - E.2.2) 0 0 hea heb rfl rfl rfl
    (zI_nn g1 (by omega)) (zI_nn g2 (by omega)) (zI_nn g3 (by omega)) (by rw [e1, e3]; omega) (by rw [e2, e3]; omega) (fun _ _ => rfl) hf hlo hd (fun H1 locs1 hP1 _ hS1 => ?_)
  rw [hset] at hP1
  exact h p e s m0 args below meth c H1 locs1 ls hB ⟨hH.1, hP1, hS1⟩ hl
theorem wk_min {index : Nat} {x y : Int} (hd : decode M.2.1 pc = .ok (.invokestatic index, 3)) (hq : pc + 3 = q) (hw : Cond.methodLink M.1.cls index Lib.Math.min.name ∈ qtb) (hx : in32 x) (hy : in32 y) (hf : 1 ≤ Y.1.frames) (hlo : (st.map fun v => v.category).sum + 13 ≤ Y.1.locals) (hk : k ≤ Y.1.cells ∧ j ≤ Y.1.slots)
    (h : Wk l E Y M k j q lo (.int (zI (min x y)) :: st) (n, sh, I, L, R)) : Wk l E Y M k j pc lo (.int (zI y) :: .int (zI x) :: st) (n, sh, I, L, R) := by
  subst hq
  intro p e s m0 args below meth c H locs ls hB hH hl
  refine va_mmin hB.1 hB.2.1 (hB.2.2.1.trans hl.1.symm) hB.2.2.2.2.1 (hB.ts hw) (hB.ts w_mi_s) (hB.ts w_m_i) (hB.ts w_mi_c) hf hlo hk.1 hk.2 hd ?_
  rw [show (if zI y < zI x then zI y else zI x) = zI (min x y) by
    by_cases hc : y < x
    · rw [if_pos ((zI_lt hy hx).mpr hc), Int.min_eq_right (by omega)]
    · rw [if_neg (fun q => hc ((zI_lt hy hx).mp q)), Int.min_eq_left (by omega)]]
  exact h p e s m0 args below meth c H locs ls hB hH hl
theorem wk_max {index : Nat} {x y : Int} (hd : decode M.2.1 pc = .ok (.invokestatic index, 3)) (hq : pc + 3 = q) (hw : Cond.methodLink M.1.cls index Lib.MathLoose.max_long.x ∈ qtb) (hx : in64 x) (hy : in64 y) (hf : 1 ≤ Y.1.frames) (hlo : (st.map fun v => v.category).sum + 15 ≤ Y.1.locals) (hk : k ≤ Y.1.cells ∧ j ≤ Y.1.slots)
    (h : Wk l E Y M k j q lo (.long (zL (max x y)) :: st) (n, sh, I, L, R)) : Wk l E Y M k j pc lo (.long (zL y) :: .long (zL x) :: st) (n, sh, I, L, R) := by
  subst hq
  intro p e s m0 args below meth c H locs ls hB hH hl
  refine va_mmax_long hB.1 hB.2.1 (hB.2.2.1.trans hl.1.symm) hB.2.2.2.2.1 (hB.ts hw) (hB.ts w_mx_s) (hB.ts w_m_i) (hB.ts w_mx_c) hf hlo hk.1 hk.2 hd ?_
  rw [show (if zL y < zL x then zL x else zL y) = zL (max x y) by
    by_cases hc : y < x
    · rw [if_pos ((zL_lt hy hx).mpr hc), Int.max_eq_left (by omega)]
    · rw [if_neg (fun q => hc ((zL_lt hy hx).mp q)), Int.max_eq_right (by omega)]]
  exact h p e s m0 args below meth c H locs ls hB hH hl
end QR5
end
