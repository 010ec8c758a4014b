section
-- ===== PART A: goes FIRST, ahead of the names: the tables' words, and 'selects' of the private methods out of them =====
/-- a private method of a class that the tables say can be made, by its rows of tables_1 -/
def lw_okq (q : MethodName × Nat) : Prop := (q.1.cls ≠ "java/lang/invoke/MethodHandle" ∧ q.1.cls ≠ "java/lang/invoke/VarHandle") ∧ Cond.instantiable q.1.cls q.2 ∈ tables_1 ∧ Cond.privateMethod q.1 ∈ tables_1 ∧ Cond.instanceMethod q.1 ∈ tables_1
theorem lw_p0 : lw_okq (⟨"BellLots$Text", "nextToken", "()V"⟩, 7) := ⟨⟨by decide +kernel, by decide +kernel⟩, List.mem_of_getElem? (i := 23) (by decide +kernel), List.mem_of_getElem? (i := 282) (by decide +kernel), List.mem_of_getElem? (i := 283) (by decide +kernel)⟩
theorem lw_p1 : lw_okq (⟨"BellLots$Text", "readNumber", "()V"⟩, 7) := ⟨⟨by decide +kernel, by decide +kernel⟩, List.mem_of_getElem? (i := 23) (by decide +kernel), List.mem_of_getElem? (i := 292) (by decide +kernel), List.mem_of_getElem? (i := 293) (by decide +kernel)⟩
theorem lw_p2 : lw_okq (⟨"BellLots$Text", "readItem", "(LBellLots$Told;)Z"⟩, 7) := ⟨⟨by decide +kernel, by decide +kernel⟩, List.mem_of_getElem? (i := 23) (by decide +kernel), List.mem_of_getElem? (i := 299) (by decide +kernel), List.mem_of_getElem? (i := 300) (by decide +kernel)⟩
theorem lw_p3 : lw_okq (⟨"BellLots$Text", "mayStand", "(LBellLots$Told;II)Z"⟩, 7) := ⟨⟨by decide +kernel, by decide +kernel⟩, List.mem_of_getElem? (i := 23) (by decide +kernel), List.mem_of_getElem? (i := 306) (by decide +kernel), List.mem_of_getElem? (i := 307) (by decide +kernel)⟩
theorem lw_p4 : lw_okq (⟨"BellLots$Told", "addTown", "(III)V"⟩, 11) := ⟨⟨by decide +kernel, by decide +kernel⟩, List.mem_of_getElem? (i := 53) (by decide +kernel), List.mem_of_getElem? (i := 320) (by decide +kernel), List.mem_of_getElem? (i := 321) (by decide +kernel)⟩
theorem lw_p5 : lw_okq (⟨"BellLots$Told", "addRoad", "(III)V"⟩, 11) := ⟨⟨by decide +kernel, by decide +kernel⟩, List.mem_of_getElem? (i := 53) (by decide +kernel), List.mem_of_getElem? (i := 328) (by decide +kernel), List.mem_of_getElem? (i := 329) (by decide +kernel)⟩
theorem lw_p6 : lw_okq (⟨"BellLots$Told", "addOath", "(III)V"⟩, 11) := ⟨⟨by decide +kernel, by decide +kernel⟩, List.mem_of_getElem? (i := 53) (by decide +kernel), List.mem_of_getElem? (i := 336) (by decide +kernel), List.mem_of_getElem? (i := 337) (by decide +kernel)⟩
theorem lw_p7 : lw_okq (⟨"BellLots$Told", "shortenWays", "(I)V"⟩, 11) := ⟨⟨by decide +kernel, by decide +kernel⟩, List.mem_of_getElem? (i := 53) (by decide +kernel), List.mem_of_getElem? (i := 344) (by decide +kernel), List.mem_of_getElem? (i := 345) (by decide +kernel)⟩
theorem lw_p8 : lw_okq (⟨"BellLots", "dumbTowns", "()I"⟩, 10) := ⟨⟨by decide +kernel, by decide +kernel⟩, List.mem_of_getElem? (i := 15) (by decide +kernel), List.mem_of_getElem? (i := 382) (by decide +kernel), List.mem_of_getElem? (i := 383) (by decide +kernel)⟩
theorem lw_p9 : lw_okq (⟨"BellLots", "hasLikeNeighbour", "(I)Z"⟩, 10) := ⟨⟨by decide +kernel, by decide +kernel⟩, List.mem_of_getElem? (i := 15) (by decide +kernel), List.mem_of_getElem? (i := 386) (by decide +kernel), List.mem_of_getElem? (i := 387) (by decide +kernel)⟩
theorem lw_p10 : lw_okq (⟨"BellLots", "noteIn", "(I)I"⟩, 10) := ⟨⟨by decide +kernel, by decide +kernel⟩, List.mem_of_getElem? (i := 15) (by decide +kernel), List.mem_of_getElem? (i := 391) (by decide +kernel), List.mem_of_getElem? (i := 392) (by decide +kernel)⟩
theorem lw_p11 : lw_okq (⟨"BellLots", "fitsOf", "(I)I"⟩, 10) := ⟨⟨by decide +kernel, by decide +kernel⟩, List.mem_of_getElem? (i := 15) (by decide +kernel), List.mem_of_getElem? (i := 399) (by decide +kernel), List.mem_of_getElem? (i := 400) (by decide +kernel)⟩
theorem lw_p12 : lw_okq (⟨"BellLots", "bellsAtHome", "()I"⟩, 10) := ⟨⟨by decide +kernel, by decide +kernel⟩, List.mem_of_getElem? (i := 15) (by decide +kernel), List.mem_of_getElem? (i := 421) (by decide +kernel), List.mem_of_getElem? (i := 422) (by decide +kernel)⟩
theorem lw_p13 : lw_okq (⟨"BellLots$Hanging", "judgeOaths", "(LBellLots$Told;)V"⟩, 6) := ⟨⟨by decide +kernel, by decide +kernel⟩, List.mem_of_getElem? (i := 111) (by decide +kernel), List.mem_of_getElem? (i := 443) (by decide +kernel), List.mem_of_getElem? (i := 444) (by decide +kernel)⟩
theorem lw_p14 : lw_okq (⟨"BellLots$Lot", "takeUndrawn", "(I)I"⟩, 3) := ⟨⟨by decide +kernel, by decide +kernel⟩, List.mem_of_getElem? (i := 196) (by decide +kernel), List.mem_of_getElem? (i := 460) (by decide +kernel), List.mem_of_getElem? (i := 461) (by decide +kernel)⟩
theorem lw_p15 : lw_okq (⟨"BellLots", "rings", "()I"⟩, 10) := ⟨⟨by decide +kernel, by decide +kernel⟩, List.mem_of_getElem? (i := 15) (by decide +kernel), List.mem_of_getElem? (i := 507) (by decide +kernel), List.mem_of_getElem? (i := 508) (by decide +kernel)⟩
def lw_privs_1 : List (MethodName × Nat) := [(⟨"BellLots$Text", "nextToken", "()V"⟩, 7), (⟨"BellLots$Text", "readNumber", "()V"⟩, 7), (⟨"BellLots$Text", "readItem", "(LBellLots$Told;)Z"⟩, 7), (⟨"BellLots$Text", "mayStand", "(LBellLots$Told;II)Z"⟩, 7), (⟨"BellLots$Told", "addTown", "(III)V"⟩, 11), (⟨"BellLots$Told", "addRoad", "(III)V"⟩, 11), (⟨"BellLots$Told", "addOath", "(III)V"⟩, 11), (⟨"BellLots$Told", "shortenWays", "(I)V"⟩, 11), (⟨"BellLots", "dumbTowns", "()I"⟩, 10), (⟨"BellLots", "hasLikeNeighbour", "(I)Z"⟩, 10), (⟨"BellLots", "noteIn", "(I)I"⟩, 10), (⟨"BellLots", "fitsOf", "(I)I"⟩, 10), (⟨"BellLots", "bellsAtHome", "()I"⟩, 10), (⟨"BellLots$Hanging", "judgeOaths", "(LBellLots$Told;)V"⟩, 6), (⟨"BellLots$Lot", "takeUndrawn", "(I)I"⟩, 3), (⟨"BellLots", "rings", "()I"⟩, 10)]
theorem lw_r1 : ∀ q ∈ lw_privs_1, lw_okq q := List.forall_mem_cons.mpr ⟨lw_p0, List.forall_mem_cons.mpr ⟨lw_p1, List.forall_mem_cons.mpr ⟨lw_p2, List.forall_mem_cons.mpr ⟨lw_p3, List.forall_mem_cons.mpr ⟨lw_p4, List.forall_mem_cons.mpr ⟨lw_p5, List.forall_mem_cons.mpr ⟨lw_p6, List.forall_mem_cons.mpr ⟨lw_p7, List.forall_mem_cons.mpr ⟨lw_p8, List.forall_mem_cons.mpr ⟨lw_p9, List.forall_mem_cons.mpr ⟨lw_p10, List.forall_mem_cons.mpr ⟨lw_p11, List.forall_mem_cons.mpr ⟨lw_p12, List.forall_mem_cons.mpr ⟨lw_p13, List.forall_mem_cons.mpr ⟨lw_p14, List.forall_mem_cons.mpr ⟨lw_p15, fun _ h => absurd h List.not_mem_nil⟩⟩⟩⟩⟩⟩⟩⟩⟩⟩⟩⟩⟩⟩⟩⟩
theorem lw_p16 : lw_okq (⟨"BellLots", "firstTradeHome", "()I"⟩, 10) := ⟨⟨by decide +kernel, by decide +kernel⟩, List.mem_of_getElem? (i := 15) (by decide +kernel), List.mem_of_getElem? (i := 511) (by decide +kernel), List.mem_of_getElem? (i := 512) (by decide +kernel)⟩
theorem lw_p17 : lw_okq (⟨"BellLots$Lot", "ringLength", "(I)I"⟩, 3) := ⟨⟨by decide +kernel, by decide +kernel⟩, List.mem_of_getElem? (i := 196) (by decide +kernel), List.mem_of_getElem? (i := 527) (by decide +kernel), List.mem_of_getElem? (i := 528) (by decide +kernel)⟩
theorem lw_p18 : lw_okq (⟨"BellLots", "harmlessWays", "()I"⟩, 10) := ⟨⟨by decide +kernel, by decide +kernel⟩, List.mem_of_getElem? (i := 15) (by decide +kernel), List.mem_of_getElem? (i := 579) (by decide +kernel), List.mem_of_getElem? (i := 580) (by decide +kernel)⟩
theorem lw_p19 : lw_okq (⟨"BellLots", "allWays", "()I"⟩, 10) := ⟨⟨by decide +kernel, by decide +kernel⟩, List.mem_of_getElem? (i := 15) (by decide +kernel), List.mem_of_getElem? (i := 593) (by decide +kernel), List.mem_of_getElem? (i := 594) (by decide +kernel)⟩
theorem lw_p20 : lw_okq (⟨"BellLots", "rateGreat", "(I)I"⟩, 10) := ⟨⟨by decide +kernel, by decide +kernel⟩, List.mem_of_getElem? (i := 15) (by decide +kernel), List.mem_of_getElem? (i := 603) (by decide +kernel), List.mem_of_getElem? (i := 604) (by decide +kernel)⟩
theorem lw_p21 : lw_okq (⟨"BellLots", "rateBell", "(I)I"⟩, 10) := ⟨⟨by decide +kernel, by decide +kernel⟩, List.mem_of_getElem? (i := 15) (by decide +kernel), List.mem_of_getElem? (i := 608) (by decide +kernel), List.mem_of_getElem? (i := 609) (by decide +kernel)⟩
theorem lw_p22 : lw_okq (⟨"BellLots", "rateCracked", "(I)I"⟩, 10) := ⟨⟨by decide +kernel, by decide +kernel⟩, List.mem_of_getElem? (i := 15) (by decide +kernel), List.mem_of_getElem? (i := 612) (by decide +kernel), List.mem_of_getElem? (i := 613) (by decide +kernel)⟩
theorem lw_p23 : lw_okq (⟨"BellLots", "rateStorm", "(I)I"⟩, 10) := ⟨⟨by decide +kernel, by decide +kernel⟩, List.mem_of_getElem? (i := 15) (by decide +kernel), List.mem_of_getElem? (i := 617) (by decide +kernel), List.mem_of_getElem? (i := 618) (by decide +kernel)⟩
theorem lw_p24 : lw_okq (⟨"BellLots", "rateRiver", "(I)I"⟩, 10) := ⟨⟨by decide +kernel, by decide +kernel⟩, List.mem_of_getElem? (i := 15) (by decide +kernel), List.mem_of_getElem? (i := 622) (by decide +kernel), List.mem_of_getElem? (i := 623) (by decide +kernel)⟩
theorem lw_p25 : lw_okq (⟨"BellLots", "rateCow", "(I)I"⟩, 10) := ⟨⟨by decide +kernel, by decide +kernel⟩, List.mem_of_getElem? (i := 15) (by decide +kernel), List.mem_of_getElem? (i := 627) (by decide +kernel), List.mem_of_getElem? (i := 628) (by decide +kernel)⟩
theorem lw_p26 : lw_okq (⟨"BellLotsModel", "advances", "()V"⟩, 29) := ⟨⟨by decide +kernel, by decide +kernel⟩, List.mem_of_getElem? (i := 658) (by decide +kernel), List.mem_of_getElem? (i := 767) (by decide +kernel), List.mem_of_getElem? (i := 768) (by decide +kernel)⟩
theorem lw_p27 : lw_okq (⟨"BellLotsModel", "letterAt", "(I)I"⟩, 29) := ⟨⟨by decide +kernel, by decide +kernel⟩, List.mem_of_getElem? (i := 658) (by decide +kernel), List.mem_of_getElem? (i := 771) (by decide +kernel), List.mem_of_getElem? (i := 772) (by decide +kernel)⟩
theorem lw_p28 : lw_okq (⟨"BellLotsModel", "isWell", "()Z"⟩, 29) := ⟨⟨by decide +kernel, by decide +kernel⟩, List.mem_of_getElem? (i := 658) (by decide +kernel), List.mem_of_getElem? (i := 775) (by decide +kernel), List.mem_of_getElem? (i := 776) (by decide +kernel)⟩
theorem lw_p29 : lw_okq (⟨"BellLotsModel", "takes", "(Z)I"⟩, 29) := ⟨⟨by decide +kernel, by decide +kernel⟩, List.mem_of_getElem? (i := 658) (by decide +kernel), List.mem_of_getElem? (i := 779) (by decide +kernel), List.mem_of_getElem? (i := 780) (by decide +kernel)⟩
theorem lw_p30 : lw_okq (⟨"BellLotsModel", "readsItem", "(I)V"⟩, 29) := ⟨⟨by decide +kernel, by decide +kernel⟩, List.mem_of_getElem? (i := 658) (by decide +kernel), List.mem_of_getElem? (i := 783) (by decide +kernel), List.mem_of_getElem? (i := 784) (by decide +kernel)⟩
theorem lw_p31 : lw_okq (⟨"BellLotsModel", "number", "(II)I"⟩, 29) := ⟨⟨by decide +kernel, by decide +kernel⟩, List.mem_of_getElem? (i := 658) (by decide +kernel), List.mem_of_getElem? (i := 787) (by decide +kernel), List.mem_of_getElem? (i := 788) (by decide +kernel)⟩
def lw_privs_2 : List (MethodName × Nat) := [(⟨"BellLots", "firstTradeHome", "()I"⟩, 10), (⟨"BellLots$Lot", "ringLength", "(I)I"⟩, 3), (⟨"BellLots", "harmlessWays", "()I"⟩, 10), (⟨"BellLots", "allWays", "()I"⟩, 10), (⟨"BellLots", "rateGreat", "(I)I"⟩, 10), (⟨"BellLots", "rateBell", "(I)I"⟩, 10), (⟨"BellLots", "rateCracked", "(I)I"⟩, 10), (⟨"BellLots", "rateStorm", "(I)I"⟩, 10), (⟨"BellLots", "rateRiver", "(I)I"⟩, 10), (⟨"BellLots", "rateCow", "(I)I"⟩, 10), (⟨"BellLotsModel", "advances", "()V"⟩, 29), (⟨"BellLotsModel", "letterAt", "(I)I"⟩, 29), (⟨"BellLotsModel", "isWell", "()Z"⟩, 29), (⟨"BellLotsModel", "takes", "(Z)I"⟩, 29), (⟨"BellLotsModel", "readsItem", "(I)V"⟩, 29), (⟨"BellLotsModel", "number", "(II)I"⟩, 29)]
theorem lw_r2 : ∀ q ∈ lw_privs_2, lw_okq q := List.forall_mem_cons.mpr ⟨lw_p16, List.forall_mem_cons.mpr ⟨lw_p17, List.forall_mem_cons.mpr ⟨lw_p18, List.forall_mem_cons.mpr ⟨lw_p19, List.forall_mem_cons.mpr ⟨lw_p20, List.forall_mem_cons.mpr ⟨lw_p21, List.forall_mem_cons.mpr ⟨lw_p22, List.forall_mem_cons.mpr ⟨lw_p23, List.forall_mem_cons.mpr ⟨lw_p24, List.forall_mem_cons.mpr ⟨lw_p25, List.forall_mem_cons.mpr ⟨lw_p26, List.forall_mem_cons.mpr ⟨lw_p27, List.forall_mem_cons.mpr ⟨lw_p28, List.forall_mem_cons.mpr ⟨lw_p29, List.forall_mem_cons.mpr ⟨lw_p30, List.forall_mem_cons.mpr ⟨lw_p31, fun _ h => absurd h List.not_mem_nil⟩⟩⟩⟩⟩⟩⟩⟩⟩⟩⟩⟩⟩⟩⟩⟩
theorem lw_p32 : lw_okq (⟨"BellLotsModel", "settles", "()V"⟩, 29) := ⟨⟨by decide +kernel, by decide +kernel⟩, List.mem_of_getElem? (i := 658) (by decide +kernel), List.mem_of_getElem? (i := 791) (by decide +kernel), List.mem_of_getElem? (i := 792) (by decide +kernel)⟩
theorem lw_p33 : lw_okq (⟨"BellLotsModel", "isTown", "(I)Z"⟩, 29) := ⟨⟨by decide +kernel, by decide +kernel⟩, List.mem_of_getElem? (i := 658) (by decide +kernel), List.mem_of_getElem? (i := 800) (by decide +kernel), List.mem_of_getElem? (i := 801) (by decide +kernel)⟩
theorem lw_p34 : lw_okq (⟨"BellLotsModel", "isDumb", "(I)Z"⟩, 29) := ⟨⟨by decide +kernel, by decide +kernel⟩, List.mem_of_getElem? (i := 658) (by decide +kernel), List.mem_of_getElem? (i := 807) (by decide +kernel), List.mem_of_getElem? (i := 808) (by decide +kernel)⟩
theorem lw_p35 : lw_okq (⟨"BellLotsModel", "fits", "(I)I"⟩, 29) := ⟨⟨by decide +kernel, by decide +kernel⟩, List.mem_of_getElem? (i := 658) (by decide +kernel), List.mem_of_getElem? (i := 815) (by decide +kernel), List.mem_of_getElem? (i := 816) (by decide +kernel)⟩
theorem lw_p36 : lw_okq (⟨"BellLotsModel", "notes", "()V"⟩, 29) := ⟨⟨by decide +kernel, by decide +kernel⟩, List.mem_of_getElem? (i := 658) (by decide +kernel), List.mem_of_getElem? (i := 835) (by decide +kernel), List.mem_of_getElem? (i := 836) (by decide +kernel)⟩
theorem lw_p37 : lw_okq (⟨"BellLotsModel", "drawn", "([II)I"⟩, 29) := ⟨⟨by decide +kernel, by decide +kernel⟩, List.mem_of_getElem? (i := 658) (by decide +kernel), List.mem_of_getElem? (i := 839) (by decide +kernel), List.mem_of_getElem? (i := 840) (by decide +kernel)⟩
theorem lw_p38 : lw_okq (⟨"BellLotsModel", "draws", "(I)V"⟩, 29) := ⟨⟨by decide +kernel, by decide +kernel⟩, List.mem_of_getElem? (i := 658) (by decide +kernel), List.mem_of_getElem? (i := 843) (by decide +kernel), List.mem_of_getElem? (i := 844) (by decide +kernel)⟩
theorem lw_p39 : lw_okq (⟨"BellLotsModel", "cuts", "([I)I"⟩, 29) := ⟨⟨by decide +kernel, by decide +kernel⟩, List.mem_of_getElem? (i := 658) (by decide +kernel), List.mem_of_getElem? (i := 851) (by decide +kernel), List.mem_of_getElem? (i := 852) (by decide +kernel)⟩
theorem lw_p40 : lw_okq (⟨"BellLotsModel", "asNow", "()V"⟩, 29) := ⟨⟨by decide +kernel, by decide +kernel⟩, List.mem_of_getElem? (i := 658) (by decide +kernel), List.mem_of_getElem? (i := 871) (by decide +kernel), List.mem_of_getElem? (i := 872) (by decide +kernel)⟩
theorem lw_p41 : lw_okq (⟨"BellLotsModel", "rows", "()I"⟩, 29) := ⟨⟨by decide +kernel, by decide +kernel⟩, List.mem_of_getElem? (i := 658) (by decide +kernel), List.mem_of_getElem? (i := 887) (by decide +kernel), List.mem_of_getElem? (i := 888) (by decide +kernel)⟩
theorem lw_p42 : lw_okq (⟨"BellLotsModel", "isRow", "(I)Z"⟩, 29) := ⟨⟨by decide +kernel, by decide +kernel⟩, List.mem_of_getElem? (i := 658) (by decide +kernel), List.mem_of_getElem? (i := 891) (by decide +kernel), List.mem_of_getElem? (i := 892) (by decide +kernel)⟩
theorem lw_p43 : lw_okq (⟨"BellLotsModel", "isBorne", "()Z"⟩, 29) := ⟨⟨by decide +kernel, by decide +kernel⟩, List.mem_of_getElem? (i := 658) (by decide +kernel), List.mem_of_getElem? (i := 895) (by decide +kernel), List.mem_of_getElem? (i := 896) (by decide +kernel)⟩
theorem lw_p44 : lw_okq (⟨"BellLotsModel", "costOfRow", "()I"⟩, 29) := ⟨⟨by decide +kernel, by decide +kernel⟩, List.mem_of_getElem? (i := 658) (by decide +kernel), List.mem_of_getElem? (i := 899) (by decide +kernel), List.mem_of_getElem? (i := 900) (by decide +kernel)⟩
theorem lw_p45 : lw_okq (⟨"BellLotsModel", "roads", "()I"⟩, 29) := ⟨⟨by decide +kernel, by decide +kernel⟩, List.mem_of_getElem? (i := 658) (by decide +kernel), List.mem_of_getElem? (i := 960) (by decide +kernel), List.mem_of_getElem? (i := 961) (by decide +kernel)⟩
def lw_privs_3 : List (MethodName × Nat) := [(⟨"BellLotsModel", "settles", "()V"⟩, 29), (⟨"BellLotsModel", "isTown", "(I)Z"⟩, 29), (⟨"BellLotsModel", "isDumb", "(I)Z"⟩, 29), (⟨"BellLotsModel", "fits", "(I)I"⟩, 29), (⟨"BellLotsModel", "notes", "()V"⟩, 29), (⟨"BellLotsModel", "drawn", "([II)I"⟩, 29), (⟨"BellLotsModel", "draws", "(I)V"⟩, 29), (⟨"BellLotsModel", "cuts", "([I)I"⟩, 29), (⟨"BellLotsModel", "asNow", "()V"⟩, 29), (⟨"BellLotsModel", "rows", "()I"⟩, 29), (⟨"BellLotsModel", "isRow", "(I)Z"⟩, 29), (⟨"BellLotsModel", "isBorne", "()Z"⟩, 29), (⟨"BellLotsModel", "costOfRow", "()I"⟩, 29), (⟨"BellLotsModel", "roads", "()I"⟩, 29)]
theorem lw_r3 : ∀ q ∈ lw_privs_3, lw_okq q := List.forall_mem_cons.mpr ⟨lw_p32, List.forall_mem_cons.mpr ⟨lw_p33, List.forall_mem_cons.mpr ⟨lw_p34, List.forall_mem_cons.mpr ⟨lw_p35, List.forall_mem_cons.mpr ⟨lw_p36, List.forall_mem_cons.mpr ⟨lw_p37, List.forall_mem_cons.mpr ⟨lw_p38, List.forall_mem_cons.mpr ⟨lw_p39, List.forall_mem_cons.mpr ⟨lw_p40, List.forall_mem_cons.mpr ⟨lw_p41, List.forall_mem_cons.mpr ⟨lw_p42, List.forall_mem_cons.mpr ⟨lw_p43, List.forall_mem_cons.mpr ⟨lw_p44, List.forall_mem_cons.mpr ⟨lw_p45, fun _ h => absurd h List.not_mem_nil⟩⟩⟩⟩⟩⟩⟩⟩⟩⟩⟩⟩⟩⟩
def lw_privs : List (MethodName × Nat) := lw_privs_1 ++ (lw_privs_2 ++ (lw_privs_3))
def lw_tbl : List Cond := k2_sels lw_privs ++ tables_1
theorem lw_privs_ok : ∀ q ∈ lw_privs, lw_okq q := by
  show ∀ q ∈ lw_privs_1 ++ (lw_privs_2 ++ (lw_privs_3)), lw_okq q
  exact List.forall_mem_append.mpr ⟨lw_r1, List.forall_mem_append.mpr ⟨lw_r2, lw_r3⟩⟩
end
section
def RX0 : String := "BellLots$Finds"
def TX0 : u_T := fun k => match k with
  | 0 => ("BellLots$Finds", "bell", "[I", true)
  | 1 => ("BellLots$Finds", "town", "[I", true)
  | _ => ("BellLots$Finds", "size", "I", false)
def tyX0 : Nat → FieldType := fun k => match k with
  | 0 => .array .int
  | 1 => .array .int
  | _ => .int
abbrev wsX00 : List Cond := u_ws RX0 TX0 3
theorem nmX0 : ∀ a, a < 3 → ∀ b, b < 3 → a ≠ b → (TX0 a).2.1 ≠ (TX0 b).2.1 := by decide +kernel
theorem tyX0_ok : ∀ k, k < 3 → parseFieldDescriptor (TX0 k).2.2.1 = some (tyX0 k) := by decide +kernel
abbrev cX0_init : ByteArray := prog_2_method_1_code
def yX0_init : MethodName := ⟨RX0, "<init>", "()V"⟩
abbrev cX0_append : ByteArray := prog_2_method_2_code
def yX0_append : MethodName := ⟨RX0, "append", "(II)Z"⟩
abbrev cX0_empty : ByteArray := prog_2_method_3_code
def yX0_empty : MethodName := ⟨RX0, "empty", "()I"⟩
abbrev cX0_holdBehind : ByteArray := prog_2_method_4_code
def yX0_holdBehind : MethodName := ⟨RX0, "holdBehind", "(LBellLots$Lot;LBellLots$Hanging;)Z"⟩
def RX1 : String := "BellLots$Hanging"
def TX1 : u_T := fun k => match k with
  | 0 => ("BellLots$Hanging", "term", "I", false)
  | 1 => ("BellLots$Hanging", "cuts", "I", false)
  | 2 => ("BellLots$Hanging", "bellIn", "[I", true)
  | 3 => ("BellLots$Hanging", "bears", "[I", true)
  | 4 => ("BellLots$Hanging", "oathIs", "[I", true)
  | _ => ("BellLots$Hanging", "struck", "[I", true)
def tyX1 : Nat → FieldType := fun k => match k with
  | 0 => .int
  | 1 => .int
  | 2 => .array .int
  | 3 => .array .int
  | 4 => .array .int
  | _ => .array .int
abbrev wsX10 : List Cond := u_ws RX1 TX1 6
theorem nmX1 : ∀ a, a < 6 → ∀ b, b < 6 → a ≠ b → (TX1 a).2.1 ≠ (TX1 b).2.1 := by decide +kernel
theorem tyX1_ok : ∀ k, k < 6 → parseFieldDescriptor (TX1 k).2.2.1 = some (tyX1 k) := by decide +kernel
abbrev cX1_init : ByteArray := prog_3_method_1_code
def yX1_init : MethodName := ⟨RX1, "<init>", "()V"⟩
abbrev cX1_begin : ByteArray := prog_3_method_2_code
def yX1_begin : MethodName := ⟨RX1, "begin", "(LBellLots$Told;)V"⟩
abbrev cX1_copyFrom : ByteArray := prog_3_method_3_code
def yX1_copyFrom : MethodName := ⟨RX1, "copyFrom", "(LBellLots$Hanging;)V"⟩
abbrev cX1_townOf : ByteArray := prog_3_method_4_code
def yX1_townOf : MethodName := ⟨RX1, "townOf", "(I)I"⟩
abbrev cX1_bearsBell : ByteArray := prog_3_method_5_code
def yX1_bearsBell : MethodName := ⟨RX1, "bearsBell", "(LBellLots$Told;II)Z"⟩
abbrev cX1_passTerm : ByteArray := prog_3_method_6_code
def yX1_passTerm : MethodName := ⟨RX1, "passTerm", "(LBellLots$Told;LBellLots$Lot;I)I"⟩
abbrev cX1_judgeOaths : ByteArray := prog_3_method_7_code
def yX1_judgeOaths : MethodName := ⟨RX1, "judgeOaths", "(LBellLots$Told;)V"⟩
abbrev cX1_cutTowers : ByteArray := prog_3_method_8_code
def yX1_cutTowers : MethodName := ⟨RX1, "cutTowers", "(LBellLots$Told;)I"⟩
def RX2 : String := "BellLots$Images"
def TX2 : u_T := fun k => match k with
  | 0 => ("BellLots$Images", "row", "[LBellLots$Hanging;", true)
  | _ => ("BellLots$Images", "kept", "[Z", true)
def tyX2 : Nat → FieldType := fun k => match k with
  | 0 => .array (.object "BellLots$Hanging")
  | _ => .array .boolean
abbrev wsX20 : List Cond := u_ws RX2 TX2 2
theorem nmX2 : ∀ a, a < 2 → ∀ b, b < 2 → a ≠ b → (TX2 a).2.1 ≠ (TX2 b).2.1 := by decide +kernel
theorem tyX2_ok : ∀ k, k < 2 → parseFieldDescriptor (TX2 k).2.2.1 = some (tyX2 k) := by decide +kernel
abbrev cX2_init : ByteArray := prog_4_method_1_code
def yX2_init : MethodName := ⟨RX2, "<init>", "()V"⟩
abbrev cX2_empty : ByteArray := prog_4_method_2_code
def yX2_empty : MethodName := ⟨RX2, "empty", "()V"⟩
abbrev cX2_keepFrom : ByteArray := prog_4_method_3_code
def yX2_keepFrom : MethodName := ⟨RX2, "keepFrom", "(ILBellLots$Hanging;)Z"⟩
abbrev cX2_bringInto : ByteArray := prog_4_method_4_code
def yX2_bringInto : MethodName := ⟨RX2, "bringInto", "(ILBellLots$Hanging;)Z"⟩
def RX3 : String := "BellLots$Lot"
def TX3 : u_T := fun k => match k with
  | 0 => ("BellLots$Lot", "from", "[I", true)
  | 1 => ("BellLots$Lot", "carried", "[I", true)
  | _ => ("BellLots$Lot", "undrawn", "I", false)
def tyX3 : Nat → FieldType := fun k => match k with
  | 0 => .array .int
  | 1 => .array .int
  | _ => .int
abbrev wsX30 : List Cond := u_ws RX3 TX3 3
theorem nmX3 : ∀ a, a < 3 → ∀ b, b < 3 → a ≠ b → (TX3 a).2.1 ≠ (TX3 b).2.1 := by decide +kernel
theorem tyX3_ok : ∀ k, k < 3 → parseFieldDescriptor (TX3 k).2.2.1 = some (tyX3 k) := by decide +kernel
abbrev cX3_init : ByteArray := prog_5_method_1_code
def yX3_init : MethodName := ⟨RX3, "<init>", "()V"⟩
abbrev cX3_drawBy : ByteArray := prog_5_method_2_code
def yX3_drawBy : MethodName := ⟨RX3, "drawBy", "(II)V"⟩
abbrev cX3_numberDrawn : ByteArray := prog_5_method_3_code
def yX3_numberDrawn : MethodName := ⟨RX3, "numberDrawn", "(II)I"⟩
abbrev cX3_takeUndrawn : ByteArray := prog_5_method_4_code
def yX3_takeUndrawn : MethodName := ⟨RX3, "takeUndrawn", "(I)I"⟩
abbrev cX3_carry : ByteArray := prog_5_method_5_code
def yX3_carry : MethodName := ⟨RX3, "carry", "([I)V"⟩
abbrev cX3_repeatsTillSame : ByteArray := prog_5_method_6_code
def yX3_repeatsTillSame : MethodName := ⟨RX3, "repeatsTillSame", "()I"⟩
abbrev cX3_ringLength : ByteArray := prog_5_method_7_code
def yX3_ringLength : MethodName := ⟨RX3, "ringLength", "(I)I"⟩
abbrev cX3_leastCommonMultiple : ByteArray := prog_5_method_8_code
def yX3_leastCommonMultiple : MethodName := ⟨RX3, "leastCommonMultiple", "(II)I"⟩
def RX4 : String := "BellLots$Past"
def TX4 : u_T := fun k => match k with
  | 0 => ("BellLots$Past", "ring", "[LBellLots$Hanging;", true)
  | 1 => ("BellLots$Past", "newest", "I", false)
  | _ => ("BellLots$Past", "known", "I", false)
def tyX4 : Nat → FieldType := fun k => match k with
  | 0 => .array (.object "BellLots$Hanging")
  | 1 => .int
  | _ => .int
abbrev wsX40 : List Cond := u_ws RX4 TX4 3
theorem nmX4 : ∀ a, a < 3 → ∀ b, b < 3 → a ≠ b → (TX4 a).2.1 ≠ (TX4 b).2.1 := by decide +kernel
theorem tyX4_ok : ∀ k, k < 3 → parseFieldDescriptor (TX4 k).2.2.1 = some (tyX4 k) := by decide +kernel
abbrev cX4_init : ByteArray := prog_6_method_1_code
def yX4_init : MethodName := ⟨RX4, "<init>", "()V"⟩
abbrev cX4_empty : ByteArray := prog_6_method_2_code
def yX4_empty : MethodName := ⟨RX4, "empty", "()V"⟩
abbrev cX4_remember : ByteArray := prog_6_method_3_code
def yX4_remember : MethodName := ⟨RX4, "remember", "(LBellLots$Hanging;)V"⟩
abbrev cX4_recallInto : ByteArray := prog_6_method_4_code
def yX4_recallInto : MethodName := ⟨RX4, "recallInto", "(LBellLots$Hanging;)Z"⟩
def RX5 : String := "BellLots$Text"
def TX5 : u_T := fun k => match k with
  | 0 => ("BellLots$Text", "letters", "[I", true)
  | 1 => ("BellLots$Text", "length", "I", false)
  | 2 => ("BellLots$Text", "numbers", "[I", true)
  | 3 => ("BellLots$Text", "place", "I", false)
  | 4 => ("BellLots$Text", "start", "I", false)
  | 5 => ("BellLots$Text", "kind", "I", false)
  | _ => ("BellLots$Text", "value", "I", false)
def tyX5 : Nat → FieldType := fun k => match k with
  | 0 => .array .int
  | 1 => .int
  | 2 => .array .int
  | 3 => .int
  | 4 => .int
  | 5 => .int
  | _ => .int
abbrev wsX50 : List Cond := u_ws RX5 TX5 7
theorem nmX5 : ∀ a, a < 7 → ∀ b, b < 7 → a ≠ b → (TX5 a).2.1 ≠ (TX5 b).2.1 := by decide +kernel
theorem tyX5_ok : ∀ k, k < 7 → parseFieldDescriptor (TX5 k).2.2.1 = some (tyX5 k) := by decide +kernel
abbrev cX5_init : ByteArray := prog_7_method_1_code
def yX5_init : MethodName := ⟨RX5, "<init>", "()V"⟩
abbrev cX5_append : ByteArray := prog_7_method_2_code
def yX5_append : MethodName := ⟨RX5, "append", "(I)Z"⟩
abbrev cX5_empty : ByteArray := prog_7_method_3_code
def yX5_empty : MethodName := ⟨RX5, "empty", "()I"⟩
abbrev cX5_readInto : ByteArray := prog_7_method_4_code
def yX5_readInto : MethodName := ⟨RX5, "readInto", "(LBellLots$Told;)I"⟩
abbrev cX5_readItem : ByteArray := prog_7_method_5_code
def yX5_readItem : MethodName := ⟨RX5, "readItem", "(LBellLots$Told;)Z"⟩
abbrev cX5_mayBegin : ByteArray := prog_7_method_6_code
def yX5_mayBegin : MethodName := ⟨RX5, "mayBegin", "(LBellLots$Told;I)Z"⟩
abbrev cX5_mayStand : ByteArray := prog_7_method_7_code
def yX5_mayStand : MethodName := ⟨RX5, "mayStand", "(LBellLots$Told;II)Z"⟩
abbrev cX5_nextToken : ByteArray := prog_7_method_8_code
def yX5_nextToken : MethodName := ⟨RX5, "nextToken", "()V"⟩
abbrev cX5_readNumber : ByteArray := prog_7_method_9_code
def yX5_readNumber : MethodName := ⟨RX5, "readNumber", "()V"⟩
abbrev cX5_isDigit : ByteArray := prog_7_method_10_code
def yX5_isDigit : MethodName := ⟨RX5, "isDigit", "(I)Z"⟩
def RX6 : String := "BellLots$Told"
def TX6 : u_T := fun k => match k with
  | 0 => ("BellLots$Told", "towns", "I", false)
  | 1 => ("BellLots$Told", "roads", "I", false)
  | 2 => ("BellLots$Told", "oaths", "I", false)
  | 3 => ("BellLots$Told", "tower", "[I", true)
  | 4 => ("BellLots$Told", "weight", "[I", true)
  | 5 => ("BellLots$Told", "note", "[I", true)
  | 6 => ("BellLots$Told", "toll", "[I", true)
  | 7 => ("BellLots$Told", "way", "[I", true)
  | 8 => ("BellLots$Told", "oathBell", "[I", true)
  | 9 => ("BellLots$Told", "oathTown", "[I", true)
  | _ => ("BellLots$Told", "oathTerm", "[I", true)
def tyX6 : Nat → FieldType := fun k => match k with
  | 0 => .int
  | 1 => .int
  | 2 => .int
  | 3 => .array .int
  | 4 => .array .int
  | 5 => .array .int
  | 6 => .array .int
  | 7 => .array .int
  | 8 => .array .int
  | 9 => .array .int
  | _ => .array .int
abbrev wsX60 : List Cond := u_ws RX6 TX6 11
theorem nmX6 : ∀ a, a < 11 → ∀ b, b < 11 → a ≠ b → (TX6 a).2.1 ≠ (TX6 b).2.1 := by decide +kernel
theorem tyX6_ok : ∀ k, k < 11 → parseFieldDescriptor (TX6 k).2.2.1 = some (tyX6 k) := by decide +kernel
abbrev cX6_init : ByteArray := prog_8_method_1_code
def yX6_init : MethodName := ⟨RX6, "<init>", "()V"⟩
abbrev cX6_empty : ByteArray := prog_8_method_2_code
def yX6_empty : MethodName := ⟨RX6, "empty", "()V"⟩
abbrev cX6_hasTown : ByteArray := prog_8_method_3_code
def yX6_hasTown : MethodName := ⟨RX6, "hasTown", "(I)Z"⟩
abbrev cX6_add : ByteArray := prog_8_method_4_code
def yX6_add : MethodName := ⟨RX6, "add", "(IIII)V"⟩
abbrev cX6_addTown : ByteArray := prog_8_method_5_code
def yX6_addTown : MethodName := ⟨RX6, "addTown", "(III)V"⟩
abbrev cX6_addRoad : ByteArray := prog_8_method_6_code
def yX6_addRoad : MethodName := ⟨RX6, "addRoad", "(III)V"⟩
abbrev cX6_addOath : ByteArray := prog_8_method_7_code
def yX6_addOath : MethodName := ⟨RX6, "addOath", "(III)V"⟩
abbrev cX6_measureWays : ByteArray := prog_8_method_8_code
def yX6_measureWays : MethodName := ⟨RX6, "measureWays", "()V"⟩
abbrev cX6_shortenWays : ByteArray := prog_8_method_9_code
def yX6_shortenWays : MethodName := ⟨RX6, "shortenWays", "(I)V"⟩
abbrev cX6_wayBetween : ByteArray := prog_8_method_10_code
def yX6_wayBetween : MethodName := ⟨RX6, "wayBetween", "(II)I"⟩
abbrev cX6_oathsCross : ByteArray := prog_8_method_11_code
def yX6_oathsCross : MethodName := ⟨RX6, "oathsCross", "(II)Z"⟩
abbrev cX6_bellsHungBefore : ByteArray := prog_8_method_12_code
def yX6_bellsHungBefore : MethodName := ⟨RX6, "bellsHungBefore", "(I)I"⟩
def RX7 : String := "BellLots"
def TX7 : u_T := fun k => match k with
  | 0 => ("BellLots", "text", "LBellLots$Text;", true)
  | 1 => ("BellLots", "told", "LBellLots$Told;", false)
  | 2 => ("BellLots", "spare", "LBellLots$Told;", false)
  | 3 => ("BellLots", "hanging", "LBellLots$Hanging;", true)
  | 4 => ("BellLots", "trial", "LBellLots$Hanging;", true)
  | 5 => ("BellLots", "past", "LBellLots$Past;", true)
  | 6 => ("BellLots", "images", "LBellLots$Images;", true)
  | 7 => ("BellLots", "finds", "LBellLots$Finds;", true)
  | 8 => ("BellLots", "lot", "LBellLots$Lot;", true)
  | _ => ("BellLots", "traced", "J", false)
def tyX7 : Nat → FieldType := fun k => match k with
  | 0 => .object "BellLots$Text"
  | 1 => .object "BellLots$Told"
  | 2 => .object "BellLots$Told"
  | 3 => .object "BellLots$Hanging"
  | 4 => .object "BellLots$Hanging"
  | 5 => .object "BellLots$Past"
  | 6 => .object "BellLots$Images"
  | 7 => .object "BellLots$Finds"
  | 8 => .object "BellLots$Lot"
  | _ => .long
abbrev wsX70 : List Cond := u_ws RX7 TX7 10
theorem nmX7 : ∀ a, a < 10 → ∀ b, b < 10 → a ≠ b → (TX7 a).2.1 ≠ (TX7 b).2.1 := by decide +kernel
theorem tyX7_ok : ∀ k, k < 10 → parseFieldDescriptor (TX7 k).2.2.1 = some (tyX7 k) := by decide +kernel
abbrev cX7_init : ByteArray := prog_1_method_1_code
def yX7_init : MethodName := ⟨RX7, "<init>", "()V"⟩
abbrev cX7_type : ByteArray := prog_1_method_2_code
def yX7_type : MethodName := ⟨RX7, "type", "(I)I"⟩
abbrev cX7_clear : ByteArray := prog_1_method_3_code
def yX7_clear : MethodName := ⟨RX7, "clear", "()I"⟩
abbrev cX7_plain : ByteArray := prog_1_method_4_code
def yX7_plain : MethodName := ⟨RX7, "plain", "()I"⟩
abbrev cX7_town : ByteArray := prog_1_method_5_code
def yX7_town : MethodName := ⟨RX7, "town", "(II)I"⟩
abbrev cX7_bell : ByteArray := prog_1_method_6_code
def yX7_bell : MethodName := ⟨RX7, "bell", "(II)I"⟩
abbrev cX7_far : ByteArray := prog_1_method_7_code
def yX7_far : MethodName := ⟨RX7, "far", "(II)I"⟩
abbrev cX7_oath : ByteArray := prog_1_method_8_code
def yX7_oath : MethodName := ⟨RX7, "oath", "(II)I"⟩
abbrev cX7_now : ByteArray := prog_1_method_9_code
def yX7_now : MethodName := ⟨RX7, "now", "(I)I"⟩
abbrev cX7_lots : ByteArray := prog_1_method_10_code
def yX7_lots : MethodName := ⟨RX7, "lots", "(I)I"⟩
abbrev cX7_trades : ByteArray := prog_1_method_11_code
def yX7_trades : MethodName := ⟨RX7, "trades", "(II)I"⟩
abbrev cX7_widens : ByteArray := prog_1_method_12_code
def yX7_widens : MethodName := ⟨RX7, "widens", "(II)I"⟩
abbrev cX7_undo : ByteArray := prog_1_method_13_code
def yX7_undo : MethodName := ⟨RX7, "undo", "()I"⟩
abbrev cX7_inLots : ByteArray := prog_1_method_14_code
def yX7_inLots : MethodName := ⟨RX7, "inLots", "(III)I"⟩
abbrev cX7_cost : ByteArray := prog_1_method_15_code
def yX7_cost : MethodName := ⟨RX7, "cost", "(I)I"⟩
abbrev cX7_home : ByteArray := prog_1_method_16_code
def yX7_home : MethodName := ⟨RX7, "home", "(I)I"⟩
abbrev cX7_hang : ByteArray := prog_1_method_17_code
def yX7_hang : MethodName := ⟨RX7, "hang", "(I)I"⟩
abbrev cX7_round : ByteArray := prog_1_method_18_code
def yX7_round : MethodName := ⟨RX7, "round", "(I)I"⟩
abbrev cX7_crossed : ByteArray := prog_1_method_19_code
def yX7_crossed : MethodName := ⟨RX7, "crossed", "()I"⟩
abbrev cX7_oaths : ByteArray := prog_1_method_20_code
def yX7_oaths : MethodName := ⟨RX7, "oaths", "(I)I"⟩
abbrev cX7_strokes : ByteArray := prog_1_method_21_code
def yX7_strokes : MethodName := ⟨RX7, "strokes", "(II)I"⟩
abbrev cX7_found : ByteArray := prog_1_method_22_code
def yX7_found : MethodName := ⟨RX7, "found", "(II)I"⟩
abbrev cX7_forget : ByteArray := prog_1_method_23_code
def yX7_forget : MethodName := ⟨RX7, "forget", "()I"⟩
abbrev cX7_which : ByteArray := prog_1_method_24_code
def yX7_which : MethodName := ⟨RX7, "which", "(I)I"⟩
abbrev cX7_odds : ByteArray := prog_1_method_25_code
def yX7_odds : MethodName := ⟨RX7, "odds", "(I)I"⟩
abbrev cX7_rate : ByteArray := prog_1_method_26_code
def yX7_rate : MethodName := ⟨RX7, "rate", "(II)I"⟩
abbrev cX7_keep : ByteArray := prog_1_method_27_code
def yX7_keep : MethodName := ⟨RX7, "keep", "(I)I"⟩
abbrev cX7_back : ByteArray := prog_1_method_28_code
def yX7_back : MethodName := ⟨RX7, "back", "(I)I"⟩
abbrev cX7_count : ByteArray := prog_1_method_29_code
def yX7_count : MethodName := ⟨RX7, "count", "(I)I"⟩
abbrev cX7_trace : ByteArray := prog_1_method_30_code
def yX7_trace : MethodName := ⟨RX7, "trace", "()J"⟩
abbrev cX7_within : ByteArray := prog_1_method_31_code
def yX7_within : MethodName := ⟨RX7, "within", "(III)Z"⟩
abbrev cX7_at : ByteArray := prog_1_method_32_code
def yX7_at : MethodName := ⟨RX7, "at", "([II)I"⟩
abbrev cX7_put : ByteArray := prog_1_method_33_code
def yX7_put : MethodName := ⟨RX7, "put", "([III)V"⟩
abbrev cX7_pair : ByteArray := prog_1_method_34_code
def yX7_pair : MethodName := ⟨RX7, "pair", "(II)I"⟩
abbrev cX7_commonDivisor : ByteArray := prog_1_method_35_code
def yX7_commonDivisor : MethodName := ⟨RX7, "commonDivisor", "(II)I"⟩
abbrev cX7_dumbTowns : ByteArray := prog_1_method_36_code
def yX7_dumbTowns : MethodName := ⟨RX7, "dumbTowns", "()I"⟩
abbrev cX7_hasLikeNeighbour : ByteArray := prog_1_method_37_code
def yX7_hasLikeNeighbour : MethodName := ⟨RX7, "hasLikeNeighbour", "(I)Z"⟩
abbrev cX7_noteIn : ByteArray := prog_1_method_38_code
def yX7_noteIn : MethodName := ⟨RX7, "noteIn", "(I)I"⟩
abbrev cX7_bellsAtHome : ByteArray := prog_1_method_39_code
def yX7_bellsAtHome : MethodName := ⟨RX7, "bellsAtHome", "()I"⟩
abbrev cX7_fitsOf : ByteArray := prog_1_method_40_code
def yX7_fitsOf : MethodName := ⟨RX7, "fitsOf", "(I)I"⟩
abbrev cX7_rings : ByteArray := prog_1_method_41_code
def yX7_rings : MethodName := ⟨RX7, "rings", "()I"⟩
abbrev cX7_firstTradeHome : ByteArray := prog_1_method_42_code
def yX7_firstTradeHome : MethodName := ⟨RX7, "firstTradeHome", "()I"⟩
abbrev cX7_harmlessWays : ByteArray := prog_1_method_43_code
def yX7_harmlessWays : MethodName := ⟨RX7, "harmlessWays", "()I"⟩
abbrev cX7_allWays : ByteArray := prog_1_method_44_code
def yX7_allWays : MethodName := ⟨RX7, "allWays", "()I"⟩
abbrev cX7_rateBell : ByteArray := prog_1_method_45_code
def yX7_rateBell : MethodName := ⟨RX7, "rateBell", "(I)I"⟩
abbrev cX7_rateGreat : ByteArray := prog_1_method_46_code
def yX7_rateGreat : MethodName := ⟨RX7, "rateGreat", "(I)I"⟩
abbrev cX7_rateCracked : ByteArray := prog_1_method_47_code
def yX7_rateCracked : MethodName := ⟨RX7, "rateCracked", "(I)I"⟩
abbrev cX7_rateStorm : ByteArray := prog_1_method_48_code
def yX7_rateStorm : MethodName := ⟨RX7, "rateStorm", "(I)I"⟩
abbrev cX7_rateRiver : ByteArray := prog_1_method_49_code
def yX7_rateRiver : MethodName := ⟨RX7, "rateRiver", "(I)I"⟩
abbrev cX7_rateCow : ByteArray := prog_1_method_50_code
def yX7_rateCow : MethodName := ⟨RX7, "rateCow", "(I)I"⟩
def RX8 : String := "BellLotsModel"
def TX8 : u_T := fun k => match k with
  | 0 => ("BellLotsModel", "thrown", "I", false)
  | 1 => ("BellLotsModel", "trace", "J", false)
  | 2 => ("BellLotsModel", "text", "[I", true)
  | 3 => ("BellLotsModel", "typed", "I", false)
  | 4 => ("BellLotsModel", "next", "I", false)
  | 5 => ("BellLotsModel", "token", "I", false)
  | 6 => ("BellLotsModel", "place", "I", false)
  | 7 => ("BellLotsModel", "value", "I", false)
  | 8 => ("BellLotsModel", "fault", "I", false)
  | 9 => ("BellLotsModel", "many", "[I", true)
  | 10 => ("BellLotsModel", "bears", "[I", true)
  | 11 => ("BellLotsModel", "weight", "[I", true)
  | 12 => ("BellLotsModel", "note", "[I", true)
  | 13 => ("BellLotsModel", "toll", "[I", true)
  | 14 => ("BellLotsModel", "oathBell", "[I", true)
  | 15 => ("BellLotsModel", "oathTown", "[I", true)
  | 16 => ("BellLotsModel", "oathTerm", "[I", true)
  | 17 => ("BellLotsModel", "far", "[I", true)
  | 18 => ("BellLotsModel", "s", "[I", true)
  | 19 => ("BellLotsModel", "w", "[I", true)
  | 20 => ("BellLotsModel", "kept", "[I", true)
  | 21 => ("BellLotsModel", "isKept", "[Z", true)
  | 22 => ("BellLotsModel", "undos", "[I", true)
  | 23 => ("BellLotsModel", "undoMany", "I", false)
  | 24 => ("BellLotsModel", "foundBell", "[I", true)
  | 25 => ("BellLotsModel", "foundTown", "[I", true)
  | 26 => ("BellLotsModel", "foundMany", "I", false)
  | 27 => ("BellLotsModel", "goes", "[I", true)
  | _ => ("BellLotsModel", "best", "[I", true)
def tyX8 : Nat → FieldType := fun k => match k with
  | 0 => .int
  | 1 => .long
  | 2 => .array .int
  | 3 => .int
  | 4 => .int
  | 5 => .int
  | 6 => .int
  | 7 => .int
  | 8 => .int
  | 9 => .array .int
  | 10 => .array .int
  | 11 => .array .int
  | 12 => .array .int
  | 13 => .array .int
  | 14 => .array .int
  | 15 => .array .int
  | 16 => .array .int
  | 17 => .array .int
  | 18 => .array .int
  | 19 => .array .int
  | 20 => .array .int
  | 21 => .array .boolean
  | 22 => .array .int
  | 23 => .int
  | 24 => .array .int
  | 25 => .array .int
  | 26 => .int
  | 27 => .array .int
  | _ => .array .int
abbrev wsX80 : List Cond := u_ws RX8 TX8 29
theorem nmX8 : ∀ a, a < 29 → ∀ b, b < 29 → a ≠ b → (TX8 a).2.1 ≠ (TX8 b).2.1 := by decide +kernel
theorem tyX8_ok : ∀ k, k < 29 → parseFieldDescriptor (TX8 k).2.2.1 = some (tyX8 k) := by decide +kernel
abbrev cX8_init : ByteArray := prog_10_method_1_code
def yX8_init : MethodName := ⟨RX8, "<init>", "()V"⟩
abbrev cX8_in : ByteArray := prog_10_method_3_code
def yX8_in : MethodName := ⟨RX8, "in", "(III)Z"⟩
abbrev cX8_type : ByteArray := prog_10_method_4_code
def yX8_type : MethodName := ⟨RX8, "type", "(I)I"⟩
abbrev cX8_clear : ByteArray := prog_10_method_5_code
def yX8_clear : MethodName := ⟨RX8, "clear", "()I"⟩
abbrev cX8_letterAt : ByteArray := prog_10_method_6_code
def yX8_letterAt : MethodName := ⟨RX8, "letterAt", "(I)I"⟩
abbrev cX8_advances : ByteArray := prog_10_method_7_code
def yX8_advances : MethodName := ⟨RX8, "advances", "()V"⟩
abbrev cX8_isWell : ByteArray := prog_10_method_8_code
def yX8_isWell : MethodName := ⟨RX8, "isWell", "()Z"⟩
abbrev cX8_takes : ByteArray := prog_10_method_9_code
def yX8_takes : MethodName := ⟨RX8, "takes", "(Z)I"⟩
abbrev cX8_number : ByteArray := prog_10_method_10_code
def yX8_number : MethodName := ⟨RX8, "number", "(II)I"⟩
abbrev cX8_readsItem : ByteArray := prog_10_method_11_code
def yX8_readsItem : MethodName := ⟨RX8, "readsItem", "(I)V"⟩
abbrev cX8_plain : ByteArray := prog_10_method_12_code
def yX8_plain : MethodName := ⟨RX8, "plain", "()I"⟩
abbrev cX8_settles : ByteArray := prog_10_method_13_code
def yX8_settles : MethodName := ⟨RX8, "settles", "()V"⟩
abbrev cX8_isTown : ByteArray := prog_10_method_14_code
def yX8_isTown : MethodName := ⟨RX8, "isTown", "(I)Z"⟩
abbrev cX8_hangs : ByteArray := prog_10_method_15_code
def yX8_hangs : MethodName := ⟨RX8, "hangs", "([II)I"⟩
abbrev cX8_isDumb : ByteArray := prog_10_method_16_code
def yX8_isDumb : MethodName := ⟨RX8, "isDumb", "(I)Z"⟩
abbrev cX8_town : ByteArray := prog_10_method_17_code
def yX8_town : MethodName := ⟨RX8, "town", "(II)I"⟩
abbrev cX8_fits : ByteArray := prog_10_method_18_code
def yX8_fits : MethodName := ⟨RX8, "fits", "(I)I"⟩
abbrev cX8_bell : ByteArray := prog_10_method_19_code
def yX8_bell : MethodName := ⟨RX8, "bell", "(II)I"⟩
abbrev cX8_far : ByteArray := prog_10_method_20_code
def yX8_far : MethodName := ⟨RX8, "far", "(II)I"⟩
abbrev cX8_oath : ByteArray := prog_10_method_21_code
def yX8_oath : MethodName := ⟨RX8, "oath", "(II)I"⟩
abbrev cX8_now : ByteArray := prog_10_method_22_code
def yX8_now : MethodName := ⟨RX8, "now", "(I)I"⟩
abbrev cX8_notes : ByteArray := prog_10_method_23_code
def yX8_notes : MethodName := ⟨RX8, "notes", "()V"⟩
abbrev cX8_draws : ByteArray := prog_10_method_24_code
def yX8_draws : MethodName := ⟨RX8, "draws", "(I)V"⟩
abbrev cX8_cuts : ByteArray := prog_10_method_25_code
def yX8_cuts : MethodName := ⟨RX8, "cuts", "([I)I"⟩
abbrev cX8_drawn : ByteArray := prog_10_method_26_code
def yX8_drawn : MethodName := ⟨RX8, "drawn", "([II)I"⟩
abbrev cX8_lots : ByteArray := prog_10_method_27_code
def yX8_lots : MethodName := ⟨RX8, "lots", "(I)I"⟩
abbrev cX8_trades : ByteArray := prog_10_method_28_code
def yX8_trades : MethodName := ⟨RX8, "trades", "(II)I"⟩
abbrev cX8_widens : ByteArray := prog_10_method_29_code
def yX8_widens : MethodName := ⟨RX8, "widens", "(II)I"⟩
abbrev cX8_undo : ByteArray := prog_10_method_30_code
def yX8_undo : MethodName := ⟨RX8, "undo", "()I"⟩
abbrev cX8_asNow : ByteArray := prog_10_method_31_code
def yX8_asNow : MethodName := ⟨RX8, "asNow", "()V"⟩
abbrev cX8_inLots : ByteArray := prog_10_method_32_code
def yX8_inLots : MethodName := ⟨RX8, "inLots", "(III)I"⟩
abbrev cX8_cost : ByteArray := prog_10_method_33_code
def yX8_cost : MethodName := ⟨RX8, "cost", "(I)I"⟩
abbrev cX8_home : ByteArray := prog_10_method_34_code
def yX8_home : MethodName := ⟨RX8, "home", "(I)I"⟩
abbrev cX8_isRow : ByteArray := prog_10_method_35_code
def yX8_isRow : MethodName := ⟨RX8, "isRow", "(I)Z"⟩
abbrev cX8_rows : ByteArray := prog_10_method_36_code
def yX8_rows : MethodName := ⟨RX8, "rows", "()I"⟩
abbrev cX8_isBorne : ByteArray := prog_10_method_37_code
def yX8_isBorne : MethodName := ⟨RX8, "isBorne", "()Z"⟩
abbrev cX8_costOfRow : ByteArray := prog_10_method_38_code
def yX8_costOfRow : MethodName := ⟨RX8, "costOfRow", "()I"⟩
abbrev cX8_hang : ByteArray := prog_10_method_39_code
def yX8_hang : MethodName := ⟨RX8, "hang", "(I)I"⟩
abbrev cX8_round : ByteArray := prog_10_method_40_code
def yX8_round : MethodName := ⟨RX8, "round", "(I)I"⟩
abbrev cX8_crossed : ByteArray := prog_10_method_41_code
def yX8_crossed : MethodName := ⟨RX8, "crossed", "()I"⟩
abbrev cX8_oaths : ByteArray := prog_10_method_42_code
def yX8_oaths : MethodName := ⟨RX8, "oaths", "(I)I"⟩
abbrev cX8_strokes : ByteArray := prog_10_method_43_code
def yX8_strokes : MethodName := ⟨RX8, "strokes", "(II)I"⟩
abbrev cX8_found : ByteArray := prog_10_method_44_code
def yX8_found : MethodName := ⟨RX8, "found", "(II)I"⟩
abbrev cX8_forget : ByteArray := prog_10_method_45_code
def yX8_forget : MethodName := ⟨RX8, "forget", "()I"⟩
abbrev cX8_which : ByteArray := prog_10_method_46_code
def yX8_which : MethodName := ⟨RX8, "which", "(I)I"⟩
abbrev cX8_gcd : ByteArray := prog_10_method_47_code
def yX8_gcd : MethodName := ⟨RX8, "gcd", "(II)I"⟩
abbrev cX8_odds : ByteArray := prog_10_method_48_code
def yX8_odds : MethodName := ⟨RX8, "odds", "(I)I"⟩
abbrev cX8_rate : ByteArray := prog_10_method_49_code
def yX8_rate : MethodName := ⟨RX8, "rate", "(II)I"⟩
abbrev cX8_keep : ByteArray := prog_10_method_50_code
def yX8_keep : MethodName := ⟨RX8, "keep", "(I)I"⟩
abbrev cX8_back : ByteArray := prog_10_method_51_code
def yX8_back : MethodName := ⟨RX8, "back", "(I)I"⟩
abbrev cX8_roads : ByteArray := prog_10_method_52_code
def yX8_roads : MethodName := ⟨RX8, "roads", "()I"⟩
abbrev cX8_count : ByteArray := prog_10_method_53_code
def yX8_count : MethodName := ⟨RX8, "count", "(I)I"⟩
abbrev cX8_trace : ByteArray := prog_10_method_54_code
def yX8_trace : MethodName := ⟨RX8, "trace", "()J"⟩
def RJ6 : String := "java/lang/Integer"
def TJ6 : u_T := fun k => match k with
  | _ => ("", "", "", false)
def tyJ6 : Nat → FieldType := fun k => match k with
  | _ => .int
abbrev wsJ60 : List Cond := u_ws RJ6 TJ6 0
theorem nmJ6 : ∀ a, a < 0 → ∀ b, b < 0 → a ≠ b → (TJ6 a).2.1 ≠ (TJ6 b).2.1 := by decide +kernel
theorem tyJ6_ok : ∀ k, k < 0 → parseFieldDescriptor (TJ6 k).2.2.1 = some (tyJ6 k) := by decide +kernel
abbrev cJ6_bitCount_0f7a4 : ByteArray := prog_11_method_49_code
def yJ6_bitCount_0f7a4 : MethodName := ⟨RJ6, "bitCount", "(I)I"⟩
def RJ9 : String := "java/lang/Math"
def TJ9 : u_T := fun k => match k with
  | _ => ("", "", "", false)
def tyJ9 : Nat → FieldType := fun k => match k with
  | _ => .int
abbrev wsJ90 : List Cond := u_ws RJ9 TJ9 0
theorem nmJ9 : ∀ a, a < 0 → ∀ b, b < 0 → a ≠ b → (TJ9 a).2.1 ≠ (TJ9 b).2.1 := by decide +kernel
theorem tyJ9_ok : ∀ k, k < 0 → parseFieldDescriptor (TJ9 k).2.2.1 = some (tyJ9 k) := by decide +kernel
abbrev cJ9_max_7cf53 : ByteArray := prog_12_method_65_code
def yJ9_max_7cf53 : MethodName := ⟨RJ9, "max", "(II)I"⟩
abbrev cJ9_min_7cf53 : ByteArray := prog_12_method_69_code
def yJ9_min_7cf53 : MethodName := ⟨RJ9, "min", "(II)I"⟩
def RJ10 : String := "java/lang/System"
def TJ10 : u_T := fun k => match k with
  | _ => ("", "", "", false)
def tyJ10 : Nat → FieldType := fun k => match k with
  | _ => .int
abbrev wsJ100 : List Cond := u_ws RJ10 TJ10 0
theorem nmJ10 : ∀ a, a < 0 → ∀ b, b < 0 → a ≠ b → (TJ10 a).2.1 ≠ (TJ10 b).2.1 := by decide +kernel
theorem tyJ10_ok : ∀ k, k < 0 → parseFieldDescriptor (TJ10 k).2.2.1 = some (tyJ10 k) := by decide +kernel
def RJ7 : String := "java/util/Arrays"
def TJ7 : u_T := fun k => match k with
  | _ => ("", "", "", false)
def tyJ7 : Nat → FieldType := fun k => match k with
  | _ => .int
abbrev wsJ70 : List Cond := u_ws RJ7 TJ7 0
theorem nmJ7 : ∀ a, a < 0 → ∀ b, b < 0 → a ≠ b → (TJ7 a).2.1 ≠ (TJ7 b).2.1 := by decide +kernel
theorem tyJ7_ok : ∀ k, k < 0 → parseFieldDescriptor (TJ7 k).2.2.1 = some (tyJ7 k) := by decide +kernel
abbrev cJ7_fill_53178 : ByteArray := prog_14_method_103_code
def yJ7_fill_53178 : MethodName := ⟨RJ7, "fill", "([II)V"⟩
def RL : String := "BellLotsLaw"
abbrev cL_law : ByteArray := code
def yL_law : MethodName := ⟨RL, "law", "([I)Z"⟩
abbrev vwCl : List vw_C := [(RX0, TX0, 3), (RX1, TX1, 6), (RX2, TX2, 2), (RX3, TX3, 3), (RX4, TX4, 3), (RX5, TX5, 7), (RX6, TX6, 11), (RX7, TX7, 10), (RX8, TX8, 29)]
end
section
/-! ===== the pure picture: cells by number, ints, longs, references apart ===== -/
abbrev vM : Type := String × MethodName × ByteArray × Nat × Option FieldType
abbrev vS : Type := (Nat → Nat → Int32) × (Nat → Nat → Int64) × (Nat → Nat → Option Nat)
/-- base of the cells, the script's cell, the classes and their slots, the classes of int, boolean and Hanging rows -/
abbrev vE : Type := Nat × Nat × va_G × ClassId × ClassId × ClassId
abbrev vJ : Value := .retAddr 0
abbrev vX : Value := .retAddr 1
def vT : List Cond := lw_tbl.filter goodWord
def vIsN : Cond → Bool
  | .methodLinkNest _ _ _ _ => true
  | _ => false
def vNs : List Cond := tables_1.filter vIsN
theorem vt {w : Cond} (i : Nat) (h : tables_1[i]? = some w) (g : goodWord w = true) : w ∈ vT := List.mem_filter.mpr ⟨List.mem_append_right _ (List.mem_of_getElem? h), g⟩
theorem vsl {w : Cond} (i : Nat) (h : (k2_sels lw_privs)[i]? = some w) (g : goodWord w = true) : w ∈ vT := List.mem_filter.mpr ⟨List.mem_append_left _ (List.mem_of_getElem? h), g⟩
theorem vn {w : Cond} (i : Nat) (h : tables_1[i]? = some w) (g : vIsN w = true) : w ∈ vNs := List.mem_filter.mpr ⟨List.mem_of_getElem? h, g⟩
theorem vT_good {w : Cond} (h : w ∈ vT) : (w.onTables && w.keeps) = true ∨ ∃ ty, w = .arrayClass ty := good_of_word (List.mem_filter.mp h).2
theorem vNs_is {w : Cond} (h : w ∈ vNs) : ∃ a i x q, w = .methodLinkNest a i x q := by
  have h2 := (List.mem_filter.mp h).2
  cases w <;> first | exact ⟨_, _, _, _, rfl⟩ | cases h2
theorem vNs_warm {s U : State} (hW : s.WarmedH U.vm) (h : ∀ w ∈ vNs, va_Nw w s) : ∀ w ∈ vNs, va_Nw w U := by
  intro w hw
  obtain ⟨a, i, x, q, rfl⟩ := vNs_is hw
  exact va_Nw.warmM hW (h _ hw)
theorem vNs_same {s U : State} (hW : s.vm = U.vm) (h : ∀ w ∈ vNs, va_Nw w s) : ∀ w ∈ vNs, va_Nw w U := by
  intro w hw
  obtain ⟨a, i, x, q, rfl⟩ := vNs_is hw
  exact va_Nw.same rfl hW (h _ hw)
def vSHL : List (Nat × Nat) := [(7, 10), (5, 7), (100, 200), (100, 3), (6, 11), (100, 6), (100, 6), (100, 6), (100, 36), (100, 36), (100, 6), (100, 6), (100, 6), (6, 11), (100, 6), (100, 6), (100, 6), (100, 36), (100, 36), (100, 6), (100, 6), (100, 6), (1, 6), (100, 6), (100, 6), (100, 6), (100, 36), (1, 6), (100, 6), (100, 6), (100, 6), (100, 36), (4, 3), (102, 10), (1, 6), (100, 6), (100, 6), (100, 6), (100, 36), (1, 6), (100, 6), (100, 6), (100, 6), (100, 36), (1, 6), (100, 6), (100, 6), (100, 6), (100, 36), (1, 6), (100, 6), (100, 6), (100, 6), (100, 36), (1, 6), (100, 6), (100, 6), (100, 6), (100, 36), (1, 6), (100, 6), (100, 6), (100, 6), (100, 36), (1, 6), (100, 6), (100, 6), (100, 6), (100, 36), (1, 6), (100, 6), (100, 6), (100, 6), (100, 36), (1, 6), (100, 6), (100, 6), (100, 6), (100, 36), (1, 6), (100, 6), (100, 6), (100, 6), (100, 36), (2, 2), (102, 2), (101, 2), (1, 6), (100, 6), (100, 6), (100, 6), (100, 36), (1, 6), (100, 6), (100, 6), (100, 6), (100, 36), (0, 3), (100, 5), (100, 5), (3, 3), (100, 6), (100, 6), (8, 29), (100, 200), (100, 4), (100, 12), (100, 12), (100, 12), (100, 72), (100, 12), (100, 12), (100, 12), (100, 36), (100, 56), (100, 56), (100, 112), (101, 2), (100, 560), (100, 5), (100, 5), (100, 6), (100, 6)]
def vSH (a : Nat) : Nat × Nat := vSHL.getD a (999, 0)
def vTyL : List (Nat → FieldType) := [tyX0, tyX1, tyX2, tyX3, tyX4, tyX5, tyX6, tyX7, tyX8]
def vTF (ci k : Nat) : FieldType := (vTyL.getD ci (fun _ => .int)) k
def vSZ (n : Nat) : Nat := ((vSHL.take n).map (fun q => q.2)).sum
def vmV (E : vE) (v : Value) : Value := match v with
  | .ref a => .ref (E.1 + a)
  | .retAddr k => if k = 1 then .ref E.2.1 else .retAddr k
  | v => v
def vrf (o : Option Nat) : Value := match o with
  | none => .null
  | some a => .ref a
theorem vrf_m (E : vE) (o : Option Nat) : va_rf (o.map (fun a => E.1 + a)) = vmV E (vrf o) := by cases o <;> rfl
def vfld (E : vE) (σ : vS) (id k : Nat) (ty : FieldType) : Value := match ty with
  | .long => .long (σ.2.1 id k)
  | .array _ => va_rf ((σ.2.2 id k).map (fun a => E.1 + a))
  | .object _ => va_rf ((σ.2.2 id k).map (fun a => E.1 + a))
  | _ => .int (σ.1 id k)
def vflds (E : vE) (σ : vS) (id ci N : Nat) : List Value := (List.range N).map (fun k => vfld E σ id k (vTF ci k))
def vcell (E : vE) (σ : vS) (id : Nat) : va_E :=
  if (vSH id).1 = 100 then .inl (E.2.2.2.1, (vSH id).2, .inl (σ.1 id))
  else if (vSH id).1 = 101 then .inl (E.2.2.2.2.1, (vSH id).2, .inl (σ.1 id))
  else if (vSH id).1 = 102 then .inl (E.2.2.2.2.2, (vSH id).2, .inr (.inr (.inr (.inr (fun k => (σ.2.2 id k).map (fun a => E.1 + a))))))
  else .inr ((vSH id).1, vflds E σ id (vSH id).1 (vSH id).2)
def vws (E : vE) (n : Nat) (σ : vS) : va_W := (List.range n).map (fun id => (E.1 + id, vcell E σ id))
def vtys (E : vE) : List (ClassId × FieldType) := [(E.2.2.2.1, .int), (E.2.2.2.2.1, .boolean), (E.2.2.2.2.2, .object RX1)]
/-- the script: its length and its ints stand in the picture too, as cells that no code reaches -/
def vLen (σ : vS) : Nat := (σ.1 1001 0).toNatClampNeg
def vW0 (E : vE) (n : Nat) (σ : vS) (s : State) (H : Heap) : Prop :=
  va_K E.2.2.1 vwCl (vtys E) s ∧ va_P E.2.2.1 vwCl (vws E n σ) H ∧ (∀ w ∈ vNs, va_Nw w s) ∧ va_AO RX1 s ∧ va_X E.2.1 (vLen σ) (σ.1 1000) s H ∧ E.2.1 < E.1 ∧ n ≤ 123
def vWld (E : vE) (n : Nat) (σ : vS) (s : State) (H : Heap) (locs : List Loc) : Prop :=
  vW0 E n σ s H ∧ va_S (fun q => E.1 ≤ q) s.heap H locs ∧ E.1 ≤ s.heap.size
def vLs (E : vE) (nL : Nat) (lm : Array Slot) (ls : List Value) : Prop := lm.size = nL ∧ lv_wf lm ∧ ∀ (i : Nat) (v : Value), ls[i]? = some v → v ≠ vJ → lm[i]? = some (.val (vmV E v))
def vCtx (M : vM) (p : Program) (s : State) (m : MethodId) (args : Array Value) (meth : Method) (c : Code) : Prop :=
  p.tables.exec = Jvm.exec ∧ c.code = M.2.2.1 ∧ c.maxLocals = M.2.2.2.1 ∧ s.vm.findClass M.1 = some m.cls ∧ (∀ w ∈ vT, w.before args s = true) ∧ meth.sig.returnType = M.2.2.2.2 ∧ meth.locks = false ∧ (M.2.1.name = "<init>" → meth.name = "<init>")
def vRet (M : vM) (pc : Nat) (v : Option Value) : Prop := match v with
  | none => decode M.2.2.1 pc = .ok (.return_, 1) ∧ M.2.2.2.2 = none
  | some (.int x) => decode M.2.2.1 pc = .ok (.ireturn, 1) ∧ ∃ ty, M.2.2.2.2 = some ty ∧ narrow ty (.int x) = .int x
  | some (.long _) => decode M.2.2.1 pc = .ok (.lreturn, 1) ∧ M.2.2.2.2 = some .long
  | _ => False
/-- the method M at pc, with d frames of room, n cells made and nf at its end: it comes to its end with K -/
def V (d nf n : Nat) (M : vM) (pc : Nat) (ls st : List Value) (σ : vS) (K : Option Value → vS → Prop) : Prop :=
  ∀ (E : vE) (p : Program) (l : Launch) (e : Env) (R : Room) (s : State) (m : MethodId) (args : Array Value) (below : List Frame) (meth : Method) (c : Code) (H : Heap) (locs : List Loc) (cells slots : Nat) (Q : State → Prop) (lm : Array Slot),
    vCtx M p s m args meth c → R.frames = d → 34 * d ≤ R.locals → cells + (nf - n) ≤ R.cells → slots + (vSZ nf - vSZ n) ≤ R.slots → n ≤ nf → s.heap.size + cells = E.1 + n → vWld E n σ s H locs → vLs E M.2.2.2.1 lm ls →
    (∀ (v : Option Value) (τ : vS) (H' : Heap) (locs' : List Loc) (pc' : Nat) (lm' : Array Slot), K v τ → vWld E nf τ s H' locs' → vRet M pc' v → W p l e R s m args below meth c H' locs' (cells + (nf - n)) (slots + (vSZ nf - vSZ n)) Q (F0 m pc' lm' (v.map (vmV E)).toList)) →
    W p l e R s m args below meth c H locs cells slots Q (F0 m pc lm (st.map (vmV E)))
def Ki (k : Int32 → vS → Prop) : Option Value → vS → Prop := fun v σ => match v with
  | some (.int x) => k x σ
  | _ => False
def Kl (k : Int64 → vS → Prop) : Option Value → vS → Prop := fun v σ => match v with
  | some (.long x) => k x σ
  | _ => False
def Kv (k : vS → Prop) : Option Value → vS → Prop := fun v σ => match v with
  | none => k σ
  | _ => False
/-! ===== rows of a program: one instruction ===== -/
def vI (M : vM) (pc : Nat) (i : Instr) (len pc' : Nat) : Prop := decode M.2.2.1 pc = .ok (i, len) ∧ pc + len = pc'
def vIc (M : vM) (pc : Nat) (q : Jvm.ClassFile.Cond) (tgt pc' : Nat) : Prop := ∃ off : Int, decode M.2.2.1 pc = .ok (.if_icmp q off, 3) ∧ (pc : Int) + off = (tgt : Int) ∧ pc + 3 = pc'
def vIf (M : vM) (pc : Nat) (q : Jvm.ClassFile.Cond) (tgt pc' : Nat) : Prop := ∃ off : Int, decode M.2.2.1 pc = .ok (.ifCond q off, 3) ∧ (pc : Int) + off = (tgt : Int) ∧ pc + 3 = pc'
def vGo (M : vM) (pc : Nat) (tgt : Nat) : Prop := ∃ off : Int, decode M.2.2.1 pc = .ok (.goto off, 3) ∧ (pc : Int) + off = (tgt : Int)
def vNl (M : vM) (pc : Nat) (tgt pc' : Nat) : Prop := ∃ off : Int, decode M.2.2.1 pc = .ok (.ifnull off, 3) ∧ (pc : Int) + off = (tgt : Int) ∧ pc + 3 = pc'
def vNn (M : vM) (pc : Nat) (tgt pc' : Nat) : Prop := ∃ off : Int, decode M.2.2.1 pc = .ok (.ifnonnull off, 3) ∧ (pc : Int) + off = (tgt : Int) ∧ pc + 3 = pc'
/-- an int is pushed -/
def vCn (M : vM) (pc : Nat) (v : Int32) (pc' : Nat) : Prop :=
  (∃ x : Int, decode M.2.2.1 pc = .ok (.iconst x, 1) ∧ Int32.ofInt x = v ∧ pc + 1 = pc') ∨ (∃ x : Int, decode M.2.2.1 pc = .ok (.bipush x, 2) ∧ (Int8.ofInt x).toInt32 = v ∧ pc + 2 = pc') ∨
  (∃ x : Int, decode M.2.2.1 pc = .ok (.sipush x, 3) ∧ (Int16.ofInt x).toInt32 = v ∧ pc + 3 = pc') ∨ (∃ x : Nat, decode M.2.2.1 pc = .ok (.ldc x, 2) ∧ Cond.constant M.1 x v ∈ vT ∧ pc + 2 = pc') ∨ (∃ x : Nat, decode M.2.2.1 pc = .ok (.ldc_w x, 3) ∧ Cond.constant M.1 x v ∈ vT ∧ pc + 3 = pc')
def vCl (M : vM) (pc : Nat) (v : Int64) (pc' : Nat) : Prop :=
  (∃ x : Fin 2, decode M.2.2.1 pc = .ok (.lconst x, 1) ∧ Int64.ofNat (x : Nat) = v ∧ pc + 1 = pc') ∨ (∃ x : Nat, decode M.2.2.1 pc = .ok (.ldc2_w x, 3) ∧ Cond.constantLong M.1 x v ∈ vT ∧ pc + 3 = pc')
def vLi (M : vM) (pc k pc' : Nat) : Prop := (∃ q : Fin 4, decode M.2.2.1 pc = .ok (.iload_n q, 1) ∧ (q : Nat) = k ∧ pc + 1 = pc') ∨ (decode M.2.2.1 pc = .ok (.iload k, 2) ∧ pc + 2 = pc')
def vLl (M : vM) (pc k pc' : Nat) : Prop := (∃ q : Fin 4, decode M.2.2.1 pc = .ok (.lload_n q, 1) ∧ (q : Nat) = k ∧ pc + 1 = pc') ∨ (decode M.2.2.1 pc = .ok (.lload k, 2) ∧ pc + 2 = pc')
def vLa (M : vM) (pc k pc' : Nat) : Prop := ∃ q : Fin 4, decode M.2.2.1 pc = .ok (.aload_n q, 1) ∧ (q : Nat) = k ∧ pc + 1 = pc'
def vSi (M : vM) (pc k pc' : Nat) : Prop := ((∃ q : Fin 4, decode M.2.2.1 pc = .ok (.istore_n q, 1) ∧ (q : Nat) = k ∧ pc + 1 = pc') ∨ (decode M.2.2.1 pc = .ok (.istore k, 2) ∧ pc + 2 = pc')) ∧ k < M.2.2.2.1
def vSl (M : vM) (pc k pc' : Nat) : Prop := ((∃ q : Fin 4, decode M.2.2.1 pc = .ok (.lstore_n q, 1) ∧ (q : Nat) = k ∧ pc + 1 = pc') ∨ (decode M.2.2.1 pc = .ok (.lstore k, 2) ∧ pc + 2 = pc')) ∧ k + 1 < M.2.2.2.1
def vSa (M : vM) (pc k pc' : Nat) : Prop := (∃ q : Fin 4, decode M.2.2.1 pc = .ok (.astore_n q, 1) ∧ (q : Nat) = k ∧ pc + 1 = pc') ∧ k < M.2.2.2.1
def vIn (M : vM) (pc k : Nat) (v : Int32) (pc' : Nat) : Prop := ∃ x : Int, decode M.2.2.1 pc = .ok (.iinc k x, 3) ∧ Int32.ofInt x = v ∧ k < M.2.2.2.1 ∧ pc + 3 = pc'
def vNF (ci : Nat) : Nat := ([3, 6, 2, 3, 3, 7, 11, 10, 29] : List Nat).getD ci 0
abbrev vOb (n a ci : Nat) : Prop := a < n ∧ vSH a = (ci, vNF ci) ∧ ci < 9
abbrev vAr (n a kd len : Nat) : Prop := a < n ∧ vSH a = (kd, len) ∧ len < 2147483648
/-- getfield, putfield: field k of class ci -/
def vGf (M : vM) (pc ci k pc' : Nat) : Prop := ∃ (idx : Nat) (r : vw_C), decode M.2.2.1 pc = .ok (.getfield idx, 3) ∧ pc + 3 = pc' ∧ vwCl[ci]? = some r ∧ k < r.2.2 ∧ Cond.fieldLink M.1 idx (r.2.1 k).1 (r.2.1 k).2.1 (r.2.1 k).2.2.1 ∈ vT
def vPf (M : vM) (pc ci k pc' : Nat) : Prop := ∃ (idx : Nat) (r : vw_C), decode M.2.2.1 pc = .ok (.putfield idx, 3) ∧ pc + 3 = pc' ∧ vwCl[ci]? = some r ∧ k < r.2.2 ∧ Cond.fieldLink M.1 idx (r.2.1 k).1 (r.2.1 k).2.1 (r.2.1 k).2.2.1 ∈ vT ∧ ((r.2.1 k).2.2.2 = false ∨ ((r.2.1 k).2.2.2 = true ∧ M.2.1.name = "<init>" ∧ (r.2.1 k).1 = M.1))
def up {α : Type} (I : Nat → Nat → α) (a : Nat) (f : Nat → α) : Nat → Nat → α := fun b => if b = a then f else I b
theorem up_s {α : Type} {I : Nat → Nat → α} {a : Nat} {f : Nat → α} : up I a f a = f := by simp [up]
theorem up_n {α : Type} {I : Nat → Nat → α} {a b : Nat} {f : Nat → α} (h : b ≠ a) : up I a f b = I b := by simp [up, h]
theorem va_up_s {α : Type} {f : Nat → α} {k : Nat} {v : α} : va_up f k v k = v := by simp [va_up]
theorem va_up_n {α : Type} {f : Nat → α} {k j : Nat} {v : α} (h : j ≠ k) : va_up f k v j = f j := by simp [va_up, h]

theorem vCok : ∀ (ci : Nat) (r : vw_C), vwCl[ci]? = some r → (∀ x ∈ u_ws r.1 r.2.1 r.2.2, x ∈ vT) ∧ (∀ k, k < r.2.2 → parseFieldDescriptor (r.2.1 k).2.2.1 = some (vTF ci k)) ∧ (∀ a, a < r.2.2 → ∀ b, b < r.2.2 → a ≠ b → (r.2.1 a).2.1 ≠ (r.2.1 b).2.1) ∧ r.2.2 = vNF ci := by
  intro ci r h
  match ci, h with
  | 0, h => cases h; exact ⟨by decide +kernel, tyX0_ok, nmX0, rfl⟩
  | 1, h => cases h; exact ⟨by decide +kernel, tyX1_ok, nmX1, rfl⟩
  | 2, h => cases h; exact ⟨by decide +kernel, tyX2_ok, nmX2, rfl⟩
  | 3, h => cases h; exact ⟨by decide +kernel, tyX3_ok, nmX3, rfl⟩
  | 4, h => cases h; exact ⟨by decide +kernel, tyX4_ok, nmX4, rfl⟩
  | 5, h => cases h; exact ⟨by decide +kernel, tyX5_ok, nmX5, rfl⟩
  | 6, h => cases h; exact ⟨by decide +kernel, tyX6_ok, nmX6, rfl⟩
  | 7, h => cases h; exact ⟨by decide +kernel, tyX7_ok, nmX7, rfl⟩
  | 8, h => cases h; exact ⟨by decide +kernel, tyX8_ok, nmX8, rfl⟩
  | ci + 9, h => simp [vwCl] at h
/-! ===== the list of cells ===== -/
theorem vws_get {E : vE} {n : Nat} {σ : vS} {a : Nat} (h : a < n) : (vws E n σ)[a]? = some (E.1 + a, vcell E σ a) := by
  simp [vws, h]
theorem vws_D (E : vE) (n : Nat) (σ : vS) : va_D (fun q => E.1 ≤ q) (vws E n σ) := by
  refine ⟨fun i j x y hx hy hxy => ?_, fun k q hq => ?_⟩
  · have hi : i < n := by have := (List.getElem?_eq_some_iff.mp hx).1; simpa [vws] using this
    have hj : j < n := by have := (List.getElem?_eq_some_iff.mp hy).1; simpa [vws] using this
    rw [vws_get hi] at hx; rw [vws_get hj] at hy
    cases hx; cases hy
    simp only at hxy
    omega
  · have hi : k < n := by have := (List.getElem?_eq_some_iff.mp hq).1; simpa [vws] using this
    rw [vws_get hi] at hq
    cases hq
    exact Nat.le_add_right _ _
theorem vws_set {E : vE} {n : Nat} {σ τ : vS} {a : Nat} {x : va_E} (h : a < n) (hx : x = vcell E τ a) (ho : ∀ b, b < n → b ≠ a → vcell E τ b = vcell E σ b) : (vws E n σ).set a (E.1 + a, x) = vws E n τ := by
  apply List.ext_getElem?
  intro i
  rw [List.getElem?_set]
  by_cases hi : i < n
  · by_cases hia : a = i
    · subst hia
      rw [if_pos rfl, if_pos (by simpa [vws] using h), vws_get h, hx]
    · rw [if_neg hia, vws_get hi, vws_get hi, ho i hi (Ne.symm hia)]
  · have e1 : (vws E n τ)[i]? = none := by rw [List.getElem?_eq_none_iff]; simp [vws]; omega
    have e2 : (vws E n σ)[i]? = none := by rw [List.getElem?_eq_none_iff]; simp [vws]; omega
    rw [e1, e2]
    by_cases hia : a = i
    · subst hia
      exact absurd h hi
    · rw [if_neg hia]
theorem vcell_ob {E : vE} {σ : vS} {a ci : Nat} (h : vSH a = (ci, vNF ci)) (hc : ci < 9) : vcell E σ a = .inr (ci, vflds E σ a ci (vNF ci)) := by
  simp only [vcell, h]
  rw [if_neg (by omega), if_neg (by omega), if_neg (by omega)]
theorem vcell_ia {E : vE} {σ : vS} {a len : Nat} (h : vSH a = (100, len)) : vcell E σ a = .inl (E.2.2.2.1, len, .inl (σ.1 a)) := by
  simp [vcell, h]
theorem vcell_za {E : vE} {σ : vS} {a len : Nat} (h : vSH a = (101, len)) : vcell E σ a = .inl (E.2.2.2.2.1, len, .inl (σ.1 a)) := by
  simp [vcell, h]
theorem vcell_qa {E : vE} {σ : vS} {a len : Nat} (h : vSH a = (102, len)) : vcell E σ a = .inl (E.2.2.2.2.2, len, .inr (.inr (.inr (.inr (fun k => (σ.2.2 a k).map (fun b => E.1 + b)))))) := by
  simp [vcell, h]
theorem vflds_get {E : vE} {σ : vS} {a ci N k : Nat} (h : k < N) : (vflds E σ a ci N)[k]? = some (vfld E σ a k (vTF ci k)) := by simp [vflds, h]
theorem vflds_len {E : vE} {σ : vS} {a ci N : Nat} : (vflds E σ a ci N).length = N := by simp [vflds]
/-- a picture that differs in the cell a alone -/
theorem vcell_eq {E : vE} {σ τ : vS} {b : Nat} (h1 : τ.1 b = σ.1 b) (h2 : τ.2.1 b = σ.2.1 b) (h3 : τ.2.2 b = σ.2.2 b) : vcell E τ b = vcell E σ b := by
  simp only [vcell, vflds, vfld, h1, h2, h3]
theorem vflds_set {E : vE} {σ τ : vS} {a ci N k : Nat} {v : Value} (hk : k < N) (hv : v = vfld E τ a k (vTF ci k)) (ho : ∀ j, j < N → j ≠ k → vfld E τ a j (vTF ci j) = vfld E σ a j (vTF ci j)) : (vflds E σ a ci N).set k v = vflds E τ a ci N := by
  apply List.ext_getElem?
  intro i
  rw [List.getElem?_set]
  by_cases hi : i < N
  · by_cases hia : k = i
    · subst hia
      rw [if_pos rfl, if_pos (by rw [vflds_len]; exact hk), vflds_get hk, hv]
    · rw [if_neg hia, vflds_get hi, vflds_get hi, ho i hi (Ne.symm hia)]
  · have e1 : (vflds E τ a ci N)[i]? = none := by rw [List.getElem?_eq_none_iff, vflds_len]; omega
    have e2 : (vflds E σ a ci N)[i]? = none := by rw [List.getElem?_eq_none_iff, vflds_len]; omega
    rw [e1, e2]
    by_cases hia : k = i
    · subst hia
      exact absurd hk hi
    · rw [if_neg hia]
/-- the world behind a step that changed one cell -/
theorem vWld_put {E : vE} {n : Nat} {σ τ : vS} {s : State} {H H1 : Heap} {locs locs1 : List Loc} {a : Nat} {x : va_E} (hw : vWld E n σ s H locs) (ha : a < n) (hx : x = vcell E τ a) (h1 : ∀ b, b ≠ a → τ.1 b = σ.1 b) (h2 : ∀ b, b ≠ a → τ.2.1 b = σ.2.1 b) (h3 : ∀ b, b ≠ a → τ.2.2 b = σ.2.2 b)
    (hP : va_P E.2.2.1 vwCl ((vws E n σ).set a (E.1 + a, x)) H1) (hS : va_S (fun q => E.1 ≤ q) s.heap H1 locs1) : vWld E n τ s H1 locs1 := by
  obtain ⟨⟨k1, k2, k4, k5, k6, k7, k8⟩, k9, k10⟩ := hw
  have e0 : a ≠ 1000 := by omega
  have e1 : a ≠ 1001 := by omega
  have l0 : τ.1 1000 = σ.1 1000 := h1 1000 (Ne.symm e0)
  have l1 : vLen τ = vLen σ := by simp only [vLen, h1 1001 (Ne.symm e1)]
  have hb : E.2.1 < s.heap.size := Nat.lt_of_lt_of_le k7 k10
  have hq : H1[E.2.1]? = H[E.2.1]? := by rw [hS.2.1 _ hb (Nat.not_le.mpr k7), k9.2.1 _ hb (Nat.not_le.mpr k7)]
  rw [vws_set ha hx (fun b _ hb => vcell_eq (h1 b hb) (h2 b hb) (h3 b hb))] at hP
  exact ⟨⟨k1, hP, k4, k5, by rw [l0, l1]; exact k6.kept hq, k7, k8⟩, hS, k10⟩
theorem vWld_low {E : vE} {n : Nat} {σ : vS} {s : State} {H : Heap} {locs : List Loc} (hw : vWld E n σ s H locs) : E.1 + n ≤ H.size := by
  rcases Nat.eq_zero_or_pos n with h | h
  · subst h
    exact Nat.le_trans hw.2.2 hw.2.1.1
  · have := (hw.1.2.1 (n - 1) _ (vws_get (by omega))).lt
    simp only at this
    omega
/-- the heap ends where the cells end -/
theorem W_sized {p : Program} {l : Launch} {e : Env} {R : Room} {s : State} {m : MethodId} {args : Array Value} {below : List Frame} {meth : Method} {c : Code} {H : Heap} {locs : List Loc} {cells slots n : Nat} {Q : State → Prop} {g : JFrame} {E : vE} {σ : vS} (hw : vWld E n σ s H locs) (h6 : s.heap.size + cells = E.1 + n) (h : H.size = E.1 + n → W p l e R s m args below meth c H locs cells slots Q g) : W p l e R s m args below meth c H locs cells slots Q g := by
  intro T hT X
  have h1 := X.heapSize
  have h2 := vWld_low hw
  rw [hT] at h1
  exact h (by omega) T hT X

/-! ===== locals ===== -/
def vprs (E : vE) (ls : List Value) : List (Nat × Value) := (List.range ls.length).filterMap (fun i => match ls[i]? with
  | some v => if v = vJ then none else some (i, vmV E v)
  | none => none)
theorem vprs_mem {E : vE} {ls : List Value} {i : Nat} {v : Value} (h : ls[i]? = some v) (hj : v ≠ vJ) : (i, vmV E v) ∈ vprs E ls := by
  have hi : i < ls.length := (List.getElem?_eq_some_iff.mp h).1
  refine List.mem_filterMap.mpr ⟨i, List.mem_range.mpr hi, ?_⟩
  simp only [h]
  rw [if_neg hj]
theorem vprs_of {E : vE} {ls : List Value} {q : Nat × Value} (h : q ∈ vprs E ls) : ∃ v, ls[q.1]? = some v ∧ v ≠ vJ ∧ q.2 = vmV E v := by
  obtain ⟨i, hi, he⟩ := List.mem_filterMap.mp h
  have hl : i < ls.length := List.mem_range.mp hi
  have e : ls[i]? = some ls[i] := List.getElem?_eq_getElem hl
  simp only [e] at he
  by_cases hj : ls[i] = vJ
  · rw [if_pos hj] at he; cases he
  · rw [if_neg hj] at he
    cases he
    exact ⟨_, e, hj, rfl⟩
theorem vLs_has {E : vE} {nL : Nat} {lm : Array Slot} {ls : List Value} (h : vLs E nL lm ls) : lv_has lm nL (vprs E ls) := by
  refine ⟨h.1, h.2.1, fun q hq => ?_⟩
  obtain ⟨v, h1, h2, h3⟩ := vprs_of hq
  rw [h3]
  exact h.2.2 _ _ h1 h2
theorem vmV_cat (E : vE) (v : Value) : (vmV E v).category = v.category := by
  cases v <;> simp [vmV, Value.category]
  rename_i k
  by_cases h : k = 1 <;> simp [h]
/-- what a store in slot k leaves of the list -/
def vSt (ls ls' : List Value) (k : Nat) (v : Value) : Prop := (∀ (i : Nat) (w : Value), ls'[i]? = some w → w ≠ vJ → (i = k ∧ w = v) ∨ (i ≠ k ∧ ls[i]? = some w)) ∧ ∀ w, ls[k - 1]? = some w → 1 ≤ k → w.category = 1
theorem vSt_ls {E : vE} {nL k : Nat} {lm' : Array Slot} {ls ls' : List Value} {v : Value} (hs : vSt ls ls' k v) (h' : lv_has lm' nL ((k, vmV E v) :: (vprs E ls).filter (fun q => !(q.1 == k) && !(q.1 + 1 == k && q.2.category == 2)))) : vLs E nL lm' ls' := by
  refine ⟨h'.1, h'.2.1, fun i w hw hj => ?_⟩
  rcases hs.1 i w hw hj with ⟨rfl, rfl⟩ | ⟨h1, h2⟩
  · exact h'.2.2 _ List.mem_cons_self
  · refine h'.2.2 (i, vmV E w) (List.mem_cons_of_mem _ (List.mem_filter.mpr ⟨vprs_mem h2 hj, ?_⟩))
    have hc : ¬ (i + 1 = k ∧ (vmV E w).category = 2) := by
      rintro ⟨q1, q2⟩
      have := hs.2 w (by rw [← q1]; exact h2) (by omega)
      rw [vmV_cat] at q2
      omega
    simp only [Bool.and_eq_true, Bool.not_eq_true', beq_eq_false_iff_ne, ne_eq, Bool.and_eq_false_iff]
    refine ⟨h1, ?_⟩
    by_cases q : i + 1 = k
    · exact Or.inr (fun z => hc ⟨q, z⟩)
    · exact Or.inl q
/-- a store of two slots -/
def vSt2 (ls ls' : List Value) (k : Nat) (v : Value) : Prop := (∀ (i : Nat) (w : Value), ls'[i]? = some w → w ≠ vJ → (i = k ∧ w = v) ∨ (i ≠ k ∧ i ≠ k + 1 ∧ ls[i]? = some w)) ∧ ∀ w, ls[k - 1]? = some w → 1 ≤ k → w.category = 1

section VSt
variable {d nf n : Nat} {M : vM} {pc pc' tgt : Nat} {ls st : List Value} {σ : vS} {K : Option Value → vS → Prop}
theorem st_c {v : Int32} (r : vCn M pc v pc') (h : V d nf n M pc' ls (.int v :: st) σ K) : V d nf n M pc ls st σ K := by
  intro E p l e R s m args below meth c H locs cells slots Q lm C h1 h2 h3 h4 h5 h6 hw hl hr
  rcases r with ⟨x, r1, r2, rfl⟩ | ⟨x, r1, r2, rfl⟩ | ⟨x, r1, r2, rfl⟩ | ⟨x, r1, r2, rfl⟩ | ⟨x, r1, r2, rfl⟩
  · exact lv_iconst C.1 C.2.1 r1 r2 (h E p l e R s m args below meth c H locs cells slots Q lm C h1 h2 h3 h4 h5 h6 hw hl hr)
  · exact lv_bipush C.1 C.2.1 r1 r2 (h E p l e R s m args below meth c H locs cells slots Q lm C h1 h2 h3 h4 h5 h6 hw hl hr)
  · exact lv_sipush C.1 C.2.1 r1 r2 (h E p l e R s m args below meth c H locs cells slots Q lm C h1 h2 h3 h4 h5 h6 hw hl hr)
  · exact lv_ldc C.1 C.2.1 C.2.2.2.1 (C.2.2.2.2.1 _ r2) r1 (h E p l e R s m args below meth c H locs cells slots Q lm C h1 h2 h3 h4 h5 h6 hw hl hr)
  · exact lv_ldcw C.1 C.2.1 C.2.2.2.1 (C.2.2.2.2.1 _ r2) r1 (h E p l e R s m args below meth c H locs cells slots Q lm C h1 h2 h3 h4 h5 h6 hw hl hr)
theorem st_cl {v : Int64} (r : vCl M pc v pc') (h : V d nf n M pc' ls (.long v :: st) σ K) : V d nf n M pc ls st σ K := by
  intro E p l e R s m args below meth c H locs cells slots Q lm C h1 h2 h3 h4 h5 h6 hw hl hr
  rcases r with ⟨x, r1, r2, rfl⟩ | ⟨x, r1, r2, rfl⟩
  · exact lv_lconst C.1 C.2.1 r1 r2 (h E p l e R s m args below meth c H locs cells slots Q lm C h1 h2 h3 h4 h5 h6 hw hl hr)
  · exact lv_ldc2 C.1 C.2.1 C.2.2.2.1 (C.2.2.2.2.1 _ r2) r1 (h E p l e R s m args below meth c H locs cells slots Q lm C h1 h2 h3 h4 h5 h6 hw hl hr)
theorem vLs_at {E : vE} {nL : Nat} {lm : Array Slot} {v : Value} (hl : vLs E nL lm ls) (i : Nat) (h : ls[i]? = some v) (hj : v ≠ vJ) : lm[i]? = some (.val (vmV E v)) := hl.2.2 i v h hj
theorem st_iload {k : Nat} {x : Int32} (r : vLi M pc k pc') (hk : ls[k]? = some (.int x)) (h : V d nf n M pc' ls (.int x :: st) σ K) : V d nf n M pc ls st σ K := by
  intro E p l e R s m args below meth c H locs cells slots Q lm C h1 h2 h3 h4 h5 h6 hw hl hr
  rcases r with ⟨q, r1, r2, rfl⟩ | ⟨r1, rfl⟩
  · exact lv_iload_n C.1 C.2.1 r1 r2 (vLs_at hl _ hk (by intro q; cases q)) (h E p l e R s m args below meth c H locs cells slots Q lm C h1 h2 h3 h4 h5 h6 hw hl hr)
  · exact lv_iload C.1 C.2.1 r1 (vLs_at hl _ hk (by intro q; cases q)) (h E p l e R s m args below meth c H locs cells slots Q lm C h1 h2 h3 h4 h5 h6 hw hl hr)
theorem st_lload {k : Nat} {x : Int64} (r : vLl M pc k pc') (hk : ls[k]? = some (.long x)) (h : V d nf n M pc' ls (.long x :: st) σ K) : V d nf n M pc ls st σ K := by
  intro E p l e R s m args below meth c H locs cells slots Q lm C h1 h2 h3 h4 h5 h6 hw hl hr
  rcases r with ⟨q, r1, r2, rfl⟩ | ⟨r1, rfl⟩
  · exact lv_lload_n C.1 C.2.1 r1 r2 (vLs_at hl _ hk (by intro q; cases q)) (h E p l e R s m args below meth c H locs cells slots Q lm C h1 h2 h3 h4 h5 h6 hw hl hr)
  · exact lv_lload C.1 C.2.1 r1 (vLs_at hl _ hk (by intro q; cases q)) (h E p l e R s m args below meth c H locs cells slots Q lm C h1 h2 h3 h4 h5 h6 hw hl hr)
theorem st_aload {k a : Nat} (r : vLa M pc k pc') (hk : ls[k]? = some (.ref a)) (h : V d nf n M pc' ls (.ref a :: st) σ K) : V d nf n M pc ls st σ K := by
  intro E p l e R s m args below meth c H locs cells slots Q lm C h1 h2 h3 h4 h5 h6 hw hl hr
  obtain ⟨q, r1, r2, rfl⟩ := r
  exact lv_aload_n C.1 C.2.1 r1 r2 (vLs_at hl _ hk (by intro q; cases q)) (h E p l e R s m args below meth c H locs cells slots Q lm C h1 h2 h3 h4 h5 h6 hw hl hr)
theorem st_xload {k : Nat} (r : vLa M pc k pc') (hk : ls[k]? = some vX) (h : V d nf n M pc' ls (vX :: st) σ K) : V d nf n M pc ls st σ K := by
  intro E p l e R s m args below meth c H locs cells slots Q lm C h1 h2 h3 h4 h5 h6 hw hl hr
  obtain ⟨q, r1, r2, rfl⟩ := r
  exact lv_aload_n C.1 C.2.1 r1 r2 (vLs_at hl _ hk (by intro q; cases q)) (h E p l e R s m args below meth c H locs cells slots Q lm C h1 h2 h3 h4 h5 h6 hw hl hr)
theorem st_istoreG {k : Nat} {x : Int32} {ls' : List Value} (r : vSi M pc k pc') (hs : vSt ls ls' k (.int x)) (h : V d nf n M pc' ls' st σ K) : V d nf n M pc ls (.int x :: st) σ K := by
  intro E p l e R s m args below meth c H locs cells slots Q lm C h1 h2 h3 h4 h5 h6 hw hl hr
  obtain ⟨r, hk⟩ := r
  rcases r with ⟨q, r1, r2, rfl⟩ | ⟨r1, rfl⟩
  · exact lv_istore_n C.1 C.2.1 r1 r2 (vLs_has hl) hk rfl (fun lm' h' => h E p l e R s m args below meth c H locs cells slots Q lm' C h1 h2 h3 h4 h5 h6 hw (vSt_ls hs h') hr)
  · exact lv_istore C.1 C.2.1 r1 (vLs_has hl) hk rfl (fun lm' h' => h E p l e R s m args below meth c H locs cells slots Q lm' C h1 h2 h3 h4 h5 h6 hw (vSt_ls hs h') hr)
theorem st_astoreG {k a : Nat} {ls' : List Value} (r : vSa M pc k pc') (hs : vSt ls ls' k (.ref a)) (h : V d nf n M pc' ls' st σ K) : V d nf n M pc ls (.ref a :: st) σ K := by
  intro E p l e R s m args below meth c H locs cells slots Q lm C h1 h2 h3 h4 h5 h6 hw hl hr
  obtain ⟨⟨q, r1, r2, rfl⟩, hk⟩ := r
  exact lv_astore_n C.1 C.2.1 r1 r2 (vLs_has hl) hk rfl (fun lm' h' => h E p l e R s m args below meth c H locs cells slots Q lm' C h1 h2 h3 h4 h5 h6 hw (vSt_ls hs h') hr)
theorem st_iincG {k : Nat} {x v : Int32} {ls' : List Value} (r : vIn M pc k v pc') (hx : ls[k]? = some (.int x)) (hs : vSt ls ls' k (.int (x + v))) (h : V d nf n M pc' ls' st σ K) : V d nf n M pc ls st σ K := by
  intro E p l e R s m args below meth c H locs cells slots Q lm C h1 h2 h3 h4 h5 h6 hw hl hr
  obtain ⟨y, r1, r2, hk, rfl⟩ := r
  subst r2
  have hh : lv_has lm M.2.2.2.1 ((k, .int x) :: vprs E ls) := by
    refine ⟨hl.1, hl.2.1, fun q hq => ?_⟩
    rcases List.mem_cons.mp hq with rfl | hq
    · exact vLs_at hl k hx (by intro q; cases q)
    · exact (vLs_has hl).2.2 q hq
  refine lv_iinc (k := 0) C.1 C.2.1 r1 hh rfl rfl hk rfl (fun lm' h' => ?_)
  have h9 : lv_has lm' M.2.2.2.1 ((k, vmV E (.int (x + Int32.ofInt y))) :: (vprs E ls).filter (fun q => !(q.1 == k) && !(q.1 + 1 == k && q.2.category == 2))) := by
    refine ⟨h'.1, h'.2.1, fun q hq => h'.2.2 q ?_⟩
    rcases List.mem_cons.mp hq with rfl | hq
    · exact List.mem_cons_self
    · refine List.mem_cons_of_mem _ (List.mem_filter.mpr ⟨List.mem_cons_of_mem _ (List.mem_filter.mp hq).1, (List.mem_filter.mp hq).2⟩)
  exact h E p l e R s m args below meth c H locs cells slots Q lm' C h1 h2 h3 h4 h5 h6 hw (vSt_ls hs h9) hr
theorem st_lstoreG {k : Nat} {x : Int64} {ls' : List Value} (r : vSl M pc k pc') (hs : vSt2 ls ls' k (.long x)) (h : V d nf n M pc' ls' st σ K) : V d nf n M pc ls (.long x :: st) σ K := by
  intro E p l e R s m args below meth c H locs cells slots Q lm C h1 h2 h3 h4 h5 h6 hw hl hr
  obtain ⟨r, hk⟩ := r
  have key : ∀ lm' : Array Slot, lv_has lm' M.2.2.2.1 ((k, .long x) :: (vprs E ls).filter (fun q => !(q.1 == k) && (!(q.1 == k + 1) && !(q.1 + 1 == k && q.2.category == 2)))) → vLs E M.2.2.2.1 lm' ls' := by
    intro lm' h'
    refine ⟨h'.1, h'.2.1, fun i w hw hj => ?_⟩
    rcases hs.1 i w hw hj with ⟨rfl, rfl⟩ | ⟨g1, g2, g3⟩
    · exact h'.2.2 _ List.mem_cons_self
    · refine h'.2.2 (i, vmV E w) (List.mem_cons_of_mem _ (List.mem_filter.mpr ⟨vprs_mem g3 hj, ?_⟩))
      have hc : i + 1 = k → ¬ (vmV E w).category = 2 := by
        intro q1 q2
        have := hs.2 w (by rw [← q1]; exact g3) (by omega)
        rw [vmV_cat] at q2
        omega
      by_cases q : i + 1 = k
      · simp [g1, g2, q, hc q]
      · simp [g1, g2, q]
  rcases r with ⟨q, r1, r2, rfl⟩ | ⟨r1, rfl⟩
  · exact lv_lstore_n C.1 C.2.1 r1 r2 (vLs_has hl) hk rfl (fun lm' h' => h E p l e R s m args below meth c H locs cells slots Q lm' C h1 h2 h3 h4 h5 h6 hw (key _ h') hr)
  · exact lv_lstore C.1 C.2.1 r1 (vLs_has hl) hk rfl (fun lm' h' => h E p l e R s m args below meth c H locs cells slots Q lm' C h1 h2 h3 h4 h5 h6 hw (key _ h') hr)
theorem st_iadd {x y : Int32} (r : vI M pc .iadd 1 pc') (h : V d nf n M pc' ls (.int (x + y) :: st) σ K) : V d nf n M pc ls (.int y :: .int x :: st) σ K := by
  intro E p l e R s m args below meth c H locs cells slots Q lm C h1 h2 h3 h4 h5 h6 hw hl hr
  obtain ⟨r1, rfl⟩ := r
  exact lv_iadd C.1 C.2.1 r1 (h E p l e R s m args below meth c H locs cells slots Q lm C h1 h2 h3 h4 h5 h6 hw hl hr)
theorem st_isub {x y : Int32} (r : vI M pc .isub 1 pc') (h : V d nf n M pc' ls (.int (x - y) :: st) σ K) : V d nf n M pc ls (.int y :: .int x :: st) σ K := by
  intro E p l e R s m args below meth c H locs cells slots Q lm C h1 h2 h3 h4 h5 h6 hw hl hr
  obtain ⟨r1, rfl⟩ := r
  exact lv_isub C.1 C.2.1 r1 (h E p l e R s m args below meth c H locs cells slots Q lm C h1 h2 h3 h4 h5 h6 hw hl hr)
theorem st_imul {x y : Int32} (r : vI M pc .imul 1 pc') (h : V d nf n M pc' ls (.int (x * y) :: st) σ K) : V d nf n M pc ls (.int y :: .int x :: st) σ K := by
  intro E p l e R s m args below meth c H locs cells slots Q lm C h1 h2 h3 h4 h5 h6 hw hl hr
  obtain ⟨r1, rfl⟩ := r
  exact lv_imul C.1 C.2.1 r1 (h E p l e R s m args below meth c H locs cells slots Q lm C h1 h2 h3 h4 h5 h6 hw hl hr)
theorem st_iand {x y : Int32} (r : vI M pc .iand 1 pc') (h : V d nf n M pc' ls (.int (x &&& y) :: st) σ K) : V d nf n M pc ls (.int y :: .int x :: st) σ K := by
  intro E p l e R s m args below meth c H locs cells slots Q lm C h1 h2 h3 h4 h5 h6 hw hl hr
  obtain ⟨r1, rfl⟩ := r
  exact lv_iand C.1 C.2.1 r1 (h E p l e R s m args below meth c H locs cells slots Q lm C h1 h2 h3 h4 h5 h6 hw hl hr)
theorem st_ior {x y : Int32} (r : vI M pc .ior 1 pc') (h : V d nf n M pc' ls (.int (x ||| y) :: st) σ K) : V d nf n M pc ls (.int y :: .int x :: st) σ K := by
  intro E p l e R s m args below meth c H locs cells slots Q lm C h1 h2 h3 h4 h5 h6 hw hl hr
  obtain ⟨r1, rfl⟩ := r
  exact lv_ior C.1 C.2.1 r1 (h E p l e R s m args below meth c H locs cells slots Q lm C h1 h2 h3 h4 h5 h6 hw hl hr)
theorem st_ixor {x y : Int32} (r : vI M pc .ixor 1 pc') (h : V d nf n M pc' ls (.int (x ^^^ y) :: st) σ K) : V d nf n M pc ls (.int y :: .int x :: st) σ K := by
  intro E p l e R s m args below meth c H locs cells slots Q lm C h1 h2 h3 h4 h5 h6 hw hl hr
  obtain ⟨r1, rfl⟩ := r
  exact lv_ixor C.1 C.2.1 r1 (h E p l e R s m args below meth c H locs cells slots Q lm C h1 h2 h3 h4 h5 h6 hw hl hr)
theorem st_ishl {x y : Int32} (r : vI M pc .ishl 1 pc') (h : V d nf n M pc' ls (.int (x <<< (y &&& 31)) :: st) σ K) : V d nf n M pc ls (.int y :: .int x :: st) σ K := by
  intro E p l e R s m args below meth c H locs cells slots Q lm C h1 h2 h3 h4 h5 h6 hw hl hr
  obtain ⟨r1, rfl⟩ := r
  exact lv_ishl C.1 C.2.1 r1 (h E p l e R s m args below meth c H locs cells slots Q lm C h1 h2 h3 h4 h5 h6 hw hl hr)
theorem st_ishr {x y : Int32} (r : vI M pc .ishr 1 pc') (h : V d nf n M pc' ls (.int (x >>> (y &&& 31)) :: st) σ K) : V d nf n M pc ls (.int y :: .int x :: st) σ K := by
  intro E p l e R s m args below meth c H locs cells slots Q lm C h1 h2 h3 h4 h5 h6 hw hl hr
  obtain ⟨r1, rfl⟩ := r
  exact lv_ishr C.1 C.2.1 r1 (h E p l e R s m args below meth c H locs cells slots Q lm C h1 h2 h3 h4 h5 h6 hw hl hr)
theorem st_ladd {x y : Int64} (r : vI M pc .ladd 1 pc') (h : V d nf n M pc' ls (.long (x + y) :: st) σ K) : V d nf n M pc ls (.long y :: .long x :: st) σ K := by
  intro E p l e R s m args below meth c H locs cells slots Q lm C h1 h2 h3 h4 h5 h6 hw hl hr
  obtain ⟨r1, rfl⟩ := r
  exact lv_ladd C.1 C.2.1 r1 (h E p l e R s m args below meth c H locs cells slots Q lm C h1 h2 h3 h4 h5 h6 hw hl hr)
theorem st_lsub {x y : Int64} (r : vI M pc .lsub 1 pc') (h : V d nf n M pc' ls (.long (x - y) :: st) σ K) : V d nf n M pc ls (.long y :: .long x :: st) σ K := by
  intro E p l e R s m args below meth c H locs cells slots Q lm C h1 h2 h3 h4 h5 h6 hw hl hr
  obtain ⟨r1, rfl⟩ := r
  exact lv_lsub C.1 C.2.1 r1 (h E p l e R s m args below meth c H locs cells slots Q lm C h1 h2 h3 h4 h5 h6 hw hl hr)
theorem st_lmul {x y : Int64} (r : vI M pc .lmul 1 pc') (h : V d nf n M pc' ls (.long (x * y) :: st) σ K) : V d nf n M pc ls (.long y :: .long x :: st) σ K := by
  intro E p l e R s m args below meth c H locs cells slots Q lm C h1 h2 h3 h4 h5 h6 hw hl hr
  obtain ⟨r1, rfl⟩ := r
  exact lv_lmul C.1 C.2.1 r1 (h E p l e R s m args below meth c H locs cells slots Q lm C h1 h2 h3 h4 h5 h6 hw hl hr)
theorem st_idiv {x y : Int32} (r : vI M pc .idiv 1 pc') (hy : ¬ y = 0) (h : V d nf n M pc' ls (.int (x / y) :: st) σ K) : V d nf n M pc ls (.int y :: .int x :: st) σ K := by
  intro E p l e R s m args below meth c H locs cells slots Q lm C h1 h2 h3 h4 h5 h6 hw hl hr
  obtain ⟨r1, rfl⟩ := r
  exact lv_idiv C.1 C.2.1 r1 hy (h E p l e R s m args below meth c H locs cells slots Q lm C h1 h2 h3 h4 h5 h6 hw hl hr)
theorem st_irem {x y : Int32} (r : vI M pc .irem 1 pc') (hy : ¬ y = 0) (h : V d nf n M pc' ls (.int (x - x / y * y) :: st) σ K) : V d nf n M pc ls (.int y :: .int x :: st) σ K := by
  intro E p l e R s m args below meth c H locs cells slots Q lm C h1 h2 h3 h4 h5 h6 hw hl hr
  obtain ⟨r1, rfl⟩ := r
  exact lv_irem C.1 C.2.1 r1 hy (h E p l e R s m args below meth c H locs cells slots Q lm C h1 h2 h3 h4 h5 h6 hw hl hr)
theorem st_ldiv {x y : Int64} (r : vI M pc .ldiv 1 pc') (hy : ¬ y = 0) (h : V d nf n M pc' ls (.long (x / y) :: st) σ K) : V d nf n M pc ls (.long y :: .long x :: st) σ K := by
  intro E p l e R s m args below meth c H locs cells slots Q lm C h1 h2 h3 h4 h5 h6 hw hl hr
  obtain ⟨r1, rfl⟩ := r
  exact lv_ldiv C.1 C.2.1 r1 hy (h E p l e R s m args below meth c H locs cells slots Q lm C h1 h2 h3 h4 h5 h6 hw hl hr)
theorem st_lrem {x y : Int64} (r : vI M pc .lrem 1 pc') (hy : ¬ y = 0) (h : V d nf n M pc' ls (.long (x - x / y * y) :: st) σ K) : V d nf n M pc ls (.long y :: .long x :: st) σ K := by
  intro E p l e R s m args below meth c H locs cells slots Q lm C h1 h2 h3 h4 h5 h6 hw hl hr
  obtain ⟨r1, rfl⟩ := r
  exact lv_lrem C.1 C.2.1 r1 hy (h E p l e R s m args below meth c H locs cells slots Q lm C h1 h2 h3 h4 h5 h6 hw hl hr)
theorem st_iushr {x y : Int32} (r : vI M pc .iushr 1 pc') (h : V d nf n M pc' ls (.int ((x.toUInt32 >>> (y.toUInt32 &&& Int32.toUInt32 31)).toInt32) :: st) σ K) : V d nf n M pc ls (.int y :: .int x :: st) σ K := by
  intro E p l e R s m args below meth c H locs cells slots Q lm C h1 h2 h3 h4 h5 h6 hw hl hr
  obtain ⟨r1, rfl⟩ := r
  exact lv_iushr C.1 C.2.1 r1 rfl (h E p l e R s m args below meth c H locs cells slots Q lm C h1 h2 h3 h4 h5 h6 hw hl hr)
theorem st_i2l {x : Int32} (r : vI M pc .i2l 1 pc') (h : V d nf n M pc' ls (.long x.toInt64 :: st) σ K) : V d nf n M pc ls (.int x :: st) σ K := by
  intro E p l e R s m args below meth c H locs cells slots Q lm C h1 h2 h3 h4 h5 h6 hw hl hr
  obtain ⟨r1, rfl⟩ := r
  exact lv_i2l C.1 C.2.1 r1 rfl (h E p l e R s m args below meth c H locs cells slots Q lm C h1 h2 h3 h4 h5 h6 hw hl hr)
theorem st_l2i {x : Int64} (r : vI M pc .l2i 1 pc') (h : V d nf n M pc' ls (.int x.toInt32 :: st) σ K) : V d nf n M pc ls (.long x :: st) σ K := by
  intro E p l e R s m args below meth c H locs cells slots Q lm C h1 h2 h3 h4 h5 h6 hw hl hr
  obtain ⟨r1, rfl⟩ := r
  exact lv_l2i C.1 C.2.1 r1 rfl (h E p l e R s m args below meth c H locs cells slots Q lm C h1 h2 h3 h4 h5 h6 hw hl hr)
theorem st_dup {v : Value} (r : vI M pc .dup 1 pc') (hc : v.category = 1) (h : V d nf n M pc' ls (v :: v :: st) σ K) : V d nf n M pc ls (v :: st) σ K := by
  intro E p l e R s m args below meth c H locs cells slots Q lm C h1 h2 h3 h4 h5 h6 hw hl hr
  obtain ⟨r1, rfl⟩ := r
  exact lv_dup C.1 C.2.1 r1 (by rw [vmV_cat]; exact hc) (h E p l e R s m args below meth c H locs cells slots Q lm C h1 h2 h3 h4 h5 h6 hw hl hr)
theorem st_dup2 {v u : Value} (r : vI M pc .dup2 1 pc') (hc : v.category = 1) (hu : u.category = 1) (h : V d nf n M pc' ls (v :: u :: v :: u :: st) σ K) : V d nf n M pc ls (v :: u :: st) σ K := by
  intro E p l e R s m args below meth c H locs cells slots Q lm C h1 h2 h3 h4 h5 h6 hw hl hr
  obtain ⟨r1, rfl⟩ := r
  exact lv_dup2_11 C.1 C.2.1 r1 (by rw [vmV_cat]; exact hc) (by rw [vmV_cat]; exact hu) (h E p l e R s m args below meth c H locs cells slots Q lm C h1 h2 h3 h4 h5 h6 hw hl hr)
theorem st_pop {v : Value} (r : vI M pc .pop 1 pc') (hc : v.category = 1) (h : V d nf n M pc' ls st σ K) : V d nf n M pc ls (v :: st) σ K := by
  intro E p l e R s m args below meth c H locs cells slots Q lm C h1 h2 h3 h4 h5 h6 hw hl hr
  obtain ⟨r1, rfl⟩ := r
  exact lv_pop C.1 C.2.1 r1 (by rw [vmV_cat]; exact hc) (h E p l e R s m args below meth c H locs cells slots Q lm C h1 h2 h3 h4 h5 h6 hw hl hr)
theorem st_icmp_eq {x y : Int32} (r : vIc M pc .eq tgt pc') (ht : x = y → V d nf n M tgt ls st σ K) (hf : ¬ x = y → V d nf n M pc' ls st σ K) : V d nf n M pc ls (.int y :: .int x :: st) σ K := by
  intro E p l e R s m args below meth c H locs cells slots Q lm C h1 h2 h3 h4 h5 h6 hw hl hr
  obtain ⟨off, r1, r2, rfl⟩ := r
  exact lv_icmp_eq C.1 C.2.1 r1 r2 (fun q => ht q E p l e R s m args below meth c H locs cells slots Q lm C h1 h2 h3 h4 h5 h6 hw hl hr) (fun q => hf q E p l e R s m args below meth c H locs cells slots Q lm C h1 h2 h3 h4 h5 h6 hw hl hr)
theorem st_if_eq {x : Int32} (r : vIf M pc .eq tgt pc') (ht : x = 0 → V d nf n M tgt ls st σ K) (hf : ¬ x = 0 → V d nf n M pc' ls st σ K) : V d nf n M pc ls (.int x :: st) σ K := by
  intro E p l e R s m args below meth c H locs cells slots Q lm C h1 h2 h3 h4 h5 h6 hw hl hr
  obtain ⟨off, r1, r2, rfl⟩ := r
  exact lv_if_eq C.1 C.2.1 r1 r2 (fun q => ht q E p l e R s m args below meth c H locs cells slots Q lm C h1 h2 h3 h4 h5 h6 hw hl hr) (fun q => hf q E p l e R s m args below meth c H locs cells slots Q lm C h1 h2 h3 h4 h5 h6 hw hl hr)
theorem st_icmp_ne {x y : Int32} (r : vIc M pc .ne tgt pc') (ht : ¬ x = y → V d nf n M tgt ls st σ K) (hf : x = y → V d nf n M pc' ls st σ K) : V d nf n M pc ls (.int y :: .int x :: st) σ K := by
  intro E p l e R s m args below meth c H locs cells slots Q lm C h1 h2 h3 h4 h5 h6 hw hl hr
  obtain ⟨off, r1, r2, rfl⟩ := r
  exact lv_icmp_ne C.1 C.2.1 r1 r2 (fun q => ht q E p l e R s m args below meth c H locs cells slots Q lm C h1 h2 h3 h4 h5 h6 hw hl hr) (fun q => hf q E p l e R s m args below meth c H locs cells slots Q lm C h1 h2 h3 h4 h5 h6 hw hl hr)
theorem st_if_ne {x : Int32} (r : vIf M pc .ne tgt pc') (ht : ¬ x = 0 → V d nf n M tgt ls st σ K) (hf : x = 0 → V d nf n M pc' ls st σ K) : V d nf n M pc ls (.int x :: st) σ K := by
  intro E p l e R s m args below meth c H locs cells slots Q lm C h1 h2 h3 h4 h5 h6 hw hl hr
  obtain ⟨off, r1, r2, rfl⟩ := r
  exact lv_if_ne C.1 C.2.1 r1 r2 (fun q => ht q E p l e R s m args below meth c H locs cells slots Q lm C h1 h2 h3 h4 h5 h6 hw hl hr) (fun q => hf q E p l e R s m args below meth c H locs cells slots Q lm C h1 h2 h3 h4 h5 h6 hw hl hr)
theorem st_icmp_lt {x y : Int32} (r : vIc M pc .lt tgt pc') (ht : x < y → V d nf n M tgt ls st σ K) (hf : ¬ x < y → V d nf n M pc' ls st σ K) : V d nf n M pc ls (.int y :: .int x :: st) σ K := by
  intro E p l e R s m args below meth c H locs cells slots Q lm C h1 h2 h3 h4 h5 h6 hw hl hr
  obtain ⟨off, r1, r2, rfl⟩ := r
  exact lv_icmp_lt C.1 C.2.1 r1 r2 (fun q => ht q E p l e R s m args below meth c H locs cells slots Q lm C h1 h2 h3 h4 h5 h6 hw hl hr) (fun q => hf q E p l e R s m args below meth c H locs cells slots Q lm C h1 h2 h3 h4 h5 h6 hw hl hr)
theorem st_if_lt {x : Int32} (r : vIf M pc .lt tgt pc') (ht : x < 0 → V d nf n M tgt ls st σ K) (hf : ¬ x < 0 → V d nf n M pc' ls st σ K) : V d nf n M pc ls (.int x :: st) σ K := by
  intro E p l e R s m args below meth c H locs cells slots Q lm C h1 h2 h3 h4 h5 h6 hw hl hr
  obtain ⟨off, r1, r2, rfl⟩ := r
  exact lv_if_lt C.1 C.2.1 r1 r2 (fun q => ht q E p l e R s m args below meth c H locs cells slots Q lm C h1 h2 h3 h4 h5 h6 hw hl hr) (fun q => hf q E p l e R s m args below meth c H locs cells slots Q lm C h1 h2 h3 h4 h5 h6 hw hl hr)
theorem st_icmp_ge {x y : Int32} (r : vIc M pc .ge tgt pc') (ht : y ≤ x → V d nf n M tgt ls st σ K) (hf : ¬ y ≤ x → V d nf n M pc' ls st σ K) : V d nf n M pc ls (.int y :: .int x :: st) σ K := by
  intro E p l e R s m args below meth c H locs cells slots Q lm C h1 h2 h3 h4 h5 h6 hw hl hr
  obtain ⟨off, r1, r2, rfl⟩ := r
  exact lv_icmp_ge C.1 C.2.1 r1 r2 (fun q => ht q E p l e R s m args below meth c H locs cells slots Q lm C h1 h2 h3 h4 h5 h6 hw hl hr) (fun q => hf q E p l e R s m args below meth c H locs cells slots Q lm C h1 h2 h3 h4 h5 h6 hw hl hr)
theorem st_if_ge {x : Int32} (r : vIf M pc .ge tgt pc') (ht : 0 ≤ x → V d nf n M tgt ls st σ K) (hf : ¬ 0 ≤ x → V d nf n M pc' ls st σ K) : V d nf n M pc ls (.int x :: st) σ K := by
  intro E p l e R s m args below meth c H locs cells slots Q lm C h1 h2 h3 h4 h5 h6 hw hl hr
  obtain ⟨off, r1, r2, rfl⟩ := r
  exact lv_if_ge C.1 C.2.1 r1 r2 (fun q => ht q E p l e R s m args below meth c H locs cells slots Q lm C h1 h2 h3 h4 h5 h6 hw hl hr) (fun q => hf q E p l e R s m args below meth c H locs cells slots Q lm C h1 h2 h3 h4 h5 h6 hw hl hr)
theorem st_icmp_gt {x y : Int32} (r : vIc M pc .gt tgt pc') (ht : y < x → V d nf n M tgt ls st σ K) (hf : ¬ y < x → V d nf n M pc' ls st σ K) : V d nf n M pc ls (.int y :: .int x :: st) σ K := by
  intro E p l e R s m args below meth c H locs cells slots Q lm C h1 h2 h3 h4 h5 h6 hw hl hr
  obtain ⟨off, r1, r2, rfl⟩ := r
  exact lv_icmp_gt C.1 C.2.1 r1 r2 (fun q => ht q E p l e R s m args below meth c H locs cells slots Q lm C h1 h2 h3 h4 h5 h6 hw hl hr) (fun q => hf q E p l e R s m args below meth c H locs cells slots Q lm C h1 h2 h3 h4 h5 h6 hw hl hr)
theorem st_if_gt {x : Int32} (r : vIf M pc .gt tgt pc') (ht : 0 < x → V d nf n M tgt ls st σ K) (hf : ¬ 0 < x → V d nf n M pc' ls st σ K) : V d nf n M pc ls (.int x :: st) σ K := by
  intro E p l e R s m args below meth c H locs cells slots Q lm C h1 h2 h3 h4 h5 h6 hw hl hr
  obtain ⟨off, r1, r2, rfl⟩ := r
  exact lv_if_gt C.1 C.2.1 r1 r2 (fun q => ht q E p l e R s m args below meth c H locs cells slots Q lm C h1 h2 h3 h4 h5 h6 hw hl hr) (fun q => hf q E p l e R s m args below meth c H locs cells slots Q lm C h1 h2 h3 h4 h5 h6 hw hl hr)
theorem st_icmp_le {x y : Int32} (r : vIc M pc .le tgt pc') (ht : x ≤ y → V d nf n M tgt ls st σ K) (hf : ¬ x ≤ y → V d nf n M pc' ls st σ K) : V d nf n M pc ls (.int y :: .int x :: st) σ K := by
  intro E p l e R s m args below meth c H locs cells slots Q lm C h1 h2 h3 h4 h5 h6 hw hl hr
  obtain ⟨off, r1, r2, rfl⟩ := r
  exact lv_icmp_le C.1 C.2.1 r1 r2 (fun q => ht q E p l e R s m args below meth c H locs cells slots Q lm C h1 h2 h3 h4 h5 h6 hw hl hr) (fun q => hf q E p l e R s m args below meth c H locs cells slots Q lm C h1 h2 h3 h4 h5 h6 hw hl hr)
theorem st_if_le {x : Int32} (r : vIf M pc .le tgt pc') (ht : x ≤ 0 → V d nf n M tgt ls st σ K) (hf : ¬ x ≤ 0 → V d nf n M pc' ls st σ K) : V d nf n M pc ls (.int x :: st) σ K := by
  intro E p l e R s m args below meth c H locs cells slots Q lm C h1 h2 h3 h4 h5 h6 hw hl hr
  obtain ⟨off, r1, r2, rfl⟩ := r
  exact lv_if_le C.1 C.2.1 r1 r2 (fun q => ht q E p l e R s m args below meth c H locs cells slots Q lm C h1 h2 h3 h4 h5 h6 hw hl hr) (fun q => hf q E p l e R s m args below meth c H locs cells slots Q lm C h1 h2 h3 h4 h5 h6 hw hl hr)
theorem st_goto (r : vGo M pc tgt) (h : V d nf n M tgt ls st σ K) : V d nf n M pc ls st σ K := by
  intro E p l e R s m args below meth c H locs cells slots Q lm C h1 h2 h3 h4 h5 h6 hw hl hr
  obtain ⟨off, r1, r2⟩ := r
  exact lv_goto C.1 C.2.1 r1 r2 (h E p l e R s m args below meth c H locs cells slots Q lm C h1 h2 h3 h4 h5 h6 hw hl hr)
theorem st_ifnonnull {a : Nat} (r : vNn M pc tgt pc') (h : V d nf n M tgt ls st σ K) : V d nf n M pc ls (.ref a :: st) σ K := by
  intro E p l e R s m args below meth c H locs cells slots Q lm C h1 h2 h3 h4 h5 h6 hw hl hr
  obtain ⟨off, r1, r2, rfl⟩ := r
  exact lv_ifnonnull C.1 C.2.1 r1 r2 (h E p l e R s m args below meth c H locs cells slots Q lm C h1 h2 h3 h4 h5 h6 hw hl hr)
theorem st_ifnull {a : Nat} (r : vNl M pc tgt pc') (h : V d nf n M pc' ls st σ K) : V d nf n M pc ls (.ref a :: st) σ K := by
  intro E p l e R s m args below meth c H locs cells slots Q lm C h1 h2 h3 h4 h5 h6 hw hl hr
  obtain ⟨off, r1, r2, rfl⟩ := r
  exact lv_ifnull C.1 C.2.1 r1 (h E p l e R s m args below meth c H locs cells slots Q lm C h1 h2 h3 h4 h5 h6 hw hl hr)
theorem st_top {x y : Int32} (e : x = y) (h : V d nf n M pc ls (.int y :: st) σ K) : V d nf n M pc ls (.int x :: st) σ K := by rw [e]; exact h
theorem st_topl {x y : Int64} (e : x = y) (h : V d nf n M pc ls (.long y :: st) σ K) : V d nf n M pc ls (.long x :: st) σ K := by rw [e]; exact h
theorem V_st {ls' st' : List Value} {σ' : vS} (h : V d nf n M pc ls' st' σ' K) (e1 : ls = ls') (e2 : st = st') (e3 : σ = σ') : V d nf n M pc ls st σ K := by rw [e1, e2, e3]; exact h
end VSt
end
section
section VHp
variable {d nf n : Nat} {M : vM} {pc pc' tgt : Nat} {ls st : List Value} {I : Nat → Nat → Int32} {J : Nat → Nat → Int64} {Z : Nat → Nat → Option Nat} {K : Option Value → vS → Prop}
def vIsR : FieldType → Bool
  | .array _ => true
  | .object _ => true
  | _ => false
theorem vfld_R {E : vE} {σ : vS} {a k b : Nat} {ty : FieldType} (ht : vIsR ty = true) (hb : σ.2.2 a k = some b) : vfld E σ a k ty = .ref (E.1 + b) := by
  cases ty <;> first | (cases ht; done) | (simp only [vfld, hb]; rfl)
theorem st_getI {a ci k : Nat} (r : vGf M pc ci k pc') (ha : vOb n a ci) (ht : vTF ci k = .int) (h : V d nf n M pc' ls (.int (I a k) :: st) (I, J, Z) K) : V d nf n M pc ls (.ref a :: st) (I, J, Z) K := by
  intro E p l e R s m args below meth c H locs cells slots Q lm C h1 h2 h3 h4 h5 h6 hw hl hr
  obtain ⟨idx, r, r1, rfl, r3, r4, r5⟩ := r
  obtain ⟨hin, -, -, hN⟩ := vCok ci r r3
  obtain ⟨g1, g2, g3⟩ := ha
  have he := vws_get (E := E) (σ := (I, J, Z)) g1
  rw [vcell_ob g2 g3] at he
  have hk' : k < vNF ci := by rw [← hN]; exact r4
  exact va_get (C := r.1) (T := r.2.1) (N := r.2.2) C.1 C.2.1 C.2.2.2.2.1 hin C.2.2.2.1 hw.1.1 hw.1.2.1 a he r3 k r4 (C.2.2.2.2.1 _ r5) (fun _ q => q) (by rw [vflds_get hk', ht]; rfl) r1 (h E p l e R s m args below meth c H locs cells slots Q lm C h1 h2 h3 h4 h5 h6 hw hl hr)
theorem st_getL {a ci k : Nat} (r : vGf M pc ci k pc') (ha : vOb n a ci) (ht : vTF ci k = .long) (h : V d nf n M pc' ls (.long (J a k) :: st) (I, J, Z) K) : V d nf n M pc ls (.ref a :: st) (I, J, Z) K := by
  intro E p l e R s m args below meth c H locs cells slots Q lm C h1 h2 h3 h4 h5 h6 hw hl hr
  obtain ⟨idx, r, r1, rfl, r3, r4, r5⟩ := r
  obtain ⟨hin, -, -, hN⟩ := vCok ci r r3
  obtain ⟨g1, g2, g3⟩ := ha
  have he := vws_get (E := E) (σ := (I, J, Z)) g1
  rw [vcell_ob g2 g3] at he
  have hk' : k < vNF ci := by rw [← hN]; exact r4
  exact va_get (C := r.1) (T := r.2.1) (N := r.2.2) C.1 C.2.1 C.2.2.2.2.1 hin C.2.2.2.1 hw.1.1 hw.1.2.1 a he r3 k r4 (C.2.2.2.2.1 _ r5) (fun _ q => q) (by rw [vflds_get hk', ht]; rfl) r1 (h E p l e R s m args below meth c H locs cells slots Q lm C h1 h2 h3 h4 h5 h6 hw hl hr)
theorem st_getR {a ci k : Nat} (r : vGf M pc ci k pc') (ha : vOb n a ci) {b : Nat} (hb : Z a k = some b) (ht : vIsR (vTF ci k) = true) (h : V d nf n M pc' ls (.ref b :: st) (I, J, Z) K) : V d nf n M pc ls (.ref a :: st) (I, J, Z) K := by
  intro E p l e R s m args below meth c H locs cells slots Q lm C h1 h2 h3 h4 h5 h6 hw hl hr
  obtain ⟨idx, r, r1, rfl, r3, r4, r5⟩ := r
  obtain ⟨hin, -, -, hN⟩ := vCok ci r r3
  obtain ⟨g1, g2, g3⟩ := ha
  have he := vws_get (E := E) (σ := (I, J, Z)) g1
  rw [vcell_ob g2 g3] at he
  have hk' : k < vNF ci := by rw [← hN]; exact r4
  exact va_get (C := r.1) (T := r.2.1) (N := r.2.2) C.1 C.2.1 C.2.2.2.2.1 hin C.2.2.2.1 hw.1.1 hw.1.2.1 a he r3 k r4 (C.2.2.2.2.1 _ r5) (fun _ q => q) (by rw [vflds_get hk', vfld_R ht hb]; rfl) r1 (h E p l e R s m args below meth c H locs cells slots Q lm C h1 h2 h3 h4 h5 h6 hw hl hr)
theorem st_putI {a ci k : Nat} {x : Int32} (ht : vTF ci k = .int) (r : vPf M pc ci k pc') (ha : vOb n a ci) (h : V d nf n M pc' ls st (up I a (va_up (I a) k x), J, Z) K) : V d nf n M pc ls (.int x :: .ref a :: st) (I, J, Z) K := by
  intro E p l e R s m args below meth c H locs cells slots Q lm C h1 h2 h3 h4 h5 h6 hw hl hr
  obtain ⟨idx, r, r1, rfl, r3, r4, r5, r6⟩ := r
  obtain ⟨hin, hty, hnm, hN⟩ := vCok ci r r3
  obtain ⟨g1, g2, g3⟩ := ha
  have he := vws_get (E := E) (σ := (I, J, Z)) g1
  rw [vcell_ob g2 g3] at he
  have hk' : k < vNF ci := by rw [← hN]; exact r4
  have hkk : ∀ (H1 : Heap) (locs1 : List Loc), va_P E.2.2.1 vwCl ((vws E n (I, J, Z)).set a (E.1 + a, .inr (ci, (vflds E (I, J, Z) a ci (vNF ci)).set k (.int x)))) H1 → va_D (fun q => E.1 ≤ q) ((vws E n (I, J, Z)).set a (E.1 + a, .inr (ci, (vflds E (I, J, Z) a ci (vNF ci)).set k (.int x)))) → va_S (fun q => E.1 ≤ q) s.heap H1 locs1 → W p l e R s m args below meth c H1 locs1 cells slots Q (F0 m (pc + 3) lm (st.map (vmV E))) := by
    intro H1 locs1 hP _ hS
    refine h E p l e R s m args below meth c H1 locs1 cells slots Q lm C h1 h2 h3 h4 h5 h6 (vWld_put (τ := (up I a (va_up (I a) k x), J, Z)) hw g1 ?_ ?_ ?_ ?_ hP hS) hl hr
    · rw [vcell_ob g2 g3, vflds_set (τ := (up I a (va_up (I a) k x), J, Z)) hk' ?_ ?_]
      · rw [ht]; simp [vfld, up, va_up]
      · intro j hj hjk
        simp [vfld, up, va_up, hjk]
    · intro b hb; simp [up, hb]
    · intro b hb; simp [up, hb]
    · intro b hb; simp [up, hb]
  rcases r6 with r6 | ⟨r6, r7, r8⟩
  · exact va_put (C := r.1) (T := r.2.1) (N := r.2.2) (v := .int x) C.1 C.2.1 C.2.2.2.2.1 hin (vTF ci) hty hnm C.2.2.2.1 hw.1.1 hw.1.2.1 (vws_D E n (I, J, Z)) hw.2.1 a he r3 k r4 (C.2.2.2.2.1 _ r5) (fun _ q => q) r6 (hty k r4) (by rw [ht]; rfl) (by rw [ht]; rfl) (by rw [vflds_len]; exact hk') r1 hkk
  · exact va_putF (C := r.1) (T := r.2.1) (N := r.2.2) (v := .int x) C.1 C.2.1 C.2.2.2.2.1 hin (vTF ci) hty hnm C.2.2.2.1 hw.1.1 hw.1.2.1 (vws_D E n (I, J, Z)) hw.2.1 a he r3 k r4 (C.2.2.2.2.1 _ r5) (fun _ q => q) r6 (C.2.2.2.2.2.2.2 r7) r8 (hty k r4) (by rw [ht]; rfl) (by rw [ht]; rfl) (by rw [vflds_len]; exact hk') r1 hkk
theorem st_putL {a ci k : Nat} {x : Int64} (ht : vTF ci k = .long) (r : vPf M pc ci k pc') (ha : vOb n a ci) (h : V d nf n M pc' ls st (I, up J a (va_up (J a) k x), Z) K) : V d nf n M pc ls (.long x :: .ref a :: st) (I, J, Z) K := by
  intro E p l e R s m args below meth c H locs cells slots Q lm C h1 h2 h3 h4 h5 h6 hw hl hr
  obtain ⟨idx, r, r1, rfl, r3, r4, r5, r6⟩ := r
  obtain ⟨hin, hty, hnm, hN⟩ := vCok ci r r3
  obtain ⟨g1, g2, g3⟩ := ha
  have he := vws_get (E := E) (σ := (I, J, Z)) g1
  rw [vcell_ob g2 g3] at he
  have hk' : k < vNF ci := by rw [← hN]; exact r4
  have hkk : ∀ (H1 : Heap) (locs1 : List Loc), va_P E.2.2.1 vwCl ((vws E n (I, J, Z)).set a (E.1 + a, .inr (ci, (vflds E (I, J, Z) a ci (vNF ci)).set k (.long x)))) H1 → va_D (fun q => E.1 ≤ q) ((vws E n (I, J, Z)).set a (E.1 + a, .inr (ci, (vflds E (I, J, Z) a ci (vNF ci)).set k (.long x)))) → va_S (fun q => E.1 ≤ q) s.heap H1 locs1 → W p l e R s m args below meth c H1 locs1 cells slots Q (F0 m (pc + 3) lm (st.map (vmV E))) := by
    intro H1 locs1 hP _ hS
    refine h E p l e R s m args below meth c H1 locs1 cells slots Q lm C h1 h2 h3 h4 h5 h6 (vWld_put (τ := (I, up J a (va_up (J a) k x), Z)) hw g1 ?_ ?_ ?_ ?_ hP hS) hl hr
    · rw [vcell_ob g2 g3, vflds_set (τ := (I, up J a (va_up (J a) k x), Z)) hk' ?_ ?_]
      · rw [ht]; simp [vfld, up, va_up]
      · intro j hj hjk
        simp [vfld, up, va_up, hjk]
    · intro b hb; simp [up, hb]
    · intro b hb; simp [up, hb]
    · intro b hb; simp [up, hb]
  rcases r6 with r6 | ⟨r6, r7, r8⟩
  · exact va_put (C := r.1) (T := r.2.1) (N := r.2.2) (v := .long x) C.1 C.2.1 C.2.2.2.2.1 hin (vTF ci) hty hnm C.2.2.2.1 hw.1.1 hw.1.2.1 (vws_D E n (I, J, Z)) hw.2.1 a he r3 k r4 (C.2.2.2.2.1 _ r5) (fun _ q => q) r6 (hty k r4) (by rw [ht]; rfl) (by rw [ht]; rfl) (by rw [vflds_len]; exact hk') r1 hkk
  · exact va_putF (C := r.1) (T := r.2.1) (N := r.2.2) (v := .long x) C.1 C.2.1 C.2.2.2.2.1 hin (vTF ci) hty hnm C.2.2.2.1 hw.1.1 hw.1.2.1 (vws_D E n (I, J, Z)) hw.2.1 a he r3 k r4 (C.2.2.2.2.1 _ r5) (fun _ q => q) r6 (C.2.2.2.2.2.2.2 r7) r8 (hty k r4) (by rw [ht]; rfl) (by rw [ht]; rfl) (by rw [vflds_len]; exact hk') r1 hkk
theorem vR_nar {ty : FieldType} (h : vIsR ty = true) (b : Nat) : narrow ty (.ref b) = .ref b ∧ fits ty (.ref b) = true := by
  cases ty <;> first | (cases h; done) | exact ⟨rfl, rfl⟩
theorem st_putR {a ci k : Nat} {b : Nat} (ht : vIsR (vTF ci k) = true) (r : vPf M pc ci k pc') (ha : vOb n a ci) (h : V d nf n M pc' ls st (I, J, up Z a (va_up (Z a) k (some b))) K) : V d nf n M pc ls (.ref b :: .ref a :: st) (I, J, Z) K := by
  intro E p l e R s m args below meth c H locs cells slots Q lm C h1 h2 h3 h4 h5 h6 hw hl hr
  obtain ⟨idx, r, r1, rfl, r3, r4, r5, r6⟩ := r
  obtain ⟨hin, hty, hnm, hN⟩ := vCok ci r r3
  obtain ⟨g1, g2, g3⟩ := ha
  have he := vws_get (E := E) (σ := (I, J, Z)) g1
  rw [vcell_ob g2 g3] at he
  have hk' : k < vNF ci := by rw [← hN]; exact r4
  have hkk : ∀ (H1 : Heap) (locs1 : List Loc), va_P E.2.2.1 vwCl ((vws E n (I, J, Z)).set a (E.1 + a, .inr (ci, (vflds E (I, J, Z) a ci (vNF ci)).set k (.ref (E.1 + b))))) H1 → va_D (fun q => E.1 ≤ q) ((vws E n (I, J, Z)).set a (E.1 + a, .inr (ci, (vflds E (I, J, Z) a ci (vNF ci)).set k (.ref (E.1 + b))))) → va_S (fun q => E.1 ≤ q) s.heap H1 locs1 → W p l e R s m args below meth c H1 locs1 cells slots Q (F0 m (pc + 3) lm (st.map (vmV E))) := by
    intro H1 locs1 hP _ hS
    refine h E p l e R s m args below meth c H1 locs1 cells slots Q lm C h1 h2 h3 h4 h5 h6 (vWld_put (τ := (I, J, up Z a (va_up (Z a) k (some b)))) hw g1 ?_ ?_ ?_ ?_ hP hS) hl hr
    · rw [vcell_ob g2 g3, vflds_set (τ := (I, J, up Z a (va_up (Z a) k (some b)))) hk' ?_ ?_]
      · rw [vfld_R (b := b) ht (by simp [up, va_up])]
      · intro j hj hjk
        simp [vfld, up, va_up, hjk]
    · intro b hb; simp [up, hb]
    · intro b hb; simp [up, hb]
    · intro b hb; simp [up, hb]
  rcases r6 with r6 | ⟨r6, r7, r8⟩
  · exact va_put (C := r.1) (T := r.2.1) (N := r.2.2) (v := .ref (E.1 + b)) C.1 C.2.1 C.2.2.2.2.1 hin (vTF ci) hty hnm C.2.2.2.1 hw.1.1 hw.1.2.1 (vws_D E n (I, J, Z)) hw.2.1 a he r3 k r4 (C.2.2.2.2.1 _ r5) (fun _ q => q) r6 (hty k r4) ((vR_nar ht _).1) ((vR_nar ht _).2) (by rw [vflds_len]; exact hk') r1 hkk
  · exact va_putF (C := r.1) (T := r.2.1) (N := r.2.2) (v := .ref (E.1 + b)) C.1 C.2.1 C.2.2.2.2.1 hin (vTF ci) hty hnm C.2.2.2.1 hw.1.1 hw.1.2.1 (vws_D E n (I, J, Z)) hw.2.1 a he r3 k r4 (C.2.2.2.2.1 _ r5) (fun _ q => q) r6 (C.2.2.2.2.2.2.2 r7) r8 (hty k r4) ((vR_nar ht _).1) ((vR_nar ht _).2) (by rw [vflds_len]; exact hk') r1 hkk
theorem st_iald {a len : Nat} {i : Int32} (r : vI M pc .iaload 1 pc') (ha : vAr n a 100 len) (hi : vp_in i len) (h : V d nf n M pc' ls (.int (I a i.toNatClampNeg) :: st) (I, J, Z) K) : V d nf n M pc ls (.int i :: .ref a :: st) (I, J, Z) K := by
  intro E p l e R s m args below meth c H locs cells slots Q lm C h1 h2 h3 h4 h5 h6 hw hl hr
  obtain ⟨r1, rfl⟩ := r
  obtain ⟨g1, g2, g3⟩ := ha
  have he := vws_get (E := E) (σ := (I, J, Z)) g1
  rw [vcell_ia g2] at he
  exact va_iald C.1 C.2.1 hw.1.1 hw.1.2.1 a 0 he rfl hi r1 (h E p l e R s m args below meth c H locs cells slots Q lm C h1 h2 h3 h4 h5 h6 hw hl hr)
theorem st_bald {a len : Nat} {i : Int32} (r : vI M pc .baload 1 pc') (ha : vAr n a 101 len) (hi : vp_in i len) (h : V d nf n M pc' ls (.int (I a i.toNatClampNeg) :: st) (I, J, Z) K) : V d nf n M pc ls (.int i :: .ref a :: st) (I, J, Z) K := by
  intro E p l e R s m args below meth c H locs cells slots Q lm C h1 h2 h3 h4 h5 h6 hw hl hr
  obtain ⟨r1, rfl⟩ := r
  obtain ⟨g1, g2, g3⟩ := ha
  have he := vws_get (E := E) (σ := (I, J, Z)) g1
  rw [vcell_za g2] at he
  exact va_zald C.1 C.2.1 hw.1.1 hw.1.2.1 a 1 he rfl hi r1 (h E p l e R s m args below meth c H locs cells slots Q lm C h1 h2 h3 h4 h5 h6 hw hl hr)
theorem st_aald {a len b : Nat} {i : Int32} (r : vI M pc .aaload 1 pc') (ha : vAr n a 102 len) (hi : vp_in i len) (hb : Z a i.toNatClampNeg = some b) (h : V d nf n M pc' ls (.ref b :: st) (I, J, Z) K) : V d nf n M pc ls (.int i :: .ref a :: st) (I, J, Z) K := by
  intro E p l e R s m args below meth c H locs cells slots Q lm C h1 h2 h3 h4 h5 h6 hw hl hr
  obtain ⟨r1, rfl⟩ := r
  obtain ⟨g1, g2, g3⟩ := ha
  have he := vws_get (E := E) (σ := (I, J, Z)) g1
  rw [vcell_qa g2] at he
  refine va_aldq C.1 C.2.1 hw.1.1 hw.1.2.1 a 2 he rfl hi r1 ?_
  simp only [hb, Option.map_some]
  exact (h E p l e R s m args below meth c H locs cells slots Q lm C h1 h2 h3 h4 h5 h6 hw hl hr)
theorem upd_va (f : Nat → Int32) (k : Nat) (x : Int32) : upd f k x = va_up f k x := by
  funext j
  simp [upd, va_up]
theorem st_iast {a len : Nat} {i x : Int32} (r : vI M pc .iastore 1 pc') (ha : vAr n a 100 len) (hi : vp_in i len) (h : V d nf n M pc' ls st (up I a (va_up (I a) i.toNatClampNeg x), J, Z) K) : V d nf n M pc ls (.int x :: .int i :: .ref a :: st) (I, J, Z) K := by
  intro E p l e R s m args below meth c H locs cells slots Q lm C h1 h2 h3 h4 h5 h6 hw hl hr
  obtain ⟨r1, rfl⟩ := r
  obtain ⟨g1, g2, g3⟩ := ha
  have he := vws_get (E := E) (σ := (I, J, Z)) g1
  rw [vcell_ia g2] at he
  refine va_iast C.1 C.2.1 hw.1.1 hw.1.2.1 (vws_D E n (I, J, Z)) hw.2.1 a 0 he rfl hi r1 ?_
  intro H1 locs1 hP _ hS
  refine h E p l e R s m args below meth c H1 locs1 cells slots Q lm C h1 h2 h3 h4 h5 h6 (vWld_put (τ := (up I a (va_up (I a) i.toNatClampNeg x), J, Z)) hw g1 ?_ ?_ ?_ ?_ hP hS) hl hr
  · rw [vcell_ia g2, upd_va]; simp only [up_s]
  · intro b hb; simp [up, hb]
  · intro b hb; simp [up, hb]
  · intro b hb; simp [up, hb]
theorem st_bast {a len : Nat} {i x : Int32} (r : vI M pc .bastore 1 pc') (ha : vAr n a 101 len) (hi : vp_in i len) (hx : vp_nar .boolean x = x) (h : V d nf n M pc' ls st (up I a (va_up (I a) i.toNatClampNeg x), J, Z) K) : V d nf n M pc ls (.int x :: .int i :: .ref a :: st) (I, J, Z) K := by
  intro E p l e R s m args below meth c H locs cells slots Q lm C h1 h2 h3 h4 h5 h6 hw hl hr
  obtain ⟨r1, rfl⟩ := r
  obtain ⟨g1, g2, g3⟩ := ha
  have he := vws_get (E := E) (σ := (I, J, Z)) g1
  rw [vcell_za g2] at he
  refine va_zast C.1 C.2.1 hw.1.1 hw.1.2.1 (vws_D E n (I, J, Z)) hw.2.1 a 1 he rfl hi r1 ?_
  intro H1 locs1 hP _ hS
  rw [hx] at hP
  refine h E p l e R s m args below meth c H1 locs1 cells slots Q lm C h1 h2 h3 h4 h5 h6 (vWld_put (τ := (up I a (va_up (I a) i.toNatClampNeg x), J, Z)) hw g1 ?_ ?_ ?_ ?_ hP hS) hl hr
  · rw [vcell_za g2, upd_va]; simp only [up_s]
  · intro b hb; simp [up, hb]
  · intro b hb; simp [up, hb]
  · intro b hb; simp [up, hb]
theorem st_aast {a len b : Nat} {i : Int32} (r : vI M pc .aastore 1 pc') (ha : vAr n a 102 len) (hi : vp_in i len) (hb : vOb n b 1) (h : V d nf n M pc' ls st (I, J, up Z a (va_up (Z a) i.toNatClampNeg (some b))) K) : V d nf n M pc ls (.ref b :: .int i :: .ref a :: st) (I, J, Z) K := by
  intro E p l e R s m args below meth c H locs cells slots Q lm C h1 h2 h3 h4 h5 h6 hw hl hr
  obtain ⟨r1, rfl⟩ := r
  obtain ⟨g1, g2, g3⟩ := ha
  have he := vws_get (E := E) (σ := (I, J, Z)) g1
  rw [vcell_qa g2] at he
  have hf := vws_get (E := E) (σ := (I, J, Z)) hb.1
  rw [vcell_ob hb.2.1 hb.2.2] at hf
  refine va_astq (r := (RX1, TX1, 6)) C.1 C.2.1 hw.1.1 hw.1.2.1 (vws_D E n (I, J, Z)) hw.2.1 a 2 b 1 he rfl hf rfl hi r1 ?_
  intro H1 locs1 hP _ hS
  refine h E p l e R s m args below meth c H1 locs1 cells slots Q lm C h1 h2 h3 h4 h5 h6 (vWld_put (τ := (I, J, up Z a (va_up (Z a) i.toNatClampNeg (some b)))) hw g1 ?_ ?_ ?_ ?_ hP hS) hl hr
  · rw [vcell_qa g2]
    simp only [up_s]
    congr 8
    funext j
    by_cases hj : j = i.toNatClampNeg <;> simp [va_up, hj]
  · intro b hb; simp [up, hb]
  · intro b hb; simp [up, hb]
  · intro b hb; simp [up, hb]
theorem st_alen {a len : Nat} (r : vI M pc .arraylength 1 pc') (ha : vAr n a 100 len) (h : V d nf n M pc' ls (.int (nI len) :: st) (I, J, Z) K) : V d nf n M pc ls (.ref a :: st) (I, J, Z) K := by
  intro E p l e R s m args below meth c H locs cells slots Q lm C h1 h2 h3 h4 h5 h6 hw hl hr
  obtain ⟨r1, rfl⟩ := r
  obtain ⟨g1, g2, g3⟩ := ha
  have he := vws_get (E := E) (σ := (I, J, Z)) g1
  rw [vcell_ia g2] at he
  exact va_alen C.1 C.2.1 hw.1.1 hw.1.2.1 a 0 he rfl rfl r1 (h E p l e R s m args below meth c H locs cells slots Q lm C h1 h2 h3 h4 h5 h6 hw hl hr)
theorem st_sld {i : Int32} (r : vI M pc .iaload 1 pc') (hi : vp_in i (vLen (I, J, Z))) (h : V d nf n M pc' ls (.int (I 1000 i.toNatClampNeg) :: st) (I, J, Z) K) : V d nf n M pc ls (.int i :: vX :: st) (I, J, Z) K := by
  intro E p l e R s m args below meth c H locs cells slots Q lm C h1 h2 h3 h4 h5 h6 hw hl hr
  obtain ⟨r1, rfl⟩ := r
  exact va_sld (A := fun q => E.1 ≤ q) (H0 := H) C.1 C.2.1 hw.1.2.2.2.2.1 (Nat.lt_of_lt_of_le hw.1.2.2.2.2.2.1 (Nat.le_trans hw.2.2 hw.2.1.1)) (Nat.not_le.mpr hw.1.2.2.2.2.2.1) ⟨Nat.le_refl _, fun _ _ _ => rfl, hw.2.1.2.2⟩ hi r1 (h E p l e R s m args below meth c H locs cells slots Q lm C h1 h2 h3 h4 h5 h6 hw hl hr)
theorem st_slen (r : vI M pc .arraylength 1 pc') (h : V d nf n M pc' ls (.int (nI (vLen (I, J, Z))) :: st) (I, J, Z) K) : V d nf n M pc ls (vX :: st) (I, J, Z) K := by
  intro E p l e R s m args below meth c H locs cells slots Q lm C h1 h2 h3 h4 h5 h6 hw hl hr
  obtain ⟨r1, rfl⟩ := r
  exact va_slen (A := fun q => E.1 ≤ q) (H0 := H) C.1 C.2.1 hw.1.2.2.2.2.1 (Nat.lt_of_lt_of_le hw.1.2.2.2.2.2.1 (Nat.le_trans hw.2.2 hw.2.1.1)) (Nat.not_le.mpr hw.1.2.2.2.2.2.1) ⟨Nat.le_refl _, fun _ _ _ => rfl, hw.2.1.2.2⟩ r1 (h E p l e R s m args below meth c H locs cells slots Q lm C h1 h2 h3 h4 h5 h6 hw hl hr)
theorem Ki_i {k : Int32 → vS → Prop} {x : Int32} {σ : vS} (h : k x σ) : Ki k (some (.int x)) σ := h
theorem st_iret {x : Int32} {k : Int32 → vS → Prop} (r : vI M pc .ireturn 1 pc') (ht : M.2.2.2.2 = some .int) (h : k x (I, J, Z)) : V d n n M pc ls [.int x] (I, J, Z) (Ki k) := by
  intro E p l e R s m args below meth c H locs cells slots Q lm C h1 h2 h3 h4 h5 h6 hw hl hr
  obtain ⟨r1, -⟩ := r
  have := hr (some (.int x)) (I, J, Z) H locs pc lm h hw ⟨r1, .int, ht, rfl⟩
  simpa using this
theorem st_zret {x : Int32} {k : Int32 → vS → Prop} (r : vI M pc .ireturn 1 pc') (ht : M.2.2.2.2 = some .boolean) (hx : narrow .boolean (.int x) = .int x) (h : k x (I, J, Z)) : V d n n M pc ls [.int x] (I, J, Z) (Ki k) := by
  intro E p l e R s m args below meth c H locs cells slots Q lm C h1 h2 h3 h4 h5 h6 hw hl hr
  obtain ⟨r1, -⟩ := r
  have := hr (some (.int x)) (I, J, Z) H locs pc lm h hw ⟨r1, .boolean, ht, hx⟩
  simpa using this
theorem st_lret {x : Int64} {k : Int64 → vS → Prop} (r : vI M pc .lreturn 1 pc') (ht : M.2.2.2.2 = some .long) (h : k x (I, J, Z)) : V d n n M pc ls [.long x] (I, J, Z) (Kl k) := by
  intro E p l e R s m args below meth c H locs cells slots Q lm C h1 h2 h3 h4 h5 h6 hw hl hr
  obtain ⟨r1, -⟩ := r
  have := hr (some (.long x)) (I, J, Z) H locs pc lm h hw ⟨r1, ht⟩
  simpa using this
theorem st_vret {k : vS → Prop} (r : vI M pc .return_ 1 pc') (ht : M.2.2.2.2 = none) (h : k (I, J, Z)) : V d n n M pc ls [] (I, J, Z) (Kv k) := by
  intro E p l e R s m args below meth c H locs cells slots Q lm C h1 h2 h3 h4 h5 h6 hw hl hr
  obtain ⟨r1, -⟩ := r
  have := hr none (I, J, Z) H locs pc lm h hw ⟨r1, ht⟩
  simpa using this
end VHp
theorem V_mono {d nf n : Nat} {M : vM} {pc : Nat} {ls st : List Value} {σ : vS} {K K' : Option Value → vS → Prop} (hk : ∀ v τ, K v τ → K' v τ) (h : V d nf n M pc ls st σ K) : V d nf n M pc ls st σ K' := by
  intro E p l e R s m args below meth c H locs cells slots Q lm C h1 h2 h3 h4 h5 h6 hw hl hr
  exact h E p l e R s m args below meth c H locs cells slots Q lm C h1 h2 h3 h4 h5 h6 hw hl (fun v τ H' locs' pc' lm' q => hr v τ H' locs' pc' lm' (hk v τ q))
end
section
/-! ===== calls ===== -/
def vRm (d nf n : Nat) : Room := { frames := d, cells := nf - n, slots := vSZ nf - vSZ n, locals := 34 * d }
def vQ (E : vE) (nf : Nat) (K : Option Value → vS → Prop) : Array Value → State → Outcome → State → Prop := fun _ st oc t => (∃ (v : Option Value) (τ : vS), oc = .returned (v.map (vmV E)) ∧ K v τ ∧ vW0 E nf τ t t.heap) ∧ va_F (fun q => E.1 ≤ q) st t
/-- a method that can be called -/
def vCal (N : vM) (k : Nat) : Prop := Cond.code N.2.1 N.2.2.1 N.2.2.2.1 N.2.2.2.2 ∈ vT ∧ Cond.initialized N.2.1.cls ∈ vT ∧ (N.2.1.cls ≠ "java/lang/invoke/MethodHandle" ∧ N.2.1.cls ≠ "java/lang/invoke/VarHandle" ∧ (parseMethodDescriptor N.2.1.desc).map (fun d => d.parameters.length) = some k) ∧ plainName N.2.1.cls = true ∧ N.2.2.2.1 ≤ 15 ∧ N.1 = N.2.1.cls
theorem vW0_warm {E : vE} {n : Nat} {σ : vS} {s t : State} {H : Heap} (h : vW0 E n σ s H) (hW : s.WarmedH t.vm) : vW0 E n σ t H := by
  obtain ⟨k1, k2, k4, k5, k6, k7, k8⟩ := h
  exact ⟨va_K.moved hW.alike k1, k2, vNs_warm hW k4, va_AO.moved hW.alike k5, va_X.moved hW.alike k6, k7, k8⟩
theorem vW0_same {E : vE} {n : Nat} {σ : vS} {s t : State} {H : Heap} (h : vW0 E n σ s H) (hW : s.vm = t.vm) : vW0 E n σ t H := by
  obtain ⟨k1, k2, k4, k5, k6, k7, k8⟩ := h
  have ha : s.vm.Alike t.vm := by rw [hW]; exact Vm.Alike.refl t.vm
  exact ⟨va_K.moved ha k1, k2, vNs_same hW k4, va_AO.moved ha k5, va_X.moved ha k6, k7, k8⟩
def vPc (E : vE) (n : Nat) (σ : vS) : State → Prop := fun U => vW0 E n σ U U.heap ∧ U.heap.size = E.1 + n
theorem vPc_blind (E : vE) (n : Nat) (σ : vS) (av : List Value) : FrameBlind (va_Pc av (vPc E n σ)) := by
  intro a U g mk q
  exact ⟨q.1, vW0_same q.2.1 rfl, q.2.2⟩
theorem vSZ_mono {a b : Nat} (h : a ≤ b) : vSZ a ≤ vSZ b := by
  unfold vSZ
  obtain ⟨k, rfl⟩ := Nat.exists_eq_add_of_le h
  rw [List.take_add, List.map_append, List.sum_append]
  exact Nat.le_add_right _ _
theorem vargs_mem : ∀ (vs : List Value) (k i : Nat) (v : Value), (∀ a ∈ vs, a.category = 1) → vs[i]? = some v → (k + i, v) ∈ lv_args k vs := by
  intro vs
  induction vs with
  | nil => intro k i v _ h; simp at h
  | cons a t ih =>
    intro k i v hc h
    have ha : ¬ a.category = 2 := by have := hc a List.mem_cons_self; omega
    simp only [lv_args, if_neg ha]
    cases i with
    | zero => simp at h; subst h; exact List.mem_cons_self
    | succ i =>
      have := ih (k + 1) i v (fun b hb => hc b (List.mem_cons_of_mem _ hb)) (by simpa using h)
      rw [show k + 1 + i = k + (i + 1) by omega] at this
      exact List.mem_cons_of_mem _ this
theorem vsl_len : ∀ (vs : List Value), (∀ a ∈ vs, a.category = 1) → (lg_sl vs).length = vs.length := by
  intro vs
  induction vs with
  | nil => intro _; rfl
  | cons a t ih =>
    intro hc
    have ha : ¬ a.category = 2 := by have := hc a List.mem_cons_self; omega
    have := ih (fun b hb => hc b (List.mem_cons_of_mem _ hb))
    simp only [lg_sl, List.flatMap_cons, if_neg ha, List.length_append, List.length_cons, List.length_nil] at this ⊢
    omega
theorem vMet {N : vM} {k d nf n : Nat} {σ : vS} {as js : List Value} {K : Option Value → vS → Prop} (hN : vCal N k) (hc : ∀ a ∈ as, a.category = 1) (hj : ∀ a ∈ js, a = vJ) (hlen : as.length + js.length = N.2.2.2.1) (hn : n ≤ nf) (hV : V d nf n N 0 (as ++ js) [] σ K) (E : vE) (l : Launch) :
    Met l N.2.1 (Cond.code N.2.1 N.2.2.1 N.2.2.2.1 N.2.2.2.2 :: vT) (vRm d nf n) (va_Pc (as.map (vmV E)) (vPc E n σ)) (vQ E nf K) (nf - n) (vSZ nf - vSZ n) (fun q => E.1 ≤ q) := by
  refine Met.ofW (cc := N.2.2.1) (maxL := N.2.2.2.1) (ret := N.2.2.2.2) hN.2.2.2.1 rfl ?_
  intro p e s m args below meth c s₁ B hml hv
  obtain ⟨rfl, hw, hsz⟩ := hv
  have hts := atoms_spec (ws := Cond.code N.2.1 N.2.2.1 N.2.2.2.1 N.2.2.2.2 :: vT) B.pre
  have hown : s.vm.findClass N.2.1.cls = some m.cls := findClass_of_methodNamed B.named
  have hnm : meth.name = N.2.1.name := (name_of_methodNamed B.named B.method).1
  have hcm : ∀ a ∈ as.map (vmV E), a.category = 1 := by
    intro a ha
    obtain ⟨b, hb, rfl⟩ := List.mem_map.mp ha
    rw [vmV_cat]
    exact hc b hb
  have hll : (lg_sl (as.map (vmV E))).length ≤ N.2.2.2.1 := by rw [vsl_len _ hcm, List.length_map]; omega
  have hl := lv_entry (as.map (vmV E)) (n := N.2.2.2.1) hll
  rw [lg_entry_eq]
  generalize (lg_sl (as.map (vmV E)) ++ List.replicate (N.2.2.2.1 - (lg_sl (as.map (vmV E))).length) Slot.unset).toArray = lm at hl ⊢
  have C : vCtx N p s m ((as.map (vmV E)).toArray) meth c := ⟨B.exec, B.bytes, hml, by rw [hN.2.2.2.2.2]; exact hown, fun w hw => hts w (List.mem_cons_of_mem _ hw), B.returns, B.notSynchronized, fun q => by rw [hnm, q]⟩
  have hL : vLs E N.2.2.2.1 lm (as ++ js) := by
    refine ⟨hl.1, hl.2.1, fun i v hi hv => ?_⟩
    by_cases hia : i < as.length
    · rw [List.getElem?_append_left hia] at hi
      have h2 := vargs_mem (as.map (vmV E)) 0 i (vmV E v) hcm (by rw [List.getElem?_map, hi]; rfl)
      rw [Nat.zero_add] at h2
      exact hl.2.2 _ h2
    · rw [List.getElem?_append_right (by omega)] at hi
      exact absurd (hj v (List.mem_of_getElem? hi)) hv
  have hS : va_S (fun q => E.1 ≤ q) s.heap s.heap [] := va_S.rf
  refine hV E p l e (headSpec (Cond.code N.2.1 N.2.2.1 N.2.2.2.1 N.2.2.2.2 :: vT) (vRm d nf n)).room s m _ below meth c s.heap [] 0 0 _ lm C rfl (Nat.le_refl _) (by rw [Nat.zero_add]; exact Nat.le_refl _) (by rw [Nat.zero_add]; exact Nat.le_refl _) hn hsz ⟨hw, hS, by omega⟩ hL ?_
  intro v τ H' locs' pc' lm' hK hw' hr'
  rw [Nat.zero_add, Nat.zero_add]
  have hq : ∀ t : State, t.heap = H' → s.WarmedH t.vm → vQ E nf K ((as.map (vmV E)).toArray) s (.returned (v.map (vmV E))) t := by
    intro t ht hW
    refine ⟨⟨v, τ, rfl, hK, ?_⟩, hw'.2.1.F ht⟩
    rw [ht]
    exact vW0_warm hw'.1 hW
  have hf : ∀ q ∈ locs', E.1 ≤ q.base := hw'.2.1.2.2
  have hlocks : meth.locks = false := B.notSynchronized
  cases v with
  | none => exact W.vret C.1 C.2.1 (C.2.2.2.2.2.1.trans hr'.2) hq hf hr'.1
  | some v =>
    cases v with
    | int x =>
      obtain ⟨r1, ty, r2, r3⟩ := hr'
      exact W.zret C.1 C.2.1 (C.2.2.2.2.2.1.trans r2) r3 hq hf r1
    | long x => exact W.lret C.1 C.2.1 (C.2.2.2.2.2.1.trans hr'.2) hq hf hr'.1
    | float x => exact hr'.elim
    | double x => exact hr'.elim
    | null => exact hr'.elim
    | ref x => exact hr'.elim
    | retAddr x => exact hr'.elim
section VCall
variable {p : Program} {l : Launch} {e : Env} {R : Room} {s : State} {m : MethodId} {args : Array Value} {below : List Frame} {meth : Method} {c : Code} {H : Heap} {locs : List Loc} {cells slots : Nat} {Q : State → Prop}
theorem vcall {E : vE} {n nf mc ms pc : Nat} {σ : vS} {lm : Array Slot} {stk rest : List Value} {a : Array Value} {K' : Option Value → vS → Prop} (hr : va_Run p l e R s m args below meth c H locs cells slots mc ms (F0 m pc lm stk) rest (vQ E nf K' a) (fun q => E.1 ≤ q)) (hw : vWld E n σ s H locs)
    (kk : ∀ (v : Option Value) (τ : vS) (H1 : Heap) (locs1 : List Loc), K' v τ → vWld E nf τ s H1 locs1 → W p l e R s m args below meth c H1 locs1 (cells + mc) (slots + ms) Q (F0 m (pc + 3) lm ((v.map (vmV E)).toList ++ rest))) : W p l e R s m args below meth c H locs cells slots Q (F0 m pc lm stk) := by
  intro T hT X
  obtain ⟨v, st₀, t, T', L, h0, X', hL, e1, e2, ⟨⟨v', τ, hv, hK, hW0⟩, hz, hk⟩, st⟩ := hr T hT X
  have hv : v = v'.map (vmV E) := Outcome.returned.inj hv
  subst hv
  rw [h0] at hz hk
  obtain ⟨⟨k1, k2, k4, k5, k6, k7, k8⟩, hS, hb⟩ := hw
  have hal : t.vm.Alike s.vm := by rw [← e2]; exact X'.warmed.alike.symm
  obtain ⟨t2, a1, b1⟩ := kk v' τ T'.heap (locs ++ L) hK ⟨⟨k1, by rw [e1]; exact hW0.2.1, k4, k5, by rw [e1]; exact va_X.moved hal hW0.2.2.2.2.1, k7, hW0.2.2.2.2.2.2⟩, ⟨Nat.le_trans hS.1 (by rw [e1]; exact hz), fun q q1 q2 => by rw [e1, hk q (Nat.lt_of_lt_of_le q1 hS.1) q2]; exact hS.2.1 q q1 q2, fun q hq => by
      rcases List.mem_append.mp hq with h | h
      · exact hS.2.2 q h
      · exact hL q h⟩, hb⟩ T' rfl X'
  exact ⟨t2, st t2 a1, b1⟩
end VCall
theorem vGood {N : vM} (h : Cond.code N.2.1 N.2.2.1 N.2.2.2.1 N.2.2.2.2 ∈ vT) : GoodIn vT (Cond.code N.2.1 N.2.2.1 N.2.2.2.1 N.2.2.2.2 :: vT) := by
  intro w hw
  rcases List.mem_cons.mp hw with rfl | hw
  · exact ⟨h, vT_good h⟩
  · exact ⟨hw, vT_good hw⟩
/-- rows of calls -/
def vKs (M : vM) (pc : Nat) (N : vM) (k pc' : Nat) : Prop := ∃ idx : Nat, decode M.2.2.1 pc = .ok (.invokestatic idx, 3) ∧ pc + 3 = pc' ∧ vCal N k ∧ Cond.static N.2.1 ∈ vT ∧ (Cond.methodLink M.1 idx N.2.1 ∈ vT ∨ ∃ host, Cond.methodLinkNest M.1 idx N.2.1 host ∈ vNs)
def vKv (M : vM) (pc : Nat) (N : vM) (k ci pc' : Nat) : Prop := ∃ (idx : Nat) (r : vw_C), decode M.2.2.1 pc = .ok (.invokevirtual idx, 3) ∧ pc + 3 = pc' ∧ vCal N k ∧ Cond.instanceMethod N.2.1 ∈ vT ∧ Cond.methodLink M.1 idx N.2.1 ∈ vT ∧ Cond.selects N.2.1.cls N.2.1 N.2.1 ∈ vT ∧ vwCl[ci]? = some r ∧ r.1 = N.2.1.cls
def vKi (M : vM) (pc : Nat) (N : vM) (k pc' : Nat) : Prop := ∃ idx : Nat, decode M.2.2.1 pc = .ok (.invokespecial idx, 3) ∧ pc + 3 = pc' ∧ vCal N k ∧ Cond.instanceMethod N.2.1 ∈ vT ∧ N.2.1.name = "<init>" ∧ N.2.2.2.2 = none ∧ (Cond.methodLink M.1 idx N.2.1 ∈ vT ∨ ∃ host, Cond.methodLinkNest M.1 idx N.2.1 host ∈ vNs)
section VC2
variable {d nf nf' n k : Nat} {M N : vM} {pc pc' : Nat} {ls st as js : List Value} {σ : vS} {K : Option Value → vS → Prop}
theorem vafter {E : vE} {p : Program} {l : Launch} {e : Env} {R : Room} {s : State} {m : MethodId} {args : Array Value} {below : List Frame} {meth : Method} {c : Code} {H1 : Heap} {locs1 : List Loc} {cells slots : Nat} {Q : State → Prop} {lm : Array Slot} {v : Option Value} {τ : vS} (h : V (d + 1) nf nf' M (pc + 3) ls (v.toList ++ st) τ K) (C : vCtx M p s m args meth c) (h1 : R.frames = d + 1) (h2 : 34 * (d + 1) ≤ R.locals) (h3 : cells + (nf - n) ≤ R.cells) (h4 : slots + (vSZ nf - vSZ n) ≤ R.slots) (hnn : n ≤ nf') (hff : nf' ≤ nf) (h6 : s.heap.size + cells = E.1 + n) (hw : vWld E nf' τ s H1 locs1) (hl : vLs E M.2.2.2.1 lm ls)
    (hr : ∀ (v : Option Value) (τ : vS) (H' : Heap) (locs' : List Loc) (pc' : Nat) (lm' : Array Slot), K v τ → vWld E nf τ s H' locs' → vRet M pc' v → W p l e R s m args below meth c H' locs' (cells + (nf - n)) (slots + (vSZ nf - vSZ n)) Q (F0 m pc' lm' (v.map (vmV E)).toList)) :
    W p l e R s m args below meth c H1 locs1 (cells + (nf' - n)) (slots + (vSZ nf' - vSZ n)) Q (F0 m (pc + 3) lm ((v.map (vmV E)).toList ++ st.map (vmV E))) := by
  have z1 := vSZ_mono hnn
  have z2 := vSZ_mono hff
  have e0 : (v.map (vmV E)).toList ++ st.map (vmV E) = (v.toList ++ st).map (vmV E) := by cases v <;> rfl
  rw [e0]
  refine h E p l e R s m args below meth c H1 locs1 (cells + (nf' - n)) (slots + (vSZ nf' - vSZ n)) Q lm C h1 h2 (by omega) (by omega) hff (by omega) hw hl ?_
  have e1 : cells + (nf' - n) + (nf - nf') = cells + (nf - n) := by omega
  have e2 : slots + (vSZ nf' - vSZ n) + (vSZ nf - vSZ nf') = slots + (vSZ nf - vSZ n) := by omega
  rw [e1, e2]
  exact hr
theorem st_callS (r : vKs M pc N k pc') (hk : as.length = k) (hc : ∀ a ∈ as, a.category = 1) (hj : ∀ a ∈ js, a = vJ) (hlen : as.length + js.length = N.2.2.2.1) (hst : (st.map Value.category).sum ≤ 8) (hnn : n ≤ nf') (hff : nf' ≤ nf) (h : V d nf' n N 0 (as ++ js) [] σ (fun v τ => V (d + 1) nf nf' M pc' ls (v.toList ++ st) τ K)) : V (d + 1) nf n M pc ls (as.reverse ++ st) σ K := by
  intro E p l e R s m args below meth c H locs cells slots Q lm C h1 h2 h3 h4 h5 h6 hw hl hr
  obtain ⟨idx, r1, rfl, r3, r4, r5⟩ := r
  refine W_sized hw h6 (fun hsz => ?_)
  have hM := vMet r3 hc hj hlen hnn h E l
  have z1 := vSZ_mono hnn
  have z2 := vSZ_mono hff
  have hrm : (vRm d nf' n).frames + 1 ≤ R.frames ∧ 8 + (N.2.2.2.1 + 11) + (vRm d nf' n).locals ≤ R.locals := by
    have := r3.2.2.2.2.1
    refine ⟨by rw [h1]; exact Nat.le_refl _, ?_⟩
    simp only [vRm]
    omega
  have hpre : PreS s H (va_Pc (as.map (vmV E)) (vPc E n σ)) (as.map (vmV E)) := ⟨vPc_blind E n σ _, fun U hU hW => ⟨rfl, by rw [hU]; exact vW0_warm hw.1 hW, by rw [hU]; exact hsz⟩⟩
  have hstk : (F0 m pc lm ((as.reverse ++ st).map (vmV E))).stack = (as.map (vmV E)).reverse ++ st.map (vmV E) := by simp
  have hcat : ((st.map (vmV E)).map fun v => v.category).sum ≤ 8 := by rw [List.map_map]; rw [show (fun v => Value.category v) ∘ vmV E = Value.category from funext (fun v => vmV_cat E v)]; exact hst
  have hfix : CallFix p m c M.2.2.1 M.2.2.2.1 s args vT M.1 := ⟨C.1, C.2.1, C.2.2.1, C.2.2.2.1, C.2.2.2.2.1⟩
  have hkk : ∀ (v : Option Value) (τ : vS) (H1 : Heap) (locs1 : List Loc), V (d + 1) nf nf' M (pc + 3) ls (v.toList ++ st) τ K → vWld E nf' τ s H1 locs1 → W p l e R s m args below meth c H1 locs1 (cells + (nf' - n)) (slots + (vSZ nf' - vSZ n)) Q (F0 m (pc + 3) lm ((v.map (vmV E)).toList ++ st.map (vmV E))) := fun v τ H1 locs1 hK hw1 => vafter hK C h1 h2 h3 h4 hnn hff h6 hw1 hl hr
  rcases r5 with r5 | ⟨host, r5⟩
  · exact vcall (va_runS (As := as.map (vmV E)) (rest := st.map (vmV E)) hfix hM ⟨callB_of k C.2.2.2.2.1 (vGood r3.1) rfl rfl rfl (C.2.2.2.2.1 _ r3.2.1) (C.2.2.2.2.1 _ r5) r3.2.2.1 hrm, C.2.2.2.2.1 _ r4⟩ hpre rfl (by rw [List.length_map]; exact hk) hl.1 hstk (by show 2 * 0 + _ ≤ 8; omega) r1 ⟨by omega, by omega⟩) hw hkk
  · exact vcall (va_runSN (As := as.map (vmV E)) (rest := st.map (vmV E)) hfix hM ⟨va_cnB k C.2.2.2.2.1 (vGood r3.1) rfl rfl rfl (hw.1.2.2.1 _ r5) (C.2.2.2.2.1 _ r3.2.1) r3.2.2.1 hrm, C.2.2.2.2.1 _ r4, trivial⟩ hpre rfl (by rw [List.length_map]; exact hk) hl.1 hstk (by show 2 * 0 + _ ≤ 8; omega) r1 ⟨by omega, by omega⟩) hw hkk
theorem st_callI {b : Nat} (r : vKi M pc N k pc') (hk : as.length = k) (hc : ∀ a ∈ as, a.category = 1) (hj : ∀ a ∈ js, a = vJ) (hlen : as.length + 1 + js.length = N.2.2.2.1) (hst : (st.map Value.category).sum ≤ 8) (hnn : n ≤ nf') (hff : nf' ≤ nf) (h : V d nf' n N 0 (.ref b :: as ++ js) [] σ (fun v τ => V (d + 1) nf nf' M pc' ls (v.toList ++ st) τ K)) : V (d + 1) nf n M pc ls (as.reverse ++ .ref b :: st) σ K := by
  intro E p l e R s m args below meth c H locs cells slots Q lm C h1 h2 h3 h4 h5 h6 hw hl hr
  obtain ⟨idx, r1, rfl, r3, r4, r6, r7, r5⟩ := r
  refine W_sized hw h6 (fun hsz => ?_)
  have hc' : ∀ a ∈ (.ref b :: as : List Value), a.category = 1 := by
    intro a ha
    rcases List.mem_cons.mp ha with rfl | ha
    · rfl
    · exact hc a ha
  have hM := vMet r3 hc' hj (by simp only [List.length_cons]; exact hlen) hnn h E l
  have z1 := vSZ_mono hnn
  have z2 := vSZ_mono hff
  have hrm : (vRm d nf' n).frames + 1 ≤ R.frames ∧ 8 + (N.2.2.2.1 + 11) + (vRm d nf' n).locals ≤ R.locals := by
    have := r3.2.2.2.2.1
    refine ⟨by rw [h1]; exact Nat.le_refl _, ?_⟩
    simp only [vRm]
    omega
  rw [r7] at hM
  have hg := vGood r3.1
  have hcd := r3.1
  rw [r7] at hg hcd
  have hpre : PreS s H (va_Pc ((.ref b :: as : List Value).map (vmV E)) (vPc E n σ)) (.ref (E.1 + b) :: as.map (vmV E)) := ⟨vPc_blind E n σ _, fun U hU hW => ⟨rfl, by rw [hU]; exact vW0_warm hw.1 hW, by rw [hU]; exact hsz⟩⟩
  have hstk : (F0 m pc lm ((as.reverse ++ .ref b :: st).map (vmV E))).stack = (as.map (vmV E)).reverse ++ .ref (E.1 + b) :: st.map (vmV E) := by simp [vmV]
  have hcat : ((st.map (vmV E)).map fun v => v.category).sum ≤ 8 := by rw [List.map_map]; rw [show (fun v => Value.category v) ∘ vmV E = Value.category from funext (fun v => vmV_cat E v)]; exact hst
  have hfix : CallFix p m c M.2.2.1 M.2.2.2.1 s args vT M.1 := ⟨C.1, C.2.1, C.2.2.1, C.2.2.2.1, C.2.2.2.2.1⟩
  have hkk : ∀ (v : Option Value) (τ : vS) (H1 : Heap) (locs1 : List Loc), V (d + 1) nf nf' M (pc + 3) ls (v.toList ++ st) τ K → vWld E nf' τ s H1 locs1 → W p l e R s m args below meth c H1 locs1 (cells + (nf' - n)) (slots + (vSZ nf' - vSZ n)) Q (F0 m (pc + 3) lm ((v.map (vmV E)).toList ++ st.map (vmV E))) := fun v τ H1 locs1 hK hw1 => vafter hK C h1 h2 h3 h4 hnn hff h6 hw1 hl hr
  rcases r5 with r5 | ⟨host, r5⟩
  · exact vcall (va_runI (b := E.1 + b) (As := as.map (vmV E)) (rest := st.map (vmV E)) hfix hM ⟨callB_of k C.2.2.2.2.1 hg rfl rfl rfl (C.2.2.2.2.1 _ r3.2.1) (C.2.2.2.2.1 _ r5) r3.2.2.1 hrm, r6, C.2.2.2.2.1 _ r4⟩ hpre rfl (by rw [List.length_map]; exact hk) hl.1 hstk (by show 2 * 0 + _ ≤ 8; omega) r1 ⟨by omega, by omega⟩) hw hkk
  · exact vcall (va_runIN (b := E.1 + b) (As := as.map (vmV E)) (rest := st.map (vmV E)) hfix hM ⟨va_cnB k C.2.2.2.2.1 hg rfl rfl rfl (hw.1.2.2.1 _ r5) (C.2.2.2.2.1 _ r3.2.1) r3.2.2.1 hrm, r6, C.2.2.2.2.1 _ r4⟩ hpre rfl (by rw [List.length_map]; exact hk) hl.1 hstk (by show 2 * 0 + _ ≤ 8; omega) r1 ⟨by omega, by omega⟩) hw hkk
theorem st_callV {b ci : Nat} (r : vKv M pc N k ci pc') (hb : vOb n b ci) (hk : as.length = k) (hc : ∀ a ∈ as, a.category = 1) (hj : ∀ a ∈ js, a = vJ) (hlen : as.length + 1 + js.length = N.2.2.2.1) (hst : (st.map Value.category).sum ≤ 8) (hnn : n ≤ nf') (hff : nf' ≤ nf) (h : V d nf' n N 0 (.ref b :: as ++ js) [] σ (fun v τ => V (d + 1) nf nf' M pc' ls (v.toList ++ st) τ K)) : V (d + 1) nf n M pc ls (as.reverse ++ .ref b :: st) σ K := by
  intro E p l e R s m args below meth c H locs cells slots Q lm C h1 h2 h3 h4 h5 h6 hw hl hr
  obtain ⟨idx, rr, r1, rfl, r3, r4, r5, r6, r7, r8⟩ := r
  refine W_sized hw h6 (fun hsz => ?_)
  have hc' : ∀ a ∈ (.ref b :: as : List Value), a.category = 1 := by
    intro a ha
    rcases List.mem_cons.mp ha with rfl | ha
    · rfl
    · exact hc a ha
  have hM := vMet r3 hc' hj (by simp only [List.length_cons]; exact hlen) hnn h E l
  have z1 := vSZ_mono hnn
  have z2 := vSZ_mono hff
  have hrm : (vRm d nf' n).frames + 1 ≤ R.frames ∧ 8 + (N.2.2.2.1 + 11) + (vRm d nf' n).locals ≤ R.locals := by
    have := r3.2.2.2.2.1
    refine ⟨by rw [h1]; exact Nat.le_refl _, ?_⟩
    simp only [vRm]
    omega
  have he := vws_get (E := E) (σ := σ) hb.1
  rw [vcell_ob hb.2.1 hb.2.2] at he
  have hrec := va_recv hw.1.1 hw.1.2.1 r7 he
  rw [r8] at hrec
  have hpre : PreV s H N.2.1.cls (E.1 + b) (va_Pc ((.ref b :: as : List Value).map (vmV E)) (vPc E n σ)) (as.map (vmV E)) := ⟨vPc_blind E n σ _, hrec, fun U hU hW => ⟨rfl, by rw [hU]; exact vW0_warm hw.1 hW, by rw [hU]; exact hsz⟩⟩
  have hstk : (F0 m pc lm ((as.reverse ++ .ref b :: st).map (vmV E))).stack = (as.map (vmV E)).reverse ++ .ref (E.1 + b) :: st.map (vmV E) := by simp [vmV]
  have hcat : ((st.map (vmV E)).map fun v => v.category).sum ≤ 8 := by rw [List.map_map]; rw [show (fun v => Value.category v) ∘ vmV E = Value.category from funext (fun v => vmV_cat E v)]; exact hst
  have hfix : CallFix p m c M.2.2.1 M.2.2.2.1 s args vT M.1 := ⟨C.1, C.2.1, C.2.2.1, C.2.2.2.1, C.2.2.2.2.1⟩
  have hkk : ∀ (v : Option Value) (τ : vS) (H1 : Heap) (locs1 : List Loc), V (d + 1) nf nf' M (pc + 3) ls (v.toList ++ st) τ K → vWld E nf' τ s H1 locs1 → W p l e R s m args below meth c H1 locs1 (cells + (nf' - n)) (slots + (vSZ nf' - vSZ n)) Q (F0 m (pc + 3) lm ((v.map (vmV E)).toList ++ st.map (vmV E))) := fun v τ H1 locs1 hK hw1 => vafter hK C h1 h2 h3 h4 hnn hff h6 hw1 hl hr
  exact vcall (va_runV (b := E.1 + b) (As := as.map (vmV E)) (rest := st.map (vmV E)) hfix hM ⟨callB_of k C.2.2.2.2.1 (vGood r3.1) rfl rfl rfl (C.2.2.2.2.1 _ r3.2.1) (C.2.2.2.2.1 _ r5) r3.2.2.1 hrm, C.2.2.2.2.1 _ r4, C.2.2.2.2.1 _ r6⟩ hpre rfl (by rw [List.length_map]; exact hk) hl.1 hstk (by show 2 * 0 + _ ≤ 8; omega) r1 ⟨by omega, by omega⟩) hw hkk
end VC2
end
section
/-! ===== new cells, Object's constructor, arraycopy, switches ===== -/
def vOkT : FieldType → Bool
  | .int => true
  | .long => true
  | .array _ => true
  | .object _ => true
  | _ => false
theorem vfld_0 {E : vE} {σ : vS} {a k : Nat} {ty : FieldType} (ht : vOkT ty = true) (h1 : σ.1 a k = 0) (h2 : σ.2.1 a k = 0) (h3 : σ.2.2 a k = none) : defaultValue ty = vfld E σ a k ty := by
  cases ty <;> first | (cases ht; done) | (simp [vfld, h1, h2, h3, va_rf, defaultValue]; done) | (simp only [vfld, h1, h2, h3]; rfl)
theorem vSZ_succ {n : Nat} (h : n < 123) : vSZ (n + 1) = vSZ n + (vSH n).2 := by
  unfold vSZ vSH
  have hl : n < vSHL.length := by rw [show vSHL.length = 123 from rfl]; exact h
  rw [List.take_succ, List.map_append, List.sum_append, List.getElem?_eq_getElem hl, List.getD_eq_getElem?_getD, List.getElem?_eq_getElem hl]
  simp
theorem vws_succ (E : vE) (n : Nat) (σ : vS) : vws E (n + 1) σ = vws E n σ ++ [(E.1 + n, vcell E σ n)] := by
  simp [vws, List.range_succ]
theorem vWld_new {E : vE} {n : Nat} {σ : vS} {s : State} {H H1 : Heap} {locs : List Loc} (hw : vWld E n σ s H locs) (hsz : H.size = E.1 + n) (hn : n + 1 ≤ 123) (o1 : ∀ q : Nat, q < E.1 + n → H1[q]? = H[q]?) (z1 : H1.size = E.1 + n + 1) (hc : va_at E.2.2.1 vwCl (E.1 + n, vcell E σ n) H1) : vWld E (n + 1) σ s H1 locs := by
  obtain ⟨⟨k1, k2, k4, k5, k6, k7, k8⟩, k9, k10⟩ := hw
  have hk : ∀ (k : Nat) (x : Nat × va_E), (vws E n σ)[k]? = some x → H1[x.1]? = H[x.1]? := fun k x hx => o1 x.1 (by rw [← hsz]; exact (k2 k x hx).lt)
  have hP : va_P E.2.2.1 vwCl (vws E (n + 1) σ) H1 := by
    rw [vws_succ]
    refine (k2.kept hk).app (fun k x hx => ?_)
    have hz : k < 1 := (List.getElem?_eq_some_iff.mp hx).1
    rw [show k = 0 by omega] at hx
    cases hx
    exact hc
  exact ⟨⟨k1, hP, k4, k5, k6.kept (o1 _ (by omega)), k7, hn⟩, ⟨Nat.le_trans k9.1 (by omega), fun x h1 h2 => (o1 x (by have := k9.1; omega)).trans (k9.2.1 x h1 h2), k9.2.2⟩, k10⟩
def vNw (M : vM) (pc ci pc' : Nat) : Prop := ∃ (idx : Nat) (r : vw_C), decode M.2.2.1 pc = .ok (.new idx, 3) ∧ pc + 3 = pc' ∧ vwCl[ci]? = some r ∧ Cond.classLink M.1 idx r.1 ∈ vT ∧ Cond.instantiable r.1 r.2.2 ∈ vT ∧ Cond.initialized r.1 ∈ vT ∧ ∀ j, j < r.2.2 → vOkT (vTF ci j) = true
def vNi (M : vM) (pc : Nat) (ty : ArrayType) (pc' : Nat) : Prop := decode M.2.2.1 pc = .ok (.newarray ty, 2) ∧ pc + 2 = pc' ∧ Cond.arrayClass (newarray.typeOf ty) ∈ vT
def vNq (M : vM) (pc pc' : Nat) : Prop := ∃ idx : Nat, decode M.2.2.1 pc = .ok (.anewarray idx, 3) ∧ pc + 3 = pc' ∧ Cond.classLink M.1 idx RX1 ∈ vT
def vOi (M : vM) (pc pc' : Nat) : Prop := ∃ idx : Nat, decode M.2.2.1 pc = .ok (.invokespecial idx, 3) ∧ pc + 3 = pc' ∧ Cond.methodLink M.1 idx Lib.objectInit ∈ vT ∧ Cond.instanceMethod Lib.objectInit ∈ vT ∧ Cond.code Lib.objectInit ⟨#[0xb1]⟩ 1 none ∈ vT
def vCp (M : vM) (pc pc' : Nat) : Prop := ∃ idx : Nat, decode M.2.2.1 pc = .ok (.invokestatic idx, 3) ∧ pc + 3 = pc' ∧ Cond.methodLink M.1 idx arraycopyName ∈ vT ∧ Cond.native arraycopyName ∈ vT ∧ Cond.static arraycopyName ∈ vT ∧ Cond.initialized "java/lang/System" ∈ vT
section VMk
variable {d nf n : Nat} {M : vM} {pc pc' tgt : Nat} {ls st : List Value} {I : Nat → Nat → Int32} {J : Nat → Nat → Int64} {Z : Nat → Nat → Option Nat} {K : Option Value → vS → Prop}
theorem st_new {ci : Nat} (r : vNw M pc ci pc') (hs : vSH n = (ci, vNF ci)) (hc : ci < 9) (hn : n < 123) (hf : n < nf) (hI : ∀ k, I n k = 0) (hJ : ∀ k, J n k = 0) (hZ : ∀ k, Z n k = none) (h : V d nf (n + 1) M pc' ls (.ref n :: st) (I, J, Z) K) : V d nf n M pc ls st (I, J, Z) K := by
  intro E p l e R s m args below meth c H locs cells slots Q lm C h1 h2 h3 h4 h5 h6 hw hl hr
  obtain ⟨idx, r, r1, rfl, r3, r4, r5, r6, r7⟩ := r
  obtain ⟨hin, hty, hnm, hN⟩ := vCok ci r r3
  have hKn := hw.1.1.1 ci r r3
  have hz := vSZ_succ hn
  rw [hs] at hz
  have hm : vSZ (n + 1) ≤ vSZ nf := vSZ_mono hf
  refine W_sized hw h6 (fun hsz => ?_)
  refine W.newcK C.1 C.2.1 C.2.2.2.1 (C.2.2.2.2.1 _ r4) (C.2.2.2.2.1 _ r5) (C.2.2.2.2.1 _ r6) rfl r1 (by omega) (by simp only at hz; omega) hKn.2.1 hsz fun H1 kC hkC e1 z1 o1 => ?_
  have hcell : va_at E.2.2.1 vwCl (E.1 + n, vcell E (I, J, Z) n) H1 := by
    rw [vcell_ob hs hc]
    refine ⟨r, r3, (u_born (vTF ci) C.2.2.2.2.1 hin hKn hkC e1 hty).to (fun j hj => ?_)⟩
    rw [vp_V, List.getD_eq_getElem?_getD, vflds_get (by rw [← hN]; exact hj)]
    exact vfld_0 (r7 j hj) (hI j) (hJ j) (hZ j)
  have hw1 := vWld_new hw hsz hn o1 z1 hcell
  have a1 : cells + 1 + (nf - (n + 1)) = cells + (nf - n) := by omega
  have a2 : slots + r.2.2 + (vSZ nf - vSZ (n + 1)) = slots + (vSZ nf - vSZ n) := by simp only at hz; omega
  refine h E p l e R s m args below meth c H1 locs (cells + 1) (slots + r.2.2) Q lm C h1 h2 (by omega) (by omega) hf (by omega) hw1 hl ?_
  rw [a1, a2]
  exact hr
theorem st_newi {len : Nat} (r : vNi M pc .int pc') (hs : vSH n = (100, len)) (hlen : len < 2147483648 ∧ len * 4 ≤ 536870912) (hn : n < 123) (hf : n < nf) (hI : ∀ k, I n k = 0) (h : V d nf (n + 1) M pc' ls (.ref n :: st) (I, J, Z) K) : V d nf n M pc ls (.int (nI len) :: st) (I, J, Z) K := by
  intro E p l e R s m args below meth c H locs cells slots Q lm C h1 h2 h3 h4 h5 h6 hw hl hr
  obtain ⟨r1, rfl, r2⟩ := r
  have hz := vSZ_succ hn
  rw [hs] at hz
  have hm : vSZ (n + 1) ≤ vSZ nf := vSZ_mono hf
  refine W_sized hw h6 (fun hsz => ?_)
  refine va_newaK (n := nI len) (N := len) C.1 C.2.1 (C.2.2.2.2.1 _ r2) rfl r1 rfl (nI_pos hlen.1) (nI_clamp hlen.1) hlen.2 (by omega) (by simp only at hz; omega) hsz fun H1 cA e1 z1 o1 hA hF => ?_
  have hcA : cA = E.2.2.2.1 := Option.some.inj (hF.symm.trans (hw.1.1.2 0 _ rfl).2)
  have hcell : va_at E.2.2.1 vwCl (E.1 + n, vcell E (I, J, Z) n) H1 := by
    rw [vcell_ia hs]
    show H1[E.1 + n]? = some (vp_cell _ _)
    rw [vp_cell_i, e1, hcA]
    simp only [hI]
    rfl
  have hw1 := vWld_new hw hsz hn o1 z1 hcell
  have a1 : cells + 1 + (nf - (n + 1)) = cells + (nf - n) := by omega
  have a2 : slots + len + (vSZ nf - vSZ (n + 1)) = slots + (vSZ nf - vSZ n) := by simp only at hz; omega
  refine h E p l e R s m args below meth c H1 locs (cells + 1) (slots + len) Q lm C h1 h2 (by omega) (by omega) hf (by omega) hw1 hl ?_
  rw [a1, a2]
  exact hr
theorem st_newz {len : Nat} (r : vNi M pc .boolean pc') (hs : vSH n = (101, len)) (hlen : len < 2147483648 ∧ len * 1 ≤ 536870912) (hn : n < 123) (hf : n < nf) (hI : ∀ k, I n k = 0) (h : V d nf (n + 1) M pc' ls (.ref n :: st) (I, J, Z) K) : V d nf n M pc ls (.int (nI len) :: st) (I, J, Z) K := by
  intro E p l e R s m args below meth c H locs cells slots Q lm C h1 h2 h3 h4 h5 h6 hw hl hr
  obtain ⟨r1, rfl, r2⟩ := r
  have hz := vSZ_succ hn
  rw [hs] at hz
  have hm : vSZ (n + 1) ≤ vSZ nf := vSZ_mono hf
  refine W_sized hw h6 (fun hsz => ?_)
  refine va_newaK (n := nI len) (N := len) C.1 C.2.1 (C.2.2.2.2.1 _ r2) rfl r1 rfl (nI_pos hlen.1) (nI_clamp hlen.1) hlen.2 (by omega) (by simp only at hz; omega) hsz fun H1 cA e1 z1 o1 hA hF => ?_
  have hcA : cA = E.2.2.2.2.1 := Option.some.inj (hF.symm.trans (hw.1.1.2 1 _ rfl).2)
  have hcell : va_at E.2.2.1 vwCl (E.1 + n, vcell E (I, J, Z) n) H1 := by
    rw [vcell_za hs]
    show H1[E.1 + n]? = some (vp_cell _ _)
    rw [vp_cell_i, e1, hcA]
    simp only [hI]
    rfl
  have hw1 := vWld_new hw hsz hn o1 z1 hcell
  have a1 : cells + 1 + (nf - (n + 1)) = cells + (nf - n) := by omega
  have a2 : slots + len + (vSZ nf - vSZ (n + 1)) = slots + (vSZ nf - vSZ n) := by simp only at hz; omega
  refine h E p l e R s m args below meth c H1 locs (cells + 1) (slots + len) Q lm C h1 h2 (by omega) (by omega) hf (by omega) hw1 hl ?_
  rw [a1, a2]
  exact hr
theorem st_newq {len : Nat} (r : vNq M pc pc') (hs : vSH n = (102, len)) (hlen : len < 2147483648 ∧ len * 4 ≤ 536870912) (hn : n < 123) (hf : n < nf) (hZ : ∀ k, Z n k = none) (h : V d nf (n + 1) M pc' ls (.ref n :: st) (I, J, Z) K) : V d nf n M pc ls (.int (nI len) :: st) (I, J, Z) K := by
  intro E p l e R s m args below meth c H locs cells slots Q lm C h1 h2 h3 h4 h5 h6 hw hl hr
  obtain ⟨idx, r1, rfl, r2⟩ := r
  have hz := vSZ_succ hn
  rw [hs] at hz
  have hm : vSZ (n + 1) ≤ vSZ nf := vSZ_mono hf
  refine W_sized hw h6 (fun hsz => ?_)
  refine W.anew C.1 C.2.1 C.2.2.2.1 (C.2.2.2.2.1 _ r2) (va_AO.use hw.1.2.2.2.1) rfl r1 rfl (nI_pos hlen.1) (by rw [nI_clamp hlen.1]; exact hlen.2) (by omega) (by rw [nI_clamp hlen.1]; simp only at hz; omega) fun cA kA comp f1 f2 f3 f4 => ?_
  rw [nI_clamp hlen.1]
  generalize hH1 : H.push ({ cls := cA, slots := Array.replicate len .null, vm := .none } : Cell) = H1
  have z1 : H1.size = E.1 + n + 1 := by rw [← hH1, Array.size_push, hsz]
  have e1 : H1[E.1 + n]? = some (arrV cA len (fun _ => .null)) := by rw [← hH1, ← hsz, Array.getElem?_push_size, ← arrV_new]
  have o1 : ∀ q : Nat, q < E.1 + n → H1[q]? = H[q]? := fun q hq => by rw [← hH1, Array.getElem?_push, if_neg (by omega)]
  obtain ⟨kB, comp2, b1, b2, b3, b4⟩ := (hw.1.1.2 2 _ rfl).2
  have hcA : cA = E.2.2.2.2.2 := Option.some.inj (f1.symm.trans b4)
  have hcell : va_at E.2.2.1 vwCl (E.1 + n, vcell E (I, J, Z) n) H1 := by
    rw [vcell_qa hs]
    show H1[E.1 + n]? = some (vp_cell _ _)
    rw [vp_cell_q, e1, hcA]
    simp only [hZ]
    rfl
  have hw1 := vWld_new hw hsz hn o1 z1 hcell
  have a1 : cells + 1 + (nf - (n + 1)) = cells + (nf - n) := by omega
  have a2 : slots + len + (vSZ nf - vSZ (n + 1)) = slots + (vSZ nf - vSZ n) := by simp only at hz; omega
  have hh := h E p l e R s m args below meth c H1 locs (cells + 1) (slots + len) Q lm C h1 h2 (by omega) (by omega) hf (by omega) hw1 hl (by rw [a1, a2]; exact hr)
  rw [hsz]
  exact hh
theorem st_objI {b : Nat} (r : vOi M pc pc') (hst : (st.map Value.category).sum ≤ 8) (h : V (d + 1) nf n M pc' ls st (I, J, Z) K) : V (d + 1) nf n M pc ls (.ref b :: st) (I, J, Z) K := by
  intro E p l e R s m args below meth c H locs cells slots Q lm C h1 h2 h3 h4 h5 h6 hw hl hr
  obtain ⟨idx, r1, rfl, r2, r3, r4⟩ := r
  have hcat : ((st.map (vmV E)).map fun v => v.category).sum ≤ 8 := by rw [List.map_map]; rw [show (fun v => Value.category v) ∘ vmV E = Value.category from funext (fun v => vmV_cat E v)]; exact hst
  exact W.objInit C.1 C.2.1 C.2.2.2.1 (C.2.2.2.2.1 _ r2) (C.2.2.2.2.1 _ r3) (C.2.2.2.2.1 _ r4) rfl (by rw [C.2.2.1]; exact hl.1) rfl r1 (by omega) (by show 2 * 0 + _ + 12 ≤ _; omega) (h E p l e R s m args below meth c H locs cells slots Q lm C h1 h2 h3 h4 h5 h6 hw hl hr)
theorem st_copy {a b la lb len : Nat} (r : vCp M pc pc') (ha : vAr n a 100 la) (hb : vAr n b 100 lb) (h1' : len ≤ la) (h2' : len ≤ lb) (hst : (st.map Value.category).sum ≤ 8) (h : V (d + 1) nf n M pc' ls st (up I b (fun j => if j < len then I a j else I b j), J, Z) K) : V (d + 1) nf n M pc ls (.int (nI len) :: .int (nI 0) :: .ref b :: .int (nI 0) :: .ref a :: st) (I, J, Z) K := by
  intro E p l e R s m args below meth c H locs cells slots Q lm C h1 h2 h3 h4 h5 h6 hw hl hr
  obtain ⟨idx, r1, rfl, r2, r3, r4, r5⟩ := r
  have hcat : ((st.map (vmV E)).map fun v => v.category).sum ≤ 8 := by rw [List.map_map]; rw [show (fun v => Value.category v) ∘ vmV E = Value.category from funext (fun v => vmV_cat E v)]; exact hst
  have hea := vws_get (E := E) (σ := (I, J, Z)) ha.1
  rw [vcell_ia ha.2.1] at hea
  have heb := vws_get (E := E) (σ := (I, J, Z)) hb.1
  rw [vcell_ia hb.2.1] at heb
  have hl2 : len < 2147483648 := Nat.lt_of_le_of_lt h1' ha.2.2
  have c0 : (nI 0).toNatClampNeg = 0 := rfl
  have cl : (nI len).toNatClampNeg = len := nI_clamp hl2
  have hnf : nativeFrameWords "java/lang/System" "arraycopy" 5 + 11 ≤ 26 := by decide
  have hz0 : ¬ (nI 0) < 0 := by decide
  refine va_copyi (sp := nI 0) (dp := nI 0) (n := nI len) (R := R) (rest := st.map (vmV E)) C.1 C.2.1 (by rw [C.2.2.1]; exact hl.1.symm) C.2.2.2.1 (C.2.2.2.2.1 _ r2) (C.2.2.2.2.1 _ r3) (C.2.2.2.2.1 _ r4) (C.2.2.2.2.1 _ r5) hw.1.1 hw.1.2.1 (vws_D E n (I, J, Z)) hw.2.1 a b 0 0 hea heb rfl rfl rfl hz0 hz0 (nI_pos hl2) (by rw [c0, cl]; omega) (by rw [c0, cl]; omega) (fun i _ => rfl) (by omega) (by omega) r1 ?_
  intro H1 locs1 hP _ hS
  rw [c0, cl] at hP
  refine h E p l e R s m args below meth c H1 locs1 cells slots Q lm C h1 h2 h3 h4 h5 h6 (vWld_put (τ := (up I b (fun j => if j < len then I a j else I b j), J, Z)) hw hb.1 ?_ ?_ ?_ ?_ hP hS) hl hr
  · rw [vcell_ia hb.2.1]
    simp only [up_s]
    congr 4
    funext j
    simp only [va_cpy]
    by_cases hj : j < len
    · rw [if_pos (by omega), if_pos hj]
      congr 1
      omega
    · rw [if_neg (by omega), if_neg hj]
  · intro b hb; simp [up, hb]
  · intro b hb; simp [up, hb]
  · intro b hb; simp [up, hb]
/-- switches: the targets by their places -/
def vTb (M : vM) (pc : Nat) (lo : Int) (tgts : List Nat) (dt : Nat) : Prop := ∃ (df hi : Int) (offs : Array Int) (len : Nat), decode M.2.2.1 pc = .ok (.tableswitch df lo hi offs, len) ∧ (pc : Int) + df = dt ∧ hi = lo + tgts.length - 1 ∧ offs.toList.map (fun o => (pc : Int) + o) = tgts.map Int.ofNat
theorem st_tabI {x : Int32} {lo : Int} {tgts : List Nat} {dt : Nat} (r : vTb M pc lo tgts dt) (j : Nat) (hx : x.toInt = lo + j) (ht : tgts[j]? = some tgt) (h : V d nf n M tgt ls st (I, J, Z) K) : V d nf n M pc ls (.int x :: st) (I, J, Z) K := by
  intro E p l e R s m args below meth c H locs cells slots Q lm C h1 h2 h3 h4 h5 h6 hw hl hr
  obtain ⟨df, hi, offs, len, r1, r2, r3, r4⟩ := r
  have hj : j < tgts.length := (List.getElem?_eq_some_iff.mp ht).1
  have q := congrArg (fun l => l[j]?) r4
  simp only [List.getElem?_map, ht, Option.map_some, Option.map_eq_some_iff] at q
  obtain ⟨off, q1, q2⟩ := q
  have e0 : (x.toInt - lo).toNat = j := by omega
  exact lv_tableIn C.1 C.2.1 r1 (by omega) (by omega) (by rw [e0, ← Array.getElem?_toList]; exact q1) q2 (h E p l e R s m args below meth c H locs cells slots Q lm C h1 h2 h3 h4 h5 h6 hw hl hr)
theorem st_tabO {x : Int32} {lo : Int} {tgts : List Nat} {dt : Nat} (r : vTb M pc lo tgts dt) (hx : x.toInt < lo ∨ lo + tgts.length ≤ x.toInt) (h : V d nf n M dt ls st (I, J, Z) K) : V d nf n M pc ls (.int x :: st) (I, J, Z) K := by
  intro E p l e R s m args below meth c H locs cells slots Q lm C h1 h2 h3 h4 h5 h6 hw hl hr
  obtain ⟨df, hi, offs, len, r1, r2, r3, r4⟩ := r
  exact lv_tableOut C.1 C.2.1 r1 (by omega) r2 (h E p l e R s m args below meth c H locs cells slots Q lm C h1 h2 h3 h4 h5 h6 hw hl hr)
def vLk (M : vM) (pc : Nat) (ps : List (Int × Int)) (df : Int) : Prop := ∃ len : Nat, decode M.2.2.1 pc = .ok (.lookupswitch df ps.toArray, len) ∧ (ps.zip (ps.drop 1)).all (fun (a, next) => a.1 < next.1) = true
theorem st_lkp {x : Int32} {ps : List (Int × Int)} {df : Int} (r : vLk M pc ps df) {off : Int} (ho : Op.lookupswitch.offset ps df x.toInt = off) (ht : (pc : Int) + off = (tgt : Int)) (h : V d nf n M tgt ls st (I, J, Z) K) : V d nf n M pc ls (.int x :: st) (I, J, Z) K := by
  intro E p l e R s m args below meth c H locs cells slots Q lm C h1 h2 h3 h4 h5 h6 hw hl hr
  obtain ⟨len, r1, r2⟩ := r
  exact lv_lookup C.1 C.2.1 r1 r2 ho ht (h E p l e R s m args below meth c H locs cells slots Q lm C h1 h2 h3 h4 h5 h6 hw hl hr)
end VMk
/-! ===== Math.max, Math.min ===== -/
def vMmax (M : vM) (pc pc' : Nat) : Prop := ∃ idx : Nat, decode M.2.2.1 pc = .ok (.invokestatic idx, 3) ∧ pc + 3 = pc' ∧ Cond.methodLink M.1 idx Lib.Math.max.name ∈ vT ∧ Cond.static Lib.Math.max.name ∈ vT ∧ Cond.initialized "java/lang/Math" ∈ vT ∧ Cond.code Lib.Math.max.name Lib.Math.max.code 2 (some .int) ∈ vT
def vMmin (M : vM) (pc pc' : Nat) : Prop := ∃ idx : Nat, decode M.2.2.1 pc = .ok (.invokestatic idx, 3) ∧ pc + 3 = pc' ∧ Cond.methodLink M.1 idx Lib.Math.min.name ∈ vT ∧ Cond.static Lib.Math.min.name ∈ vT ∧ Cond.initialized "java/lang/Math" ∈ vT ∧ Cond.code Lib.Math.min.name Lib.Math.min.code 2 (some .int) ∈ vT
section VMm
variable {d nf n : Nat} {M : vM} {pc pc' : Nat} {ls st : List Value} {σ : vS} {K : Option Value → vS → Prop}
theorem st_max {x y : Int32} (r : vMmax M pc pc') (hst : (st.map Value.category).sum ≤ 8) (h : V (d + 1) nf n M pc' ls (.int (if x < y then y else x) :: st) σ K) : V (d + 1) nf n M pc ls (.int y :: .int x :: st) σ K := by
  intro E p l e R s m args below meth c H locs cells slots Q lm C h1 h2 h3 h4 h5 h6 hw hl hr
  obtain ⟨idx, r1, rfl, r2, r3, r4, r5⟩ := r
  have hcat : ((st.map (vmV E)).map fun v => v.category).sum ≤ 8 := by rw [List.map_map]; rw [show (fun v => Value.category v) ∘ vmV E = Value.category from funext (fun v => vmV_cat E v)]; exact hst
  exact va_mmax C.1 C.2.1 (by rw [C.2.2.1]; exact hl.1.symm) C.2.2.2.1 (C.2.2.2.2.1 _ r2) (C.2.2.2.2.1 _ r3) (C.2.2.2.2.1 _ r4) (C.2.2.2.2.1 _ r5) (by omega) (by omega) (by omega) (by omega) r1 (h E p l e R s m args below meth c H locs cells slots Q lm C h1 h2 h3 h4 h5 h6 hw hl hr)
theorem st_min {x y : Int32} (r : vMmin M pc pc') (hst : (st.map Value.category).sum ≤ 8) (h : V (d + 1) nf n M pc' ls (.int (if y < x then y else x) :: st) σ K) : V (d + 1) nf n M pc ls (.int y :: .int x :: st) σ K := by
  intro E p l e R s m args below meth c H locs cells slots Q lm C h1 h2 h3 h4 h5 h6 hw hl hr
  obtain ⟨idx, r1, rfl, r2, r3, r4, r5⟩ := r
  have hcat : ((st.map (vmV E)).map fun v => v.category).sum ≤ 8 := by rw [List.map_map]; rw [show (fun v => Value.category v) ∘ vmV E = Value.category from funext (fun v => vmV_cat E v)]; exact hst
  exact va_mmin C.1 C.2.1 (by rw [C.2.2.1]; exact hl.1.symm) C.2.2.2.1 (C.2.2.2.2.1 _ r2) (C.2.2.2.2.1 _ r3) (C.2.2.2.2.1 _ r4) (C.2.2.2.2.1 _ r5) (by omega) (by omega) (by omega) (by omega) r1 (h E p l e R s m args below meth c H locs cells slots Q lm C h1 h2 h3 h4 h5 h6 hw hl hr)
end VMm
end
section
/-! ===== calls by their number of arguments; Nat forms; stores by place ===== -/
def vjs : List Value → Bool
  | [] => true
  | .retAddr 0 :: t => vjs t
  | _ => false
theorem vjs_ok : ∀ {js : List Value}, vjs js = true → ∀ a ∈ js, a = vJ := by
  intro js
  induction js with
  | nil => intro _ a h; cases h
  | cons b t ih =>
    intro h a ha
    cases b with
    | retAddr k =>
      cases k with
      | zero =>
        rcases List.mem_cons.mp ha with rfl | ha
        · rfl
        · exact ih h a ha
      | succ k => exact absurd h (by simp [vjs])
    | _ => exact absurd h (by simp [vjs])
def vcs : List Value → Bool
  | [] => true
  | .int _ :: t => vcs t
  | .ref _ :: t => vcs t
  | _ => false
theorem vcs_ok : ∀ {as : List Value}, vcs as = true → ∀ a ∈ as, a.category = 1 := by
  intro as
  induction as with
  | nil => intro _ a h; cases h
  | cons b t ih =>
    intro h a ha
    cases b with
    | int x =>
      rcases List.mem_cons.mp ha with rfl | ha
      · rfl
      · exact ih h a ha
    | ref x =>
      rcases List.mem_cons.mp ha with rfl | ha
      · rfl
      · exact ih h a ha
    | _ => exact absurd h (by simp [vcs])
def vok (as js st : List Value) (mL : Nat) : Bool := vcs as && vjs js && Nat.beq (as.length + js.length) mL && Nat.ble (st.map Value.category).sum 8
theorem vok_s {as js st : List Value} {mL : Nat} (h : vok as js st mL = true) : (∀ a ∈ as, a.category = 1) ∧ (∀ a ∈ js, a = vJ) ∧ as.length + js.length = mL ∧ (st.map Value.category).sum ≤ 8 := by
  simp only [vok, Bool.and_eq_true] at h
  exact ⟨vcs_ok h.1.1.1, vjs_ok h.1.1.2, Nat.eq_of_beq_eq_true h.1.2, Nat.le_of_ble_eq_true h.2⟩
section VAri
variable {d nf nf' n : Nat} {M N : vM} {pc pc' tgt : Nat} {ls st js : List Value} {σ : vS} {K : Option Value → vS → Prop}
theorem Ki_K {x : Option Value} {τ : vS} (h : Ki (fun x τ => V (d + 1) nf nf' M pc' ls (.int x :: st) τ K) x τ) : V (d + 1) nf nf' M pc' ls (x.toList ++ st) τ K := by
  cases x with
  | none => exact h.elim
  | some v => cases v <;> first | exact h | exact h.elim
theorem Kl_K {x : Option Value} {τ : vS} (h : Kl (fun x τ => V (d + 1) nf nf' M pc' ls (.long x :: st) τ K) x τ) : V (d + 1) nf nf' M pc' ls (x.toList ++ st) τ K := by
  cases x with
  | none => exact h.elim
  | some v => cases v <;> first | exact h | exact h.elim
theorem Kv_K {x : Option Value} {τ : vS} (h : Kv (fun τ => V (d + 1) nf nf' M pc' ls st τ K) x τ) : V (d + 1) nf nf' M pc' ls (x.toList ++ st) τ K := by
  cases x with
  | none => exact h
  | some v => exact h.elim
theorem cS0i (r : vKs M pc N 0 pc') (h : V d n n N 0 (js) [] σ (Ki fun x τ => V (d + 1) nf n M pc' ls (.int x :: st) τ K)) (hs : vok [] js st N.2.2.2.1 = true) (hf : n ≤ nf := by first | exact Nat.le_refl _ | decide) : V (d + 1) nf n M pc ls (st) σ K := by
  obtain ⟨q1, q2, q3, q4⟩ := vok_s hs
  exact st_callS (as := []) r rfl q1 q2 q3 q4 (Nat.le_refl _) hf (V_mono (fun _ _ q => Ki_K q) h)
theorem cS0v (r : vKs M pc N 0 pc') (h : V d n n N 0 (js) [] σ (Kv fun τ => V (d + 1) nf n M pc' ls st τ K)) (hs : vok [] js st N.2.2.2.1 = true) (hf : n ≤ nf := by first | exact Nat.le_refl _ | decide) : V (d + 1) nf n M pc ls (st) σ K := by
  obtain ⟨q1, q2, q3, q4⟩ := vok_s hs
  exact st_callS (as := []) r rfl q1 q2 q3 q4 (Nat.le_refl _) hf (V_mono (fun _ _ q => Kv_K q) h)
theorem cS1i {a0 : Value} (r : vKs M pc N 1 pc') (h : V d n n N 0 (a0 :: js) [] σ (Ki fun x τ => V (d + 1) nf n M pc' ls (.int x :: st) τ K)) (hs : vok [a0] js st N.2.2.2.1 = true) (hf : n ≤ nf := by first | exact Nat.le_refl _ | decide) : V (d + 1) nf n M pc ls (a0 :: st) σ K := by
  obtain ⟨q1, q2, q3, q4⟩ := vok_s hs
  exact st_callS (as := [a0]) r rfl q1 q2 q3 q4 (Nat.le_refl _) hf (V_mono (fun _ _ q => Ki_K q) h)
theorem cV1i {b ci : Nat} (r : vKv M pc N 0 ci pc') (hb : vOb n b ci) (h : V d n n N 0 (.ref b :: js) [] σ (Ki fun x τ => V (d + 1) nf n M pc' ls (.int x :: st) τ K)) (hs : vok [] js st (N.2.2.2.1 - 1) = true) (hp : 1 ≤ N.2.2.2.1) (hf : n ≤ nf := by first | exact Nat.le_refl _ | decide) : V (d + 1) nf n M pc ls (.ref b :: st) σ K := by
  obtain ⟨q1, q2, q3, q4⟩ := vok_s hs
  exact st_callV (as := []) r hb rfl q1 q2 (by omega) q4 (Nat.le_refl _) hf (V_mono (fun _ _ q => Ki_K q) h)
theorem cS1v {a0 : Value} (r : vKs M pc N 1 pc') (h : V d n n N 0 (a0 :: js) [] σ (Kv fun τ => V (d + 1) nf n M pc' ls st τ K)) (hs : vok [a0] js st N.2.2.2.1 = true) (hf : n ≤ nf := by first | exact Nat.le_refl _ | decide) : V (d + 1) nf n M pc ls (a0 :: st) σ K := by
  obtain ⟨q1, q2, q3, q4⟩ := vok_s hs
  exact st_callS (as := [a0]) r rfl q1 q2 q3 q4 (Nat.le_refl _) hf (V_mono (fun _ _ q => Kv_K q) h)
theorem cV1v {b ci : Nat} (r : vKv M pc N 0 ci pc') (hb : vOb n b ci) (h : V d n n N 0 (.ref b :: js) [] σ (Kv fun τ => V (d + 1) nf n M pc' ls st τ K)) (hs : vok [] js st (N.2.2.2.1 - 1) = true) (hp : 1 ≤ N.2.2.2.1) (hf : n ≤ nf := by first | exact Nat.le_refl _ | decide) : V (d + 1) nf n M pc ls (.ref b :: st) σ K := by
  obtain ⟨q1, q2, q3, q4⟩ := vok_s hs
  exact st_callV (as := []) r hb rfl q1 q2 (by omega) q4 (Nat.le_refl _) hf (V_mono (fun _ _ q => Kv_K q) h)
theorem cV1l {b ci : Nat} (r : vKv M pc N 0 ci pc') (hb : vOb n b ci) (h : V d n n N 0 (.ref b :: js) [] σ (Kl fun x τ => V (d + 1) nf n M pc' ls (.long x :: st) τ K)) (hs : vok [] js st (N.2.2.2.1 - 1) = true) (hp : 1 ≤ N.2.2.2.1) (hf : n ≤ nf := by first | exact Nat.le_refl _ | decide) : V (d + 1) nf n M pc ls (.ref b :: st) σ K := by
  obtain ⟨q1, q2, q3, q4⟩ := vok_s hs
  exact st_callV (as := []) r hb rfl q1 q2 (by omega) q4 (Nat.le_refl _) hf (V_mono (fun _ _ q => Kl_K q) h)
theorem cS2i {a0 a1 : Value} (r : vKs M pc N 2 pc') (h : V d n n N 0 (a0 :: a1 :: js) [] σ (Ki fun x τ => V (d + 1) nf n M pc' ls (.int x :: st) τ K)) (hs : vok [a0, a1] js st N.2.2.2.1 = true) (hf : n ≤ nf := by first | exact Nat.le_refl _ | decide) : V (d + 1) nf n M pc ls (a1 :: a0 :: st) σ K := by
  obtain ⟨q1, q2, q3, q4⟩ := vok_s hs
  exact st_callS (as := [a0, a1]) r rfl q1 q2 q3 q4 (Nat.le_refl _) hf (V_mono (fun _ _ q => Ki_K q) h)
theorem cV2i {b ci : Nat} {a1 : Value} (r : vKv M pc N 1 ci pc') (hb : vOb n b ci) (h : V d n n N 0 (.ref b :: a1 :: js) [] σ (Ki fun x τ => V (d + 1) nf n M pc' ls (.int x :: st) τ K)) (hs : vok [a1] js st (N.2.2.2.1 - 1) = true) (hp : 1 ≤ N.2.2.2.1) (hf : n ≤ nf := by first | exact Nat.le_refl _ | decide) : V (d + 1) nf n M pc ls (a1 :: .ref b :: st) σ K := by
  obtain ⟨q1, q2, q3, q4⟩ := vok_s hs
  exact st_callV (as := [a1]) r hb rfl q1 q2 (by omega) q4 (Nat.le_refl _) hf (V_mono (fun _ _ q => Ki_K q) h)
theorem cS2v {a0 a1 : Value} (r : vKs M pc N 2 pc') (h : V d n n N 0 (a0 :: a1 :: js) [] σ (Kv fun τ => V (d + 1) nf n M pc' ls st τ K)) (hs : vok [a0, a1] js st N.2.2.2.1 = true) (hf : n ≤ nf := by first | exact Nat.le_refl _ | decide) : V (d + 1) nf n M pc ls (a1 :: a0 :: st) σ K := by
  obtain ⟨q1, q2, q3, q4⟩ := vok_s hs
  exact st_callS (as := [a0, a1]) r rfl q1 q2 q3 q4 (Nat.le_refl _) hf (V_mono (fun _ _ q => Kv_K q) h)
theorem cV2v {b ci : Nat} {a1 : Value} (r : vKv M pc N 1 ci pc') (hb : vOb n b ci) (h : V d n n N 0 (.ref b :: a1 :: js) [] σ (Kv fun τ => V (d + 1) nf n M pc' ls st τ K)) (hs : vok [a1] js st (N.2.2.2.1 - 1) = true) (hp : 1 ≤ N.2.2.2.1) (hf : n ≤ nf := by first | exact Nat.le_refl _ | decide) : V (d + 1) nf n M pc ls (a1 :: .ref b :: st) σ K := by
  obtain ⟨q1, q2, q3, q4⟩ := vok_s hs
  exact st_callV (as := [a1]) r hb rfl q1 q2 (by omega) q4 (Nat.le_refl _) hf (V_mono (fun _ _ q => Kv_K q) h)
theorem cV2l {b ci : Nat} {a1 : Value} (r : vKv M pc N 1 ci pc') (hb : vOb n b ci) (h : V d n n N 0 (.ref b :: a1 :: js) [] σ (Kl fun x τ => V (d + 1) nf n M pc' ls (.long x :: st) τ K)) (hs : vok [a1] js st (N.2.2.2.1 - 1) = true) (hp : 1 ≤ N.2.2.2.1) (hf : n ≤ nf := by first | exact Nat.le_refl _ | decide) : V (d + 1) nf n M pc ls (a1 :: .ref b :: st) σ K := by
  obtain ⟨q1, q2, q3, q4⟩ := vok_s hs
  exact st_callV (as := [a1]) r hb rfl q1 q2 (by omega) q4 (Nat.le_refl _) hf (V_mono (fun _ _ q => Kl_K q) h)
theorem cS3i {a0 a1 a2 : Value} (r : vKs M pc N 3 pc') (h : V d n n N 0 (a0 :: a1 :: a2 :: js) [] σ (Ki fun x τ => V (d + 1) nf n M pc' ls (.int x :: st) τ K)) (hs : vok [a0, a1, a2] js st N.2.2.2.1 = true) (hf : n ≤ nf := by first | exact Nat.le_refl _ | decide) : V (d + 1) nf n M pc ls (a2 :: a1 :: a0 :: st) σ K := by
  obtain ⟨q1, q2, q3, q4⟩ := vok_s hs
  exact st_callS (as := [a0, a1, a2]) r rfl q1 q2 q3 q4 (Nat.le_refl _) hf (V_mono (fun _ _ q => Ki_K q) h)
theorem cV3i {b ci : Nat} {a1 a2 : Value} (r : vKv M pc N 2 ci pc') (hb : vOb n b ci) (h : V d n n N 0 (.ref b :: a1 :: a2 :: js) [] σ (Ki fun x τ => V (d + 1) nf n M pc' ls (.int x :: st) τ K)) (hs : vok [a1, a2] js st (N.2.2.2.1 - 1) = true) (hp : 1 ≤ N.2.2.2.1) (hf : n ≤ nf := by first | exact Nat.le_refl _ | decide) : V (d + 1) nf n M pc ls (a2 :: a1 :: .ref b :: st) σ K := by
  obtain ⟨q1, q2, q3, q4⟩ := vok_s hs
  exact st_callV (as := [a1, a2]) r hb rfl q1 q2 (by omega) q4 (Nat.le_refl _) hf (V_mono (fun _ _ q => Ki_K q) h)
theorem cS3v {a0 a1 a2 : Value} (r : vKs M pc N 3 pc') (h : V d n n N 0 (a0 :: a1 :: a2 :: js) [] σ (Kv fun τ => V (d + 1) nf n M pc' ls st τ K)) (hs : vok [a0, a1, a2] js st N.2.2.2.1 = true) (hf : n ≤ nf := by first | exact Nat.le_refl _ | decide) : V (d + 1) nf n M pc ls (a2 :: a1 :: a0 :: st) σ K := by
  obtain ⟨q1, q2, q3, q4⟩ := vok_s hs
  exact st_callS (as := [a0, a1, a2]) r rfl q1 q2 q3 q4 (Nat.le_refl _) hf (V_mono (fun _ _ q => Kv_K q) h)
theorem cV3v {b ci : Nat} {a1 a2 : Value} (r : vKv M pc N 2 ci pc') (hb : vOb n b ci) (h : V d n n N 0 (.ref b :: a1 :: a2 :: js) [] σ (Kv fun τ => V (d + 1) nf n M pc' ls st τ K)) (hs : vok [a1, a2] js st (N.2.2.2.1 - 1) = true) (hp : 1 ≤ N.2.2.2.1) (hf : n ≤ nf := by first | exact Nat.le_refl _ | decide) : V (d + 1) nf n M pc ls (a2 :: a1 :: .ref b :: st) σ K := by
  obtain ⟨q1, q2, q3, q4⟩ := vok_s hs
  exact st_callV (as := [a1, a2]) r hb rfl q1 q2 (by omega) q4 (Nat.le_refl _) hf (V_mono (fun _ _ q => Kv_K q) h)
theorem cV3l {b ci : Nat} {a1 a2 : Value} (r : vKv M pc N 2 ci pc') (hb : vOb n b ci) (h : V d n n N 0 (.ref b :: a1 :: a2 :: js) [] σ (Kl fun x τ => V (d + 1) nf n M pc' ls (.long x :: st) τ K)) (hs : vok [a1, a2] js st (N.2.2.2.1 - 1) = true) (hp : 1 ≤ N.2.2.2.1) (hf : n ≤ nf := by first | exact Nat.le_refl _ | decide) : V (d + 1) nf n M pc ls (a2 :: a1 :: .ref b :: st) σ K := by
  obtain ⟨q1, q2, q3, q4⟩ := vok_s hs
  exact st_callV (as := [a1, a2]) r hb rfl q1 q2 (by omega) q4 (Nat.le_refl _) hf (V_mono (fun _ _ q => Kl_K q) h)
theorem cS4i {a0 a1 a2 a3 : Value} (r : vKs M pc N 4 pc') (h : V d n n N 0 (a0 :: a1 :: a2 :: a3 :: js) [] σ (Ki fun x τ => V (d + 1) nf n M pc' ls (.int x :: st) τ K)) (hs : vok [a0, a1, a2, a3] js st N.2.2.2.1 = true) (hf : n ≤ nf := by first | exact Nat.le_refl _ | decide) : V (d + 1) nf n M pc ls (a3 :: a2 :: a1 :: a0 :: st) σ K := by
  obtain ⟨q1, q2, q3, q4⟩ := vok_s hs
  exact st_callS (as := [a0, a1, a2, a3]) r rfl q1 q2 q3 q4 (Nat.le_refl _) hf (V_mono (fun _ _ q => Ki_K q) h)
theorem cV4i {b ci : Nat} {a1 a2 a3 : Value} (r : vKv M pc N 3 ci pc') (hb : vOb n b ci) (h : V d n n N 0 (.ref b :: a1 :: a2 :: a3 :: js) [] σ (Ki fun x τ => V (d + 1) nf n M pc' ls (.int x :: st) τ K)) (hs : vok [a1, a2, a3] js st (N.2.2.2.1 - 1) = true) (hp : 1 ≤ N.2.2.2.1) (hf : n ≤ nf := by first | exact Nat.le_refl _ | decide) : V (d + 1) nf n M pc ls (a3 :: a2 :: a1 :: .ref b :: st) σ K := by
  obtain ⟨q1, q2, q3, q4⟩ := vok_s hs
  exact st_callV (as := [a1, a2, a3]) r hb rfl q1 q2 (by omega) q4 (Nat.le_refl _) hf (V_mono (fun _ _ q => Ki_K q) h)
theorem cS4v {a0 a1 a2 a3 : Value} (r : vKs M pc N 4 pc') (h : V d n n N 0 (a0 :: a1 :: a2 :: a3 :: js) [] σ (Kv fun τ => V (d + 1) nf n M pc' ls st τ K)) (hs : vok [a0, a1, a2, a3] js st N.2.2.2.1 = true) (hf : n ≤ nf := by first | exact Nat.le_refl _ | decide) : V (d + 1) nf n M pc ls (a3 :: a2 :: a1 :: a0 :: st) σ K := by
  obtain ⟨q1, q2, q3, q4⟩ := vok_s hs
  exact st_callS (as := [a0, a1, a2, a3]) r rfl q1 q2 q3 q4 (Nat.le_refl _) hf (V_mono (fun _ _ q => Kv_K q) h)
theorem cV4v {b ci : Nat} {a1 a2 a3 : Value} (r : vKv M pc N 3 ci pc') (hb : vOb n b ci) (h : V d n n N 0 (.ref b :: a1 :: a2 :: a3 :: js) [] σ (Kv fun τ => V (d + 1) nf n M pc' ls st τ K)) (hs : vok [a1, a2, a3] js st (N.2.2.2.1 - 1) = true) (hp : 1 ≤ N.2.2.2.1) (hf : n ≤ nf := by first | exact Nat.le_refl _ | decide) : V (d + 1) nf n M pc ls (a3 :: a2 :: a1 :: .ref b :: st) σ K := by
  obtain ⟨q1, q2, q3, q4⟩ := vok_s hs
  exact st_callV (as := [a1, a2, a3]) r hb rfl q1 q2 (by omega) q4 (Nat.le_refl _) hf (V_mono (fun _ _ q => Kv_K q) h)
theorem cV4l {b ci : Nat} {a1 a2 a3 : Value} (r : vKv M pc N 3 ci pc') (hb : vOb n b ci) (h : V d n n N 0 (.ref b :: a1 :: a2 :: a3 :: js) [] σ (Kl fun x τ => V (d + 1) nf n M pc' ls (.long x :: st) τ K)) (hs : vok [a1, a2, a3] js st (N.2.2.2.1 - 1) = true) (hp : 1 ≤ N.2.2.2.1) (hf : n ≤ nf := by first | exact Nat.le_refl _ | decide) : V (d + 1) nf n M pc ls (a3 :: a2 :: a1 :: .ref b :: st) σ K := by
  obtain ⟨q1, q2, q3, q4⟩ := vok_s hs
  exact st_callV (as := [a1, a2, a3]) r hb rfl q1 q2 (by omega) q4 (Nat.le_refl _) hf (V_mono (fun _ _ q => Kl_K q) h)
theorem cV5i {b ci : Nat} {a1 a2 a3 a4 : Value} (r : vKv M pc N 4 ci pc') (hb : vOb n b ci) (h : V d n n N 0 (.ref b :: a1 :: a2 :: a3 :: a4 :: js) [] σ (Ki fun x τ => V (d + 1) nf n M pc' ls (.int x :: st) τ K)) (hs : vok [a1, a2, a3, a4] js st (N.2.2.2.1 - 1) = true) (hp : 1 ≤ N.2.2.2.1) (hf : n ≤ nf := by first | exact Nat.le_refl _ | decide) : V (d + 1) nf n M pc ls (a4 :: a3 :: a2 :: a1 :: .ref b :: st) σ K := by
  obtain ⟨q1, q2, q3, q4⟩ := vok_s hs
  exact st_callV (as := [a1, a2, a3, a4]) r hb rfl q1 q2 (by omega) q4 (Nat.le_refl _) hf (V_mono (fun _ _ q => Ki_K q) h)
theorem cV5v {b ci : Nat} {a1 a2 a3 a4 : Value} (r : vKv M pc N 4 ci pc') (hb : vOb n b ci) (h : V d n n N 0 (.ref b :: a1 :: a2 :: a3 :: a4 :: js) [] σ (Kv fun τ => V (d + 1) nf n M pc' ls st τ K)) (hs : vok [a1, a2, a3, a4] js st (N.2.2.2.1 - 1) = true) (hp : 1 ≤ N.2.2.2.1) (hf : n ≤ nf := by first | exact Nat.le_refl _ | decide) : V (d + 1) nf n M pc ls (a4 :: a3 :: a2 :: a1 :: .ref b :: st) σ K := by
  obtain ⟨q1, q2, q3, q4⟩ := vok_s hs
  exact st_callV (as := [a1, a2, a3, a4]) r hb rfl q1 q2 (by omega) q4 (Nat.le_refl _) hf (V_mono (fun _ _ q => Kv_K q) h)
theorem cV5l {b ci : Nat} {a1 a2 a3 a4 : Value} (r : vKv M pc N 4 ci pc') (hb : vOb n b ci) (h : V d n n N 0 (.ref b :: a1 :: a2 :: a3 :: a4 :: js) [] σ (Kl fun x τ => V (d + 1) nf n M pc' ls (.long x :: st) τ K)) (hs : vok [a1, a2, a3, a4] js st (N.2.2.2.1 - 1) = true) (hp : 1 ≤ N.2.2.2.1) (hf : n ≤ nf := by first | exact Nat.le_refl _ | decide) : V (d + 1) nf n M pc ls (a4 :: a3 :: a2 :: a1 :: .ref b :: st) σ K := by
  obtain ⟨q1, q2, q3, q4⟩ := vok_s hs
  exact st_callV (as := [a1, a2, a3, a4]) r hb rfl q1 q2 (by omega) q4 (Nat.le_refl _) hf (V_mono (fun _ _ q => Kl_K q) h)
theorem cI0 {b : Nat} (r : vKi M pc N 0 pc') (h : V d nf' n N 0 (.ref b :: js) [] σ (Kv fun τ => V (d + 1) nf nf' M pc' ls st τ K)) (hs : vok [] js st (N.2.2.2.1 - 1) = true) (hp : 1 ≤ N.2.2.2.1) (hn : n ≤ nf') (hf : nf' ≤ nf) : V (d + 1) nf n M pc ls (.ref b :: st) σ K := by
  obtain ⟨q1, q2, q3, q4⟩ := vok_s hs
  exact st_callI (as := []) r rfl q1 q2 (by simp only [List.length_nil] at q3 ⊢; omega) q4 hn hf (V_mono (fun _ _ q => Kv_K q) h)
theorem st_iaddN {a b : Nat} (r : vI M pc .iadd 1 pc') (h : V d nf n M pc' ls (.int (nI (a + b)) :: st) σ K) : V d nf n M pc ls (.int (nI b) :: .int (nI a) :: st) σ K := st_iadd r (st_top (nI_add a b) h)
theorem st_imulN {a b : Nat} (r : vI M pc .imul 1 pc') (h : V d nf n M pc' ls (.int (nI (a * b)) :: st) σ K) : V d nf n M pc ls (.int (nI b) :: .int (nI a) :: st) σ K := st_imul r (st_top (pk_mul a b) h)
theorem st_isubN {a b : Nat} (r : vI M pc .isub 1 pc') (hab : b ≤ a) (h : V d nf n M pc' ls (.int (nI (a - b)) :: st) σ K) : V d nf n M pc ls (.int (nI b) :: .int (nI a) :: st) σ K := st_isub r (st_top (pk_sub hab) h)
theorem st_idivN {a b : Nat} (r : vI M pc .idiv 1 pc') (ha : a < 2147483648) (hb : 0 < b ∧ b < 2147483648) (h : V d nf n M pc' ls (.int (nI (a / b)) :: st) σ K) : V d nf n M pc ls (.int (nI b) :: .int (nI a) :: st) σ K := st_idiv r (nI_ne0 hb.1 hb.2) (st_top (pk_div ha hb.1 hb.2) h)
theorem st_iremN {a b : Nat} (r : vI M pc .irem 1 pc') (ha : a < 2147483648) (hb : 0 < b ∧ b < 2147483648) (h : V d nf n M pc' ls (.int (nI (a % b)) :: st) σ K) : V d nf n M pc ls (.int (nI b) :: .int (nI a) :: st) σ K := st_irem r (nI_ne0 hb.1 hb.2) (st_top (pk_rem ha hb.1 hb.2) h)
theorem st_icmp_eqN {a b : Nat} (r : vIc M pc .eq tgt pc') (ha : a < 2147483648) (hb : b < 2147483648) (ht : a = b → V d nf n M tgt ls st σ K) (hf : a ≠ b → V d nf n M pc' ls st σ K) : V d nf n M pc ls (.int (nI b) :: .int (nI a) :: st) σ K := st_icmp_eq r (fun q => ht ((nI_eq ha hb).mp q)) (fun q => hf (fun z => q ((nI_eq ha hb).mpr z)))
theorem st_if_eqN {a : Nat} (r : vIf M pc .eq tgt pc') (ha : a < 2147483648) (ht : a = 0 → V d nf n M tgt ls st σ K) (hf : a ≠ 0 → V d nf n M pc' ls st σ K) : V d nf n M pc ls (.int (nI a) :: st) σ K := by
  have hb0 : 0 < 2147483648 := by decide
  exact st_if_eq r (fun q => ht ((nI_eq ha hb0).mp q)) (fun q => hf (fun z => q ((nI_eq ha hb0).mpr z)))
theorem st_icmp_neN {a b : Nat} (r : vIc M pc .ne tgt pc') (ha : a < 2147483648) (hb : b < 2147483648) (ht : a ≠ b → V d nf n M tgt ls st σ K) (hf : a = b → V d nf n M pc' ls st σ K) : V d nf n M pc ls (.int (nI b) :: .int (nI a) :: st) σ K := st_icmp_ne r (fun q => ht (fun z => q ((nI_eq ha hb).mpr z))) (fun q => hf ((nI_eq ha hb).mp q))
theorem st_if_neN {a : Nat} (r : vIf M pc .ne tgt pc') (ha : a < 2147483648) (ht : a ≠ 0 → V d nf n M tgt ls st σ K) (hf : a = 0 → V d nf n M pc' ls st σ K) : V d nf n M pc ls (.int (nI a) :: st) σ K := by
  have hb0 : 0 < 2147483648 := by decide
  exact st_if_ne r (fun q => ht (fun z => q ((nI_eq ha hb0).mpr z))) (fun q => hf ((nI_eq ha hb0).mp q))
theorem st_icmp_ltN {a b : Nat} (r : vIc M pc .lt tgt pc') (ha : a < 2147483648) (hb : b < 2147483648) (ht : a < b → V d nf n M tgt ls st σ K) (hf : b ≤ a → V d nf n M pc' ls st σ K) : V d nf n M pc ls (.int (nI b) :: .int (nI a) :: st) σ K := st_icmp_lt r (fun q => ht ((nI_ltI ha hb).mp q)) (fun q => hf (by have := mt (nI_ltI ha hb).mpr q; omega))
theorem st_if_ltN {a : Nat} (r : vIf M pc .lt tgt pc') (ha : a < 2147483648) (ht : a < 0 → V d nf n M tgt ls st σ K) (hf : 0 ≤ a → V d nf n M pc' ls st σ K) : V d nf n M pc ls (.int (nI a) :: st) σ K := by
  have hb0 : 0 < 2147483648 := by decide
  exact st_if_lt r (fun q => ht ((nI_ltI ha hb0).mp q)) (fun q => hf (by have := mt (nI_ltI ha hb0).mpr q; omega))
theorem st_icmp_geN {a b : Nat} (r : vIc M pc .ge tgt pc') (ha : a < 2147483648) (hb : b < 2147483648) (ht : b ≤ a → V d nf n M tgt ls st σ K) (hf : a < b → V d nf n M pc' ls st σ K) : V d nf n M pc ls (.int (nI b) :: .int (nI a) :: st) σ K := st_icmp_ge r (fun q => ht ((nI_leI hb ha).mp q)) (fun q => hf (by have := mt (nI_leI hb ha).mpr q; omega))
theorem st_if_geN {a : Nat} (r : vIf M pc .ge tgt pc') (ha : a < 2147483648) (ht : 0 ≤ a → V d nf n M tgt ls st σ K) (hf : a < 0 → V d nf n M pc' ls st σ K) : V d nf n M pc ls (.int (nI a) :: st) σ K := by
  have hb0 : 0 < 2147483648 := by decide
  exact st_if_ge r (fun q => ht ((nI_leI hb0 ha).mp q)) (fun q => hf (by have := mt (nI_leI hb0 ha).mpr q; omega))
theorem st_icmp_gtN {a b : Nat} (r : vIc M pc .gt tgt pc') (ha : a < 2147483648) (hb : b < 2147483648) (ht : b < a → V d nf n M tgt ls st σ K) (hf : a ≤ b → V d nf n M pc' ls st σ K) : V d nf n M pc ls (.int (nI b) :: .int (nI a) :: st) σ K := st_icmp_gt r (fun q => ht ((nI_ltI hb ha).mp q)) (fun q => hf (by have := mt (nI_ltI hb ha).mpr q; omega))
theorem st_if_gtN {a : Nat} (r : vIf M pc .gt tgt pc') (ha : a < 2147483648) (ht : 0 < a → V d nf n M tgt ls st σ K) (hf : a ≤ 0 → V d nf n M pc' ls st σ K) : V d nf n M pc ls (.int (nI a) :: st) σ K := by
  have hb0 : 0 < 2147483648 := by decide
  exact st_if_gt r (fun q => ht ((nI_ltI hb0 ha).mp q)) (fun q => hf (by have := mt (nI_ltI hb0 ha).mpr q; omega))
theorem st_icmp_leN {a b : Nat} (r : vIc M pc .le tgt pc') (ha : a < 2147483648) (hb : b < 2147483648) (ht : a ≤ b → V d nf n M tgt ls st σ K) (hf : b < a → V d nf n M pc' ls st σ K) : V d nf n M pc ls (.int (nI b) :: .int (nI a) :: st) σ K := st_icmp_le r (fun q => ht ((nI_leI ha hb).mp q)) (fun q => hf (by have := mt (nI_leI ha hb).mpr q; omega))
theorem st_if_leN {a : Nat} (r : vIf M pc .le tgt pc') (ha : a < 2147483648) (ht : a ≤ 0 → V d nf n M tgt ls st σ K) (hf : 0 < a → V d nf n M pc' ls st σ K) : V d nf n M pc ls (.int (nI a) :: st) σ K := by
  have hb0 : 0 < 2147483648 := by decide
  exact st_if_le r (fun q => ht ((nI_leI ha hb0).mp q)) (fun q => hf (by have := mt (nI_leI ha hb0).mpr q; omega))
theorem vSt_set (ls : List Value) (k : Nat) (v : Value) (hc : ∀ w, ls[k - 1]? = some w → 1 ≤ k → w.category = 1) : vSt ls (ls.set k v) k v := by
  refine ⟨fun i w hi hj => ?_, hc⟩
  rw [List.getElem?_set] at hi
  by_cases h : k = i
  · rw [if_pos h] at hi
    by_cases h2 : k < ls.length
    · rw [if_pos (by omega)] at hi
      cases hi
      exact Or.inl ⟨h.symm, rfl⟩
    · rw [if_neg (by omega)] at hi
      cases hi
  · rw [if_neg h] at hi
    exact Or.inr ⟨Ne.symm h, hi⟩
theorem st_istore0 {x : Int32} {ak : Value} {t : List Value} (r : vSi M pc 0 pc') (h : V d nf n M pc' (.int x :: t) st σ K) : V d nf n M pc (ak :: t) (.int x :: st) σ K := st_istoreG r (vSt_set (ak :: t) 0 (.int x) (by intro w _ h; exact absurd h (by decide))) h
theorem st_astore0 {x : Nat} {ak : Value} {t : List Value} (r : vSa M pc 0 pc') (h : V d nf n M pc' (.ref x :: t) st σ K) : V d nf n M pc (ak :: t) (.ref x :: st) σ K := st_astoreG r (vSt_set (ak :: t) 0 (.ref x) (by intro w _ h; exact absurd h (by decide))) h
theorem st_iinc0 {x v : Int32} {t : List Value} (r : vIn M pc 0 v pc') (h : V d nf n M pc' (.int (x + v) :: t) st σ K) : V d nf n M pc (.int x :: t) st σ K := st_iincG r rfl (vSt_set (.int x :: t) 0 (.int (x + v)) (by intro w _ h; exact absurd h (by decide))) h
theorem st_iincN0 {x v : Nat} {t : List Value} (r : vIn M pc 0 (nI v) pc') (h : V d nf n M pc' (.int (nI (x + v)) :: t) st σ K) : V d nf n M pc (.int (nI x) :: t) st σ K := st_iinc0 r (by rw [nI_add]; exact h)
theorem st_istore1 {x : Int32} {a0 ak : Value} {t : List Value} (r : vSi M pc 1 pc') (hc : a0.category = 1) (h : V d nf n M pc' (a0 :: .int x :: t) st σ K) : V d nf n M pc (a0 :: ak :: t) (.int x :: st) σ K := st_istoreG r (vSt_set (a0 :: ak :: t) 1 (.int x) (by intro w hw _; simp at hw; subst hw; exact hc)) h
theorem st_astore1 {x : Nat} {a0 ak : Value} {t : List Value} (r : vSa M pc 1 pc') (hc : a0.category = 1) (h : V d nf n M pc' (a0 :: .ref x :: t) st σ K) : V d nf n M pc (a0 :: ak :: t) (.ref x :: st) σ K := st_astoreG r (vSt_set (a0 :: ak :: t) 1 (.ref x) (by intro w hw _; simp at hw; subst hw; exact hc)) h
theorem st_iinc1 {x v : Int32} {a0 : Value} {t : List Value} (r : vIn M pc 1 v pc') (hc : a0.category = 1) (h : V d nf n M pc' (a0 :: .int (x + v) :: t) st σ K) : V d nf n M pc (a0 :: .int x :: t) st σ K := st_iincG r rfl (vSt_set (a0 :: .int x :: t) 1 (.int (x + v)) (by intro w hw _; simp at hw; subst hw; exact hc)) h
theorem st_iincN1 {x v : Nat} {a0 : Value} {t : List Value} (r : vIn M pc 1 (nI v) pc') (hc : a0.category = 1) (h : V d nf n M pc' (a0 :: .int (nI (x + v)) :: t) st σ K) : V d nf n M pc (a0 :: .int (nI x) :: t) st σ K := st_iinc1 r hc (by rw [nI_add]; exact h)
theorem st_istore2 {x : Int32} {a0 a1 ak : Value} {t : List Value} (r : vSi M pc 2 pc') (hc : a1.category = 1) (h : V d nf n M pc' (a0 :: a1 :: .int x :: t) st σ K) : V d nf n M pc (a0 :: a1 :: ak :: t) (.int x :: st) σ K := st_istoreG r (vSt_set (a0 :: a1 :: ak :: t) 2 (.int x) (by intro w hw _; simp at hw; subst hw; exact hc)) h
theorem st_astore2 {x : Nat} {a0 a1 ak : Value} {t : List Value} (r : vSa M pc 2 pc') (hc : a1.category = 1) (h : V d nf n M pc' (a0 :: a1 :: .ref x :: t) st σ K) : V d nf n M pc (a0 :: a1 :: ak :: t) (.ref x :: st) σ K := st_astoreG r (vSt_set (a0 :: a1 :: ak :: t) 2 (.ref x) (by intro w hw _; simp at hw; subst hw; exact hc)) h
theorem st_iinc2 {x v : Int32} {a0 a1 : Value} {t : List Value} (r : vIn M pc 2 v pc') (hc : a1.category = 1) (h : V d nf n M pc' (a0 :: a1 :: .int (x + v) :: t) st σ K) : V d nf n M pc (a0 :: a1 :: .int x :: t) st σ K := st_iincG r rfl (vSt_set (a0 :: a1 :: .int x :: t) 2 (.int (x + v)) (by intro w hw _; simp at hw; subst hw; exact hc)) h
theorem st_iincN2 {x v : Nat} {a0 a1 : Value} {t : List Value} (r : vIn M pc 2 (nI v) pc') (hc : a1.category = 1) (h : V d nf n M pc' (a0 :: a1 :: .int (nI (x + v)) :: t) st σ K) : V d nf n M pc (a0 :: a1 :: .int (nI x) :: t) st σ K := st_iinc2 r hc (by rw [nI_add]; exact h)
theorem st_istore3 {x : Int32} {a0 a1 a2 ak : Value} {t : List Value} (r : vSi M pc 3 pc') (hc : a2.category = 1) (h : V d nf n M pc' (a0 :: a1 :: a2 :: .int x :: t) st σ K) : V d nf n M pc (a0 :: a1 :: a2 :: ak :: t) (.int x :: st) σ K := st_istoreG r (vSt_set (a0 :: a1 :: a2 :: ak :: t) 3 (.int x) (by intro w hw _; simp at hw; subst hw; exact hc)) h
theorem st_astore3 {x : Nat} {a0 a1 a2 ak : Value} {t : List Value} (r : vSa M pc 3 pc') (hc : a2.category = 1) (h : V d nf n M pc' (a0 :: a1 :: a2 :: .ref x :: t) st σ K) : V d nf n M pc (a0 :: a1 :: a2 :: ak :: t) (.ref x :: st) σ K := st_astoreG r (vSt_set (a0 :: a1 :: a2 :: ak :: t) 3 (.ref x) (by intro w hw _; simp at hw; subst hw; exact hc)) h
theorem st_iinc3 {x v : Int32} {a0 a1 a2 : Value} {t : List Value} (r : vIn M pc 3 v pc') (hc : a2.category = 1) (h : V d nf n M pc' (a0 :: a1 :: a2 :: .int (x + v) :: t) st σ K) : V d nf n M pc (a0 :: a1 :: a2 :: .int x :: t) st σ K := st_iincG r rfl (vSt_set (a0 :: a1 :: a2 :: .int x :: t) 3 (.int (x + v)) (by intro w hw _; simp at hw; subst hw; exact hc)) h
theorem st_iincN3 {x v : Nat} {a0 a1 a2 : Value} {t : List Value} (r : vIn M pc 3 (nI v) pc') (hc : a2.category = 1) (h : V d nf n M pc' (a0 :: a1 :: a2 :: .int (nI (x + v)) :: t) st σ K) : V d nf n M pc (a0 :: a1 :: a2 :: .int (nI x) :: t) st σ K := st_iinc3 r hc (by rw [nI_add]; exact h)
theorem st_istore4 {x : Int32} {a0 a1 a2 a3 ak : Value} {t : List Value} (r : vSi M pc 4 pc') (hc : a3.category = 1) (h : V d nf n M pc' (a0 :: a1 :: a2 :: a3 :: .int x :: t) st σ K) : V d nf n M pc (a0 :: a1 :: a2 :: a3 :: ak :: t) (.int x :: st) σ K := st_istoreG r (vSt_set (a0 :: a1 :: a2 :: a3 :: ak :: t) 4 (.int x) (by intro w hw _; simp at hw; subst hw; exact hc)) h
theorem st_astore4 {x : Nat} {a0 a1 a2 a3 ak : Value} {t : List Value} (r : vSa M pc 4 pc') (hc : a3.category = 1) (h : V d nf n M pc' (a0 :: a1 :: a2 :: a3 :: .ref x :: t) st σ K) : V d nf n M pc (a0 :: a1 :: a2 :: a3 :: ak :: t) (.ref x :: st) σ K := st_astoreG r (vSt_set (a0 :: a1 :: a2 :: a3 :: ak :: t) 4 (.ref x) (by intro w hw _; simp at hw; subst hw; exact hc)) h
theorem st_iinc4 {x v : Int32} {a0 a1 a2 a3 : Value} {t : List Value} (r : vIn M pc 4 v pc') (hc : a3.category = 1) (h : V d nf n M pc' (a0 :: a1 :: a2 :: a3 :: .int (x + v) :: t) st σ K) : V d nf n M pc (a0 :: a1 :: a2 :: a3 :: .int x :: t) st σ K := st_iincG r rfl (vSt_set (a0 :: a1 :: a2 :: a3 :: .int x :: t) 4 (.int (x + v)) (by intro w hw _; simp at hw; subst hw; exact hc)) h
theorem st_iincN4 {x v : Nat} {a0 a1 a2 a3 : Value} {t : List Value} (r : vIn M pc 4 (nI v) pc') (hc : a3.category = 1) (h : V d nf n M pc' (a0 :: a1 :: a2 :: a3 :: .int (nI (x + v)) :: t) st σ K) : V d nf n M pc (a0 :: a1 :: a2 :: a3 :: .int (nI x) :: t) st σ K := st_iinc4 r hc (by rw [nI_add]; exact h)
theorem st_istore5 {x : Int32} {a0 a1 a2 a3 a4 ak : Value} {t : List Value} (r : vSi M pc 5 pc') (hc : a4.category = 1) (h : V d nf n M pc' (a0 :: a1 :: a2 :: a3 :: a4 :: .int x :: t) st σ K) : V d nf n M pc (a0 :: a1 :: a2 :: a3 :: a4 :: ak :: t) (.int x :: st) σ K := st_istoreG r (vSt_set (a0 :: a1 :: a2 :: a3 :: a4 :: ak :: t) 5 (.int x) (by intro w hw _; simp at hw; subst hw; exact hc)) h
theorem st_astore5 {x : Nat} {a0 a1 a2 a3 a4 ak : Value} {t : List Value} (r : vSa M pc 5 pc') (hc : a4.category = 1) (h : V d nf n M pc' (a0 :: a1 :: a2 :: a3 :: a4 :: .ref x :: t) st σ K) : V d nf n M pc (a0 :: a1 :: a2 :: a3 :: a4 :: ak :: t) (.ref x :: st) σ K := st_astoreG r (vSt_set (a0 :: a1 :: a2 :: a3 :: a4 :: ak :: t) 5 (.ref x) (by intro w hw _; simp at hw; subst hw; exact hc)) h
theorem st_iinc5 {x v : Int32} {a0 a1 a2 a3 a4 : Value} {t : List Value} (r : vIn M pc 5 v pc') (hc : a4.category = 1) (h : V d nf n M pc' (a0 :: a1 :: a2 :: a3 :: a4 :: .int (x + v) :: t) st σ K) : V d nf n M pc (a0 :: a1 :: a2 :: a3 :: a4 :: .int x :: t) st σ K := st_iincG r rfl (vSt_set (a0 :: a1 :: a2 :: a3 :: a4 :: .int x :: t) 5 (.int (x + v)) (by intro w hw _; simp at hw; subst hw; exact hc)) h
theorem st_iincN5 {x v : Nat} {a0 a1 a2 a3 a4 : Value} {t : List Value} (r : vIn M pc 5 (nI v) pc') (hc : a4.category = 1) (h : V d nf n M pc' (a0 :: a1 :: a2 :: a3 :: a4 :: .int (nI (x + v)) :: t) st σ K) : V d nf n M pc (a0 :: a1 :: a2 :: a3 :: a4 :: .int (nI x) :: t) st σ K := st_iinc5 r hc (by rw [nI_add]; exact h)
theorem st_istore6 {x : Int32} {a0 a1 a2 a3 a4 a5 ak : Value} {t : List Value} (r : vSi M pc 6 pc') (hc : a5.category = 1) (h : V d nf n M pc' (a0 :: a1 :: a2 :: a3 :: a4 :: a5 :: .int x :: t) st σ K) : V d nf n M pc (a0 :: a1 :: a2 :: a3 :: a4 :: a5 :: ak :: t) (.int x :: st) σ K := st_istoreG r (vSt_set (a0 :: a1 :: a2 :: a3 :: a4 :: a5 :: ak :: t) 6 (.int x) (by intro w hw _; simp at hw; subst hw; exact hc)) h
theorem st_astore6 {x : Nat} {a0 a1 a2 a3 a4 a5 ak : Value} {t : List Value} (r : vSa M pc 6 pc') (hc : a5.category = 1) (h : V d nf n M pc' (a0 :: a1 :: a2 :: a3 :: a4 :: a5 :: .ref x :: t) st σ K) : V d nf n M pc (a0 :: a1 :: a2 :: a3 :: a4 :: a5 :: ak :: t) (.ref x :: st) σ K := st_astoreG r (vSt_set (a0 :: a1 :: a2 :: a3 :: a4 :: a5 :: ak :: t) 6 (.ref x) (by intro w hw _; simp at hw; subst hw; exact hc)) h
theorem st_iinc6 {x v : Int32} {a0 a1 a2 a3 a4 a5 : Value} {t : List Value} (r : vIn M pc 6 v pc') (hc : a5.category = 1) (h : V d nf n M pc' (a0 :: a1 :: a2 :: a3 :: a4 :: a5 :: .int (x + v) :: t) st σ K) : V d nf n M pc (a0 :: a1 :: a2 :: a3 :: a4 :: a5 :: .int x :: t) st σ K := st_iincG r rfl (vSt_set (a0 :: a1 :: a2 :: a3 :: a4 :: a5 :: .int x :: t) 6 (.int (x + v)) (by intro w hw _; simp at hw; subst hw; exact hc)) h
theorem st_iincN6 {x v : Nat} {a0 a1 a2 a3 a4 a5 : Value} {t : List Value} (r : vIn M pc 6 (nI v) pc') (hc : a5.category = 1) (h : V d nf n M pc' (a0 :: a1 :: a2 :: a3 :: a4 :: a5 :: .int (nI (x + v)) :: t) st σ K) : V d nf n M pc (a0 :: a1 :: a2 :: a3 :: a4 :: a5 :: .int (nI x) :: t) st σ K := st_iinc6 r hc (by rw [nI_add]; exact h)
theorem st_istore7 {x : Int32} {a0 a1 a2 a3 a4 a5 a6 ak : Value} {t : List Value} (r : vSi M pc 7 pc') (hc : a6.category = 1) (h : V d nf n M pc' (a0 :: a1 :: a2 :: a3 :: a4 :: a5 :: a6 :: .int x :: t) st σ K) : V d nf n M pc (a0 :: a1 :: a2 :: a3 :: a4 :: a5 :: a6 :: ak :: t) (.int x :: st) σ K := st_istoreG r (vSt_set (a0 :: a1 :: a2 :: a3 :: a4 :: a5 :: a6 :: ak :: t) 7 (.int x) (by intro w hw _; simp at hw; subst hw; exact hc)) h
theorem st_astore7 {x : Nat} {a0 a1 a2 a3 a4 a5 a6 ak : Value} {t : List Value} (r : vSa M pc 7 pc') (hc : a6.category = 1) (h : V d nf n M pc' (a0 :: a1 :: a2 :: a3 :: a4 :: a5 :: a6 :: .ref x :: t) st σ K) : V d nf n M pc (a0 :: a1 :: a2 :: a3 :: a4 :: a5 :: a6 :: ak :: t) (.ref x :: st) σ K := st_astoreG r (vSt_set (a0 :: a1 :: a2 :: a3 :: a4 :: a5 :: a6 :: ak :: t) 7 (.ref x) (by intro w hw _; simp at hw; subst hw; exact hc)) h
theorem st_iinc7 {x v : Int32} {a0 a1 a2 a3 a4 a5 a6 : Value} {t : List Value} (r : vIn M pc 7 v pc') (hc : a6.category = 1) (h : V d nf n M pc' (a0 :: a1 :: a2 :: a3 :: a4 :: a5 :: a6 :: .int (x + v) :: t) st σ K) : V d nf n M pc (a0 :: a1 :: a2 :: a3 :: a4 :: a5 :: a6 :: .int x :: t) st σ K := st_iincG r rfl (vSt_set (a0 :: a1 :: a2 :: a3 :: a4 :: a5 :: a6 :: .int x :: t) 7 (.int (x + v)) (by intro w hw _; simp at hw; subst hw; exact hc)) h
theorem st_iincN7 {x v : Nat} {a0 a1 a2 a3 a4 a5 a6 : Value} {t : List Value} (r : vIn M pc 7 (nI v) pc') (hc : a6.category = 1) (h : V d nf n M pc' (a0 :: a1 :: a2 :: a3 :: a4 :: a5 :: a6 :: .int (nI (x + v)) :: t) st σ K) : V d nf n M pc (a0 :: a1 :: a2 :: a3 :: a4 :: a5 :: a6 :: .int (nI x) :: t) st σ K := st_iinc7 r hc (by rw [nI_add]; exact h)
theorem st_lstore2 {x : Int64} {a0 a1 ak al : Value} {t : List Value} (r : vSl M pc 2 pc') (hc : a1.category = 1) (h : V d nf n M pc' (a0 :: a1 :: .long x :: vJ :: t) st σ K) : V d nf n M pc (a0 :: a1 :: ak :: al :: t) (.long x :: st) σ K := by
  refine st_lstoreG r (ls' := a0 :: a1 :: .long x :: vJ :: t) ⟨fun i w hi hj => ?_, by intro w hw _; simp at hw; subst hw; exact hc⟩ h
  match i with
  | 0 => simp at hi; subst hi; exact Or.inr ⟨by decide, by decide, rfl⟩
  | 1 => simp at hi; subst hi; exact Or.inr ⟨by decide, by decide, rfl⟩
  | 2 => simp at hi; subst hi; exact Or.inl ⟨rfl, rfl⟩
  | 3 => simp at hi; exact absurd hi.symm hj
  | i + 4 => exact Or.inr ⟨by omega, by omega, hi⟩
theorem st_lstore3 {x : Int64} {a0 a1 a2 ak al : Value} {t : List Value} (r : vSl M pc 3 pc') (hc : a2.category = 1) (h : V d nf n M pc' (a0 :: a1 :: a2 :: .long x :: vJ :: t) st σ K) : V d nf n M pc (a0 :: a1 :: a2 :: ak :: al :: t) (.long x :: st) σ K := by
  refine st_lstoreG r (ls' := a0 :: a1 :: a2 :: .long x :: vJ :: t) ⟨fun i w hi hj => ?_, by intro w hw _; simp at hw; subst hw; exact hc⟩ h
  match i with
  | 0 => simp at hi; subst hi; exact Or.inr ⟨by decide, by decide, rfl⟩
  | 1 => simp at hi; subst hi; exact Or.inr ⟨by decide, by decide, rfl⟩
  | 2 => simp at hi; subst hi; exact Or.inr ⟨by decide, by decide, rfl⟩
  | 3 => simp at hi; subst hi; exact Or.inl ⟨rfl, rfl⟩
  | 4 => simp at hi; exact absurd hi.symm hj
  | i + 5 => exact Or.inr ⟨by omega, by omega, hi⟩
theorem st_lstore4 {x : Int64} {a0 a1 a2 a3 ak al : Value} {t : List Value} (r : vSl M pc 4 pc') (hc : a3.category = 1) (h : V d nf n M pc' (a0 :: a1 :: a2 :: a3 :: .long x :: vJ :: t) st σ K) : V d nf n M pc (a0 :: a1 :: a2 :: a3 :: ak :: al :: t) (.long x :: st) σ K := by
  refine st_lstoreG r (ls' := a0 :: a1 :: a2 :: a3 :: .long x :: vJ :: t) ⟨fun i w hi hj => ?_, by intro w hw _; simp at hw; subst hw; exact hc⟩ h
  match i with
  | 0 => simp at hi; subst hi; exact Or.inr ⟨by decide, by decide, rfl⟩
  | 1 => simp at hi; subst hi; exact Or.inr ⟨by decide, by decide, rfl⟩
  | 2 => simp at hi; subst hi; exact Or.inr ⟨by decide, by decide, rfl⟩
  | 3 => simp at hi; subst hi; exact Or.inr ⟨by decide, by decide, rfl⟩
  | 4 => simp at hi; subst hi; exact Or.inl ⟨rfl, rfl⟩
  | 5 => simp at hi; exact absurd hi.symm hj
  | i + 6 => exact Or.inr ⟨by omega, by omega, hi⟩
end VAri
section VArN
variable {d nf n : Nat} {M : vM} {pc pc' tgt : Nat} {ls st : List Value} {I : Nat → Nat → Int32} {J : Nat → Nat → Int64} {Z : Nat → Nat → Option Nat} {K : Option Value → vS → Prop}
theorem st_ialdN {a len j : Nat} (r : vI M pc .iaload 1 pc') (ha : vAr n a 100 len) (hj : j < len) (h : V d nf n M pc' ls (.int (I a j) :: st) (I, J, Z) K) : V d nf n M pc ls (.int (nI j) :: .ref a :: st) (I, J, Z) K := st_iald r ha (vp_in_nI hj ha.2.2) (by rw [nI_clamp (Nat.lt_trans hj ha.2.2)]; exact h)
theorem st_baldN {a len j : Nat} (r : vI M pc .baload 1 pc') (ha : vAr n a 101 len) (hj : j < len) (h : V d nf n M pc' ls (.int (I a j) :: st) (I, J, Z) K) : V d nf n M pc ls (.int (nI j) :: .ref a :: st) (I, J, Z) K := st_bald r ha (vp_in_nI hj ha.2.2) (by rw [nI_clamp (Nat.lt_trans hj ha.2.2)]; exact h)
theorem st_aaldN {a len j b : Nat} (r : vI M pc .aaload 1 pc') (ha : vAr n a 102 len) (hj : j < len) (hb : Z a j = some b) (h : V d nf n M pc' ls (.ref b :: st) (I, J, Z) K) : V d nf n M pc ls (.int (nI j) :: .ref a :: st) (I, J, Z) K := st_aald r ha (vp_in_nI hj ha.2.2) (by rw [nI_clamp (Nat.lt_trans hj ha.2.2)]; exact hb) h
theorem st_iastN {a len j : Nat} {x : Int32} (r : vI M pc .iastore 1 pc') (ha : vAr n a 100 len) (hj : j < len) (h : V d nf n M pc' ls st (up I a (va_up (I a) j x), J, Z) K) : V d nf n M pc ls (.int x :: .int (nI j) :: .ref a :: st) (I, J, Z) K := st_iast r ha (vp_in_nI hj ha.2.2) (by rw [nI_clamp (Nat.lt_trans hj ha.2.2)]; exact h)
theorem st_bastN {a len j : Nat} {x : Int32} (r : vI M pc .bastore 1 pc') (ha : vAr n a 101 len) (hj : j < len) (hx : vp_nar .boolean x = x) (h : V d nf n M pc' ls st (up I a (va_up (I a) j x), J, Z) K) : V d nf n M pc ls (.int x :: .int (nI j) :: .ref a :: st) (I, J, Z) K := st_bast r ha (vp_in_nI hj ha.2.2) hx (by rw [nI_clamp (Nat.lt_trans hj ha.2.2)]; exact h)
theorem st_aastN {a len j b : Nat} (r : vI M pc .aastore 1 pc') (ha : vAr n a 102 len) (hj : j < len) (hb : vOb n b 1) (h : V d nf n M pc' ls st (I, J, up Z a (va_up (Z a) j (some b))) K) : V d nf n M pc ls (.ref b :: .int (nI j) :: .ref a :: st) (I, J, Z) K := st_aast r ha (vp_in_nI hj ha.2.2) hb (by rw [nI_clamp (Nat.lt_trans hj ha.2.2)]; exact h)
theorem st_sldN {j : Nat} (r : vI M pc .iaload 1 pc') (hj : j < vLen (I, J, Z)) (hl : vLen (I, J, Z) < 2147483648) (h : V d nf n M pc' ls (.int (I 1000 j) :: st) (I, J, Z) K) : V d nf n M pc ls (.int (nI j) :: vX :: st) (I, J, Z) K := st_sld r (vp_in_nI hj hl) (by rw [nI_clamp (Nat.lt_trans hj hl)]; exact h)
end VArN
end
section
abbrev mX0_init : vM := (RX0, yX0_init, cX0_init, 1, none)
abbrev mX0_append : vM := (RX0, yX0_append, cX0_append, 3, (some .boolean))
abbrev mX0_empty : vM := (RX0, yX0_empty, cX0_empty, 2, (some .int))
abbrev mX0_holdBehind : vM := (RX0, yX0_holdBehind, cX0_holdBehind, 5, (some .boolean))
abbrev mX1_init : vM := (RX1, yX1_init, cX1_init, 1, none)
abbrev mX1_begin : vM := (RX1, yX1_begin, cX1_begin, 3, none)
abbrev mX1_copyFrom : vM := (RX1, yX1_copyFrom, cX1_copyFrom, 2, none)
abbrev mX1_townOf : vM := (RX1, yX1_townOf, cX1_townOf, 3, (some .int))
abbrev mX1_bearsBell : vM := (RX1, yX1_bearsBell, cX1_bearsBell, 4, (some .boolean))
abbrev mX1_passTerm : vM := (RX1, yX1_passTerm, cX1_passTerm, 6, (some .int))
abbrev mX1_judgeOaths : vM := (RX1, yX1_judgeOaths, cX1_judgeOaths, 4, none)
abbrev mX1_cutTowers : vM := (RX1, yX1_cutTowers, cX1_cutTowers, 5, (some .int))
abbrev mX2_init : vM := (RX2, yX2_init, cX2_init, 2, none)
abbrev mX2_empty : vM := (RX2, yX2_empty, cX2_empty, 2, none)
abbrev mX2_keepFrom : vM := (RX2, yX2_keepFrom, cX2_keepFrom, 3, (some .boolean))
abbrev mX2_bringInto : vM := (RX2, yX2_bringInto, cX2_bringInto, 3, (some .boolean))
abbrev mX3_init : vM := (RX3, yX3_init, cX3_init, 1, none)
abbrev mX3_drawBy : vM := (RX3, yX3_drawBy, cX3_drawBy, 5, none)
abbrev mX3_numberDrawn : vM := (RX3, yX3_numberDrawn, cX3_numberDrawn, 4, (some .int))
abbrev mX3_takeUndrawn : vM := (RX3, yX3_takeUndrawn, cX3_takeUndrawn, 4, (some .int))
abbrev mX3_carry : vM := (RX3, yX3_carry, cX3_carry, 3, none)
abbrev mX3_repeatsTillSame : vM := (RX3, yX3_repeatsTillSame, cX3_repeatsTillSame, 3, (some .int))
abbrev mX3_ringLength : vM := (RX3, yX3_ringLength, cX3_ringLength, 4, (some .int))
abbrev mX3_leastCommonMultiple : vM := (RX3, yX3_leastCommonMultiple, cX3_leastCommonMultiple, 3, (some .int))
abbrev mX4_init : vM := (RX4, yX4_init, cX4_init, 2, none)
abbrev mX4_empty : vM := (RX4, yX4_empty, cX4_empty, 1, none)
abbrev mX4_remember : vM := (RX4, yX4_remember, cX4_remember, 2, none)
abbrev mX4_recallInto : vM := (RX4, yX4_recallInto, cX4_recallInto, 2, (some .boolean))
abbrev mX5_init : vM := (RX5, yX5_init, cX5_init, 1, none)
abbrev mX5_append : vM := (RX5, yX5_append, cX5_append, 2, (some .boolean))
abbrev mX5_empty : vM := (RX5, yX5_empty, cX5_empty, 2, (some .int))
abbrev mX5_readInto : vM := (RX5, yX5_readInto, cX5_readInto, 3, (some .int))
abbrev mX5_readItem : vM := (RX5, yX5_readItem, cX5_readItem, 4, (some .boolean))
abbrev mX5_mayBegin : vM := (RX5, yX5_mayBegin, cX5_mayBegin, 2, (some .boolean))
abbrev mX5_mayStand : vM := (RX5, yX5_mayStand, cX5_mayStand, 5, (some .boolean))
abbrev mX5_nextToken : vM := (RX5, yX5_nextToken, cX5_nextToken, 2, none)
abbrev mX5_readNumber : vM := (RX5, yX5_readNumber, cX5_readNumber, 2, none)
abbrev mX5_isDigit : vM := (RX5, yX5_isDigit, cX5_isDigit, 1, (some .boolean))
abbrev mX6_init : vM := (RX6, yX6_init, cX6_init, 1, none)
abbrev mX6_empty : vM := (RX6, yX6_empty, cX6_empty, 1, none)
abbrev mX6_hasTown : vM := (RX6, yX6_hasTown, cX6_hasTown, 2, (some .boolean))
abbrev mX6_add : vM := (RX6, yX6_add, cX6_add, 5, none)
abbrev mX6_addTown : vM := (RX6, yX6_addTown, cX6_addTown, 4, none)
abbrev mX6_addRoad : vM := (RX6, yX6_addRoad, cX6_addRoad, 4, none)
abbrev mX6_addOath : vM := (RX6, yX6_addOath, cX6_addOath, 4, none)
abbrev mX6_measureWays : vM := (RX6, yX6_measureWays, cX6_measureWays, 4, none)
abbrev mX6_shortenWays : vM := (RX6, yX6_shortenWays, cX6_shortenWays, 7, none)
abbrev mX6_wayBetween : vM := (RX6, yX6_wayBetween, cX6_wayBetween, 3, (some .int))
abbrev mX6_oathsCross : vM := (RX6, yX6_oathsCross, cX6_oathsCross, 5, (some .boolean))
abbrev mX6_bellsHungBefore : vM := (RX6, yX6_bellsHungBefore, cX6_bellsHungBefore, 5, (some .int))
abbrev mX7_init : vM := (RX7, yX7_init, cX7_init, 1, none)
abbrev mX7_type : vM := (RX7, yX7_type, cX7_type, 2, (some .int))
abbrev mX7_clear : vM := (RX7, yX7_clear, cX7_clear, 1, (some .int))
abbrev mX7_plain : vM := (RX7, yX7_plain, cX7_plain, 3, (some .int))
abbrev mX7_town : vM := (RX7, yX7_town, cX7_town, 3, (some .int))
abbrev mX7_bell : vM := (RX7, yX7_bell, cX7_bell, 3, (some .int))
abbrev mX7_far : vM := (RX7, yX7_far, cX7_far, 3, (some .int))
abbrev mX7_oath : vM := (RX7, yX7_oath, cX7_oath, 3, (some .int))
abbrev mX7_now : vM := (RX7, yX7_now, cX7_now, 2, (some .int))
abbrev mX7_lots : vM := (RX7, yX7_lots, cX7_lots, 2, (some .int))
abbrev mX7_trades : vM := (RX7, yX7_trades, cX7_trades, 4, (some .int))
abbrev mX7_widens : vM := (RX7, yX7_widens, cX7_widens, 4, (some .int))
abbrev mX7_undo : vM := (RX7, yX7_undo, cX7_undo, 1, (some .int))
abbrev mX7_inLots : vM := (RX7, yX7_inLots, cX7_inLots, 6, (some .int))
abbrev mX7_cost : vM := (RX7, yX7_cost, cX7_cost, 6, (some .int))
abbrev mX7_home : vM := (RX7, yX7_home, cX7_home, 2, (some .int))
abbrev mX7_hang : vM := (RX7, yX7_hang, cX7_hang, 2, (some .int))
abbrev mX7_round : vM := (RX7, yX7_round, cX7_round, 2, (some .int))
abbrev mX7_crossed : vM := (RX7, yX7_crossed, cX7_crossed, 3, (some .int))
abbrev mX7_oaths : vM := (RX7, yX7_oaths, cX7_oaths, 4, (some .int))
abbrev mX7_strokes : vM := (RX7, yX7_strokes, cX7_strokes, 3, (some .int))
abbrev mX7_found : vM := (RX7, yX7_found, cX7_found, 3, (some .int))
abbrev mX7_forget : vM := (RX7, yX7_forget, cX7_forget, 1, (some .int))
abbrev mX7_which : vM := (RX7, yX7_which, cX7_which, 4, (some .int))
abbrev mX7_odds : vM := (RX7, yX7_odds, cX7_odds, 5, (some .int))
abbrev mX7_rate : vM := (RX7, yX7_rate, cX7_rate, 3, (some .int))
abbrev mX7_keep : vM := (RX7, yX7_keep, cX7_keep, 2, (some .int))
abbrev mX7_back : vM := (RX7, yX7_back, cX7_back, 2, (some .int))
abbrev mX7_count : vM := (RX7, yX7_count, cX7_count, 2, (some .int))
abbrev mX7_trace : vM := (RX7, yX7_trace, cX7_trace, 1, (some .long))
abbrev mX7_within : vM := (RX7, yX7_within, cX7_within, 3, (some .boolean))
abbrev mX7_at : vM := (RX7, yX7_at, cX7_at, 2, (some .int))
abbrev mX7_put : vM := (RX7, yX7_put, cX7_put, 3, none)
abbrev mX7_pair : vM := (RX7, yX7_pair, cX7_pair, 2, (some .int))
abbrev mX7_commonDivisor : vM := (RX7, yX7_commonDivisor, cX7_commonDivisor, 4, (some .int))
abbrev mX7_dumbTowns : vM := (RX7, yX7_dumbTowns, cX7_dumbTowns, 3, (some .int))
abbrev mX7_hasLikeNeighbour : vM := (RX7, yX7_hasLikeNeighbour, cX7_hasLikeNeighbour, 3, (some .boolean))
abbrev mX7_noteIn : vM := (RX7, yX7_noteIn, cX7_noteIn, 2, (some .int))
abbrev mX7_bellsAtHome : vM := (RX7, yX7_bellsAtHome, cX7_bellsAtHome, 3, (some .int))
abbrev mX7_fitsOf : vM := (RX7, yX7_fitsOf, cX7_fitsOf, 4, (some .int))
abbrev mX7_rings : vM := (RX7, yX7_rings, cX7_rings, 6, (some .int))
abbrev mX7_firstTradeHome : vM := (RX7, yX7_firstTradeHome, cX7_firstTradeHome, 2, (some .int))
abbrev mX7_harmlessWays : vM := (RX7, yX7_harmlessWays, cX7_harmlessWays, 3, (some .int))
abbrev mX7_allWays : vM := (RX7, yX7_allWays, cX7_allWays, 3, (some .int))
abbrev mX7_rateBell : vM := (RX7, yX7_rateBell, cX7_rateBell, 2, (some .int))
abbrev mX7_rateGreat : vM := (RX7, yX7_rateGreat, cX7_rateGreat, 2, (some .int))
abbrev mX7_rateCracked : vM := (RX7, yX7_rateCracked, cX7_rateCracked, 2, (some .int))
abbrev mX7_rateStorm : vM := (RX7, yX7_rateStorm, cX7_rateStorm, 2, (some .int))
abbrev mX7_rateRiver : vM := (RX7, yX7_rateRiver, cX7_rateRiver, 2, (some .int))
abbrev mX7_rateCow : vM := (RX7, yX7_rateCow, cX7_rateCow, 2, (some .int))
abbrev mX8_init : vM := (RX8, yX8_init, cX8_init, 1, none)
abbrev mX8_in : vM := (RX8, yX8_in, cX8_in, 3, (some .boolean))
abbrev mX8_type : vM := (RX8, yX8_type, cX8_type, 2, (some .int))
abbrev mX8_clear : vM := (RX8, yX8_clear, cX8_clear, 2, (some .int))
abbrev mX8_letterAt : vM := (RX8, yX8_letterAt, cX8_letterAt, 2, (some .int))
abbrev mX8_advances : vM := (RX8, yX8_advances, cX8_advances, 2, none)
abbrev mX8_isWell : vM := (RX8, yX8_isWell, cX8_isWell, 1, (some .boolean))
abbrev mX8_takes : vM := (RX8, yX8_takes, cX8_takes, 3, (some .int))
abbrev mX8_number : vM := (RX8, yX8_number, cX8_number, 3, (some .int))
abbrev mX8_readsItem : vM := (RX8, yX8_readsItem, cX8_readsItem, 5, none)
abbrev mX8_plain : vM := (RX8, yX8_plain, cX8_plain, 3, (some .int))
abbrev mX8_settles : vM := (RX8, yX8_settles, cX8_settles, 4, none)
abbrev mX8_isTown : vM := (RX8, yX8_isTown, cX8_isTown, 2, (some .boolean))
abbrev mX8_hangs : vM := (RX8, yX8_hangs, cX8_hangs, 3, (some .int))
abbrev mX8_isDumb : vM := (RX8, yX8_isDumb, cX8_isDumb, 4, (some .boolean))
abbrev mX8_town : vM := (RX8, yX8_town, cX8_town, 3, (some .int))
abbrev mX8_fits : vM := (RX8, yX8_fits, cX8_fits, 4, (some .int))
abbrev mX8_bell : vM := (RX8, yX8_bell, cX8_bell, 3, (some .int))
abbrev mX8_far : vM := (RX8, yX8_far, cX8_far, 3, (some .int))
abbrev mX8_oath : vM := (RX8, yX8_oath, cX8_oath, 3, (some .int))
abbrev mX8_now : vM := (RX8, yX8_now, cX8_now, 5, (some .int))
abbrev mX8_notes : vM := (RX8, yX8_notes, cX8_notes, 2, none)
abbrev mX8_draws : vM := (RX8, yX8_draws, cX8_draws, 8, none)
abbrev mX8_cuts : vM := (RX8, yX8_cuts, cX8_cuts, 4, (some .int))
abbrev mX8_drawn : vM := (RX8, yX8_drawn, cX8_drawn, 4, (some .int))
abbrev mX8_lots : vM := (RX8, yX8_lots, cX8_lots, 2, (some .int))
abbrev mX8_trades : vM := (RX8, yX8_trades, cX8_trades, 4, (some .int))
abbrev mX8_widens : vM := (RX8, yX8_widens, cX8_widens, 4, (some .int))
abbrev mX8_undo : vM := (RX8, yX8_undo, cX8_undo, 2, (some .int))
abbrev mX8_asNow : vM := (RX8, yX8_asNow, cX8_asNow, 2, none)
abbrev mX8_inLots : vM := (RX8, yX8_inLots, cX8_inLots, 6, (some .int))
abbrev mX8_cost : vM := (RX8, yX8_cost, cX8_cost, 5, (some .int))
abbrev mX8_home : vM := (RX8, yX8_home, cX8_home, 7, (some .int))
abbrev mX8_isRow : vM := (RX8, yX8_isRow, cX8_isRow, 6, (some .boolean))
abbrev mX8_rows : vM := (RX8, yX8_rows, cX8_rows, 3, (some .int))
abbrev mX8_isBorne : vM := (RX8, yX8_isBorne, cX8_isBorne, 3, (some .boolean))
abbrev mX8_costOfRow : vM := (RX8, yX8_costOfRow, cX8_costOfRow, 4, (some .int))
abbrev mX8_hang : vM := (RX8, yX8_hang, cX8_hang, 5, (some .int))
abbrev mX8_round : vM := (RX8, yX8_round, cX8_round, 5, (some .int))
abbrev mX8_crossed : vM := (RX8, yX8_crossed, cX8_crossed, 5, (some .int))
abbrev mX8_oaths : vM := (RX8, yX8_oaths, cX8_oaths, 4, (some .int))
abbrev mX8_strokes : vM := (RX8, yX8_strokes, cX8_strokes, 3, (some .int))
abbrev mX8_found : vM := (RX8, yX8_found, cX8_found, 3, (some .int))
abbrev mX8_forget : vM := (RX8, yX8_forget, cX8_forget, 2, (some .int))
abbrev mX8_which : vM := (RX8, yX8_which, cX8_which, 7, (some .int))
abbrev mX8_gcd : vM := (RX8, yX8_gcd, cX8_gcd, 5, (some .int))
abbrev mX8_odds : vM := (RX8, yX8_odds, cX8_odds, 5, (some .int))
abbrev mX8_rate : vM := (RX8, yX8_rate, cX8_rate, 5, (some .int))
abbrev mX8_keep : vM := (RX8, yX8_keep, cX8_keep, 3, (some .int))
abbrev mX8_back : vM := (RX8, yX8_back, cX8_back, 3, (some .int))
abbrev mX8_roads : vM := (RX8, yX8_roads, cX8_roads, 3, (some .int))
abbrev mX8_count : vM := (RX8, yX8_count, cX8_count, 2, (some .int))
abbrev mX8_trace : vM := (RX8, yX8_trace, cX8_trace, 1, (some .long))
abbrev mJ6_bitCount_0f7a4 : vM := (RJ6, yJ6_bitCount_0f7a4, cJ6_bitCount_0f7a4, 1, (some .int))
abbrev mJ9_max_7cf53 : vM := (RJ9, yJ9_max_7cf53, cJ9_max_7cf53, 2, (some .int))
abbrev mJ9_min_7cf53 : vM := (RJ9, yJ9_min_7cf53, cJ9_min_7cf53, 2, (some .int))
abbrev mJ7_fill_53178 : vM := (RJ7, yJ7_fill_53178, cJ7_fill_53178, 4, none)
abbrev mL_law : vM := (RL, yL_law, cL_law, 4, (some .boolean))
theorem tF182 : Cond.code yX0_init cX0_init 1 none ∈ vT := vt 182 (by decide +kernel) (by decide +kernel)
theorem tF7 : Cond.initialized "BellLots$Finds" ∈ vT := vt 7 (by decide +kernel) (by decide +kernel)
theorem tF559 : Cond.code yX0_append cX0_append 3 (some .boolean) ∈ vT := vt 559 (by decide +kernel) (by decide +kernel)
theorem tF370 : Cond.code yX0_empty cX0_empty 2 (some .int) ∈ vT := vt 370 (by decide +kernel) (by decide +kernel)
theorem tF572 : Cond.code yX0_holdBehind cX0_holdBehind 5 (some .boolean) ∈ vT := vt 572 (by decide +kernel) (by decide +kernel)
theorem tF114 : Cond.code yX1_init cX1_init 1 none ∈ vT := vt 114 (by decide +kernel) (by decide +kernel)
theorem tF4 : Cond.initialized "BellLots$Hanging" ∈ vT := vt 4 (by decide +kernel) (by decide +kernel)
theorem tF354 : Cond.code yX1_begin cX1_begin 3 none ∈ vT := vt 354 (by decide +kernel) (by decide +kernel)
theorem tF437 : Cond.code yX1_copyFrom cX1_copyFrom 2 none ∈ vT := vt 437 (by decide +kernel) (by decide +kernel)
theorem tF380 : Cond.code yX1_townOf cX1_townOf 3 (some .int) ∈ vT := vt 380 (by decide +kernel) (by decide +kernel)
theorem tF405 : Cond.code yX1_bearsBell cX1_bearsBell 4 (some .boolean) ∈ vT := vt 405 (by decide +kernel) (by decide +kernel)
theorem tF441 : Cond.code yX1_passTerm cX1_passTerm 6 (some .int) ∈ vT := vt 441 (by decide +kernel) (by decide +kernel)
theorem tF445 : Cond.code yX1_judgeOaths cX1_judgeOaths 4 none ∈ vT := vt 445 (by decide +kernel) (by decide +kernel)
theorem tF472 : Cond.code yX1_cutTowers cX1_cutTowers 5 (some .int) ∈ vT := vt 472 (by decide +kernel) (by decide +kernel)
theorem tF166 : Cond.code yX2_init cX2_init 2 none ∈ vT := vt 166 (by decide +kernel) (by decide +kernel)
theorem tF6 : Cond.initialized "BellLots$Images" ∈ vT := vt 6 (by decide +kernel) (by decide +kernel)
theorem tF366 : Cond.code yX2_empty cX2_empty 2 none ∈ vT := vt 366 (by decide +kernel) (by decide +kernel)
theorem tF638 : Cond.code yX2_keepFrom cX2_keepFrom 3 (some .boolean) ∈ vT := vt 638 (by decide +kernel) (by decide +kernel)
theorem tF648 : Cond.code yX2_bringInto cX2_bringInto 3 (some .boolean) ∈ vT := vt 648 (by decide +kernel) (by decide +kernel)
theorem tF199 : Cond.code yX3_init cX3_init 1 none ∈ vT := vt 199 (by decide +kernel) (by decide +kernel)
theorem tF8 : Cond.initialized "BellLots$Lot" ∈ vT := vt 8 (by decide +kernel) (by decide +kernel)
theorem tF451 : Cond.code yX3_drawBy cX3_drawBy 5 none ∈ vT := vt 451 (by decide +kernel) (by decide +kernel)
theorem tF454 : Cond.code yX3_numberDrawn cX3_numberDrawn 4 (some .int) ∈ vT := vt 454 (by decide +kernel) (by decide +kernel)
theorem tF462 : Cond.code yX3_takeUndrawn cX3_takeUndrawn 4 (some .int) ∈ vT := vt 462 (by decide +kernel) (by decide +kernel)
theorem tF466 : Cond.code yX3_carry cX3_carry 3 none ∈ vT := vt 466 (by decide +kernel) (by decide +kernel)
theorem tF525 : Cond.code yX3_repeatsTillSame cX3_repeatsTillSame 3 (some .int) ∈ vT := vt 525 (by decide +kernel) (by decide +kernel)
theorem tF529 : Cond.code yX3_ringLength cX3_ringLength 4 (some .int) ∈ vT := vt 529 (by decide +kernel) (by decide +kernel)
theorem tF532 : Cond.code yX3_leastCommonMultiple cX3_leastCommonMultiple 3 (some .int) ∈ vT := vt 532 (by decide +kernel) (by decide +kernel)
theorem tF146 : Cond.code yX4_init cX4_init 2 none ∈ vT := vt 146 (by decide +kernel) (by decide +kernel)
theorem tF5 : Cond.initialized "BellLots$Past" ∈ vT := vt 5 (by decide +kernel) (by decide +kernel)
theorem tF362 : Cond.code yX4_empty cX4_empty 1 none ∈ vT := vt 362 (by decide +kernel) (by decide +kernel)
theorem tF431 : Cond.code yX4_remember cX4_remember 2 none ∈ vT := vt 431 (by decide +kernel) (by decide +kernel)
theorem tF491 : Cond.code yX4_recallInto cX4_recallInto 2 (some .boolean) ∈ vT := vt 491 (by decide +kernel) (by decide +kernel)
theorem tF26 : Cond.code yX5_init cX5_init 1 none ∈ vT := vt 26 (by decide +kernel) (by decide +kernel)
theorem tF2 : Cond.initialized "BellLots$Text" ∈ vT := vt 2 (by decide +kernel) (by decide +kernel)
theorem tF254 : Cond.code yX5_append cX5_append 2 (some .boolean) ∈ vT := vt 254 (by decide +kernel) (by decide +kernel)
theorem tF265 : Cond.code yX5_empty cX5_empty 2 (some .int) ∈ vT := vt 265 (by decide +kernel) (by decide +kernel)
theorem tF273 : Cond.code yX5_readInto cX5_readInto 3 (some .int) ∈ vT := vt 273 (by decide +kernel) (by decide +kernel)
theorem tF301 : Cond.code yX5_readItem cX5_readItem 4 (some .boolean) ∈ vT := vt 301 (by decide +kernel) (by decide +kernel)
theorem tF304 : Cond.code yX5_mayBegin cX5_mayBegin 2 (some .boolean) ∈ vT := vt 304 (by decide +kernel) (by decide +kernel)
theorem tF308 : Cond.code yX5_mayStand cX5_mayStand 5 (some .boolean) ∈ vT := vt 308 (by decide +kernel) (by decide +kernel)
theorem tF284 : Cond.code yX5_nextToken cX5_nextToken 2 none ∈ vT := vt 284 (by decide +kernel) (by decide +kernel)
theorem tF294 : Cond.code yX5_readNumber cX5_readNumber 2 none ∈ vT := vt 294 (by decide +kernel) (by decide +kernel)
theorem tF290 : Cond.code yX5_isDigit cX5_isDigit 1 (some .boolean) ∈ vT := vt 290 (by decide +kernel) (by decide +kernel)
theorem tF56 : Cond.code yX6_init cX6_init 1 none ∈ vT := vt 56 (by decide +kernel) (by decide +kernel)
theorem tF3 : Cond.initialized "BellLots$Told" ∈ vT := vt 3 (by decide +kernel) (by decide +kernel)
theorem tF277 : Cond.code yX6_empty cX6_empty 1 none ∈ vT := vt 277 (by decide +kernel) (by decide +kernel)
theorem tF313 : Cond.code yX6_hasTown cX6_hasTown 2 (some .boolean) ∈ vT := vt 313 (by decide +kernel) (by decide +kernel)
theorem tF318 : Cond.code yX6_add cX6_add 5 none ∈ vT := vt 318 (by decide +kernel) (by decide +kernel)
theorem tF322 : Cond.code yX6_addTown cX6_addTown 4 none ∈ vT := vt 322 (by decide +kernel) (by decide +kernel)
theorem tF330 : Cond.code yX6_addRoad cX6_addRoad 4 none ∈ vT := vt 330 (by decide +kernel) (by decide +kernel)
theorem tF338 : Cond.code yX6_addOath cX6_addOath 4 none ∈ vT := vt 338 (by decide +kernel) (by decide +kernel)
theorem tF342 : Cond.code yX6_measureWays cX6_measureWays 4 none ∈ vT := vt 342 (by decide +kernel) (by decide +kernel)
theorem tF346 : Cond.code yX6_shortenWays cX6_shortenWays 7 none ∈ vT := vt 346 (by decide +kernel) (by decide +kernel)
theorem tF350 : Cond.code yX6_wayBetween cX6_wayBetween 3 (some .int) ∈ vT := vt 350 (by decide +kernel) (by decide +kernel)
theorem tF543 : Cond.code yX6_oathsCross cX6_oathsCross 5 (some .boolean) ∈ vT := vt 543 (by decide +kernel) (by decide +kernel)
theorem tF591 : Cond.code yX6_bellsHungBefore cX6_bellsHungBefore 5 (some .int) ∈ vT := vt 591 (by decide +kernel) (by decide +kernel)
theorem tF18 : Cond.code yX7_init cX7_init 1 none ∈ vT := vt 18 (by decide +kernel) (by decide +kernel)
theorem tF1 : Cond.initialized "BellLots" ∈ vT := vt 1 (by decide +kernel) (by decide +kernel)
theorem tF247 : Cond.code yX7_type cX7_type 2 (some .int) ∈ vT := vt 247 (by decide +kernel) (by decide +kernel)
theorem tF261 : Cond.code yX7_clear cX7_clear 1 (some .int) ∈ vT := vt 261 (by decide +kernel) (by decide +kernel)
theorem tF269 : Cond.code yX7_plain cX7_plain 3 (some .int) ∈ vT := vt 269 (by decide +kernel) (by decide +kernel)
theorem tF374 : Cond.code yX7_town cX7_town 3 (some .int) ∈ vT := vt 374 (by decide +kernel) (by decide +kernel)
theorem tF397 : Cond.code yX7_bell cX7_bell 3 (some .int) ∈ vT := vt 397 (by decide +kernel) (by decide +kernel)
theorem tF410 : Cond.code yX7_far cX7_far 3 (some .int) ∈ vT := vt 410 (by decide +kernel) (by decide +kernel)
theorem tF415 : Cond.code yX7_oath cX7_oath 3 (some .int) ∈ vT := vt 415 (by decide +kernel) (by decide +kernel)
theorem tF419 : Cond.code yX7_now cX7_now 2 (some .int) ∈ vT := vt 419 (by decide +kernel) (by decide +kernel)
theorem tF427 : Cond.code yX7_lots cX7_lots 2 (some .int) ∈ vT := vt 427 (by decide +kernel) (by decide +kernel)
theorem tF477 : Cond.code yX7_trades cX7_trades 4 (some .int) ∈ vT := vt 477 (by decide +kernel) (by decide +kernel)
theorem tF483 : Cond.code yX7_widens cX7_widens 4 (some .int) ∈ vT := vt 483 (by decide +kernel) (by decide +kernel)
theorem tF487 : Cond.code yX7_undo cX7_undo 1 (some .int) ∈ vT := vt 487 (by decide +kernel) (by decide +kernel)
theorem tF495 : Cond.code yX7_inLots cX7_inLots 6 (some .int) ∈ vT := vt 495 (by decide +kernel) (by decide +kernel)
theorem tF500 : Cond.code yX7_cost cX7_cost 6 (some .int) ∈ vT := vt 500 (by decide +kernel) (by decide +kernel)
theorem tF505 : Cond.code yX7_home cX7_home 2 (some .int) ∈ vT := vt 505 (by decide +kernel) (by decide +kernel)
theorem tF517 : Cond.code yX7_hang cX7_hang 2 (some .int) ∈ vT := vt 517 (by decide +kernel) (by decide +kernel)
theorem tF521 : Cond.code yX7_round cX7_round 2 (some .int) ∈ vT := vt 521 (by decide +kernel) (by decide +kernel)
theorem tF539 : Cond.code yX7_crossed cX7_crossed 3 (some .int) ∈ vT := vt 539 (by decide +kernel) (by decide +kernel)
theorem tF547 : Cond.code yX7_oaths cX7_oaths 4 (some .int) ∈ vT := vt 547 (by decide +kernel) (by decide +kernel)
theorem tF551 : Cond.code yX7_strokes cX7_strokes 3 (some .int) ∈ vT := vt 551 (by decide +kernel) (by decide +kernel)
theorem tF555 : Cond.code yX7_found cX7_found 3 (some .int) ∈ vT := vt 555 (by decide +kernel) (by decide +kernel)
theorem tF564 : Cond.code yX7_forget cX7_forget 1 (some .int) ∈ vT := vt 564 (by decide +kernel) (by decide +kernel)
theorem tF568 : Cond.code yX7_which cX7_which 4 (some .int) ∈ vT := vt 568 (by decide +kernel) (by decide +kernel)
theorem tF577 : Cond.code yX7_odds cX7_odds 5 (some .int) ∈ vT := vt 577 (by decide +kernel) (by decide +kernel)
theorem tF600 : Cond.code yX7_rate cX7_rate 3 (some .int) ∈ vT := vt 600 (by decide +kernel) (by decide +kernel)
theorem tF634 : Cond.code yX7_keep cX7_keep 2 (some .int) ∈ vT := vt 634 (by decide +kernel) (by decide +kernel)
theorem tF644 : Cond.code yX7_back cX7_back 2 (some .int) ∈ vT := vt 644 (by decide +kernel) (by decide +kernel)
theorem tF652 : Cond.code yX7_count cX7_count 2 (some .int) ∈ vT := vt 652 (by decide +kernel) (by decide +kernel)
theorem tF656 : Cond.code yX7_trace cX7_trace 1 (some .long) ∈ vT := vt 656 (by decide +kernel) (by decide +kernel)
theorem tF250 : Cond.code yX7_within cX7_within 3 (some .boolean) ∈ vT := vt 250 (by decide +kernel) (by decide +kernel)
theorem tF287 : Cond.code yX7_at cX7_at 2 (some .int) ∈ vT := vt 287 (by decide +kernel) (by decide +kernel)
theorem tF257 : Cond.code yX7_put cX7_put 3 none ∈ vT := vt 257 (by decide +kernel) (by decide +kernel)
theorem tF333 : Cond.code yX7_pair cX7_pair 2 (some .int) ∈ vT := vt 333 (by decide +kernel) (by decide +kernel)
theorem tF535 : Cond.code yX7_commonDivisor cX7_commonDivisor 4 (some .int) ∈ vT := vt 535 (by decide +kernel) (by decide +kernel)
theorem tF384 : Cond.code yX7_dumbTowns cX7_dumbTowns 3 (some .int) ∈ vT := vt 384 (by decide +kernel) (by decide +kernel)
theorem tF388 : Cond.code yX7_hasLikeNeighbour cX7_hasLikeNeighbour 3 (some .boolean) ∈ vT := vt 388 (by decide +kernel) (by decide +kernel)
theorem tF393 : Cond.code yX7_noteIn cX7_noteIn 2 (some .int) ∈ vT := vt 393 (by decide +kernel) (by decide +kernel)
theorem tF423 : Cond.code yX7_bellsAtHome cX7_bellsAtHome 3 (some .int) ∈ vT := vt 423 (by decide +kernel) (by decide +kernel)
theorem tF401 : Cond.code yX7_fitsOf cX7_fitsOf 4 (some .int) ∈ vT := vt 401 (by decide +kernel) (by decide +kernel)
theorem tF509 : Cond.code yX7_rings cX7_rings 6 (some .int) ∈ vT := vt 509 (by decide +kernel) (by decide +kernel)
theorem tF513 : Cond.code yX7_firstTradeHome cX7_firstTradeHome 2 (some .int) ∈ vT := vt 513 (by decide +kernel) (by decide +kernel)
theorem tF581 : Cond.code yX7_harmlessWays cX7_harmlessWays 3 (some .int) ∈ vT := vt 581 (by decide +kernel) (by decide +kernel)
theorem tF595 : Cond.code yX7_allWays cX7_allWays 3 (some .int) ∈ vT := vt 595 (by decide +kernel) (by decide +kernel)
theorem tF610 : Cond.code yX7_rateBell cX7_rateBell 2 (some .int) ∈ vT := vt 610 (by decide +kernel) (by decide +kernel)
theorem tF605 : Cond.code yX7_rateGreat cX7_rateGreat 2 (some .int) ∈ vT := vt 605 (by decide +kernel) (by decide +kernel)
theorem tF614 : Cond.code yX7_rateCracked cX7_rateCracked 2 (some .int) ∈ vT := vt 614 (by decide +kernel) (by decide +kernel)
theorem tF619 : Cond.code yX7_rateStorm cX7_rateStorm 2 (some .int) ∈ vT := vt 619 (by decide +kernel) (by decide +kernel)
theorem tF624 : Cond.code yX7_rateRiver cX7_rateRiver 2 (some .int) ∈ vT := vt 624 (by decide +kernel) (by decide +kernel)
theorem tF629 : Cond.code yX7_rateCow cX7_rateCow 2 (some .int) ∈ vT := vt 629 (by decide +kernel) (by decide +kernel)
theorem tF661 : Cond.code yX8_init cX8_init 1 none ∈ vT := vt 661 (by decide +kernel) (by decide +kernel)
theorem tF9 : Cond.initialized "BellLotsModel" ∈ vT := vt 9 (by decide +kernel) (by decide +kernel)
theorem tF757 : Cond.code yX8_in cX8_in 3 (some .boolean) ∈ vT := vt 757 (by decide +kernel) (by decide +kernel)
theorem tF754 : Cond.code yX8_type cX8_type 2 (some .int) ∈ vT := vt 754 (by decide +kernel) (by decide +kernel)
theorem tF761 : Cond.code yX8_clear cX8_clear 2 (some .int) ∈ vT := vt 761 (by decide +kernel) (by decide +kernel)
theorem tF773 : Cond.code yX8_letterAt cX8_letterAt 2 (some .int) ∈ vT := vt 773 (by decide +kernel) (by decide +kernel)
theorem tF769 : Cond.code yX8_advances cX8_advances 2 none ∈ vT := vt 769 (by decide +kernel) (by decide +kernel)
theorem tF777 : Cond.code yX8_isWell cX8_isWell 1 (some .boolean) ∈ vT := vt 777 (by decide +kernel) (by decide +kernel)
theorem tF781 : Cond.code yX8_takes cX8_takes 3 (some .int) ∈ vT := vt 781 (by decide +kernel) (by decide +kernel)
theorem tF789 : Cond.code yX8_number cX8_number 3 (some .int) ∈ vT := vt 789 (by decide +kernel) (by decide +kernel)
theorem tF785 : Cond.code yX8_readsItem cX8_readsItem 5 none ∈ vT := vt 785 (by decide +kernel) (by decide +kernel)
theorem tF765 : Cond.code yX8_plain cX8_plain 3 (some .int) ∈ vT := vt 765 (by decide +kernel) (by decide +kernel)
theorem tF793 : Cond.code yX8_settles cX8_settles 4 none ∈ vT := vt 793 (by decide +kernel) (by decide +kernel)
theorem tF802 : Cond.code yX8_isTown cX8_isTown 2 (some .boolean) ∈ vT := vt 802 (by decide +kernel) (by decide +kernel)
theorem tF805 : Cond.code yX8_hangs cX8_hangs 3 (some .int) ∈ vT := vt 805 (by decide +kernel) (by decide +kernel)
theorem tF809 : Cond.code yX8_isDumb cX8_isDumb 4 (some .boolean) ∈ vT := vt 809 (by decide +kernel) (by decide +kernel)
theorem tF798 : Cond.code yX8_town cX8_town 3 (some .int) ∈ vT := vt 798 (by decide +kernel) (by decide +kernel)
theorem tF817 : Cond.code yX8_fits cX8_fits 4 (some .int) ∈ vT := vt 817 (by decide +kernel) (by decide +kernel)
theorem tF813 : Cond.code yX8_bell cX8_bell 3 (some .int) ∈ vT := vt 813 (by decide +kernel) (by decide +kernel)
theorem tF821 : Cond.code yX8_far cX8_far 3 (some .int) ∈ vT := vt 821 (by decide +kernel) (by decide +kernel)
theorem tF825 : Cond.code yX8_oath cX8_oath 3 (some .int) ∈ vT := vt 825 (by decide +kernel) (by decide +kernel)
theorem tF829 : Cond.code yX8_now cX8_now 5 (some .int) ∈ vT := vt 829 (by decide +kernel) (by decide +kernel)
theorem tF837 : Cond.code yX8_notes cX8_notes 2 none ∈ vT := vt 837 (by decide +kernel) (by decide +kernel)
theorem tF845 : Cond.code yX8_draws cX8_draws 8 none ∈ vT := vt 845 (by decide +kernel) (by decide +kernel)
theorem tF853 : Cond.code yX8_cuts cX8_cuts 4 (some .int) ∈ vT := vt 853 (by decide +kernel) (by decide +kernel)
theorem tF841 : Cond.code yX8_drawn cX8_drawn 4 (some .int) ∈ vT := vt 841 (by decide +kernel) (by decide +kernel)
theorem tF833 : Cond.code yX8_lots cX8_lots 2 (some .int) ∈ vT := vt 833 (by decide +kernel) (by decide +kernel)
theorem tF857 : Cond.code yX8_trades cX8_trades 4 (some .int) ∈ vT := vt 857 (by decide +kernel) (by decide +kernel)
theorem tF861 : Cond.code yX8_widens cX8_widens 4 (some .int) ∈ vT := vt 861 (by decide +kernel) (by decide +kernel)
theorem tF865 : Cond.code yX8_undo cX8_undo 2 (some .int) ∈ vT := vt 865 (by decide +kernel) (by decide +kernel)
theorem tF873 : Cond.code yX8_asNow cX8_asNow 2 none ∈ vT := vt 873 (by decide +kernel) (by decide +kernel)
theorem tF869 : Cond.code yX8_inLots cX8_inLots 6 (some .int) ∈ vT := vt 869 (by decide +kernel) (by decide +kernel)
theorem tF877 : Cond.code yX8_cost cX8_cost 5 (some .int) ∈ vT := vt 877 (by decide +kernel) (by decide +kernel)
theorem tF881 : Cond.code yX8_home cX8_home 7 (some .int) ∈ vT := vt 881 (by decide +kernel) (by decide +kernel)
theorem tF893 : Cond.code yX8_isRow cX8_isRow 6 (some .boolean) ∈ vT := vt 893 (by decide +kernel) (by decide +kernel)
theorem tF889 : Cond.code yX8_rows cX8_rows 3 (some .int) ∈ vT := vt 889 (by decide +kernel) (by decide +kernel)
theorem tF897 : Cond.code yX8_isBorne cX8_isBorne 3 (some .boolean) ∈ vT := vt 897 (by decide +kernel) (by decide +kernel)
theorem tF901 : Cond.code yX8_costOfRow cX8_costOfRow 4 (some .int) ∈ vT := vt 901 (by decide +kernel) (by decide +kernel)
theorem tF885 : Cond.code yX8_hang cX8_hang 5 (some .int) ∈ vT := vt 885 (by decide +kernel) (by decide +kernel)
theorem tF905 : Cond.code yX8_round cX8_round 5 (some .int) ∈ vT := vt 905 (by decide +kernel) (by decide +kernel)
theorem tF909 : Cond.code yX8_crossed cX8_crossed 5 (some .int) ∈ vT := vt 909 (by decide +kernel) (by decide +kernel)
theorem tF913 : Cond.code yX8_oaths cX8_oaths 4 (some .int) ∈ vT := vt 913 (by decide +kernel) (by decide +kernel)
theorem tF917 : Cond.code yX8_strokes cX8_strokes 3 (some .int) ∈ vT := vt 917 (by decide +kernel) (by decide +kernel)
theorem tF921 : Cond.code yX8_found cX8_found 3 (some .int) ∈ vT := vt 921 (by decide +kernel) (by decide +kernel)
theorem tF925 : Cond.code yX8_forget cX8_forget 2 (some .int) ∈ vT := vt 925 (by decide +kernel) (by decide +kernel)
theorem tF929 : Cond.code yX8_which cX8_which 7 (some .int) ∈ vT := vt 929 (by decide +kernel) (by decide +kernel)
theorem tF936 : Cond.code yX8_gcd cX8_gcd 5 (some .int) ∈ vT := vt 936 (by decide +kernel) (by decide +kernel)
theorem tF933 : Cond.code yX8_odds cX8_odds 5 (some .int) ∈ vT := vt 933 (by decide +kernel) (by decide +kernel)
theorem tF940 : Cond.code yX8_rate cX8_rate 5 (some .int) ∈ vT := vt 940 (by decide +kernel) (by decide +kernel)
theorem tF950 : Cond.code yX8_keep cX8_keep 3 (some .int) ∈ vT := vt 950 (by decide +kernel) (by decide +kernel)
theorem tF954 : Cond.code yX8_back cX8_back 3 (some .int) ∈ vT := vt 954 (by decide +kernel) (by decide +kernel)
theorem tF962 : Cond.code yX8_roads cX8_roads 3 (some .int) ∈ vT := vt 962 (by decide +kernel) (by decide +kernel)
theorem tF958 : Cond.code yX8_count cX8_count 2 (some .int) ∈ vT := vt 958 (by decide +kernel) (by decide +kernel)
theorem tF966 : Cond.code yX8_trace cX8_trace 1 (some .long) ∈ vT := vt 966 (by decide +kernel) (by decide +kernel)
theorem tF584 : Cond.code yJ6_bitCount_0f7a4 cJ6_bitCount_0f7a4 1 (some .int) ∈ vT := vt 584 (by decide +kernel) (by decide +kernel)
theorem tF13 : Cond.initialized "java/lang/Integer" ∈ vT := vt 13 (by decide +kernel) (by decide +kernel)
theorem tF280 : Cond.code yJ7_fill_53178 cJ7_fill_53178 4 none ∈ vT := vt 280 (by decide +kernel) (by decide +kernel)
theorem tF10 : Cond.initialized "java/util/Arrays" ∈ vT := vt 10 (by decide +kernel) (by decide +kernel)
theorem tF183 : Cond.methodLink RX0 3 Lib.objectInit ∈ vT := vt 183 (by decide +kernel) (by decide +kernel)
theorem tF20 : Cond.instanceMethod Lib.objectInit ∈ vT := vt 20 (by decide +kernel) (by decide +kernel)
theorem tF21 : Cond.code Lib.objectInit ⟨#[0xb1]⟩ 1 none ∈ vT := vt 21 (by decide +kernel) (by decide +kernel)
theorem tF51 : Cond.arrayClass (newarray.typeOf .int) ∈ vT := vt 51 (by decide +kernel) (by decide +kernel)
theorem tF184 : Cond.fieldLink RX0 9 "BellLots$Finds" "bell" "[I" ∈ vT := vt 184 (by decide +kernel) (by decide +kernel)
theorem tF185 : Cond.fieldLink RX0 15 "BellLots$Finds" "town" "[I" ∈ vT := vt 185 (by decide +kernel) (by decide +kernel)
theorem tF186 : Cond.fieldLink RX0 18 "BellLots$Finds" "size" "I" ∈ vT := vt 186 (by decide +kernel) (by decide +kernel)
theorem tN560 : Cond.methodLinkNest RX0 22 yX7_put "BellLots" ∈ vNs := vn 560 (by decide +kernel) (by decide +kernel)
theorem tF256 : Cond.static yX7_put ∈ vT := vt 256 (by decide +kernel) (by decide +kernel)
theorem tF202 : Cond.fieldLink RX0 26 "BellLots$Lot" "from" "[I" ∈ vT := vt 202 (by decide +kernel) (by decide +kernel)
theorem tN573 : Cond.methodLinkNest RX0 31 yX7_at "BellLots" ∈ vNs := vn 573 (by decide +kernel) (by decide +kernel)
theorem tF286 : Cond.static yX7_at ∈ vT := vt 286 (by decide +kernel) (by decide +kernel)
theorem tF121 : Cond.fieldLink RX0 35 "BellLots$Hanging" "bellIn" "[I" ∈ vT := vt 121 (by decide +kernel) (by decide +kernel)
theorem tF115 : Cond.methodLink RX1 3 Lib.objectInit ∈ vT := vt 115 (by decide +kernel) (by decide +kernel)
theorem tF120 : Cond.fieldLink RX1 9 "BellLots$Hanging" "bellIn" "[I" ∈ vT := vt 120 (by decide +kernel) (by decide +kernel)
theorem tF123 : Cond.fieldLink RX1 15 "BellLots$Hanging" "bears" "[I" ∈ vT := vt 123 (by decide +kernel) (by decide +kernel)
theorem tF125 : Cond.fieldLink RX1 18 "BellLots$Hanging" "oathIs" "[I" ∈ vT := vt 125 (by decide +kernel) (by decide +kernel)
theorem tF127 : Cond.fieldLink RX1 21 "BellLots$Hanging" "struck" "[I" ∈ vT := vt 127 (by decide +kernel) (by decide +kernel)
theorem tF116 : Cond.fieldLink RX1 24 "BellLots$Hanging" "term" "I" ∈ vT := vt 116 (by decide +kernel) (by decide +kernel)
theorem tF118 : Cond.fieldLink RX1 28 "BellLots$Hanging" "cuts" "I" ∈ vT := vt 118 (by decide +kernel) (by decide +kernel)
theorem tF69 : Cond.fieldLink RX1 31 "BellLots$Told" "tower" "[I" ∈ vT := vt 69 (by decide +kernel) (by decide +kernel)
theorem tF355 : Cond.methodLink RX1 36 arraycopyName ∈ vT := vt 355 (by decide +kernel) (by decide +kernel)
theorem tF357 : Cond.native arraycopyName ∈ vT := vt 357 (by decide +kernel) (by decide +kernel)
theorem tF356 : Cond.static arraycopyName ∈ vT := vt 356 (by decide +kernel) (by decide +kernel)
theorem tF12 : Cond.initialized "java/lang/System" ∈ vT := vt 12 (by decide +kernel) (by decide +kernel)
theorem tF358 : Cond.methodLink RX1 42 yJ7_fill_53178 ∈ vT := vt 358 (by decide +kernel) (by decide +kernel)
theorem tF279 : Cond.static yJ7_fill_53178 ∈ vT := vt 279 (by decide +kernel) (by decide +kernel)
theorem tN406 : Cond.methodLinkNest RX1 48 yX7_at "BellLots" ∈ vNs := vn 406 (by decide +kernel) (by decide +kernel)
theorem tF71 : Cond.fieldLink RX1 52 "BellLots$Told" "weight" "[I" ∈ vT := vt 71 (by decide +kernel) (by decide +kernel)
theorem tF442 : Cond.methodLink RX1 55 yX1_judgeOaths ∈ vT := vt 442 (by decide +kernel) (by decide +kernel)
theorem tF444 : Cond.instanceMethod yX1_judgeOaths ∈ vT := vt 444 (by decide +kernel) (by decide +kernel)
theorem tS13 : Cond.selects yX1_judgeOaths.cls yX1_judgeOaths yX1_judgeOaths ∈ vT := vsl 13 (by decide +kernel) (by decide +kernel)
theorem tF59 : Cond.fieldLink RX1 59 "BellLots$Told" "towns" "I" ∈ vT := vt 59 (by decide +kernel) (by decide +kernel)
theorem tN447 : Cond.methodLinkNest RX1 62 yX7_pair "BellLots" ∈ vNs := vn 447 (by decide +kernel) (by decide +kernel)
theorem tF332 : Cond.static yX7_pair ∈ vT := vt 332 (by decide +kernel) (by decide +kernel)
theorem tN446 : Cond.methodLinkNest RX1 66 yX7_put "BellLots" ∈ vNs := vn 446 (by decide +kernel) (by decide +kernel)
theorem tF448 : Cond.methodLink RX1 70 yX3_drawBy ∈ vT := vt 448 (by decide +kernel) (by decide +kernel)
theorem tF449 : Cond.instanceMethod yX3_drawBy ∈ vT := vt 449 (by decide +kernel) (by decide +kernel)
theorem tF450 : Cond.selects yX3_drawBy.cls yX3_drawBy yX3_drawBy ∈ vT := vt 450 (by decide +kernel) (by decide +kernel)
theorem tF463 : Cond.methodLink RX1 76 yX3_carry ∈ vT := vt 463 (by decide +kernel) (by decide +kernel)
theorem tF464 : Cond.instanceMethod yX3_carry ∈ vT := vt 464 (by decide +kernel) (by decide +kernel)
theorem tF465 : Cond.selects yX3_carry.cls yX3_carry yX3_carry ∈ vT := vt 465 (by decide +kernel) (by decide +kernel)
theorem tF469 : Cond.methodLink RX1 80 yX1_cutTowers ∈ vT := vt 469 (by decide +kernel) (by decide +kernel)
theorem tF470 : Cond.instanceMethod yX1_cutTowers ∈ vT := vt 470 (by decide +kernel) (by decide +kernel)
theorem tF471 : Cond.selects yX1_cutTowers.cls yX1_cutTowers yX1_cutTowers ∈ vT := vt 471 (by decide +kernel) (by decide +kernel)
theorem tF66 : Cond.fieldLink RX1 84 "BellLots$Told" "oaths" "I" ∈ vT := vt 66 (by decide +kernel) (by decide +kernel)
theorem tF85 : Cond.fieldLink RX1 87 "BellLots$Told" "oathTerm" "[I" ∈ vT := vt 85 (by decide +kernel) (by decide +kernel)
theorem tF82 : Cond.fieldLink RX1 90 "BellLots$Told" "oathTown" "[I" ∈ vT := vt 82 (by decide +kernel) (by decide +kernel)
theorem tF79 : Cond.fieldLink RX1 93 "BellLots$Told" "oathBell" "[I" ∈ vT := vt 79 (by decide +kernel) (by decide +kernel)
theorem tF473 : Cond.methodLink RX1 96 yX1_bearsBell ∈ vT := vt 473 (by decide +kernel) (by decide +kernel)
theorem tF403 : Cond.instanceMethod yX1_bearsBell ∈ vT := vt 403 (by decide +kernel) (by decide +kernel)
theorem tF404 : Cond.selects yX1_bearsBell.cls yX1_bearsBell yX1_bearsBell ∈ vT := vt 404 (by decide +kernel) (by decide +kernel)
theorem tF167 : Cond.methodLink RX2 3 Lib.objectInit ∈ vT := vt 167 (by decide +kernel) (by decide +kernel)
theorem tF168 : Cond.classLink RX2 9 RX1 ∈ vT := vt 168 (by decide +kernel) (by decide +kernel)
theorem tF170 : Cond.fieldLink RX2 11 "BellLots$Images" "row" "[LBellLots$Hanging;" ∈ vT := vt 170 (by decide +kernel) (by decide +kernel)
theorem tF177 : Cond.arrayClass (newarray.typeOf .boolean) ∈ vT := vt 177 (by decide +kernel) (by decide +kernel)
theorem tF171 : Cond.fieldLink RX2 17 "BellLots$Images" "kept" "[Z" ∈ vT := vt 171 (by decide +kernel) (by decide +kernel)
theorem tF111 : Cond.instantiable RX1 6 ∈ vT := vt 111 (by decide +kernel) (by decide +kernel)
theorem tN169 : Cond.methodLinkNest RX2 21 yX1_init "BellLots" ∈ vNs := vn 169 (by decide +kernel) (by decide +kernel)
theorem tF113 : Cond.instanceMethod yX1_init ∈ vT := vt 113 (by decide +kernel) (by decide +kernel)
theorem tN639 : Cond.methodLinkNest RX2 22 yX7_within "BellLots" ∈ vNs := vn 639 (by decide +kernel) (by decide +kernel)
theorem tF249 : Cond.static yX7_within ∈ vT := vt 249 (by decide +kernel) (by decide +kernel)
theorem tF640 : Cond.methodLink RX2 26 yX1_copyFrom ∈ vT := vt 640 (by decide +kernel) (by decide +kernel)
theorem tF435 : Cond.instanceMethod yX1_copyFrom ∈ vT := vt 435 (by decide +kernel) (by decide +kernel)
theorem tF436 : Cond.selects yX1_copyFrom.cls yX1_copyFrom yX1_copyFrom ∈ vT := vt 436 (by decide +kernel) (by decide +kernel)
theorem tF200 : Cond.methodLink RX3 3 Lib.objectInit ∈ vT := vt 200 (by decide +kernel) (by decide +kernel)
theorem tF201 : Cond.fieldLink RX3 9 "BellLots$Lot" "from" "[I" ∈ vT := vt 201 (by decide +kernel) (by decide +kernel)
theorem tF204 : Cond.fieldLink RX3 15 "BellLots$Lot" "carried" "[I" ∈ vT := vt 204 (by decide +kernel) (by decide +kernel)
theorem tF205 : Cond.fieldLink RX3 18 "BellLots$Lot" "undrawn" "I" ∈ vT := vt 205 (by decide +kernel) (by decide +kernel)
theorem tF452 : Cond.methodLink RX3 22 yX3_numberDrawn ∈ vT := vt 452 (by decide +kernel) (by decide +kernel)
theorem tF453 : Cond.static yX3_numberDrawn ∈ vT := vt 453 (by decide +kernel) (by decide +kernel)
theorem tF459 : Cond.methodLink RX3 26 yX3_takeUndrawn ∈ vT := vt 459 (by decide +kernel) (by decide +kernel)
theorem tF461 : Cond.instanceMethod yX3_takeUndrawn ∈ vT := vt 461 (by decide +kernel) (by decide +kernel)
theorem tS14 : Cond.selects yX3_takeUndrawn.cls yX3_takeUndrawn yX3_takeUndrawn ∈ vT := vsl 14 (by decide +kernel) (by decide +kernel)
theorem tF455 : Cond.constantLong RX3 30 (lN 7919) ∈ vT := vt 455 (by decide +kernel) (by decide +kernel)
theorem tF456 : Cond.constantLong RX3 32 (lN 6151) ∈ vT := vt 456 (by decide +kernel) (by decide +kernel)
theorem tF457 : Cond.constantLong RX3 34 (lN 65521) ∈ vT := vt 457 (by decide +kernel) (by decide +kernel)
theorem tF458 : Cond.constantLong RX3 36 (lN 16) ∈ vT := vt 458 (by decide +kernel) (by decide +kernel)
theorem tN467 : Cond.methodLinkNest RX3 38 yX7_at "BellLots" ∈ vNs := vn 467 (by decide +kernel) (by decide +kernel)
theorem tN468 : Cond.methodLinkNest RX3 42 yX7_put "BellLots" ∈ vNs := vn 468 (by decide +kernel) (by decide +kernel)
theorem tF526 : Cond.methodLink RX3 46 yX3_ringLength ∈ vT := vt 526 (by decide +kernel) (by decide +kernel)
theorem tF528 : Cond.instanceMethod yX3_ringLength ∈ vT := vt 528 (by decide +kernel) (by decide +kernel)
theorem tS17 : Cond.selects yX3_ringLength.cls yX3_ringLength yX3_ringLength ∈ vT := vsl 17 (by decide +kernel) (by decide +kernel)
theorem tF530 : Cond.methodLink RX3 49 yX3_leastCommonMultiple ∈ vT := vt 530 (by decide +kernel) (by decide +kernel)
theorem tF531 : Cond.static yX3_leastCommonMultiple ∈ vT := vt 531 (by decide +kernel) (by decide +kernel)
theorem tN533 : Cond.methodLinkNest RX3 52 yX7_commonDivisor "BellLots" ∈ vNs := vn 533 (by decide +kernel) (by decide +kernel)
theorem tF534 : Cond.static yX7_commonDivisor ∈ vT := vt 534 (by decide +kernel) (by decide +kernel)
theorem tF147 : Cond.methodLink RX4 3 Lib.objectInit ∈ vT := vt 147 (by decide +kernel) (by decide +kernel)
theorem tF148 : Cond.classLink RX4 9 RX1 ∈ vT := vt 148 (by decide +kernel) (by decide +kernel)
theorem tF151 : Cond.fieldLink RX4 11 "BellLots$Past" "ring" "[LBellLots$Hanging;" ∈ vT := vt 151 (by decide +kernel) (by decide +kernel)
theorem tN150 : Cond.methodLinkNest RX4 17 yX1_init "BellLots" ∈ vNs := vn 150 (by decide +kernel) (by decide +kernel)
theorem tF153 : Cond.fieldLink RX4 18 "BellLots$Past" "known" "I" ∈ vT := vt 153 (by decide +kernel) (by decide +kernel)
theorem tF152 : Cond.fieldLink RX4 22 "BellLots$Past" "newest" "I" ∈ vT := vt 152 (by decide +kernel) (by decide +kernel)
theorem tF432 : Cond.methodLink RX4 25 Lib.Math.min.name ∈ vT := vt 432 (by decide +kernel) (by decide +kernel)
theorem tF296 : Cond.static Lib.Math.min.name ∈ vT := vt 296 (by decide +kernel) (by decide +kernel)
theorem tF11 : Cond.initialized "java/lang/Math" ∈ vT := vt 11 (by decide +kernel) (by decide +kernel)
theorem tF297 : Cond.code Lib.Math.min.name Lib.Math.min.code 2 (some .int) ∈ vT := vt 297 (by decide +kernel) (by decide +kernel)
theorem tN433 : Cond.methodLinkNest RX4 31 yX7_within "BellLots" ∈ vNs := vn 433 (by decide +kernel) (by decide +kernel)
theorem tF434 : Cond.methodLink RX4 35 yX1_copyFrom ∈ vT := vt 434 (by decide +kernel) (by decide +kernel)
theorem tF27 : Cond.methodLink RX5 3 Lib.objectInit ∈ vT := vt 27 (by decide +kernel) (by decide +kernel)
theorem tF28 : Cond.fieldLink RX5 9 "BellLots$Text" "letters" "[I" ∈ vT := vt 28 (by decide +kernel) (by decide +kernel)
theorem tF31 : Cond.fieldLink RX5 15 "BellLots$Text" "numbers" "[I" ∈ vT := vt 31 (by decide +kernel) (by decide +kernel)
theorem tF29 : Cond.fieldLink RX5 18 "BellLots$Text" "length" "I" ∈ vT := vt 29 (by decide +kernel) (by decide +kernel)
theorem tN255 : Cond.methodLinkNest RX5 22 yX7_put "BellLots" ∈ vNs := vn 255 (by decide +kernel) (by decide +kernel)
theorem tF274 : Cond.methodLink RX5 26 yX6_empty ∈ vT := vt 274 (by decide +kernel) (by decide +kernel)
theorem tF275 : Cond.instanceMethod yX6_empty ∈ vT := vt 275 (by decide +kernel) (by decide +kernel)
theorem tF276 : Cond.selects yX6_empty.cls yX6_empty yX6_empty ∈ vT := vt 276 (by decide +kernel) (by decide +kernel)
theorem tF32 : Cond.fieldLink RX5 31 "BellLots$Text" "place" "I" ∈ vT := vt 32 (by decide +kernel) (by decide +kernel)
theorem tF281 : Cond.methodLink RX5 34 yX5_nextToken ∈ vT := vt 281 (by decide +kernel) (by decide +kernel)
theorem tF283 : Cond.instanceMethod yX5_nextToken ∈ vT := vt 283 (by decide +kernel) (by decide +kernel)
theorem tS0 : Cond.selects yX5_nextToken.cls yX5_nextToken yX5_nextToken ∈ vT := vsl 0 (by decide +kernel) (by decide +kernel)
theorem tF34 : Cond.fieldLink RX5 37 "BellLots$Text" "kind" "I" ∈ vT := vt 34 (by decide +kernel) (by decide +kernel)
theorem tF298 : Cond.methodLink RX5 40 yX5_readItem ∈ vT := vt 298 (by decide +kernel) (by decide +kernel)
theorem tF300 : Cond.instanceMethod yX5_readItem ∈ vT := vt 300 (by decide +kernel) (by decide +kernel)
theorem tS2 : Cond.selects yX5_readItem.cls yX5_readItem yX5_readItem ∈ vT := vsl 2 (by decide +kernel) (by decide +kernel)
theorem tF33 : Cond.fieldLink RX5 44 "BellLots$Text" "start" "I" ∈ vT := vt 33 (by decide +kernel) (by decide +kernel)
theorem tF302 : Cond.methodLink RX5 47 yX5_mayBegin ∈ vT := vt 302 (by decide +kernel) (by decide +kernel)
theorem tF303 : Cond.static yX5_mayBegin ∈ vT := vt 303 (by decide +kernel) (by decide +kernel)
theorem tF305 : Cond.methodLink RX5 51 yX5_mayStand ∈ vT := vt 305 (by decide +kernel) (by decide +kernel)
theorem tF307 : Cond.instanceMethod yX5_mayStand ∈ vT := vt 307 (by decide +kernel) (by decide +kernel)
theorem tS3 : Cond.selects yX5_mayStand.cls yX5_mayStand yX5_mayStand ∈ vT := vsl 3 (by decide +kernel) (by decide +kernel)
theorem tF35 : Cond.fieldLink RX5 55 "BellLots$Text" "value" "I" ∈ vT := vt 35 (by decide +kernel) (by decide +kernel)
theorem tF315 : Cond.methodLink RX5 58 yX6_add ∈ vT := vt 315 (by decide +kernel) (by decide +kernel)
theorem tF316 : Cond.instanceMethod yX6_add ∈ vT := vt 316 (by decide +kernel) (by decide +kernel)
theorem tF317 : Cond.selects yX6_add.cls yX6_add yX6_add ∈ vT := vt 317 (by decide +kernel) (by decide +kernel)
theorem tF60 : Cond.fieldLink RX5 62 "BellLots$Told" "towns" "I" ∈ vT := vt 60 (by decide +kernel) (by decide +kernel)
theorem tF65 : Cond.fieldLink RX5 65 "BellLots$Told" "oaths" "I" ∈ vT := vt 65 (by decide +kernel) (by decide +kernel)
theorem tN309 : Cond.methodLinkNest RX5 68 yX7_within "BellLots" ∈ vNs := vn 309 (by decide +kernel) (by decide +kernel)
theorem tF310 : Cond.methodLink RX5 72 yX6_hasTown ∈ vT := vt 310 (by decide +kernel) (by decide +kernel)
theorem tF311 : Cond.instanceMethod yX6_hasTown ∈ vT := vt 311 (by decide +kernel) (by decide +kernel)
theorem tF312 : Cond.selects yX6_hasTown.cls yX6_hasTown yX6_hasTown ∈ vT := vt 312 (by decide +kernel) (by decide +kernel)
theorem tN285 : Cond.methodLinkNest RX5 76 yX7_at "BellLots" ∈ vNs := vn 285 (by decide +kernel) (by decide +kernel)
theorem tF288 : Cond.methodLink RX5 80 yX5_isDigit ∈ vT := vt 288 (by decide +kernel) (by decide +kernel)
theorem tF289 : Cond.static yX5_isDigit ∈ vT := vt 289 (by decide +kernel) (by decide +kernel)
theorem tF291 : Cond.methodLink RX5 83 yX5_readNumber ∈ vT := vt 291 (by decide +kernel) (by decide +kernel)
theorem tF293 : Cond.instanceMethod yX5_readNumber ∈ vT := vt 293 (by decide +kernel) (by decide +kernel)
theorem tS1 : Cond.selects yX5_readNumber.cls yX5_readNumber yX5_readNumber ∈ vT := vsl 1 (by decide +kernel) (by decide +kernel)
theorem tF295 : Cond.methodLink RX5 86 Lib.Math.min.name ∈ vT := vt 295 (by decide +kernel) (by decide +kernel)
theorem tF57 : Cond.methodLink RX6 3 Lib.objectInit ∈ vT := vt 57 (by decide +kernel) (by decide +kernel)
theorem tF68 : Cond.fieldLink RX6 9 "BellLots$Told" "tower" "[I" ∈ vT := vt 68 (by decide +kernel) (by decide +kernel)
theorem tF70 : Cond.fieldLink RX6 15 "BellLots$Told" "weight" "[I" ∈ vT := vt 70 (by decide +kernel) (by decide +kernel)
theorem tF73 : Cond.fieldLink RX6 18 "BellLots$Told" "note" "[I" ∈ vT := vt 73 (by decide +kernel) (by decide +kernel)
theorem tF75 : Cond.fieldLink RX6 21 "BellLots$Told" "toll" "[I" ∈ vT := vt 75 (by decide +kernel) (by decide +kernel)
theorem tF77 : Cond.fieldLink RX6 24 "BellLots$Told" "way" "[I" ∈ vT := vt 77 (by decide +kernel) (by decide +kernel)
theorem tF78 : Cond.fieldLink RX6 27 "BellLots$Told" "oathBell" "[I" ∈ vT := vt 78 (by decide +kernel) (by decide +kernel)
theorem tF81 : Cond.fieldLink RX6 30 "BellLots$Told" "oathTown" "[I" ∈ vT := vt 81 (by decide +kernel) (by decide +kernel)
theorem tF84 : Cond.fieldLink RX6 33 "BellLots$Told" "oathTerm" "[I" ∈ vT := vt 84 (by decide +kernel) (by decide +kernel)
theorem tF58 : Cond.fieldLink RX6 36 "BellLots$Told" "towns" "I" ∈ vT := vt 58 (by decide +kernel) (by decide +kernel)
theorem tF62 : Cond.fieldLink RX6 40 "BellLots$Told" "roads" "I" ∈ vT := vt 62 (by decide +kernel) (by decide +kernel)
theorem tF64 : Cond.fieldLink RX6 43 "BellLots$Told" "oaths" "I" ∈ vT := vt 64 (by decide +kernel) (by decide +kernel)
theorem tF278 : Cond.methodLink RX6 46 yJ7_fill_53178 ∈ vT := vt 278 (by decide +kernel) (by decide +kernel)
theorem tN314 : Cond.methodLinkNest RX6 52 yX7_within "BellLots" ∈ vNs := vn 314 (by decide +kernel) (by decide +kernel)
theorem tF319 : Cond.methodLink RX6 56 yX6_addTown ∈ vT := vt 319 (by decide +kernel) (by decide +kernel)
theorem tF321 : Cond.instanceMethod yX6_addTown ∈ vT := vt 321 (by decide +kernel) (by decide +kernel)
theorem tS4 : Cond.selects yX6_addTown.cls yX6_addTown yX6_addTown ∈ vT := vsl 4 (by decide +kernel) (by decide +kernel)
theorem tF327 : Cond.methodLink RX6 60 yX6_addRoad ∈ vT := vt 327 (by decide +kernel) (by decide +kernel)
theorem tF329 : Cond.instanceMethod yX6_addRoad ∈ vT := vt 329 (by decide +kernel) (by decide +kernel)
theorem tS5 : Cond.selects yX6_addRoad.cls yX6_addRoad yX6_addRoad ∈ vT := vsl 5 (by decide +kernel) (by decide +kernel)
theorem tF335 : Cond.methodLink RX6 63 yX6_addOath ∈ vT := vt 335 (by decide +kernel) (by decide +kernel)
theorem tF337 : Cond.instanceMethod yX6_addOath ∈ vT := vt 337 (by decide +kernel) (by decide +kernel)
theorem tS6 : Cond.selects yX6_addOath.cls yX6_addOath yX6_addOath ∈ vT := vsl 6 (by decide +kernel) (by decide +kernel)
theorem tF323 : Cond.methodLink RX6 66 Lib.Math.max.name ∈ vT := vt 323 (by decide +kernel) (by decide +kernel)
theorem tF324 : Cond.static Lib.Math.max.name ∈ vT := vt 324 (by decide +kernel) (by decide +kernel)
theorem tF325 : Cond.code Lib.Math.max.name Lib.Math.max.code 2 (some .int) ∈ vT := vt 325 (by decide +kernel) (by decide +kernel)
theorem tN326 : Cond.methodLinkNest RX6 72 yX7_put "BellLots" ∈ vNs := vn 326 (by decide +kernel) (by decide +kernel)
theorem tN331 : Cond.methodLinkNest RX6 76 yX7_pair "BellLots" ∈ vNs := vn 331 (by decide +kernel) (by decide +kernel)
theorem tN334 : Cond.methodLinkNest RX6 79 yX7_at "BellLots" ∈ vNs := vn 334 (by decide +kernel) (by decide +kernel)
theorem tF343 : Cond.methodLink RX6 83 yX6_shortenWays ∈ vT := vt 343 (by decide +kernel) (by decide +kernel)
theorem tF345 : Cond.instanceMethod yX6_shortenWays ∈ vT := vt 345 (by decide +kernel) (by decide +kernel)
theorem tS7 : Cond.selects yX6_shortenWays.cls yX6_shortenWays yX6_shortenWays ∈ vT := vsl 7 (by decide +kernel) (by decide +kernel)
theorem tF347 : Cond.methodLink RX6 87 yX6_wayBetween ∈ vT := vt 347 (by decide +kernel) (by decide +kernel)
theorem tF348 : Cond.instanceMethod yX6_wayBetween ∈ vT := vt 348 (by decide +kernel) (by decide +kernel)
theorem tF349 : Cond.selects yX6_wayBetween.cls yX6_wayBetween yX6_wayBetween ∈ vT := vt 349 (by decide +kernel) (by decide +kernel)
theorem tF19 : Cond.methodLink RX7 1 Lib.objectInit ∈ vT := vt 19 (by decide +kernel) (by decide +kernel)
theorem tF22 : Cond.classLink RX7 7 RX5 ∈ vT := vt 22 (by decide +kernel) (by decide +kernel)
theorem tF23 : Cond.instantiable RX5 7 ∈ vT := vt 23 (by decide +kernel) (by decide +kernel)
theorem tN24 : Cond.methodLinkNest RX7 9 yX5_init "BellLots" ∈ vNs := vn 24 (by decide +kernel) (by decide +kernel)
theorem tF25 : Cond.instanceMethod yX5_init ∈ vT := vt 25 (by decide +kernel) (by decide +kernel)
theorem tF213 : Cond.fieldLink RX7 10 "BellLots" "text" "LBellLots$Text;" ∈ vT := vt 213 (by decide +kernel) (by decide +kernel)
theorem tF52 : Cond.classLink RX7 16 RX6 ∈ vT := vt 52 (by decide +kernel) (by decide +kernel)
theorem tF53 : Cond.instantiable RX6 11 ∈ vT := vt 53 (by decide +kernel) (by decide +kernel)
theorem tN54 : Cond.methodLinkNest RX7 18 yX6_init "BellLots" ∈ vNs := vn 54 (by decide +kernel) (by decide +kernel)
theorem tF55 : Cond.instanceMethod yX6_init ∈ vT := vt 55 (by decide +kernel) (by decide +kernel)
theorem tF214 : Cond.fieldLink RX7 19 "BellLots" "told" "LBellLots$Told;" ∈ vT := vt 214 (by decide +kernel) (by decide +kernel)
theorem tF215 : Cond.fieldLink RX7 23 "BellLots" "spare" "LBellLots$Told;" ∈ vT := vt 215 (by decide +kernel) (by decide +kernel)
theorem tF110 : Cond.classLink RX7 26 RX1 ∈ vT := vt 110 (by decide +kernel) (by decide +kernel)
theorem tN112 : Cond.methodLinkNest RX7 28 yX1_init "BellLots" ∈ vNs := vn 112 (by decide +kernel) (by decide +kernel)
theorem tF216 : Cond.fieldLink RX7 29 "BellLots" "hanging" "LBellLots$Hanging;" ∈ vT := vt 216 (by decide +kernel) (by decide +kernel)
theorem tF217 : Cond.fieldLink RX7 33 "BellLots" "trial" "LBellLots$Hanging;" ∈ vT := vt 217 (by decide +kernel) (by decide +kernel)
theorem tF142 : Cond.classLink RX7 36 RX4 ∈ vT := vt 142 (by decide +kernel) (by decide +kernel)
theorem tF143 : Cond.instantiable RX4 3 ∈ vT := vt 143 (by decide +kernel) (by decide +kernel)
theorem tF144 : Cond.methodLink RX7 38 yX4_init ∈ vT := vt 144 (by decide +kernel) (by decide +kernel)
theorem tF145 : Cond.instanceMethod yX4_init ∈ vT := vt 145 (by decide +kernel) (by decide +kernel)
theorem tF218 : Cond.fieldLink RX7 39 "BellLots" "past" "LBellLots$Past;" ∈ vT := vt 218 (by decide +kernel) (by decide +kernel)
theorem tF162 : Cond.classLink RX7 43 RX2 ∈ vT := vt 162 (by decide +kernel) (by decide +kernel)
theorem tF163 : Cond.instantiable RX2 2 ∈ vT := vt 163 (by decide +kernel) (by decide +kernel)
theorem tF164 : Cond.methodLink RX7 45 yX2_init ∈ vT := vt 164 (by decide +kernel) (by decide +kernel)
theorem tF165 : Cond.instanceMethod yX2_init ∈ vT := vt 165 (by decide +kernel) (by decide +kernel)
theorem tF219 : Cond.fieldLink RX7 46 "BellLots" "images" "LBellLots$Images;" ∈ vT := vt 219 (by decide +kernel) (by decide +kernel)
theorem tF178 : Cond.classLink RX7 50 RX0 ∈ vT := vt 178 (by decide +kernel) (by decide +kernel)
theorem tF179 : Cond.instantiable RX0 3 ∈ vT := vt 179 (by decide +kernel) (by decide +kernel)
theorem tN180 : Cond.methodLinkNest RX7 52 yX0_init "BellLots" ∈ vNs := vn 180 (by decide +kernel) (by decide +kernel)
theorem tF181 : Cond.instanceMethod yX0_init ∈ vT := vt 181 (by decide +kernel) (by decide +kernel)
theorem tF220 : Cond.fieldLink RX7 53 "BellLots" "finds" "LBellLots$Finds;" ∈ vT := vt 220 (by decide +kernel) (by decide +kernel)
theorem tF195 : Cond.classLink RX7 57 RX3 ∈ vT := vt 195 (by decide +kernel) (by decide +kernel)
theorem tF196 : Cond.instantiable RX3 3 ∈ vT := vt 196 (by decide +kernel) (by decide +kernel)
theorem tN197 : Cond.methodLinkNest RX7 59 yX3_init "BellLots" ∈ vNs := vn 197 (by decide +kernel) (by decide +kernel)
theorem tF198 : Cond.instanceMethod yX3_init ∈ vT := vt 198 (by decide +kernel) (by decide +kernel)
theorem tF221 : Cond.fieldLink RX7 60 "BellLots" "lot" "LBellLots$Lot;" ∈ vT := vt 221 (by decide +kernel) (by decide +kernel)
theorem tF248 : Cond.methodLink RX7 64 yX7_within ∈ vT := vt 248 (by decide +kernel) (by decide +kernel)
theorem tF251 : Cond.methodLink RX7 68 yX5_append ∈ vT := vt 251 (by decide +kernel) (by decide +kernel)
theorem tF252 : Cond.instanceMethod yX5_append ∈ vT := vt 252 (by decide +kernel) (by decide +kernel)
theorem tF253 : Cond.selects yX5_append.cls yX5_append yX5_append ∈ vT := vt 253 (by decide +kernel) (by decide +kernel)
theorem tF30 : Cond.fieldLink RX7 72 "BellLots$Text" "length" "I" ∈ vT := vt 30 (by decide +kernel) (by decide +kernel)
theorem tF262 : Cond.methodLink RX7 76 yX5_empty ∈ vT := vt 262 (by decide +kernel) (by decide +kernel)
theorem tF263 : Cond.instanceMethod yX5_empty ∈ vT := vt 263 (by decide +kernel) (by decide +kernel)
theorem tF264 : Cond.selects yX5_empty.cls yX5_empty yX5_empty ∈ vT := vt 264 (by decide +kernel) (by decide +kernel)
theorem tF270 : Cond.methodLink RX7 80 yX5_readInto ∈ vT := vt 270 (by decide +kernel) (by decide +kernel)
theorem tF271 : Cond.instanceMethod yX5_readInto ∈ vT := vt 271 (by decide +kernel) (by decide +kernel)
theorem tF272 : Cond.selects yX5_readInto.cls yX5_readInto yX5_readInto ∈ vT := vt 272 (by decide +kernel) (by decide +kernel)
theorem tF339 : Cond.methodLink RX7 84 yX6_measureWays ∈ vT := vt 339 (by decide +kernel) (by decide +kernel)
theorem tF340 : Cond.instanceMethod yX6_measureWays ∈ vT := vt 340 (by decide +kernel) (by decide +kernel)
theorem tF341 : Cond.selects yX6_measureWays.cls yX6_measureWays yX6_measureWays ∈ vT := vt 341 (by decide +kernel) (by decide +kernel)
theorem tF351 : Cond.methodLink RX7 87 yX1_begin ∈ vT := vt 351 (by decide +kernel) (by decide +kernel)
theorem tF352 : Cond.instanceMethod yX1_begin ∈ vT := vt 352 (by decide +kernel) (by decide +kernel)
theorem tF353 : Cond.selects yX1_begin.cls yX1_begin yX1_begin ∈ vT := vt 353 (by decide +kernel) (by decide +kernel)
theorem tF359 : Cond.methodLink RX7 91 yX4_empty ∈ vT := vt 359 (by decide +kernel) (by decide +kernel)
theorem tF360 : Cond.instanceMethod yX4_empty ∈ vT := vt 360 (by decide +kernel) (by decide +kernel)
theorem tF361 : Cond.selects yX4_empty.cls yX4_empty yX4_empty ∈ vT := vt 361 (by decide +kernel) (by decide +kernel)
theorem tF363 : Cond.methodLink RX7 93 yX2_empty ∈ vT := vt 363 (by decide +kernel) (by decide +kernel)
theorem tF364 : Cond.instanceMethod yX2_empty ∈ vT := vt 364 (by decide +kernel) (by decide +kernel)
theorem tF365 : Cond.selects yX2_empty.cls yX2_empty yX2_empty ∈ vT := vt 365 (by decide +kernel) (by decide +kernel)
theorem tF367 : Cond.methodLink RX7 94 yX0_empty ∈ vT := vt 367 (by decide +kernel) (by decide +kernel)
theorem tF368 : Cond.instanceMethod yX0_empty ∈ vT := vt 368 (by decide +kernel) (by decide +kernel)
theorem tF369 : Cond.selects yX0_empty.cls yX0_empty yX0_empty ∈ vT := vt 369 (by decide +kernel) (by decide +kernel)
theorem tF375 : Cond.methodLink RX7 95 yX6_hasTown ∈ vT := vt 375 (by decide +kernel) (by decide +kernel)
theorem tF124 : Cond.fieldLink RX7 98 "BellLots$Hanging" "bears" "[I" ∈ vT := vt 124 (by decide +kernel) (by decide +kernel)
theorem tF376 : Cond.methodLink RX7 102 yX7_at ∈ vT := vt 376 (by decide +kernel) (by decide +kernel)
theorem tF122 : Cond.fieldLink RX7 106 "BellLots$Hanging" "bellIn" "[I" ∈ vT := vt 122 (by decide +kernel) (by decide +kernel)
theorem tF377 : Cond.methodLink RX7 109 yX1_townOf ∈ vT := vt 377 (by decide +kernel) (by decide +kernel)
theorem tF378 : Cond.instanceMethod yX1_townOf ∈ vT := vt 378 (by decide +kernel) (by decide +kernel)
theorem tF379 : Cond.selects yX1_townOf.cls yX1_townOf yX1_townOf ∈ vT := vt 379 (by decide +kernel) (by decide +kernel)
theorem tF381 : Cond.methodLink RX7 113 yX7_dumbTowns ∈ vT := vt 381 (by decide +kernel) (by decide +kernel)
theorem tF383 : Cond.instanceMethod yX7_dumbTowns ∈ vT := vt 383 (by decide +kernel) (by decide +kernel)
theorem tS8 : Cond.selects yX7_dumbTowns.cls yX7_dumbTowns yX7_dumbTowns ∈ vT := vsl 8 (by decide +kernel) (by decide +kernel)
theorem tF72 : Cond.fieldLink RX7 116 "BellLots$Told" "weight" "[I" ∈ vT := vt 72 (by decide +kernel) (by decide +kernel)
theorem tF74 : Cond.fieldLink RX7 119 "BellLots$Told" "note" "[I" ∈ vT := vt 74 (by decide +kernel) (by decide +kernel)
theorem tF398 : Cond.methodLink RX7 122 yX7_fitsOf ∈ vT := vt 398 (by decide +kernel) (by decide +kernel)
theorem tF400 : Cond.instanceMethod yX7_fitsOf ∈ vT := vt 400 (by decide +kernel) (by decide +kernel)
theorem tS11 : Cond.selects yX7_fitsOf.cls yX7_fitsOf yX7_fitsOf ∈ vT := vsl 11 (by decide +kernel) (by decide +kernel)
theorem tF411 : Cond.methodLink RX7 125 yX6_wayBetween ∈ vT := vt 411 (by decide +kernel) (by decide +kernel)
theorem tF67 : Cond.fieldLink RX7 129 "BellLots$Told" "oaths" "I" ∈ vT := vt 67 (by decide +kernel) (by decide +kernel)
theorem tF80 : Cond.fieldLink RX7 132 "BellLots$Told" "oathBell" "[I" ∈ vT := vt 80 (by decide +kernel) (by decide +kernel)
theorem tF83 : Cond.fieldLink RX7 135 "BellLots$Told" "oathTown" "[I" ∈ vT := vt 83 (by decide +kernel) (by decide +kernel)
theorem tF86 : Cond.fieldLink RX7 138 "BellLots$Told" "oathTerm" "[I" ∈ vT := vt 86 (by decide +kernel) (by decide +kernel)
theorem tF126 : Cond.fieldLink RX7 141 "BellLots$Hanging" "oathIs" "[I" ∈ vT := vt 126 (by decide +kernel) (by decide +kernel)
theorem tF117 : Cond.fieldLink RX7 144 "BellLots$Hanging" "term" "I" ∈ vT := vt 117 (by decide +kernel) (by decide +kernel)
theorem tF119 : Cond.fieldLink RX7 147 "BellLots$Hanging" "cuts" "I" ∈ vT := vt 119 (by decide +kernel) (by decide +kernel)
theorem tF420 : Cond.methodLink RX7 150 yX7_bellsAtHome ∈ vT := vt 420 (by decide +kernel) (by decide +kernel)
theorem tF422 : Cond.instanceMethod yX7_bellsAtHome ∈ vT := vt 422 (by decide +kernel) (by decide +kernel)
theorem tS12 : Cond.selects yX7_bellsAtHome.cls yX7_bellsAtHome yX7_bellsAtHome ∈ vT := vsl 12 (by decide +kernel) (by decide +kernel)
theorem tF154 : Cond.fieldLink RX7 153 "BellLots$Past" "known" "I" ∈ vT := vt 154 (by decide +kernel) (by decide +kernel)
theorem tF428 : Cond.methodLink RX7 156 yX4_remember ∈ vT := vt 428 (by decide +kernel) (by decide +kernel)
theorem tF429 : Cond.instanceMethod yX4_remember ∈ vT := vt 429 (by decide +kernel) (by decide +kernel)
theorem tF430 : Cond.selects yX4_remember.cls yX4_remember yX4_remember ∈ vT := vt 430 (by decide +kernel) (by decide +kernel)
theorem tF438 : Cond.methodLink RX7 160 yX1_passTerm ∈ vT := vt 438 (by decide +kernel) (by decide +kernel)
theorem tF439 : Cond.instanceMethod yX1_passTerm ∈ vT := vt 439 (by decide +kernel) (by decide +kernel)
theorem tF440 : Cond.selects yX1_passTerm.cls yX1_passTerm yX1_passTerm ∈ vT := vt 440 (by decide +kernel) (by decide +kernel)
theorem tF478 : Cond.methodLink RX7 164 yX7_put ∈ vT := vt 478 (by decide +kernel) (by decide +kernel)
theorem tF479 : Cond.methodLink RX7 168 yX1_cutTowers ∈ vT := vt 479 (by decide +kernel) (by decide +kernel)
theorem tF488 : Cond.methodLink RX7 171 yX4_recallInto ∈ vT := vt 488 (by decide +kernel) (by decide +kernel)
theorem tF489 : Cond.instanceMethod yX4_recallInto ∈ vT := vt 489 (by decide +kernel) (by decide +kernel)
theorem tF490 : Cond.selects yX4_recallInto.cls yX4_recallInto yX4_recallInto ∈ vT := vt 490 (by decide +kernel) (by decide +kernel)
theorem tF496 : Cond.methodLink RX7 175 yX1_copyFrom ∈ vT := vt 496 (by decide +kernel) (by decide +kernel)
theorem tF61 : Cond.fieldLink RX7 178 "BellLots$Told" "towns" "I" ∈ vT := vt 61 (by decide +kernel) (by decide +kernel)
theorem tF501 : Cond.methodLink RX7 181 yX3_drawBy ∈ vT := vt 501 (by decide +kernel) (by decide +kernel)
theorem tF203 : Cond.fieldLink RX7 185 "BellLots$Lot" "from" "[I" ∈ vT := vt 203 (by decide +kernel) (by decide +kernel)
theorem tF506 : Cond.methodLink RX7 188 yX7_rings ∈ vT := vt 506 (by decide +kernel) (by decide +kernel)
theorem tF508 : Cond.instanceMethod yX7_rings ∈ vT := vt 508 (by decide +kernel) (by decide +kernel)
theorem tS15 : Cond.selects yX7_rings.cls yX7_rings yX7_rings ∈ vT := vsl 15 (by decide +kernel) (by decide +kernel)
theorem tF510 : Cond.methodLink RX7 191 yX7_firstTradeHome ∈ vT := vt 510 (by decide +kernel) (by decide +kernel)
theorem tF512 : Cond.instanceMethod yX7_firstTradeHome ∈ vT := vt 512 (by decide +kernel) (by decide +kernel)
theorem tS16 : Cond.selects yX7_firstTradeHome.cls yX7_firstTradeHome yX7_firstTradeHome ∈ vT := vsl 16 (by decide +kernel) (by decide +kernel)
theorem tF522 : Cond.methodLink RX7 194 yX3_repeatsTillSame ∈ vT := vt 522 (by decide +kernel) (by decide +kernel)
theorem tF523 : Cond.instanceMethod yX3_repeatsTillSame ∈ vT := vt 523 (by decide +kernel) (by decide +kernel)
theorem tF524 : Cond.selects yX3_repeatsTillSame.cls yX3_repeatsTillSame yX3_repeatsTillSame ∈ vT := vt 524 (by decide +kernel) (by decide +kernel)
theorem tF540 : Cond.methodLink RX7 197 yX6_oathsCross ∈ vT := vt 540 (by decide +kernel) (by decide +kernel)
theorem tF541 : Cond.instanceMethod yX6_oathsCross ∈ vT := vt 541 (by decide +kernel) (by decide +kernel)
theorem tF542 : Cond.selects yX6_oathsCross.cls yX6_oathsCross yX6_oathsCross ∈ vT := vt 542 (by decide +kernel) (by decide +kernel)
theorem tF128 : Cond.fieldLink RX7 201 "BellLots$Hanging" "struck" "[I" ∈ vT := vt 128 (by decide +kernel) (by decide +kernel)
theorem tF389 : Cond.methodLink RX7 204 yX7_pair ∈ vT := vt 389 (by decide +kernel) (by decide +kernel)
theorem tF556 : Cond.methodLink RX7 207 yX0_append ∈ vT := vt 556 (by decide +kernel) (by decide +kernel)
theorem tF557 : Cond.instanceMethod yX0_append ∈ vT := vt 557 (by decide +kernel) (by decide +kernel)
theorem tF558 : Cond.selects yX0_append.cls yX0_append yX0_append ∈ vT := vt 558 (by decide +kernel) (by decide +kernel)
theorem tF187 : Cond.fieldLink RX7 209 "BellLots$Finds" "size" "I" ∈ vT := vt 187 (by decide +kernel) (by decide +kernel)
theorem tF569 : Cond.methodLink RX7 212 yX0_holdBehind ∈ vT := vt 569 (by decide +kernel) (by decide +kernel)
theorem tF570 : Cond.instanceMethod yX0_holdBehind ∈ vT := vt 570 (by decide +kernel) (by decide +kernel)
theorem tF571 : Cond.selects yX0_holdBehind.cls yX0_holdBehind yX0_holdBehind ∈ vT := vt 571 (by decide +kernel) (by decide +kernel)
theorem tF578 : Cond.methodLink RX7 216 yX7_harmlessWays ∈ vT := vt 578 (by decide +kernel) (by decide +kernel)
theorem tF580 : Cond.instanceMethod yX7_harmlessWays ∈ vT := vt 580 (by decide +kernel) (by decide +kernel)
theorem tS18 : Cond.selects yX7_harmlessWays.cls yX7_harmlessWays yX7_harmlessWays ∈ vT := vsl 18 (by decide +kernel) (by decide +kernel)
theorem tF592 : Cond.methodLink RX7 219 yX7_allWays ∈ vT := vt 592 (by decide +kernel) (by decide +kernel)
theorem tF594 : Cond.instanceMethod yX7_allWays ∈ vT := vt 594 (by decide +kernel) (by decide +kernel)
theorem tS19 : Cond.selects yX7_allWays.cls yX7_allWays yX7_allWays ∈ vT := vsl 19 (by decide +kernel) (by decide +kernel)
theorem tF596 : Cond.methodLink RX7 222 yX7_commonDivisor ∈ vT := vt 596 (by decide +kernel) (by decide +kernel)
theorem tF601 : Cond.constant RX7 225 (-1000000) ∈ vT := vt 601 (by decide +kernel) (by decide +kernel)
theorem tF602 : Cond.methodLink RX7 226 yX7_rateGreat ∈ vT := vt 602 (by decide +kernel) (by decide +kernel)
theorem tF604 : Cond.instanceMethod yX7_rateGreat ∈ vT := vt 604 (by decide +kernel) (by decide +kernel)
theorem tS20 : Cond.selects yX7_rateGreat.cls yX7_rateGreat yX7_rateGreat ∈ vT := vsl 20 (by decide +kernel) (by decide +kernel)
theorem tF611 : Cond.methodLink RX7 229 yX7_rateCracked ∈ vT := vt 611 (by decide +kernel) (by decide +kernel)
theorem tF613 : Cond.instanceMethod yX7_rateCracked ∈ vT := vt 613 (by decide +kernel) (by decide +kernel)
theorem tS22 : Cond.selects yX7_rateCracked.cls yX7_rateCracked yX7_rateCracked ∈ vT := vsl 22 (by decide +kernel) (by decide +kernel)
theorem tF616 : Cond.methodLink RX7 232 yX7_rateStorm ∈ vT := vt 616 (by decide +kernel) (by decide +kernel)
theorem tF618 : Cond.instanceMethod yX7_rateStorm ∈ vT := vt 618 (by decide +kernel) (by decide +kernel)
theorem tS23 : Cond.selects yX7_rateStorm.cls yX7_rateStorm yX7_rateStorm ∈ vT := vsl 23 (by decide +kernel) (by decide +kernel)
theorem tF621 : Cond.methodLink RX7 235 yX7_rateRiver ∈ vT := vt 621 (by decide +kernel) (by decide +kernel)
theorem tF623 : Cond.instanceMethod yX7_rateRiver ∈ vT := vt 623 (by decide +kernel) (by decide +kernel)
theorem tS24 : Cond.selects yX7_rateRiver.cls yX7_rateRiver yX7_rateRiver ∈ vT := vsl 24 (by decide +kernel) (by decide +kernel)
theorem tF626 : Cond.methodLink RX7 238 yX7_rateCow ∈ vT := vt 626 (by decide +kernel) (by decide +kernel)
theorem tF628 : Cond.instanceMethod yX7_rateCow ∈ vT := vt 628 (by decide +kernel) (by decide +kernel)
theorem tS25 : Cond.selects yX7_rateCow.cls yX7_rateCow yX7_rateCow ∈ vT := vsl 25 (by decide +kernel) (by decide +kernel)
theorem tF607 : Cond.methodLink RX7 241 yX7_rateBell ∈ vT := vt 607 (by decide +kernel) (by decide +kernel)
theorem tF609 : Cond.instanceMethod yX7_rateBell ∈ vT := vt 609 (by decide +kernel) (by decide +kernel)
theorem tS21 : Cond.selects yX7_rateBell.cls yX7_rateBell yX7_rateBell ∈ vT := vsl 21 (by decide +kernel) (by decide +kernel)
theorem tF635 : Cond.methodLink RX7 244 yX2_keepFrom ∈ vT := vt 635 (by decide +kernel) (by decide +kernel)
theorem tF636 : Cond.instanceMethod yX2_keepFrom ∈ vT := vt 636 (by decide +kernel) (by decide +kernel)
theorem tF637 : Cond.selects yX2_keepFrom.cls yX2_keepFrom yX2_keepFrom ∈ vT := vt 637 (by decide +kernel) (by decide +kernel)
theorem tF645 : Cond.methodLink RX7 248 yX2_bringInto ∈ vT := vt 645 (by decide +kernel) (by decide +kernel)
theorem tF646 : Cond.instanceMethod yX2_bringInto ∈ vT := vt 646 (by decide +kernel) (by decide +kernel)
theorem tF647 : Cond.selects yX2_bringInto.cls yX2_bringInto yX2_bringInto ∈ vT := vt 647 (by decide +kernel) (by decide +kernel)
theorem tF63 : Cond.fieldLink RX7 251 "BellLots$Told" "roads" "I" ∈ vT := vt 63 (by decide +kernel) (by decide +kernel)
theorem tF222 : Cond.fieldLink RX7 254 "BellLots" "traced" "J" ∈ vT := vt 222 (by decide +kernel) (by decide +kernel)
theorem tF385 : Cond.methodLink RX7 258 yX7_hasLikeNeighbour ∈ vT := vt 385 (by decide +kernel) (by decide +kernel)
theorem tF387 : Cond.instanceMethod yX7_hasLikeNeighbour ∈ vT := vt 387 (by decide +kernel) (by decide +kernel)
theorem tS9 : Cond.selects yX7_hasLikeNeighbour.cls yX7_hasLikeNeighbour yX7_hasLikeNeighbour ∈ vT := vsl 9 (by decide +kernel) (by decide +kernel)
theorem tF76 : Cond.fieldLink RX7 261 "BellLots$Told" "toll" "[I" ∈ vT := vt 76 (by decide +kernel) (by decide +kernel)
theorem tF390 : Cond.methodLink RX7 264 yX7_noteIn ∈ vT := vt 390 (by decide +kernel) (by decide +kernel)
theorem tF392 : Cond.instanceMethod yX7_noteIn ∈ vT := vt 392 (by decide +kernel) (by decide +kernel)
theorem tS10 : Cond.selects yX7_noteIn.cls yX7_noteIn yX7_noteIn ∈ vT := vsl 10 (by decide +kernel) (by decide +kernel)
theorem tF402 : Cond.methodLink RX7 267 yX1_bearsBell ∈ vT := vt 402 (by decide +kernel) (by decide +kernel)
theorem tF582 : Cond.methodLink RX7 271 yJ6_bitCount_0f7a4 ∈ vT := vt 582 (by decide +kernel) (by decide +kernel)
theorem tF583 : Cond.static yJ6_bitCount_0f7a4 ∈ vT := vt 583 (by decide +kernel) (by decide +kernel)
theorem tF588 : Cond.methodLink RX7 276 yX6_bellsHungBefore ∈ vT := vt 588 (by decide +kernel) (by decide +kernel)
theorem tF589 : Cond.instanceMethod yX6_bellsHungBefore ∈ vT := vt 589 (by decide +kernel) (by decide +kernel)
theorem tF590 : Cond.selects yX6_bellsHungBefore.cls yX6_bellsHungBefore yX6_bellsHungBefore ∈ vT := vt 590 (by decide +kernel) (by decide +kernel)
theorem tF606 : Cond.constantLong RX7 279 (lN 10) ∈ vT := vt 606 (by decide +kernel) (by decide +kernel)
theorem tF615 : Cond.constantLong RX7 281 (lN 100) ∈ vT := vt 615 (by decide +kernel) (by decide +kernel)
theorem tF620 : Cond.constantLong RX7 283 (lN 1000) ∈ vT := vt 620 (by decide +kernel) (by decide +kernel)
theorem tF625 : Cond.constantLong RX7 285 (lN 10000) ∈ vT := vt 625 (by decide +kernel) (by decide +kernel)
theorem tF630 : Cond.constantLong RX7 287 (lN 100000) ∈ vT := vt 630 (by decide +kernel) (by decide +kernel)
theorem tF662 : Cond.methodLink RX8 1 Lib.objectInit ∈ vT := vt 662 (by decide +kernel) (by decide +kernel)
theorem tF665 : Cond.fieldLink RX8 7 "BellLotsModel" "text" "[I" ∈ vT := vt 665 (by decide +kernel) (by decide +kernel)
theorem tF672 : Cond.fieldLink RX8 13 "BellLotsModel" "many" "[I" ∈ vT := vt 672 (by decide +kernel) (by decide +kernel)
theorem tF673 : Cond.fieldLink RX8 16 "BellLotsModel" "bears" "[I" ∈ vT := vt 673 (by decide +kernel) (by decide +kernel)
theorem tF674 : Cond.fieldLink RX8 19 "BellLotsModel" "weight" "[I" ∈ vT := vt 674 (by decide +kernel) (by decide +kernel)
theorem tF675 : Cond.fieldLink RX8 22 "BellLotsModel" "note" "[I" ∈ vT := vt 675 (by decide +kernel) (by decide +kernel)
theorem tF676 : Cond.fieldLink RX8 25 "BellLotsModel" "toll" "[I" ∈ vT := vt 676 (by decide +kernel) (by decide +kernel)
theorem tF677 : Cond.fieldLink RX8 28 "BellLotsModel" "oathBell" "[I" ∈ vT := vt 677 (by decide +kernel) (by decide +kernel)
theorem tF678 : Cond.fieldLink RX8 31 "BellLotsModel" "oathTown" "[I" ∈ vT := vt 678 (by decide +kernel) (by decide +kernel)
theorem tF679 : Cond.fieldLink RX8 34 "BellLotsModel" "oathTerm" "[I" ∈ vT := vt 679 (by decide +kernel) (by decide +kernel)
theorem tF680 : Cond.fieldLink RX8 37 "BellLotsModel" "far" "[I" ∈ vT := vt 680 (by decide +kernel) (by decide +kernel)
theorem tF681 : Cond.fieldLink RX8 40 "BellLotsModel" "s" "[I" ∈ vT := vt 681 (by decide +kernel) (by decide +kernel)
theorem tF682 : Cond.fieldLink RX8 43 "BellLotsModel" "w" "[I" ∈ vT := vt 682 (by decide +kernel) (by decide +kernel)
theorem tF683 : Cond.fieldLink RX8 46 "BellLotsModel" "kept" "[I" ∈ vT := vt 683 (by decide +kernel) (by decide +kernel)
theorem tF684 : Cond.fieldLink RX8 49 "BellLotsModel" "isKept" "[Z" ∈ vT := vt 684 (by decide +kernel) (by decide +kernel)
theorem tF685 : Cond.fieldLink RX8 53 "BellLotsModel" "undos" "[I" ∈ vT := vt 685 (by decide +kernel) (by decide +kernel)
theorem tF687 : Cond.fieldLink RX8 56 "BellLotsModel" "foundBell" "[I" ∈ vT := vt 687 (by decide +kernel) (by decide +kernel)
theorem tF688 : Cond.fieldLink RX8 59 "BellLotsModel" "foundTown" "[I" ∈ vT := vt 688 (by decide +kernel) (by decide +kernel)
theorem tF690 : Cond.fieldLink RX8 62 "BellLotsModel" "goes" "[I" ∈ vT := vt 690 (by decide +kernel) (by decide +kernel)
theorem tF691 : Cond.fieldLink RX8 65 "BellLotsModel" "best" "[I" ∈ vT := vt 691 (by decide +kernel) (by decide +kernel)
theorem tF663 : Cond.fieldLink RX8 68 "BellLotsModel" "thrown" "I" ∈ vT := vt 663 (by decide +kernel) (by decide +kernel)
theorem tF755 : Cond.methodLink RX8 72 yX8_in ∈ vT := vt 755 (by decide +kernel) (by decide +kernel)
theorem tF756 : Cond.static yX8_in ∈ vT := vt 756 (by decide +kernel) (by decide +kernel)
theorem tF666 : Cond.fieldLink RX8 76 "BellLotsModel" "typed" "I" ∈ vT := vt 666 (by decide +kernel) (by decide +kernel)
theorem tF667 : Cond.fieldLink RX8 79 "BellLotsModel" "next" "I" ∈ vT := vt 667 (by decide +kernel) (by decide +kernel)
theorem tF770 : Cond.methodLink RX8 82 yX8_letterAt ∈ vT := vt 770 (by decide +kernel) (by decide +kernel)
theorem tF772 : Cond.instanceMethod yX8_letterAt ∈ vT := vt 772 (by decide +kernel) (by decide +kernel)
theorem tS27 : Cond.selects yX8_letterAt.cls yX8_letterAt yX8_letterAt ∈ vT := vsl 27 (by decide +kernel) (by decide +kernel)
theorem tF669 : Cond.fieldLink RX8 86 "BellLotsModel" "place" "I" ∈ vT := vt 669 (by decide +kernel) (by decide +kernel)
theorem tF668 : Cond.fieldLink RX8 89 "BellLotsModel" "token" "I" ∈ vT := vt 668 (by decide +kernel) (by decide +kernel)
theorem tF670 : Cond.fieldLink RX8 92 "BellLotsModel" "value" "I" ∈ vT := vt 670 (by decide +kernel) (by decide +kernel)
theorem tF671 : Cond.fieldLink RX8 95 "BellLotsModel" "fault" "I" ∈ vT := vt 671 (by decide +kernel) (by decide +kernel)
theorem tF774 : Cond.methodLink RX8 98 yX8_isWell ∈ vT := vt 774 (by decide +kernel) (by decide +kernel)
theorem tF776 : Cond.instanceMethod yX8_isWell ∈ vT := vt 776 (by decide +kernel) (by decide +kernel)
theorem tS28 : Cond.selects yX8_isWell.cls yX8_isWell yX8_isWell ∈ vT := vsl 28 (by decide +kernel) (by decide +kernel)
theorem tF766 : Cond.methodLink RX8 102 yX8_advances ∈ vT := vt 766 (by decide +kernel) (by decide +kernel)
theorem tF768 : Cond.instanceMethod yX8_advances ∈ vT := vt 768 (by decide +kernel) (by decide +kernel)
theorem tS26 : Cond.selects yX8_advances.cls yX8_advances yX8_advances ∈ vT := vsl 26 (by decide +kernel) (by decide +kernel)
theorem tF778 : Cond.methodLink RX8 105 yX8_takes ∈ vT := vt 778 (by decide +kernel) (by decide +kernel)
theorem tF780 : Cond.instanceMethod yX8_takes ∈ vT := vt 780 (by decide +kernel) (by decide +kernel)
theorem tS29 : Cond.selects yX8_takes.cls yX8_takes yX8_takes ∈ vT := vsl 29 (by decide +kernel) (by decide +kernel)
theorem tF786 : Cond.methodLink RX8 109 yX8_number ∈ vT := vt 786 (by decide +kernel) (by decide +kernel)
theorem tF788 : Cond.instanceMethod yX8_number ∈ vT := vt 788 (by decide +kernel) (by decide +kernel)
theorem tS31 : Cond.selects yX8_number.cls yX8_number yX8_number ∈ vT := vsl 31 (by decide +kernel) (by decide +kernel)
theorem tF782 : Cond.methodLink RX8 113 yX8_readsItem ∈ vT := vt 782 (by decide +kernel) (by decide +kernel)
theorem tF784 : Cond.instanceMethod yX8_readsItem ∈ vT := vt 784 (by decide +kernel) (by decide +kernel)
theorem tS30 : Cond.selects yX8_readsItem.cls yX8_readsItem yX8_readsItem ∈ vT := vsl 30 (by decide +kernel) (by decide +kernel)
theorem tF790 : Cond.methodLink RX8 117 yX8_settles ∈ vT := vt 790 (by decide +kernel) (by decide +kernel)
theorem tF792 : Cond.instanceMethod yX8_settles ∈ vT := vt 792 (by decide +kernel) (by decide +kernel)
theorem tS32 : Cond.selects yX8_settles.cls yX8_settles yX8_settles ∈ vT := vsl 32 (by decide +kernel) (by decide +kernel)
theorem tF794 : Cond.constant RX8 120 (nI 1000000) ∈ vT := vt 794 (by decide +kernel) (by decide +kernel)
theorem tF689 : Cond.fieldLink RX8 121 "BellLotsModel" "foundMany" "I" ∈ vT := vt 689 (by decide +kernel) (by decide +kernel)
theorem tF686 : Cond.fieldLink RX8 124 "BellLotsModel" "undoMany" "I" ∈ vT := vt 686 (by decide +kernel) (by decide +kernel)
theorem tF799 : Cond.methodLink RX8 127 yX8_isTown ∈ vT := vt 799 (by decide +kernel) (by decide +kernel)
theorem tF801 : Cond.instanceMethod yX8_isTown ∈ vT := vt 801 (by decide +kernel) (by decide +kernel)
theorem tS33 : Cond.selects yX8_isTown.cls yX8_isTown yX8_isTown ∈ vT := vsl 33 (by decide +kernel) (by decide +kernel)
theorem tF803 : Cond.methodLink RX8 131 yX8_hangs ∈ vT := vt 803 (by decide +kernel) (by decide +kernel)
theorem tF804 : Cond.static yX8_hangs ∈ vT := vt 804 (by decide +kernel) (by decide +kernel)
theorem tF806 : Cond.methodLink RX8 135 yX8_isDumb ∈ vT := vt 806 (by decide +kernel) (by decide +kernel)
theorem tF808 : Cond.instanceMethod yX8_isDumb ∈ vT := vt 808 (by decide +kernel) (by decide +kernel)
theorem tS34 : Cond.selects yX8_isDumb.cls yX8_isDumb yX8_isDumb ∈ vT := vsl 34 (by decide +kernel) (by decide +kernel)
theorem tF814 : Cond.methodLink RX8 138 yX8_fits ∈ vT := vt 814 (by decide +kernel) (by decide +kernel)
theorem tF816 : Cond.instanceMethod yX8_fits ∈ vT := vt 816 (by decide +kernel) (by decide +kernel)
theorem tS35 : Cond.selects yX8_fits.cls yX8_fits yX8_fits ∈ vT := vsl 35 (by decide +kernel) (by decide +kernel)
theorem tF846 : Cond.constantLong RX8 141 (lN 7919) ∈ vT := vt 846 (by decide +kernel) (by decide +kernel)
theorem tF847 : Cond.constantLong RX8 143 (lN 6151) ∈ vT := vt 847 (by decide +kernel) (by decide +kernel)
theorem tF848 : Cond.constantLong RX8 145 (lN 65521) ∈ vT := vt 848 (by decide +kernel) (by decide +kernel)
theorem tF849 : Cond.constantLong RX8 147 (lN 16) ∈ vT := vt 849 (by decide +kernel) (by decide +kernel)
theorem tF842 : Cond.methodLink RX8 149 yX8_draws ∈ vT := vt 842 (by decide +kernel) (by decide +kernel)
theorem tF844 : Cond.instanceMethod yX8_draws ∈ vT := vt 844 (by decide +kernel) (by decide +kernel)
theorem tS38 : Cond.selects yX8_draws.cls yX8_draws yX8_draws ∈ vT := vsl 38 (by decide +kernel) (by decide +kernel)
theorem tF850 : Cond.methodLink RX8 152 yX8_cuts ∈ vT := vt 850 (by decide +kernel) (by decide +kernel)
theorem tF852 : Cond.instanceMethod yX8_cuts ∈ vT := vt 852 (by decide +kernel) (by decide +kernel)
theorem tS39 : Cond.selects yX8_cuts.cls yX8_cuts yX8_cuts ∈ vT := vsl 39 (by decide +kernel) (by decide +kernel)
theorem tF834 : Cond.methodLink RX8 156 yX8_notes ∈ vT := vt 834 (by decide +kernel) (by decide +kernel)
theorem tF836 : Cond.instanceMethod yX8_notes ∈ vT := vt 836 (by decide +kernel) (by decide +kernel)
theorem tS36 : Cond.selects yX8_notes.cls yX8_notes yX8_notes ∈ vT := vsl 36 (by decide +kernel) (by decide +kernel)
theorem tF838 : Cond.methodLink RX8 159 yX8_drawn ∈ vT := vt 838 (by decide +kernel) (by decide +kernel)
theorem tF840 : Cond.instanceMethod yX8_drawn ∈ vT := vt 840 (by decide +kernel) (by decide +kernel)
theorem tS37 : Cond.selects yX8_drawn.cls yX8_drawn yX8_drawn ∈ vT := vsl 37 (by decide +kernel) (by decide +kernel)
theorem tF870 : Cond.methodLink RX8 162 yX8_asNow ∈ vT := vt 870 (by decide +kernel) (by decide +kernel)
theorem tF872 : Cond.instanceMethod yX8_asNow ∈ vT := vt 872 (by decide +kernel) (by decide +kernel)
theorem tS40 : Cond.selects yX8_asNow.cls yX8_asNow yX8_asNow ∈ vT := vsl 40 (by decide +kernel) (by decide +kernel)
theorem tF886 : Cond.methodLink RX8 165 yX8_rows ∈ vT := vt 886 (by decide +kernel) (by decide +kernel)
theorem tF888 : Cond.instanceMethod yX8_rows ∈ vT := vt 888 (by decide +kernel) (by decide +kernel)
theorem tS41 : Cond.selects yX8_rows.cls yX8_rows yX8_rows ∈ vT := vsl 41 (by decide +kernel) (by decide +kernel)
theorem tF890 : Cond.methodLink RX8 169 yX8_isRow ∈ vT := vt 890 (by decide +kernel) (by decide +kernel)
theorem tF892 : Cond.instanceMethod yX8_isRow ∈ vT := vt 892 (by decide +kernel) (by decide +kernel)
theorem tS42 : Cond.selects yX8_isRow.cls yX8_isRow yX8_isRow ∈ vT := vsl 42 (by decide +kernel) (by decide +kernel)
theorem tF894 : Cond.methodLink RX8 172 yX8_isBorne ∈ vT := vt 894 (by decide +kernel) (by decide +kernel)
theorem tF896 : Cond.instanceMethod yX8_isBorne ∈ vT := vt 896 (by decide +kernel) (by decide +kernel)
theorem tS43 : Cond.selects yX8_isBorne.cls yX8_isBorne yX8_isBorne ∈ vT := vsl 43 (by decide +kernel) (by decide +kernel)
theorem tF898 : Cond.methodLink RX8 175 yX8_costOfRow ∈ vT := vt 898 (by decide +kernel) (by decide +kernel)
theorem tF900 : Cond.instanceMethod yX8_costOfRow ∈ vT := vt 900 (by decide +kernel) (by decide +kernel)
theorem tS44 : Cond.selects yX8_costOfRow.cls yX8_costOfRow yX8_costOfRow ∈ vT := vsl 44 (by decide +kernel) (by decide +kernel)
theorem tF934 : Cond.methodLink RX8 178 yX8_gcd ∈ vT := vt 934 (by decide +kernel) (by decide +kernel)
theorem tF935 : Cond.static yX8_gcd ∈ vT := vt 935 (by decide +kernel) (by decide +kernel)
theorem tF941 : Cond.constant RX8 181 (-1000000) ∈ vT := vt 941 (by decide +kernel) (by decide +kernel)
theorem tF664 : Cond.fieldLink RX8 182 "BellLotsModel" "trace" "J" ∈ vT := vt 664 (by decide +kernel) (by decide +kernel)
theorem tF942 : Cond.constantLong RX8 186 (lN 11) ∈ vT := vt 942 (by decide +kernel) (by decide +kernel)
theorem tF943 : Cond.constantLong RX8 188 (lN 101) ∈ vT := vt 943 (by decide +kernel) (by decide +kernel)
theorem tF944 : Cond.constantLong RX8 190 (lN 1011) ∈ vT := vt 944 (by decide +kernel) (by decide +kernel)
theorem tF945 : Cond.constantLong RX8 192 (lN 10101) ∈ vT := vt 945 (by decide +kernel) (by decide +kernel)
theorem tF946 : Cond.constantLong RX8 194 (lN 100001) ∈ vT := vt 946 (by decide +kernel) (by decide +kernel)
theorem tF959 : Cond.methodLink RX8 196 yX8_roads ∈ vT := vt 959 (by decide +kernel) (by decide +kernel)
theorem tF961 : Cond.instanceMethod yX8_roads ∈ vT := vt 961 (by decide +kernel) (by decide +kernel)
theorem tS45 : Cond.selects yX8_roads.cls yX8_roads yX8_roads ∈ vT := vsl 45 (by decide +kernel) (by decide +kernel)
theorem tF585 : Cond.constant RJ6 265 (nI 1431655765) ∈ vT := vt 585 (by decide +kernel) (by decide +kernel)
theorem tF586 : Cond.constant RJ6 266 (nI 858993459) ∈ vT := vt 586 (by decide +kernel) (by decide +kernel)
theorem tF587 : Cond.constant RJ6 267 (nI 252645135) ∈ vT := vt 587 (by decide +kernel) (by decide +kernel)
theorem tF14 : Cond.classLink RL 7 RX7 ∈ vT := vt 14 (by decide +kernel) (by decide +kernel)
theorem tF15 : Cond.instantiable RX7 10 ∈ vT := vt 15 (by decide +kernel) (by decide +kernel)
theorem tF16 : Cond.methodLink RL 9 yX7_init ∈ vT := vt 16 (by decide +kernel) (by decide +kernel)
theorem tF17 : Cond.instanceMethod yX7_init ∈ vT := vt 17 (by decide +kernel) (by decide +kernel)
theorem tF657 : Cond.classLink RL 10 RX8 ∈ vT := vt 657 (by decide +kernel) (by decide +kernel)
theorem tF658 : Cond.instantiable RX8 29 ∈ vT := vt 658 (by decide +kernel) (by decide +kernel)
theorem tF659 : Cond.methodLink RL 12 yX8_init ∈ vT := vt 659 (by decide +kernel) (by decide +kernel)
theorem tF660 : Cond.instanceMethod yX8_init ∈ vT := vt 660 (by decide +kernel) (by decide +kernel)
theorem tF244 : Cond.methodLink RL 13 yX7_type ∈ vT := vt 244 (by decide +kernel) (by decide +kernel)
theorem tF245 : Cond.instanceMethod yX7_type ∈ vT := vt 245 (by decide +kernel) (by decide +kernel)
theorem tF246 : Cond.selects yX7_type.cls yX7_type yX7_type ∈ vT := vt 246 (by decide +kernel) (by decide +kernel)
theorem tF751 : Cond.methodLink RL 17 yX8_type ∈ vT := vt 751 (by decide +kernel) (by decide +kernel)
theorem tF752 : Cond.instanceMethod yX8_type ∈ vT := vt 752 (by decide +kernel) (by decide +kernel)
theorem tF753 : Cond.selects yX8_type.cls yX8_type yX8_type ∈ vT := vt 753 (by decide +kernel) (by decide +kernel)
theorem tF258 : Cond.methodLink RL 18 yX7_clear ∈ vT := vt 258 (by decide +kernel) (by decide +kernel)
theorem tF259 : Cond.instanceMethod yX7_clear ∈ vT := vt 259 (by decide +kernel) (by decide +kernel)
theorem tF260 : Cond.selects yX7_clear.cls yX7_clear yX7_clear ∈ vT := vt 260 (by decide +kernel) (by decide +kernel)
theorem tF758 : Cond.methodLink RL 22 yX8_clear ∈ vT := vt 758 (by decide +kernel) (by decide +kernel)
theorem tF759 : Cond.instanceMethod yX8_clear ∈ vT := vt 759 (by decide +kernel) (by decide +kernel)
theorem tF760 : Cond.selects yX8_clear.cls yX8_clear yX8_clear ∈ vT := vt 760 (by decide +kernel) (by decide +kernel)
theorem tF266 : Cond.methodLink RL 23 yX7_plain ∈ vT := vt 266 (by decide +kernel) (by decide +kernel)
theorem tF267 : Cond.instanceMethod yX7_plain ∈ vT := vt 267 (by decide +kernel) (by decide +kernel)
theorem tF268 : Cond.selects yX7_plain.cls yX7_plain yX7_plain ∈ vT := vt 268 (by decide +kernel) (by decide +kernel)
theorem tF762 : Cond.methodLink RL 26 yX8_plain ∈ vT := vt 762 (by decide +kernel) (by decide +kernel)
theorem tF763 : Cond.instanceMethod yX8_plain ∈ vT := vt 763 (by decide +kernel) (by decide +kernel)
theorem tF764 : Cond.selects yX8_plain.cls yX8_plain yX8_plain ∈ vT := vt 764 (by decide +kernel) (by decide +kernel)
theorem tF371 : Cond.methodLink RL 27 yX7_town ∈ vT := vt 371 (by decide +kernel) (by decide +kernel)
theorem tF372 : Cond.instanceMethod yX7_town ∈ vT := vt 372 (by decide +kernel) (by decide +kernel)
theorem tF373 : Cond.selects yX7_town.cls yX7_town yX7_town ∈ vT := vt 373 (by decide +kernel) (by decide +kernel)
theorem tF795 : Cond.methodLink RL 31 yX8_town ∈ vT := vt 795 (by decide +kernel) (by decide +kernel)
theorem tF796 : Cond.instanceMethod yX8_town ∈ vT := vt 796 (by decide +kernel) (by decide +kernel)
theorem tF797 : Cond.selects yX8_town.cls yX8_town yX8_town ∈ vT := vt 797 (by decide +kernel) (by decide +kernel)
theorem tF394 : Cond.methodLink RL 32 yX7_bell ∈ vT := vt 394 (by decide +kernel) (by decide +kernel)
theorem tF395 : Cond.instanceMethod yX7_bell ∈ vT := vt 395 (by decide +kernel) (by decide +kernel)
theorem tF396 : Cond.selects yX7_bell.cls yX7_bell yX7_bell ∈ vT := vt 396 (by decide +kernel) (by decide +kernel)
theorem tF810 : Cond.methodLink RL 35 yX8_bell ∈ vT := vt 810 (by decide +kernel) (by decide +kernel)
theorem tF811 : Cond.instanceMethod yX8_bell ∈ vT := vt 811 (by decide +kernel) (by decide +kernel)
theorem tF812 : Cond.selects yX8_bell.cls yX8_bell yX8_bell ∈ vT := vt 812 (by decide +kernel) (by decide +kernel)
theorem tF407 : Cond.methodLink RL 36 yX7_far ∈ vT := vt 407 (by decide +kernel) (by decide +kernel)
theorem tF408 : Cond.instanceMethod yX7_far ∈ vT := vt 408 (by decide +kernel) (by decide +kernel)
theorem tF409 : Cond.selects yX7_far.cls yX7_far yX7_far ∈ vT := vt 409 (by decide +kernel) (by decide +kernel)
theorem tF818 : Cond.methodLink RL 39 yX8_far ∈ vT := vt 818 (by decide +kernel) (by decide +kernel)
theorem tF819 : Cond.instanceMethod yX8_far ∈ vT := vt 819 (by decide +kernel) (by decide +kernel)
theorem tF820 : Cond.selects yX8_far.cls yX8_far yX8_far ∈ vT := vt 820 (by decide +kernel) (by decide +kernel)
theorem tF412 : Cond.methodLink RL 40 yX7_oath ∈ vT := vt 412 (by decide +kernel) (by decide +kernel)
theorem tF413 : Cond.instanceMethod yX7_oath ∈ vT := vt 413 (by decide +kernel) (by decide +kernel)
theorem tF414 : Cond.selects yX7_oath.cls yX7_oath yX7_oath ∈ vT := vt 414 (by decide +kernel) (by decide +kernel)
theorem tF822 : Cond.methodLink RL 43 yX8_oath ∈ vT := vt 822 (by decide +kernel) (by decide +kernel)
theorem tF823 : Cond.instanceMethod yX8_oath ∈ vT := vt 823 (by decide +kernel) (by decide +kernel)
theorem tF824 : Cond.selects yX8_oath.cls yX8_oath yX8_oath ∈ vT := vt 824 (by decide +kernel) (by decide +kernel)
theorem tF416 : Cond.methodLink RL 44 yX7_now ∈ vT := vt 416 (by decide +kernel) (by decide +kernel)
theorem tF417 : Cond.instanceMethod yX7_now ∈ vT := vt 417 (by decide +kernel) (by decide +kernel)
theorem tF418 : Cond.selects yX7_now.cls yX7_now yX7_now ∈ vT := vt 418 (by decide +kernel) (by decide +kernel)
theorem tF826 : Cond.methodLink RL 47 yX8_now ∈ vT := vt 826 (by decide +kernel) (by decide +kernel)
theorem tF827 : Cond.instanceMethod yX8_now ∈ vT := vt 827 (by decide +kernel) (by decide +kernel)
theorem tF828 : Cond.selects yX8_now.cls yX8_now yX8_now ∈ vT := vt 828 (by decide +kernel) (by decide +kernel)
theorem tF424 : Cond.methodLink RL 48 yX7_lots ∈ vT := vt 424 (by decide +kernel) (by decide +kernel)
theorem tF425 : Cond.instanceMethod yX7_lots ∈ vT := vt 425 (by decide +kernel) (by decide +kernel)
theorem tF426 : Cond.selects yX7_lots.cls yX7_lots yX7_lots ∈ vT := vt 426 (by decide +kernel) (by decide +kernel)
theorem tF830 : Cond.methodLink RL 51 yX8_lots ∈ vT := vt 830 (by decide +kernel) (by decide +kernel)
theorem tF831 : Cond.instanceMethod yX8_lots ∈ vT := vt 831 (by decide +kernel) (by decide +kernel)
theorem tF832 : Cond.selects yX8_lots.cls yX8_lots yX8_lots ∈ vT := vt 832 (by decide +kernel) (by decide +kernel)
theorem tF474 : Cond.methodLink RL 52 yX7_trades ∈ vT := vt 474 (by decide +kernel) (by decide +kernel)
theorem tF475 : Cond.instanceMethod yX7_trades ∈ vT := vt 475 (by decide +kernel) (by decide +kernel)
theorem tF476 : Cond.selects yX7_trades.cls yX7_trades yX7_trades ∈ vT := vt 476 (by decide +kernel) (by decide +kernel)
theorem tF854 : Cond.methodLink RL 55 yX8_trades ∈ vT := vt 854 (by decide +kernel) (by decide +kernel)
theorem tF855 : Cond.instanceMethod yX8_trades ∈ vT := vt 855 (by decide +kernel) (by decide +kernel)
theorem tF856 : Cond.selects yX8_trades.cls yX8_trades yX8_trades ∈ vT := vt 856 (by decide +kernel) (by decide +kernel)
theorem tF480 : Cond.methodLink RL 56 yX7_widens ∈ vT := vt 480 (by decide +kernel) (by decide +kernel)
theorem tF481 : Cond.instanceMethod yX7_widens ∈ vT := vt 481 (by decide +kernel) (by decide +kernel)
theorem tF482 : Cond.selects yX7_widens.cls yX7_widens yX7_widens ∈ vT := vt 482 (by decide +kernel) (by decide +kernel)
theorem tF858 : Cond.methodLink RL 59 yX8_widens ∈ vT := vt 858 (by decide +kernel) (by decide +kernel)
theorem tF859 : Cond.instanceMethod yX8_widens ∈ vT := vt 859 (by decide +kernel) (by decide +kernel)
theorem tF860 : Cond.selects yX8_widens.cls yX8_widens yX8_widens ∈ vT := vt 860 (by decide +kernel) (by decide +kernel)
theorem tF484 : Cond.methodLink RL 60 yX7_undo ∈ vT := vt 484 (by decide +kernel) (by decide +kernel)
theorem tF485 : Cond.instanceMethod yX7_undo ∈ vT := vt 485 (by decide +kernel) (by decide +kernel)
theorem tF486 : Cond.selects yX7_undo.cls yX7_undo yX7_undo ∈ vT := vt 486 (by decide +kernel) (by decide +kernel)
theorem tF862 : Cond.methodLink RL 63 yX8_undo ∈ vT := vt 862 (by decide +kernel) (by decide +kernel)
theorem tF863 : Cond.instanceMethod yX8_undo ∈ vT := vt 863 (by decide +kernel) (by decide +kernel)
theorem tF864 : Cond.selects yX8_undo.cls yX8_undo yX8_undo ∈ vT := vt 864 (by decide +kernel) (by decide +kernel)
theorem tF492 : Cond.methodLink RL 64 yX7_inLots ∈ vT := vt 492 (by decide +kernel) (by decide +kernel)
theorem tF493 : Cond.instanceMethod yX7_inLots ∈ vT := vt 493 (by decide +kernel) (by decide +kernel)
theorem tF494 : Cond.selects yX7_inLots.cls yX7_inLots yX7_inLots ∈ vT := vt 494 (by decide +kernel) (by decide +kernel)
theorem tF866 : Cond.methodLink RL 68 yX8_inLots ∈ vT := vt 866 (by decide +kernel) (by decide +kernel)
theorem tF867 : Cond.instanceMethod yX8_inLots ∈ vT := vt 867 (by decide +kernel) (by decide +kernel)
theorem tF868 : Cond.selects yX8_inLots.cls yX8_inLots yX8_inLots ∈ vT := vt 868 (by decide +kernel) (by decide +kernel)
theorem tF497 : Cond.methodLink RL 69 yX7_cost ∈ vT := vt 497 (by decide +kernel) (by decide +kernel)
theorem tF498 : Cond.instanceMethod yX7_cost ∈ vT := vt 498 (by decide +kernel) (by decide +kernel)
theorem tF499 : Cond.selects yX7_cost.cls yX7_cost yX7_cost ∈ vT := vt 499 (by decide +kernel) (by decide +kernel)
theorem tF874 : Cond.methodLink RL 72 yX8_cost ∈ vT := vt 874 (by decide +kernel) (by decide +kernel)
theorem tF875 : Cond.instanceMethod yX8_cost ∈ vT := vt 875 (by decide +kernel) (by decide +kernel)
theorem tF876 : Cond.selects yX8_cost.cls yX8_cost yX8_cost ∈ vT := vt 876 (by decide +kernel) (by decide +kernel)
theorem tF502 : Cond.methodLink RL 73 yX7_home ∈ vT := vt 502 (by decide +kernel) (by decide +kernel)
theorem tF503 : Cond.instanceMethod yX7_home ∈ vT := vt 503 (by decide +kernel) (by decide +kernel)
theorem tF504 : Cond.selects yX7_home.cls yX7_home yX7_home ∈ vT := vt 504 (by decide +kernel) (by decide +kernel)
theorem tF878 : Cond.methodLink RL 76 yX8_home ∈ vT := vt 878 (by decide +kernel) (by decide +kernel)
theorem tF879 : Cond.instanceMethod yX8_home ∈ vT := vt 879 (by decide +kernel) (by decide +kernel)
theorem tF880 : Cond.selects yX8_home.cls yX8_home yX8_home ∈ vT := vt 880 (by decide +kernel) (by decide +kernel)
theorem tF514 : Cond.methodLink RL 77 yX7_hang ∈ vT := vt 514 (by decide +kernel) (by decide +kernel)
theorem tF515 : Cond.instanceMethod yX7_hang ∈ vT := vt 515 (by decide +kernel) (by decide +kernel)
theorem tF516 : Cond.selects yX7_hang.cls yX7_hang yX7_hang ∈ vT := vt 516 (by decide +kernel) (by decide +kernel)
theorem tF882 : Cond.methodLink RL 80 yX8_hang ∈ vT := vt 882 (by decide +kernel) (by decide +kernel)
theorem tF883 : Cond.instanceMethod yX8_hang ∈ vT := vt 883 (by decide +kernel) (by decide +kernel)
theorem tF884 : Cond.selects yX8_hang.cls yX8_hang yX8_hang ∈ vT := vt 884 (by decide +kernel) (by decide +kernel)
theorem tF518 : Cond.methodLink RL 81 yX7_round ∈ vT := vt 518 (by decide +kernel) (by decide +kernel)
theorem tF519 : Cond.instanceMethod yX7_round ∈ vT := vt 519 (by decide +kernel) (by decide +kernel)
theorem tF520 : Cond.selects yX7_round.cls yX7_round yX7_round ∈ vT := vt 520 (by decide +kernel) (by decide +kernel)
theorem tF902 : Cond.methodLink RL 84 yX8_round ∈ vT := vt 902 (by decide +kernel) (by decide +kernel)
theorem tF903 : Cond.instanceMethod yX8_round ∈ vT := vt 903 (by decide +kernel) (by decide +kernel)
theorem tF904 : Cond.selects yX8_round.cls yX8_round yX8_round ∈ vT := vt 904 (by decide +kernel) (by decide +kernel)
theorem tF536 : Cond.methodLink RL 85 yX7_crossed ∈ vT := vt 536 (by decide +kernel) (by decide +kernel)
theorem tF537 : Cond.instanceMethod yX7_crossed ∈ vT := vt 537 (by decide +kernel) (by decide +kernel)
theorem tF538 : Cond.selects yX7_crossed.cls yX7_crossed yX7_crossed ∈ vT := vt 538 (by decide +kernel) (by decide +kernel)
theorem tF906 : Cond.methodLink RL 88 yX8_crossed ∈ vT := vt 906 (by decide +kernel) (by decide +kernel)
theorem tF907 : Cond.instanceMethod yX8_crossed ∈ vT := vt 907 (by decide +kernel) (by decide +kernel)
theorem tF908 : Cond.selects yX8_crossed.cls yX8_crossed yX8_crossed ∈ vT := vt 908 (by decide +kernel) (by decide +kernel)
theorem tF544 : Cond.methodLink RL 89 yX7_oaths ∈ vT := vt 544 (by decide +kernel) (by decide +kernel)
theorem tF545 : Cond.instanceMethod yX7_oaths ∈ vT := vt 545 (by decide +kernel) (by decide +kernel)
theorem tF546 : Cond.selects yX7_oaths.cls yX7_oaths yX7_oaths ∈ vT := vt 546 (by decide +kernel) (by decide +kernel)
theorem tF910 : Cond.methodLink RL 92 yX8_oaths ∈ vT := vt 910 (by decide +kernel) (by decide +kernel)
theorem tF911 : Cond.instanceMethod yX8_oaths ∈ vT := vt 911 (by decide +kernel) (by decide +kernel)
theorem tF912 : Cond.selects yX8_oaths.cls yX8_oaths yX8_oaths ∈ vT := vt 912 (by decide +kernel) (by decide +kernel)
theorem tF548 : Cond.methodLink RL 93 yX7_strokes ∈ vT := vt 548 (by decide +kernel) (by decide +kernel)
theorem tF549 : Cond.instanceMethod yX7_strokes ∈ vT := vt 549 (by decide +kernel) (by decide +kernel)
theorem tF550 : Cond.selects yX7_strokes.cls yX7_strokes yX7_strokes ∈ vT := vt 550 (by decide +kernel) (by decide +kernel)
theorem tF914 : Cond.methodLink RL 96 yX8_strokes ∈ vT := vt 914 (by decide +kernel) (by decide +kernel)
theorem tF915 : Cond.instanceMethod yX8_strokes ∈ vT := vt 915 (by decide +kernel) (by decide +kernel)
theorem tF916 : Cond.selects yX8_strokes.cls yX8_strokes yX8_strokes ∈ vT := vt 916 (by decide +kernel) (by decide +kernel)
theorem tF552 : Cond.methodLink RL 97 yX7_found ∈ vT := vt 552 (by decide +kernel) (by decide +kernel)
theorem tF553 : Cond.instanceMethod yX7_found ∈ vT := vt 553 (by decide +kernel) (by decide +kernel)
theorem tF554 : Cond.selects yX7_found.cls yX7_found yX7_found ∈ vT := vt 554 (by decide +kernel) (by decide +kernel)
theorem tF918 : Cond.methodLink RL 100 yX8_found ∈ vT := vt 918 (by decide +kernel) (by decide +kernel)
theorem tF919 : Cond.instanceMethod yX8_found ∈ vT := vt 919 (by decide +kernel) (by decide +kernel)
theorem tF920 : Cond.selects yX8_found.cls yX8_found yX8_found ∈ vT := vt 920 (by decide +kernel) (by decide +kernel)
theorem tF561 : Cond.methodLink RL 101 yX7_forget ∈ vT := vt 561 (by decide +kernel) (by decide +kernel)
theorem tF562 : Cond.instanceMethod yX7_forget ∈ vT := vt 562 (by decide +kernel) (by decide +kernel)
theorem tF563 : Cond.selects yX7_forget.cls yX7_forget yX7_forget ∈ vT := vt 563 (by decide +kernel) (by decide +kernel)
theorem tF922 : Cond.methodLink RL 104 yX8_forget ∈ vT := vt 922 (by decide +kernel) (by decide +kernel)
theorem tF923 : Cond.instanceMethod yX8_forget ∈ vT := vt 923 (by decide +kernel) (by decide +kernel)
theorem tF924 : Cond.selects yX8_forget.cls yX8_forget yX8_forget ∈ vT := vt 924 (by decide +kernel) (by decide +kernel)
theorem tF565 : Cond.methodLink RL 105 yX7_which ∈ vT := vt 565 (by decide +kernel) (by decide +kernel)
theorem tF566 : Cond.instanceMethod yX7_which ∈ vT := vt 566 (by decide +kernel) (by decide +kernel)
theorem tF567 : Cond.selects yX7_which.cls yX7_which yX7_which ∈ vT := vt 567 (by decide +kernel) (by decide +kernel)
theorem tF926 : Cond.methodLink RL 108 yX8_which ∈ vT := vt 926 (by decide +kernel) (by decide +kernel)
theorem tF927 : Cond.instanceMethod yX8_which ∈ vT := vt 927 (by decide +kernel) (by decide +kernel)
theorem tF928 : Cond.selects yX8_which.cls yX8_which yX8_which ∈ vT := vt 928 (by decide +kernel) (by decide +kernel)
theorem tF574 : Cond.methodLink RL 109 yX7_odds ∈ vT := vt 574 (by decide +kernel) (by decide +kernel)
theorem tF575 : Cond.instanceMethod yX7_odds ∈ vT := vt 575 (by decide +kernel) (by decide +kernel)
theorem tF576 : Cond.selects yX7_odds.cls yX7_odds yX7_odds ∈ vT := vt 576 (by decide +kernel) (by decide +kernel)
theorem tF930 : Cond.methodLink RL 112 yX8_odds ∈ vT := vt 930 (by decide +kernel) (by decide +kernel)
theorem tF931 : Cond.instanceMethod yX8_odds ∈ vT := vt 931 (by decide +kernel) (by decide +kernel)
theorem tF932 : Cond.selects yX8_odds.cls yX8_odds yX8_odds ∈ vT := vt 932 (by decide +kernel) (by decide +kernel)
theorem tF597 : Cond.methodLink RL 113 yX7_rate ∈ vT := vt 597 (by decide +kernel) (by decide +kernel)
theorem tF598 : Cond.instanceMethod yX7_rate ∈ vT := vt 598 (by decide +kernel) (by decide +kernel)
theorem tF599 : Cond.selects yX7_rate.cls yX7_rate yX7_rate ∈ vT := vt 599 (by decide +kernel) (by decide +kernel)
theorem tF937 : Cond.methodLink RL 116 yX8_rate ∈ vT := vt 937 (by decide +kernel) (by decide +kernel)
theorem tF938 : Cond.instanceMethod yX8_rate ∈ vT := vt 938 (by decide +kernel) (by decide +kernel)
theorem tF939 : Cond.selects yX8_rate.cls yX8_rate yX8_rate ∈ vT := vt 939 (by decide +kernel) (by decide +kernel)
theorem tF631 : Cond.methodLink RL 117 yX7_keep ∈ vT := vt 631 (by decide +kernel) (by decide +kernel)
theorem tF632 : Cond.instanceMethod yX7_keep ∈ vT := vt 632 (by decide +kernel) (by decide +kernel)
theorem tF633 : Cond.selects yX7_keep.cls yX7_keep yX7_keep ∈ vT := vt 633 (by decide +kernel) (by decide +kernel)
theorem tF947 : Cond.methodLink RL 120 yX8_keep ∈ vT := vt 947 (by decide +kernel) (by decide +kernel)
theorem tF948 : Cond.instanceMethod yX8_keep ∈ vT := vt 948 (by decide +kernel) (by decide +kernel)
theorem tF949 : Cond.selects yX8_keep.cls yX8_keep yX8_keep ∈ vT := vt 949 (by decide +kernel) (by decide +kernel)
theorem tF641 : Cond.methodLink RL 121 yX7_back ∈ vT := vt 641 (by decide +kernel) (by decide +kernel)
theorem tF642 : Cond.instanceMethod yX7_back ∈ vT := vt 642 (by decide +kernel) (by decide +kernel)
theorem tF643 : Cond.selects yX7_back.cls yX7_back yX7_back ∈ vT := vt 643 (by decide +kernel) (by decide +kernel)
theorem tF951 : Cond.methodLink RL 124 yX8_back ∈ vT := vt 951 (by decide +kernel) (by decide +kernel)
theorem tF952 : Cond.instanceMethod yX8_back ∈ vT := vt 952 (by decide +kernel) (by decide +kernel)
theorem tF953 : Cond.selects yX8_back.cls yX8_back yX8_back ∈ vT := vt 953 (by decide +kernel) (by decide +kernel)
theorem tF649 : Cond.methodLink RL 125 yX7_count ∈ vT := vt 649 (by decide +kernel) (by decide +kernel)
theorem tF650 : Cond.instanceMethod yX7_count ∈ vT := vt 650 (by decide +kernel) (by decide +kernel)
theorem tF651 : Cond.selects yX7_count.cls yX7_count yX7_count ∈ vT := vt 651 (by decide +kernel) (by decide +kernel)
theorem tF955 : Cond.methodLink RL 128 yX8_count ∈ vT := vt 955 (by decide +kernel) (by decide +kernel)
theorem tF956 : Cond.instanceMethod yX8_count ∈ vT := vt 956 (by decide +kernel) (by decide +kernel)
theorem tF957 : Cond.selects yX8_count.cls yX8_count yX8_count ∈ vT := vt 957 (by decide +kernel) (by decide +kernel)
theorem tF653 : Cond.methodLink RL 129 yX7_trace ∈ vT := vt 653 (by decide +kernel) (by decide +kernel)
theorem tF654 : Cond.instanceMethod yX7_trace ∈ vT := vt 654 (by decide +kernel) (by decide +kernel)
theorem tF655 : Cond.selects yX7_trace.cls yX7_trace yX7_trace ∈ vT := vt 655 (by decide +kernel) (by decide +kernel)
theorem tF963 : Cond.methodLink RL 133 yX8_trace ∈ vT := vt 963 (by decide +kernel) (by decide +kernel)
theorem tF964 : Cond.instanceMethod yX8_trace ∈ vT := vt 964 (by decide +kernel) (by decide +kernel)
theorem tF965 : Cond.selects yX8_trace.cls yX8_trace yX8_trace ∈ vT := vt 965 (by decide +kernel) (by decide +kernel)
theorem kX0_init : vCal mX0_init 0 := ⟨tF182, tF7, ⟨by decide, by decide, by decide +kernel⟩, by decide, by decide, rfl⟩
theorem kX0_append : vCal mX0_append 2 := ⟨tF559, tF7, ⟨by decide, by decide, by decide +kernel⟩, by decide, by decide, rfl⟩
theorem kX0_empty : vCal mX0_empty 0 := ⟨tF370, tF7, ⟨by decide, by decide, by decide +kernel⟩, by decide, by decide, rfl⟩
theorem kX0_holdBehind : vCal mX0_holdBehind 2 := ⟨tF572, tF7, ⟨by decide, by decide, by decide +kernel⟩, by decide, by decide, rfl⟩
theorem kX1_init : vCal mX1_init 0 := ⟨tF114, tF4, ⟨by decide, by decide, by decide +kernel⟩, by decide, by decide, rfl⟩
theorem kX1_begin : vCal mX1_begin 1 := ⟨tF354, tF4, ⟨by decide, by decide, by decide +kernel⟩, by decide, by decide, rfl⟩
theorem kX1_copyFrom : vCal mX1_copyFrom 1 := ⟨tF437, tF4, ⟨by decide, by decide, by decide +kernel⟩, by decide, by decide, rfl⟩
theorem kX1_townOf : vCal mX1_townOf 1 := ⟨tF380, tF4, ⟨by decide, by decide, by decide +kernel⟩, by decide, by decide, rfl⟩
theorem kX1_bearsBell : vCal mX1_bearsBell 3 := ⟨tF405, tF4, ⟨by decide, by decide, by decide +kernel⟩, by decide, by decide, rfl⟩
theorem kX1_passTerm : vCal mX1_passTerm 3 := ⟨tF441, tF4, ⟨by decide, by decide, by decide +kernel⟩, by decide, by decide, rfl⟩
theorem kX1_judgeOaths : vCal mX1_judgeOaths 1 := ⟨tF445, tF4, ⟨by decide, by decide, by decide +kernel⟩, by decide, by decide, rfl⟩
theorem kX1_cutTowers : vCal mX1_cutTowers 1 := ⟨tF472, tF4, ⟨by decide, by decide, by decide +kernel⟩, by decide, by decide, rfl⟩
theorem kX2_init : vCal mX2_init 0 := ⟨tF166, tF6, ⟨by decide, by decide, by decide +kernel⟩, by decide, by decide, rfl⟩
theorem kX2_empty : vCal mX2_empty 0 := ⟨tF366, tF6, ⟨by decide, by decide, by decide +kernel⟩, by decide, by decide, rfl⟩
theorem kX2_keepFrom : vCal mX2_keepFrom 2 := ⟨tF638, tF6, ⟨by decide, by decide, by decide +kernel⟩, by decide, by decide, rfl⟩
theorem kX2_bringInto : vCal mX2_bringInto 2 := ⟨tF648, tF6, ⟨by decide, by decide, by decide +kernel⟩, by decide, by decide, rfl⟩
theorem kX3_init : vCal mX3_init 0 := ⟨tF199, tF8, ⟨by decide, by decide, by decide +kernel⟩, by decide, by decide, rfl⟩
theorem kX3_drawBy : vCal mX3_drawBy 2 := ⟨tF451, tF8, ⟨by decide, by decide, by decide +kernel⟩, by decide, by decide, rfl⟩
theorem kX3_numberDrawn : vCal mX3_numberDrawn 2 := ⟨tF454, tF8, ⟨by decide, by decide, by decide +kernel⟩, by decide, by decide, rfl⟩
theorem kX3_takeUndrawn : vCal mX3_takeUndrawn 1 := ⟨tF462, tF8, ⟨by decide, by decide, by decide +kernel⟩, by decide, by decide, rfl⟩
theorem kX3_carry : vCal mX3_carry 1 := ⟨tF466, tF8, ⟨by decide, by decide, by decide +kernel⟩, by decide, by decide, rfl⟩
theorem kX3_repeatsTillSame : vCal mX3_repeatsTillSame 0 := ⟨tF525, tF8, ⟨by decide, by decide, by decide +kernel⟩, by decide, by decide, rfl⟩
theorem kX3_ringLength : vCal mX3_ringLength 1 := ⟨tF529, tF8, ⟨by decide, by decide, by decide +kernel⟩, by decide, by decide, rfl⟩
theorem kX3_leastCommonMultiple : vCal mX3_leastCommonMultiple 2 := ⟨tF532, tF8, ⟨by decide, by decide, by decide +kernel⟩, by decide, by decide, rfl⟩
theorem kX4_init : vCal mX4_init 0 := ⟨tF146, tF5, ⟨by decide, by decide, by decide +kernel⟩, by decide, by decide, rfl⟩
theorem kX4_empty : vCal mX4_empty 0 := ⟨tF362, tF5, ⟨by decide, by decide, by decide +kernel⟩, by decide, by decide, rfl⟩
theorem kX4_remember : vCal mX4_remember 1 := ⟨tF431, tF5, ⟨by decide, by decide, by decide +kernel⟩, by decide, by decide, rfl⟩
theorem kX4_recallInto : vCal mX4_recallInto 1 := ⟨tF491, tF5, ⟨by decide, by decide, by decide +kernel⟩, by decide, by decide, rfl⟩
theorem kX5_init : vCal mX5_init 0 := ⟨tF26, tF2, ⟨by decide, by decide, by decide +kernel⟩, by decide, by decide, rfl⟩
theorem kX5_append : vCal mX5_append 1 := ⟨tF254, tF2, ⟨by decide, by decide, by decide +kernel⟩, by decide, by decide, rfl⟩
theorem kX5_empty : vCal mX5_empty 0 := ⟨tF265, tF2, ⟨by decide, by decide, by decide +kernel⟩, by decide, by decide, rfl⟩
theorem kX5_readInto : vCal mX5_readInto 1 := ⟨tF273, tF2, ⟨by decide, by decide, by decide +kernel⟩, by decide, by decide, rfl⟩
theorem kX5_readItem : vCal mX5_readItem 1 := ⟨tF301, tF2, ⟨by decide, by decide, by decide +kernel⟩, by decide, by decide, rfl⟩
theorem kX5_mayBegin : vCal mX5_mayBegin 2 := ⟨tF304, tF2, ⟨by decide, by decide, by decide +kernel⟩, by decide, by decide, rfl⟩
theorem kX5_mayStand : vCal mX5_mayStand 3 := ⟨tF308, tF2, ⟨by decide, by decide, by decide +kernel⟩, by decide, by decide, rfl⟩
theorem kX5_nextToken : vCal mX5_nextToken 0 := ⟨tF284, tF2, ⟨by decide, by decide, by decide +kernel⟩, by decide, by decide, rfl⟩
theorem kX5_readNumber : vCal mX5_readNumber 0 := ⟨tF294, tF2, ⟨by decide, by decide, by decide +kernel⟩, by decide, by decide, rfl⟩
theorem kX5_isDigit : vCal mX5_isDigit 1 := ⟨tF290, tF2, ⟨by decide, by decide, by decide +kernel⟩, by decide, by decide, rfl⟩
theorem kX6_init : vCal mX6_init 0 := ⟨tF56, tF3, ⟨by decide, by decide, by decide +kernel⟩, by decide, by decide, rfl⟩
theorem kX6_empty : vCal mX6_empty 0 := ⟨tF277, tF3, ⟨by decide, by decide, by decide +kernel⟩, by decide, by decide, rfl⟩
theorem kX6_hasTown : vCal mX6_hasTown 1 := ⟨tF313, tF3, ⟨by decide, by decide, by decide +kernel⟩, by decide, by decide, rfl⟩
theorem kX6_add : vCal mX6_add 4 := ⟨tF318, tF3, ⟨by decide, by decide, by decide +kernel⟩, by decide, by decide, rfl⟩
theorem kX6_addTown : vCal mX6_addTown 3 := ⟨tF322, tF3, ⟨by decide, by decide, by decide +kernel⟩, by decide, by decide, rfl⟩
theorem kX6_addRoad : vCal mX6_addRoad 3 := ⟨tF330, tF3, ⟨by decide, by decide, by decide +kernel⟩, by decide, by decide, rfl⟩
theorem kX6_addOath : vCal mX6_addOath 3 := ⟨tF338, tF3, ⟨by decide, by decide, by decide +kernel⟩, by decide, by decide, rfl⟩
theorem kX6_measureWays : vCal mX6_measureWays 0 := ⟨tF342, tF3, ⟨by decide, by decide, by decide +kernel⟩, by decide, by decide, rfl⟩
theorem kX6_shortenWays : vCal mX6_shortenWays 1 := ⟨tF346, tF3, ⟨by decide, by decide, by decide +kernel⟩, by decide, by decide, rfl⟩
theorem kX6_wayBetween : vCal mX6_wayBetween 2 := ⟨tF350, tF3, ⟨by decide, by decide, by decide +kernel⟩, by decide, by decide, rfl⟩
theorem kX6_oathsCross : vCal mX6_oathsCross 2 := ⟨tF543, tF3, ⟨by decide, by decide, by decide +kernel⟩, by decide, by decide, rfl⟩
theorem kX6_bellsHungBefore : vCal mX6_bellsHungBefore 1 := ⟨tF591, tF3, ⟨by decide, by decide, by decide +kernel⟩, by decide, by decide, rfl⟩
theorem kX7_init : vCal mX7_init 0 := ⟨tF18, tF1, ⟨by decide, by decide, by decide +kernel⟩, by decide, by decide, rfl⟩
theorem kX7_type : vCal mX7_type 1 := ⟨tF247, tF1, ⟨by decide, by decide, by decide +kernel⟩, by decide, by decide, rfl⟩
theorem kX7_clear : vCal mX7_clear 0 := ⟨tF261, tF1, ⟨by decide, by decide, by decide +kernel⟩, by decide, by decide, rfl⟩
theorem kX7_plain : vCal mX7_plain 0 := ⟨tF269, tF1, ⟨by decide, by decide, by decide +kernel⟩, by decide, by decide, rfl⟩
theorem kX7_town : vCal mX7_town 2 := ⟨tF374, tF1, ⟨by decide, by decide, by decide +kernel⟩, by decide, by decide, rfl⟩
theorem kX7_bell : vCal mX7_bell 2 := ⟨tF397, tF1, ⟨by decide, by decide, by decide +kernel⟩, by decide, by decide, rfl⟩
theorem kX7_far : vCal mX7_far 2 := ⟨tF410, tF1, ⟨by decide, by decide, by decide +kernel⟩, by decide, by decide, rfl⟩
theorem kX7_oath : vCal mX7_oath 2 := ⟨tF415, tF1, ⟨by decide, by decide, by decide +kernel⟩, by decide, by decide, rfl⟩
theorem kX7_now : vCal mX7_now 1 := ⟨tF419, tF1, ⟨by decide, by decide, by decide +kernel⟩, by decide, by decide, rfl⟩
theorem kX7_lots : vCal mX7_lots 1 := ⟨tF427, tF1, ⟨by decide, by decide, by decide +kernel⟩, by decide, by decide, rfl⟩
theorem kX7_trades : vCal mX7_trades 2 := ⟨tF477, tF1, ⟨by decide, by decide, by decide +kernel⟩, by decide, by decide, rfl⟩
theorem kX7_widens : vCal mX7_widens 2 := ⟨tF483, tF1, ⟨by decide, by decide, by decide +kernel⟩, by decide, by decide, rfl⟩
theorem kX7_undo : vCal mX7_undo 0 := ⟨tF487, tF1, ⟨by decide, by decide, by decide +kernel⟩, by decide, by decide, rfl⟩
theorem kX7_inLots : vCal mX7_inLots 3 := ⟨tF495, tF1, ⟨by decide, by decide, by decide +kernel⟩, by decide, by decide, rfl⟩
theorem kX7_cost : vCal mX7_cost 1 := ⟨tF500, tF1, ⟨by decide, by decide, by decide +kernel⟩, by decide, by decide, rfl⟩
theorem kX7_home : vCal mX7_home 1 := ⟨tF505, tF1, ⟨by decide, by decide, by decide +kernel⟩, by decide, by decide, rfl⟩
theorem kX7_hang : vCal mX7_hang 1 := ⟨tF517, tF1, ⟨by decide, by decide, by decide +kernel⟩, by decide, by decide, rfl⟩
theorem kX7_round : vCal mX7_round 1 := ⟨tF521, tF1, ⟨by decide, by decide, by decide +kernel⟩, by decide, by decide, rfl⟩
theorem kX7_crossed : vCal mX7_crossed 0 := ⟨tF539, tF1, ⟨by decide, by decide, by decide +kernel⟩, by decide, by decide, rfl⟩
theorem kX7_oaths : vCal mX7_oaths 1 := ⟨tF547, tF1, ⟨by decide, by decide, by decide +kernel⟩, by decide, by decide, rfl⟩
theorem kX7_strokes : vCal mX7_strokes 2 := ⟨tF551, tF1, ⟨by decide, by decide, by decide +kernel⟩, by decide, by decide, rfl⟩
theorem kX7_found : vCal mX7_found 2 := ⟨tF555, tF1, ⟨by decide, by decide, by decide +kernel⟩, by decide, by decide, rfl⟩
theorem kX7_forget : vCal mX7_forget 0 := ⟨tF564, tF1, ⟨by decide, by decide, by decide +kernel⟩, by decide, by decide, rfl⟩
theorem kX7_which : vCal mX7_which 1 := ⟨tF568, tF1, ⟨by decide, by decide, by decide +kernel⟩, by decide, by decide, rfl⟩
theorem kX7_odds : vCal mX7_odds 1 := ⟨tF577, tF1, ⟨by decide, by decide, by decide +kernel⟩, by decide, by decide, rfl⟩
theorem kX7_rate : vCal mX7_rate 2 := ⟨tF600, tF1, ⟨by decide, by decide, by decide +kernel⟩, by decide, by decide, rfl⟩
theorem kX7_keep : vCal mX7_keep 1 := ⟨tF634, tF1, ⟨by decide, by decide, by decide +kernel⟩, by decide, by decide, rfl⟩
theorem kX7_back : vCal mX7_back 1 := ⟨tF644, tF1, ⟨by decide, by decide, by decide +kernel⟩, by decide, by decide, rfl⟩
theorem kX7_count : vCal mX7_count 1 := ⟨tF652, tF1, ⟨by decide, by decide, by decide +kernel⟩, by decide, by decide, rfl⟩
theorem kX7_trace : vCal mX7_trace 0 := ⟨tF656, tF1, ⟨by decide, by decide, by decide +kernel⟩, by decide, by decide, rfl⟩
theorem kX7_within : vCal mX7_within 3 := ⟨tF250, tF1, ⟨by decide, by decide, by decide +kernel⟩, by decide, by decide, rfl⟩
theorem kX7_at : vCal mX7_at 2 := ⟨tF287, tF1, ⟨by decide, by decide, by decide +kernel⟩, by decide, by decide, rfl⟩
theorem kX7_put : vCal mX7_put 3 := ⟨tF257, tF1, ⟨by decide, by decide, by decide +kernel⟩, by decide, by decide, rfl⟩
theorem kX7_pair : vCal mX7_pair 2 := ⟨tF333, tF1, ⟨by decide, by decide, by decide +kernel⟩, by decide, by decide, rfl⟩
theorem kX7_commonDivisor : vCal mX7_commonDivisor 2 := ⟨tF535, tF1, ⟨by decide, by decide, by decide +kernel⟩, by decide, by decide, rfl⟩
theorem kX7_dumbTowns : vCal mX7_dumbTowns 0 := ⟨tF384, tF1, ⟨by decide, by decide, by decide +kernel⟩, by decide, by decide, rfl⟩
theorem kX7_hasLikeNeighbour : vCal mX7_hasLikeNeighbour 1 := ⟨tF388, tF1, ⟨by decide, by decide, by decide +kernel⟩, by decide, by decide, rfl⟩
theorem kX7_noteIn : vCal mX7_noteIn 1 := ⟨tF393, tF1, ⟨by decide, by decide, by decide +kernel⟩, by decide, by decide, rfl⟩
theorem kX7_bellsAtHome : vCal mX7_bellsAtHome 0 := ⟨tF423, tF1, ⟨by decide, by decide, by decide +kernel⟩, by decide, by decide, rfl⟩
theorem kX7_fitsOf : vCal mX7_fitsOf 1 := ⟨tF401, tF1, ⟨by decide, by decide, by decide +kernel⟩, by decide, by decide, rfl⟩
theorem kX7_rings : vCal mX7_rings 0 := ⟨tF509, tF1, ⟨by decide, by decide, by decide +kernel⟩, by decide, by decide, rfl⟩
theorem kX7_firstTradeHome : vCal mX7_firstTradeHome 0 := ⟨tF513, tF1, ⟨by decide, by decide, by decide +kernel⟩, by decide, by decide, rfl⟩
theorem kX7_harmlessWays : vCal mX7_harmlessWays 0 := ⟨tF581, tF1, ⟨by decide, by decide, by decide +kernel⟩, by decide, by decide, rfl⟩
theorem kX7_allWays : vCal mX7_allWays 0 := ⟨tF595, tF1, ⟨by decide, by decide, by decide +kernel⟩, by decide, by decide, rfl⟩
theorem kX7_rateBell : vCal mX7_rateBell 1 := ⟨tF610, tF1, ⟨by decide, by decide, by decide +kernel⟩, by decide, by decide, rfl⟩
theorem kX7_rateGreat : vCal mX7_rateGreat 1 := ⟨tF605, tF1, ⟨by decide, by decide, by decide +kernel⟩, by decide, by decide, rfl⟩
theorem kX7_rateCracked : vCal mX7_rateCracked 1 := ⟨tF614, tF1, ⟨by decide, by decide, by decide +kernel⟩, by decide, by decide, rfl⟩
theorem kX7_rateStorm : vCal mX7_rateStorm 1 := ⟨tF619, tF1, ⟨by decide, by decide, by decide +kernel⟩, by decide, by decide, rfl⟩
theorem kX7_rateRiver : vCal mX7_rateRiver 1 := ⟨tF624, tF1, ⟨by decide, by decide, by decide +kernel⟩, by decide, by decide, rfl⟩
theorem kX7_rateCow : vCal mX7_rateCow 1 := ⟨tF629, tF1, ⟨by decide, by decide, by decide +kernel⟩, by decide, by decide, rfl⟩
theorem kX8_init : vCal mX8_init 0 := ⟨tF661, tF9, ⟨by decide, by decide, by decide +kernel⟩, by decide, by decide, rfl⟩
theorem kX8_in : vCal mX8_in 3 := ⟨tF757, tF9, ⟨by decide, by decide, by decide +kernel⟩, by decide, by decide, rfl⟩
theorem kX8_type : vCal mX8_type 1 := ⟨tF754, tF9, ⟨by decide, by decide, by decide +kernel⟩, by decide, by decide, rfl⟩
theorem kX8_clear : vCal mX8_clear 0 := ⟨tF761, tF9, ⟨by decide, by decide, by decide +kernel⟩, by decide, by decide, rfl⟩
theorem kX8_letterAt : vCal mX8_letterAt 1 := ⟨tF773, tF9, ⟨by decide, by decide, by decide +kernel⟩, by decide, by decide, rfl⟩
theorem kX8_advances : vCal mX8_advances 0 := ⟨tF769, tF9, ⟨by decide, by decide, by decide +kernel⟩, by decide, by decide, rfl⟩
theorem kX8_isWell : vCal mX8_isWell 0 := ⟨tF777, tF9, ⟨by decide, by decide, by decide +kernel⟩, by decide, by decide, rfl⟩
theorem kX8_takes : vCal mX8_takes 1 := ⟨tF781, tF9, ⟨by decide, by decide, by decide +kernel⟩, by decide, by decide, rfl⟩
theorem kX8_number : vCal mX8_number 2 := ⟨tF789, tF9, ⟨by decide, by decide, by decide +kernel⟩, by decide, by decide, rfl⟩
theorem kX8_readsItem : vCal mX8_readsItem 1 := ⟨tF785, tF9, ⟨by decide, by decide, by decide +kernel⟩, by decide, by decide, rfl⟩
theorem kX8_plain : vCal mX8_plain 0 := ⟨tF765, tF9, ⟨by decide, by decide, by decide +kernel⟩, by decide, by decide, rfl⟩
theorem kX8_settles : vCal mX8_settles 0 := ⟨tF793, tF9, ⟨by decide, by decide, by decide +kernel⟩, by decide, by decide, rfl⟩
theorem kX8_isTown : vCal mX8_isTown 1 := ⟨tF802, tF9, ⟨by decide, by decide, by decide +kernel⟩, by decide, by decide, rfl⟩
theorem kX8_hangs : vCal mX8_hangs 2 := ⟨tF805, tF9, ⟨by decide, by decide, by decide +kernel⟩, by decide, by decide, rfl⟩
theorem kX8_isDumb : vCal mX8_isDumb 1 := ⟨tF809, tF9, ⟨by decide, by decide, by decide +kernel⟩, by decide, by decide, rfl⟩
theorem kX8_town : vCal mX8_town 2 := ⟨tF798, tF9, ⟨by decide, by decide, by decide +kernel⟩, by decide, by decide, rfl⟩
theorem kX8_fits : vCal mX8_fits 1 := ⟨tF817, tF9, ⟨by decide, by decide, by decide +kernel⟩, by decide, by decide, rfl⟩
theorem kX8_bell : vCal mX8_bell 2 := ⟨tF813, tF9, ⟨by decide, by decide, by decide +kernel⟩, by decide, by decide, rfl⟩
theorem kX8_far : vCal mX8_far 2 := ⟨tF821, tF9, ⟨by decide, by decide, by decide +kernel⟩, by decide, by decide, rfl⟩
theorem kX8_oath : vCal mX8_oath 2 := ⟨tF825, tF9, ⟨by decide, by decide, by decide +kernel⟩, by decide, by decide, rfl⟩
theorem kX8_now : vCal mX8_now 1 := ⟨tF829, tF9, ⟨by decide, by decide, by decide +kernel⟩, by decide, by decide, rfl⟩
theorem kX8_notes : vCal mX8_notes 0 := ⟨tF837, tF9, ⟨by decide, by decide, by decide +kernel⟩, by decide, by decide, rfl⟩
theorem kX8_draws : vCal mX8_draws 1 := ⟨tF845, tF9, ⟨by decide, by decide, by decide +kernel⟩, by decide, by decide, rfl⟩
theorem kX8_cuts : vCal mX8_cuts 1 := ⟨tF853, tF9, ⟨by decide, by decide, by decide +kernel⟩, by decide, by decide, rfl⟩
theorem kX8_drawn : vCal mX8_drawn 2 := ⟨tF841, tF9, ⟨by decide, by decide, by decide +kernel⟩, by decide, by decide, rfl⟩
theorem kX8_lots : vCal mX8_lots 1 := ⟨tF833, tF9, ⟨by decide, by decide, by decide +kernel⟩, by decide, by decide, rfl⟩
theorem kX8_trades : vCal mX8_trades 2 := ⟨tF857, tF9, ⟨by decide, by decide, by decide +kernel⟩, by decide, by decide, rfl⟩
theorem kX8_widens : vCal mX8_widens 2 := ⟨tF861, tF9, ⟨by decide, by decide, by decide +kernel⟩, by decide, by decide, rfl⟩
theorem kX8_undo : vCal mX8_undo 0 := ⟨tF865, tF9, ⟨by decide, by decide, by decide +kernel⟩, by decide, by decide, rfl⟩
theorem kX8_asNow : vCal mX8_asNow 0 := ⟨tF873, tF9, ⟨by decide, by decide, by decide +kernel⟩, by decide, by decide, rfl⟩
theorem kX8_inLots : vCal mX8_inLots 3 := ⟨tF869, tF9, ⟨by decide, by decide, by decide +kernel⟩, by decide, by decide, rfl⟩
theorem kX8_cost : vCal mX8_cost 1 := ⟨tF877, tF9, ⟨by decide, by decide, by decide +kernel⟩, by decide, by decide, rfl⟩
theorem kX8_home : vCal mX8_home 1 := ⟨tF881, tF9, ⟨by decide, by decide, by decide +kernel⟩, by decide, by decide, rfl⟩
theorem kX8_isRow : vCal mX8_isRow 1 := ⟨tF893, tF9, ⟨by decide, by decide, by decide +kernel⟩, by decide, by decide, rfl⟩
theorem kX8_rows : vCal mX8_rows 0 := ⟨tF889, tF9, ⟨by decide, by decide, by decide +kernel⟩, by decide, by decide, rfl⟩
theorem kX8_isBorne : vCal mX8_isBorne 0 := ⟨tF897, tF9, ⟨by decide, by decide, by decide +kernel⟩, by decide, by decide, rfl⟩
theorem kX8_costOfRow : vCal mX8_costOfRow 0 := ⟨tF901, tF9, ⟨by decide, by decide, by decide +kernel⟩, by decide, by decide, rfl⟩
theorem kX8_hang : vCal mX8_hang 1 := ⟨tF885, tF9, ⟨by decide, by decide, by decide +kernel⟩, by decide, by decide, rfl⟩
theorem kX8_round : vCal mX8_round 1 := ⟨tF905, tF9, ⟨by decide, by decide, by decide +kernel⟩, by decide, by decide, rfl⟩
theorem kX8_crossed : vCal mX8_crossed 0 := ⟨tF909, tF9, ⟨by decide, by decide, by decide +kernel⟩, by decide, by decide, rfl⟩
theorem kX8_oaths : vCal mX8_oaths 1 := ⟨tF913, tF9, ⟨by decide, by decide, by decide +kernel⟩, by decide, by decide, rfl⟩
theorem kX8_strokes : vCal mX8_strokes 2 := ⟨tF917, tF9, ⟨by decide, by decide, by decide +kernel⟩, by decide, by decide, rfl⟩
theorem kX8_found : vCal mX8_found 2 := ⟨tF921, tF9, ⟨by decide, by decide, by decide +kernel⟩, by decide, by decide, rfl⟩
theorem kX8_forget : vCal mX8_forget 0 := ⟨tF925, tF9, ⟨by decide, by decide, by decide +kernel⟩, by decide, by decide, rfl⟩
theorem kX8_which : vCal mX8_which 1 := ⟨tF929, tF9, ⟨by decide, by decide, by decide +kernel⟩, by decide, by decide, rfl⟩
theorem kX8_gcd : vCal mX8_gcd 2 := ⟨tF936, tF9, ⟨by decide, by decide, by decide +kernel⟩, by decide, by decide, rfl⟩
theorem kX8_odds : vCal mX8_odds 1 := ⟨tF933, tF9, ⟨by decide, by decide, by decide +kernel⟩, by decide, by decide, rfl⟩
theorem kX8_rate : vCal mX8_rate 2 := ⟨tF940, tF9, ⟨by decide, by decide, by decide +kernel⟩, by decide, by decide, rfl⟩
theorem kX8_keep : vCal mX8_keep 1 := ⟨tF950, tF9, ⟨by decide, by decide, by decide +kernel⟩, by decide, by decide, rfl⟩
theorem kX8_back : vCal mX8_back 1 := ⟨tF954, tF9, ⟨by decide, by decide, by decide +kernel⟩, by decide, by decide, rfl⟩
theorem kX8_roads : vCal mX8_roads 0 := ⟨tF962, tF9, ⟨by decide, by decide, by decide +kernel⟩, by decide, by decide, rfl⟩
theorem kX8_count : vCal mX8_count 1 := ⟨tF958, tF9, ⟨by decide, by decide, by decide +kernel⟩, by decide, by decide, rfl⟩
theorem kX8_trace : vCal mX8_trace 0 := ⟨tF966, tF9, ⟨by decide, by decide, by decide +kernel⟩, by decide, by decide, rfl⟩
theorem kJ6_bitCount_0f7a4 : vCal mJ6_bitCount_0f7a4 1 := ⟨tF584, tF13, ⟨by decide, by decide, by decide +kernel⟩, by decide, by decide, rfl⟩
theorem kJ7_fill_53178 : vCal mJ7_fill_53178 2 := ⟨tF280, tF10, ⟨by decide, by decide, by decide +kernel⟩, by decide, by decide, rfl⟩
end
section
theorem rX0_init_0 : vLa mX0_init 0 0 1 := ⟨0, by decide +kernel, rfl, rfl⟩
theorem rX0_init_1 : vOi mX0_init 1 4 := ⟨3, by decide +kernel, rfl, tF183, tF20, tF21⟩
theorem rX0_init_4 : vLa mX0_init 4 0 5 := ⟨0, by decide +kernel, rfl, rfl⟩
theorem rX0_init_5 : vCn mX0_init 5 (nI 5) 6 := Or.inl ⟨5, by decide +kernel, by decide +kernel, rfl⟩
theorem rX0_init_6 : vNi mX0_init 6 .int 8 := ⟨by decide +kernel, rfl, tF51⟩
theorem rX0_init_8 : vPf mX0_init 8 0 0 11 := ⟨9, (RX0, TX0, 3), by decide +kernel, rfl, rfl, by decide, tF184, Or.inr ⟨rfl, rfl, rfl⟩⟩
theorem rX0_init_11 : vLa mX0_init 11 0 12 := ⟨0, by decide +kernel, rfl, rfl⟩
theorem rX0_init_12 : vCn mX0_init 12 (nI 5) 13 := Or.inl ⟨5, by decide +kernel, by decide +kernel, rfl⟩
theorem rX0_init_13 : vNi mX0_init 13 .int 15 := ⟨by decide +kernel, rfl, tF51⟩
theorem rX0_init_15 : vPf mX0_init 15 0 1 18 := ⟨15, (RX0, TX0, 3), by decide +kernel, rfl, rfl, by decide, tF185, Or.inr ⟨rfl, rfl, rfl⟩⟩
theorem rX0_init_18 : vI mX0_init 18 .return_ 1 19 := ⟨by decide +kernel, rfl⟩
theorem rX0_append_0 : vLa mX0_append 0 0 1 := ⟨0, by decide +kernel, rfl, rfl⟩
theorem rX0_append_1 : vGf mX0_append 1 0 2 4 := ⟨18, (RX0, TX0, 3), by decide +kernel, rfl, rfl, by decide, tF186⟩
theorem rX0_append_4 : vCn mX0_append 4 (nI 5) 5 := Or.inl ⟨5, by decide +kernel, by decide +kernel, rfl⟩
theorem rX0_append_5 : vIc mX0_append 5 .lt 10 8 := ⟨5, by decide +kernel, by decide, rfl⟩
theorem rX0_append_8 : vCn mX0_append 8 (nI 0) 9 := Or.inl ⟨0, by decide +kernel, by decide +kernel, rfl⟩
theorem rX0_append_9 : vI mX0_append 9 .ireturn 1 10 := ⟨by decide +kernel, rfl⟩
theorem rX0_append_10 : vLa mX0_append 10 0 11 := ⟨0, by decide +kernel, rfl, rfl⟩
theorem rX0_append_11 : vGf mX0_append 11 0 0 14 := ⟨9, (RX0, TX0, 3), by decide +kernel, rfl, rfl, by decide, tF184⟩
theorem rX0_append_14 : vLa mX0_append 14 0 15 := ⟨0, by decide +kernel, rfl, rfl⟩
theorem rX0_append_15 : vGf mX0_append 15 0 2 18 := ⟨18, (RX0, TX0, 3), by decide +kernel, rfl, rfl, by decide, tF186⟩
theorem rX0_append_18 : vLi mX0_append 18 1 19 := Or.inl ⟨1, by decide +kernel, rfl, rfl⟩
theorem rX0_append_19 : vKs mX0_append 19 mX7_put 3 22 := ⟨22, by decide +kernel, rfl, kX7_put, tF256, Or.inr ⟨"BellLots", tN560⟩⟩
theorem rX0_append_22 : vLa mX0_append 22 0 23 := ⟨0, by decide +kernel, rfl, rfl⟩
theorem rX0_append_23 : vGf mX0_append 23 0 1 26 := ⟨15, (RX0, TX0, 3), by decide +kernel, rfl, rfl, by decide, tF185⟩
theorem rX0_append_26 : vLa mX0_append 26 0 27 := ⟨0, by decide +kernel, rfl, rfl⟩
theorem rX0_append_27 : vGf mX0_append 27 0 2 30 := ⟨18, (RX0, TX0, 3), by decide +kernel, rfl, rfl, by decide, tF186⟩
theorem rX0_append_30 : vLi mX0_append 30 2 31 := Or.inl ⟨2, by decide +kernel, rfl, rfl⟩
theorem rX0_append_31 : vKs mX0_append 31 mX7_put 3 34 := ⟨22, by decide +kernel, rfl, kX7_put, tF256, Or.inr ⟨"BellLots", tN560⟩⟩
theorem rX0_append_34 : vLa mX0_append 34 0 35 := ⟨0, by decide +kernel, rfl, rfl⟩
theorem rX0_append_35 : vI mX0_append 35 .dup 1 36 := ⟨by decide +kernel, rfl⟩
theorem rX0_append_36 : vGf mX0_append 36 0 2 39 := ⟨18, (RX0, TX0, 3), by decide +kernel, rfl, rfl, by decide, tF186⟩
theorem rX0_append_39 : vCn mX0_append 39 (nI 1) 40 := Or.inl ⟨1, by decide +kernel, by decide +kernel, rfl⟩
theorem rX0_append_40 : vI mX0_append 40 .iadd 1 41 := ⟨by decide +kernel, rfl⟩
theorem rX0_append_41 : vPf mX0_append 41 0 2 44 := ⟨18, (RX0, TX0, 3), by decide +kernel, rfl, rfl, by decide, tF186, Or.inl rfl⟩
theorem rX0_append_44 : vCn mX0_append 44 (nI 1) 45 := Or.inl ⟨1, by decide +kernel, by decide +kernel, rfl⟩
theorem rX0_append_45 : vI mX0_append 45 .ireturn 1 46 := ⟨by decide +kernel, rfl⟩
theorem rX0_empty_0 : vLa mX0_empty 0 0 1 := ⟨0, by decide +kernel, rfl, rfl⟩
theorem rX0_empty_1 : vGf mX0_empty 1 0 2 4 := ⟨18, (RX0, TX0, 3), by decide +kernel, rfl, rfl, by decide, tF186⟩
theorem rX0_empty_4 : vSi mX0_empty 4 1 5 := ⟨Or.inl ⟨1, by decide +kernel, rfl, rfl⟩, by decide⟩
theorem rX0_empty_5 : vLa mX0_empty 5 0 6 := ⟨0, by decide +kernel, rfl, rfl⟩
theorem rX0_empty_6 : vCn mX0_empty 6 (nI 0) 7 := Or.inl ⟨0, by decide +kernel, by decide +kernel, rfl⟩
theorem rX0_empty_7 : vPf mX0_empty 7 0 2 10 := ⟨18, (RX0, TX0, 3), by decide +kernel, rfl, rfl, by decide, tF186, Or.inl rfl⟩
theorem rX0_empty_10 : vLi mX0_empty 10 1 11 := Or.inl ⟨1, by decide +kernel, rfl, rfl⟩
theorem rX0_empty_11 : vI mX0_empty 11 .ireturn 1 12 := ⟨by decide +kernel, rfl⟩
theorem rX0_holdBehind_0 : vCn mX0_holdBehind 0 (nI 0) 1 := Or.inl ⟨0, by decide +kernel, by decide +kernel, rfl⟩
theorem rX0_holdBehind_1 : vSi mX0_holdBehind 1 3 2 := ⟨Or.inl ⟨3, by decide +kernel, rfl, rfl⟩, by decide⟩
theorem rX0_holdBehind_2 : vLi mX0_holdBehind 2 3 3 := Or.inl ⟨3, by decide +kernel, rfl, rfl⟩
theorem rX0_holdBehind_3 : vLa mX0_holdBehind 3 0 4 := ⟨0, by decide +kernel, rfl, rfl⟩
theorem rX0_holdBehind_4 : vGf mX0_holdBehind 4 0 2 7 := ⟨18, (RX0, TX0, 3), by decide +kernel, rfl, rfl, by decide, tF186⟩
theorem rX0_holdBehind_7 : vIc mX0_holdBehind 7 .ge 55 10 := ⟨48, by decide +kernel, by decide, rfl⟩
theorem rX0_holdBehind_10 : vLa mX0_holdBehind 10 1 11 := ⟨1, by decide +kernel, rfl, rfl⟩
theorem rX0_holdBehind_11 : vGf mX0_holdBehind 11 3 0 14 := ⟨26, (RX3, TX3, 3), by decide +kernel, rfl, rfl, by decide, tF202⟩
theorem rX0_holdBehind_14 : vLa mX0_holdBehind 14 0 15 := ⟨0, by decide +kernel, rfl, rfl⟩
theorem rX0_holdBehind_15 : vGf mX0_holdBehind 15 0 1 18 := ⟨15, (RX0, TX0, 3), by decide +kernel, rfl, rfl, by decide, tF185⟩
theorem rX0_holdBehind_18 : vLi mX0_holdBehind 18 3 19 := Or.inl ⟨3, by decide +kernel, rfl, rfl⟩
theorem rX0_holdBehind_19 : vKs mX0_holdBehind 19 mX7_at 2 22 := ⟨31, by decide +kernel, rfl, kX7_at, tF286, Or.inr ⟨"BellLots", tN573⟩⟩
theorem rX0_holdBehind_22 : vKs mX0_holdBehind 22 mX7_at 2 25 := ⟨31, by decide +kernel, rfl, kX7_at, tF286, Or.inr ⟨"BellLots", tN573⟩⟩
theorem rX0_holdBehind_25 : vSi mX0_holdBehind 25 4 27 := ⟨Or.inr ⟨by decide +kernel, rfl⟩, by decide⟩
theorem rX0_holdBehind_27 : vLa mX0_holdBehind 27 2 28 := ⟨2, by decide +kernel, rfl, rfl⟩
theorem rX0_holdBehind_28 : vGf mX0_holdBehind 28 1 2 31 := ⟨35, (RX1, TX1, 6), by decide +kernel, rfl, rfl, by decide, tF121⟩
theorem rX0_holdBehind_31 : vLi mX0_holdBehind 31 4 33 := Or.inr ⟨by decide +kernel, rfl⟩
theorem rX0_holdBehind_33 : vKs mX0_holdBehind 33 mX7_at 2 36 := ⟨31, by decide +kernel, rfl, kX7_at, tF286, Or.inr ⟨"BellLots", tN573⟩⟩
theorem rX0_holdBehind_36 : vLa mX0_holdBehind 36 0 37 := ⟨0, by decide +kernel, rfl, rfl⟩
theorem rX0_holdBehind_37 : vGf mX0_holdBehind 37 0 0 40 := ⟨9, (RX0, TX0, 3), by decide +kernel, rfl, rfl, by decide, tF184⟩
theorem rX0_holdBehind_40 : vLi mX0_holdBehind 40 3 41 := Or.inl ⟨3, by decide +kernel, rfl, rfl⟩
theorem rX0_holdBehind_41 : vKs mX0_holdBehind 41 mX7_at 2 44 := ⟨31, by decide +kernel, rfl, kX7_at, tF286, Or.inr ⟨"BellLots", tN573⟩⟩
theorem rX0_holdBehind_44 : vIc mX0_holdBehind 44 .eq 49 47 := ⟨5, by decide +kernel, by decide, rfl⟩
theorem rX0_holdBehind_47 : vCn mX0_holdBehind 47 (nI 0) 48 := Or.inl ⟨0, by decide +kernel, by decide +kernel, rfl⟩
theorem rX0_holdBehind_48 : vI mX0_holdBehind 48 .ireturn 1 49 := ⟨by decide +kernel, rfl⟩
theorem rX0_holdBehind_49 : vIn mX0_holdBehind 49 3 (nI 1) 52 := ⟨1, by decide +kernel, by decide +kernel, by decide, rfl⟩
theorem rX0_holdBehind_52 : vGo mX0_holdBehind 52 2 := ⟨-50, by decide +kernel, by decide⟩
theorem rX0_holdBehind_55 : vCn mX0_holdBehind 55 (nI 1) 56 := Or.inl ⟨1, by decide +kernel, by decide +kernel, rfl⟩
theorem rX0_holdBehind_56 : vI mX0_holdBehind 56 .ireturn 1 57 := ⟨by decide +kernel, rfl⟩
theorem rX1_init_0 : vLa mX1_init 0 0 1 := ⟨0, by decide +kernel, rfl, rfl⟩
theorem rX1_init_1 : vOi mX1_init 1 4 := ⟨3, by decide +kernel, rfl, tF115, tF20, tF21⟩
theorem rX1_init_4 : vLa mX1_init 4 0 5 := ⟨0, by decide +kernel, rfl, rfl⟩
theorem rX1_init_5 : vCn mX1_init 5 (nI 6) 7 := Or.inr (Or.inl ⟨6, by decide +kernel, by decide +kernel, rfl⟩)
theorem rX1_init_7 : vNi mX1_init 7 .int 9 := ⟨by decide +kernel, rfl, tF51⟩
theorem rX1_init_9 : vPf mX1_init 9 1 2 12 := ⟨9, (RX1, TX1, 6), by decide +kernel, rfl, rfl, by decide, tF120, Or.inr ⟨rfl, rfl, rfl⟩⟩
theorem rX1_init_12 : vLa mX1_init 12 0 13 := ⟨0, by decide +kernel, rfl, rfl⟩
theorem rX1_init_13 : vCn mX1_init 13 (nI 6) 15 := Or.inr (Or.inl ⟨6, by decide +kernel, by decide +kernel, rfl⟩)
theorem rX1_init_15 : vNi mX1_init 15 .int 17 := ⟨by decide +kernel, rfl, tF51⟩
theorem rX1_init_17 : vPf mX1_init 17 1 3 20 := ⟨15, (RX1, TX1, 6), by decide +kernel, rfl, rfl, by decide, tF123, Or.inr ⟨rfl, rfl, rfl⟩⟩
theorem rX1_init_20 : vLa mX1_init 20 0 21 := ⟨0, by decide +kernel, rfl, rfl⟩
theorem rX1_init_21 : vCn mX1_init 21 (nI 6) 23 := Or.inr (Or.inl ⟨6, by decide +kernel, by decide +kernel, rfl⟩)
theorem rX1_init_23 : vNi mX1_init 23 .int 25 := ⟨by decide +kernel, rfl, tF51⟩
theorem rX1_init_25 : vPf mX1_init 25 1 4 28 := ⟨18, (RX1, TX1, 6), by decide +kernel, rfl, rfl, by decide, tF125, Or.inr ⟨rfl, rfl, rfl⟩⟩
theorem rX1_init_28 : vLa mX1_init 28 0 29 := ⟨0, by decide +kernel, rfl, rfl⟩
theorem rX1_init_29 : vCn mX1_init 29 (nI 36) 31 := Or.inr (Or.inl ⟨36, by decide +kernel, by decide +kernel, rfl⟩)
theorem rX1_init_31 : vNi mX1_init 31 .int 33 := ⟨by decide +kernel, rfl, tF51⟩
theorem rX1_init_33 : vPf mX1_init 33 1 5 36 := ⟨21, (RX1, TX1, 6), by decide +kernel, rfl, rfl, by decide, tF127, Or.inr ⟨rfl, rfl, rfl⟩⟩
theorem rX1_init_36 : vI mX1_init 36 .return_ 1 37 := ⟨by decide +kernel, rfl⟩
theorem rX1_begin_0 : vLa mX1_begin 0 0 1 := ⟨0, by decide +kernel, rfl, rfl⟩
theorem rX1_begin_1 : vCn mX1_begin 1 (nI 0) 2 := Or.inl ⟨0, by decide +kernel, by decide +kernel, rfl⟩
theorem rX1_begin_2 : vPf mX1_begin 2 1 0 5 := ⟨24, (RX1, TX1, 6), by decide +kernel, rfl, rfl, by decide, tF116, Or.inl rfl⟩
theorem rX1_begin_5 : vLa mX1_begin 5 0 6 := ⟨0, by decide +kernel, rfl, rfl⟩
theorem rX1_begin_6 : vCn mX1_begin 6 (nI 0) 7 := Or.inl ⟨0, by decide +kernel, by decide +kernel, rfl⟩
theorem rX1_begin_7 : vPf mX1_begin 7 1 1 10 := ⟨28, (RX1, TX1, 6), by decide +kernel, rfl, rfl, by decide, tF118, Or.inl rfl⟩
theorem rX1_begin_10 : vCn mX1_begin 10 (nI 0) 11 := Or.inl ⟨0, by decide +kernel, by decide +kernel, rfl⟩
theorem rX1_begin_11 : vSi mX1_begin 11 2 12 := ⟨Or.inl ⟨2, by decide +kernel, rfl, rfl⟩, by decide⟩
theorem rX1_begin_12 : vLi mX1_begin 12 2 13 := Or.inl ⟨2, by decide +kernel, rfl, rfl⟩
theorem rX1_begin_13 : vCn mX1_begin 13 (nI 6) 15 := Or.inr (Or.inl ⟨6, by decide +kernel, by decide +kernel, rfl⟩)
theorem rX1_begin_15 : vIc mX1_begin 15 .ge 31 18 := ⟨16, by decide +kernel, by decide, rfl⟩
theorem rX1_begin_18 : vLa mX1_begin 18 0 19 := ⟨0, by decide +kernel, rfl, rfl⟩
theorem rX1_begin_19 : vGf mX1_begin 19 1 2 22 := ⟨9, (RX1, TX1, 6), by decide +kernel, rfl, rfl, by decide, tF120⟩
theorem rX1_begin_22 : vLi mX1_begin 22 2 23 := Or.inl ⟨2, by decide +kernel, rfl, rfl⟩
theorem rX1_begin_23 : vLi mX1_begin 23 2 24 := Or.inl ⟨2, by decide +kernel, rfl, rfl⟩
theorem rX1_begin_24 : vI mX1_begin 24 .iastore 1 25 := ⟨by decide +kernel, rfl⟩
theorem rX1_begin_25 : vIn mX1_begin 25 2 (nI 1) 28 := ⟨1, by decide +kernel, by decide +kernel, by decide, rfl⟩
theorem rX1_begin_28 : vGo mX1_begin 28 12 := ⟨-16, by decide +kernel, by decide⟩
theorem rX1_begin_31 : vLa mX1_begin 31 1 32 := ⟨1, by decide +kernel, rfl, rfl⟩
theorem rX1_begin_32 : vGf mX1_begin 32 6 3 35 := ⟨31, (RX6, TX6, 11), by decide +kernel, rfl, rfl, by decide, tF69⟩
theorem rX1_begin_35 : vCn mX1_begin 35 (nI 0) 36 := Or.inl ⟨0, by decide +kernel, by decide +kernel, rfl⟩
theorem rX1_begin_36 : vLa mX1_begin 36 0 37 := ⟨0, by decide +kernel, rfl, rfl⟩
theorem rX1_begin_37 : vGf mX1_begin 37 1 3 40 := ⟨15, (RX1, TX1, 6), by decide +kernel, rfl, rfl, by decide, tF123⟩
theorem rX1_begin_40 : vCn mX1_begin 40 (nI 0) 41 := Or.inl ⟨0, by decide +kernel, by decide +kernel, rfl⟩
theorem rX1_begin_41 : vCn mX1_begin 41 (nI 6) 43 := Or.inr (Or.inl ⟨6, by decide +kernel, by decide +kernel, rfl⟩)
theorem rX1_begin_43 : vCp mX1_begin 43 46 := ⟨36, by decide +kernel, rfl, tF355, tF357, tF356, tF12⟩
theorem rX1_begin_46 : vLa mX1_begin 46 0 47 := ⟨0, by decide +kernel, rfl, rfl⟩
theorem rX1_begin_47 : vGf mX1_begin 47 1 4 50 := ⟨18, (RX1, TX1, 6), by decide +kernel, rfl, rfl, by decide, tF125⟩
theorem rX1_begin_50 : vCn mX1_begin 50 (nI 0) 51 := Or.inl ⟨0, by decide +kernel, by decide +kernel, rfl⟩
theorem rX1_begin_51 : vKs mX1_begin 51 mJ7_fill_53178 2 54 := ⟨42, by decide +kernel, rfl, kJ7_fill_53178, tF279, Or.inl tF358⟩
theorem rX1_begin_54 : vLa mX1_begin 54 0 55 := ⟨0, by decide +kernel, rfl, rfl⟩
theorem rX1_begin_55 : vGf mX1_begin 55 1 5 58 := ⟨21, (RX1, TX1, 6), by decide +kernel, rfl, rfl, by decide, tF127⟩
theorem rX1_begin_58 : vCn mX1_begin 58 (nI 0) 59 := Or.inl ⟨0, by decide +kernel, by decide +kernel, rfl⟩
theorem rX1_begin_59 : vKs mX1_begin 59 mJ7_fill_53178 2 62 := ⟨42, by decide +kernel, rfl, kJ7_fill_53178, tF279, Or.inl tF358⟩
theorem rX1_begin_62 : vI mX1_begin 62 .return_ 1 63 := ⟨by decide +kernel, rfl⟩
theorem rX1_copyFrom_0 : vLa mX1_copyFrom 0 0 1 := ⟨0, by decide +kernel, rfl, rfl⟩
theorem rX1_copyFrom_1 : vLa mX1_copyFrom 1 1 2 := ⟨1, by decide +kernel, rfl, rfl⟩
theorem rX1_copyFrom_2 : vGf mX1_copyFrom 2 1 0 5 := ⟨24, (RX1, TX1, 6), by decide +kernel, rfl, rfl, by decide, tF116⟩
theorem rX1_copyFrom_5 : vPf mX1_copyFrom 5 1 0 8 := ⟨24, (RX1, TX1, 6), by decide +kernel, rfl, rfl, by decide, tF116, Or.inl rfl⟩
theorem rX1_copyFrom_8 : vLa mX1_copyFrom 8 0 9 := ⟨0, by decide +kernel, rfl, rfl⟩
theorem rX1_copyFrom_9 : vLa mX1_copyFrom 9 1 10 := ⟨1, by decide +kernel, rfl, rfl⟩
theorem rX1_copyFrom_10 : vGf mX1_copyFrom 10 1 1 13 := ⟨28, (RX1, TX1, 6), by decide +kernel, rfl, rfl, by decide, tF118⟩
theorem rX1_copyFrom_13 : vPf mX1_copyFrom 13 1 1 16 := ⟨28, (RX1, TX1, 6), by decide +kernel, rfl, rfl, by decide, tF118, Or.inl rfl⟩
theorem rX1_copyFrom_16 : vLa mX1_copyFrom 16 1 17 := ⟨1, by decide +kernel, rfl, rfl⟩
theorem rX1_copyFrom_17 : vGf mX1_copyFrom 17 1 2 20 := ⟨9, (RX1, TX1, 6), by decide +kernel, rfl, rfl, by decide, tF120⟩
theorem rX1_copyFrom_20 : vCn mX1_copyFrom 20 (nI 0) 21 := Or.inl ⟨0, by decide +kernel, by decide +kernel, rfl⟩
theorem rX1_copyFrom_21 : vLa mX1_copyFrom 21 0 22 := ⟨0, by decide +kernel, rfl, rfl⟩
theorem rX1_copyFrom_22 : vGf mX1_copyFrom 22 1 2 25 := ⟨9, (RX1, TX1, 6), by decide +kernel, rfl, rfl, by decide, tF120⟩
theorem rX1_copyFrom_25 : vCn mX1_copyFrom 25 (nI 0) 26 := Or.inl ⟨0, by decide +kernel, by decide +kernel, rfl⟩
theorem rX1_copyFrom_26 : vCn mX1_copyFrom 26 (nI 6) 28 := Or.inr (Or.inl ⟨6, by decide +kernel, by decide +kernel, rfl⟩)
theorem rX1_copyFrom_28 : vCp mX1_copyFrom 28 31 := ⟨36, by decide +kernel, rfl, tF355, tF357, tF356, tF12⟩
theorem rX1_copyFrom_31 : vLa mX1_copyFrom 31 1 32 := ⟨1, by decide +kernel, rfl, rfl⟩
theorem rX1_copyFrom_32 : vGf mX1_copyFrom 32 1 3 35 := ⟨15, (RX1, TX1, 6), by decide +kernel, rfl, rfl, by decide, tF123⟩
theorem rX1_copyFrom_35 : vCn mX1_copyFrom 35 (nI 0) 36 := Or.inl ⟨0, by decide +kernel, by decide +kernel, rfl⟩
theorem rX1_copyFrom_36 : vLa mX1_copyFrom 36 0 37 := ⟨0, by decide +kernel, rfl, rfl⟩
theorem rX1_copyFrom_37 : vGf mX1_copyFrom 37 1 3 40 := ⟨15, (RX1, TX1, 6), by decide +kernel, rfl, rfl, by decide, tF123⟩
theorem rX1_copyFrom_40 : vCn mX1_copyFrom 40 (nI 0) 41 := Or.inl ⟨0, by decide +kernel, by decide +kernel, rfl⟩
theorem rX1_copyFrom_41 : vCn mX1_copyFrom 41 (nI 6) 43 := Or.inr (Or.inl ⟨6, by decide +kernel, by decide +kernel, rfl⟩)
theorem rX1_copyFrom_43 : vCp mX1_copyFrom 43 46 := ⟨36, by decide +kernel, rfl, tF355, tF357, tF356, tF12⟩
theorem rX1_copyFrom_46 : vLa mX1_copyFrom 46 1 47 := ⟨1, by decide +kernel, rfl, rfl⟩
theorem rX1_copyFrom_47 : vGf mX1_copyFrom 47 1 4 50 := ⟨18, (RX1, TX1, 6), by decide +kernel, rfl, rfl, by decide, tF125⟩
theorem rX1_copyFrom_50 : vCn mX1_copyFrom 50 (nI 0) 51 := Or.inl ⟨0, by decide +kernel, by decide +kernel, rfl⟩
theorem rX1_copyFrom_51 : vLa mX1_copyFrom 51 0 52 := ⟨0, by decide +kernel, rfl, rfl⟩
theorem rX1_copyFrom_52 : vGf mX1_copyFrom 52 1 4 55 := ⟨18, (RX1, TX1, 6), by decide +kernel, rfl, rfl, by decide, tF125⟩
theorem rX1_copyFrom_55 : vCn mX1_copyFrom 55 (nI 0) 56 := Or.inl ⟨0, by decide +kernel, by decide +kernel, rfl⟩
theorem rX1_copyFrom_56 : vCn mX1_copyFrom 56 (nI 6) 58 := Or.inr (Or.inl ⟨6, by decide +kernel, by decide +kernel, rfl⟩)
theorem rX1_copyFrom_58 : vCp mX1_copyFrom 58 61 := ⟨36, by decide +kernel, rfl, tF355, tF357, tF356, tF12⟩
theorem rX1_copyFrom_61 : vLa mX1_copyFrom 61 1 62 := ⟨1, by decide +kernel, rfl, rfl⟩
theorem rX1_copyFrom_62 : vGf mX1_copyFrom 62 1 5 65 := ⟨21, (RX1, TX1, 6), by decide +kernel, rfl, rfl, by decide, tF127⟩
theorem rX1_copyFrom_65 : vCn mX1_copyFrom 65 (nI 0) 66 := Or.inl ⟨0, by decide +kernel, by decide +kernel, rfl⟩
theorem rX1_copyFrom_66 : vLa mX1_copyFrom 66 0 67 := ⟨0, by decide +kernel, rfl, rfl⟩
theorem rX1_copyFrom_67 : vGf mX1_copyFrom 67 1 5 70 := ⟨21, (RX1, TX1, 6), by decide +kernel, rfl, rfl, by decide, tF127⟩
theorem rX1_copyFrom_70 : vCn mX1_copyFrom 70 (nI 0) 71 := Or.inl ⟨0, by decide +kernel, by decide +kernel, rfl⟩
theorem rX1_copyFrom_71 : vCn mX1_copyFrom 71 (nI 36) 73 := Or.inr (Or.inl ⟨36, by decide +kernel, by decide +kernel, rfl⟩)
theorem rX1_copyFrom_73 : vCp mX1_copyFrom 73 76 := ⟨36, by decide +kernel, rfl, tF355, tF357, tF356, tF12⟩
theorem rX1_copyFrom_76 : vI mX1_copyFrom 76 .return_ 1 77 := ⟨by decide +kernel, rfl⟩
theorem rX1_townOf_0 : vCn mX1_townOf 0 (nI 0) 1 := Or.inl ⟨0, by decide +kernel, by decide +kernel, rfl⟩
theorem rX1_townOf_1 : vSi mX1_townOf 1 2 2 := ⟨Or.inl ⟨2, by decide +kernel, rfl, rfl⟩, by decide⟩
theorem rX1_townOf_2 : vLi mX1_townOf 2 2 3 := Or.inl ⟨2, by decide +kernel, rfl, rfl⟩
theorem rX1_townOf_3 : vCn mX1_townOf 3 (nI 5) 4 := Or.inl ⟨5, by decide +kernel, by decide +kernel, rfl⟩
theorem rX1_townOf_4 : vIc mX1_townOf 4 .ge 23 7 := ⟨19, by decide +kernel, by decide, rfl⟩
theorem rX1_townOf_7 : vLa mX1_townOf 7 0 8 := ⟨0, by decide +kernel, rfl, rfl⟩
theorem rX1_townOf_8 : vGf mX1_townOf 8 1 2 11 := ⟨9, (RX1, TX1, 6), by decide +kernel, rfl, rfl, by decide, tF120⟩
theorem rX1_townOf_11 : vLi mX1_townOf 11 2 12 := Or.inl ⟨2, by decide +kernel, rfl, rfl⟩
theorem rX1_townOf_12 : vI mX1_townOf 12 .iaload 1 13 := ⟨by decide +kernel, rfl⟩
theorem rX1_townOf_13 : vLi mX1_townOf 13 1 14 := Or.inl ⟨1, by decide +kernel, rfl, rfl⟩
theorem rX1_townOf_14 : vIc mX1_townOf 14 .eq 23 17 := ⟨9, by decide +kernel, by decide, rfl⟩
theorem rX1_townOf_17 : vIn mX1_townOf 17 2 (nI 1) 20 := ⟨1, by decide +kernel, by decide +kernel, by decide, rfl⟩
theorem rX1_townOf_20 : vGo mX1_townOf 20 2 := ⟨-18, by decide +kernel, by decide⟩
theorem rX1_townOf_23 : vLi mX1_townOf 23 2 24 := Or.inl ⟨2, by decide +kernel, rfl, rfl⟩
theorem rX1_townOf_24 : vI mX1_townOf 24 .ireturn 1 25 := ⟨by decide +kernel, rfl⟩
theorem rX1_bearsBell_0 : vLa mX1_bearsBell 0 0 1 := ⟨0, by decide +kernel, rfl, rfl⟩
theorem rX1_bearsBell_1 : vGf mX1_bearsBell 1 1 3 4 := ⟨15, (RX1, TX1, 6), by decide +kernel, rfl, rfl, by decide, tF123⟩
theorem rX1_bearsBell_4 : vLi mX1_bearsBell 4 2 5 := Or.inl ⟨2, by decide +kernel, rfl, rfl⟩
theorem rX1_bearsBell_5 : vKs mX1_bearsBell 5 mX7_at 2 8 := ⟨48, by decide +kernel, rfl, kX7_at, tF286, Or.inr ⟨"BellLots", tN406⟩⟩
theorem rX1_bearsBell_8 : vLa mX1_bearsBell 8 1 9 := ⟨1, by decide +kernel, rfl, rfl⟩
theorem rX1_bearsBell_9 : vGf mX1_bearsBell 9 6 4 12 := ⟨52, (RX6, TX6, 11), by decide +kernel, rfl, rfl, by decide, tF71⟩
theorem rX1_bearsBell_12 : vLi mX1_bearsBell 12 3 13 := Or.inl ⟨3, by decide +kernel, rfl, rfl⟩
theorem rX1_bearsBell_13 : vKs mX1_bearsBell 13 mX7_at 2 16 := ⟨48, by decide +kernel, rfl, kX7_at, tF286, Or.inr ⟨"BellLots", tN406⟩⟩
theorem rX1_bearsBell_16 : vIc mX1_bearsBell 16 .lt 23 19 := ⟨7, by decide +kernel, by decide, rfl⟩
theorem rX1_bearsBell_19 : vCn mX1_bearsBell 19 (nI 1) 20 := Or.inl ⟨1, by decide +kernel, by decide +kernel, rfl⟩
theorem rX1_bearsBell_20 : vGo mX1_bearsBell 20 24 := ⟨4, by decide +kernel, by decide⟩
theorem rX1_bearsBell_23 : vCn mX1_bearsBell 23 (nI 0) 24 := Or.inl ⟨0, by decide +kernel, by decide +kernel, rfl⟩
theorem rX1_bearsBell_24 : vI mX1_bearsBell 24 .ireturn 1 25 := ⟨by decide +kernel, rfl⟩
theorem rX1_passTerm_0 : vLa mX1_passTerm 0 0 1 := ⟨0, by decide +kernel, rfl, rfl⟩
theorem rX1_passTerm_1 : vLa mX1_passTerm 1 1 2 := ⟨1, by decide +kernel, rfl, rfl⟩
theorem rX1_passTerm_2 : vKv mX1_passTerm 2 mX1_judgeOaths 1 1 5 := ⟨55, (RX1, TX1, 6), by decide +kernel, rfl, kX1_judgeOaths, tF444, tF442, tS13, rfl, rfl⟩
theorem rX1_passTerm_5 : vCn mX1_passTerm 5 (nI 0) 6 := Or.inl ⟨0, by decide +kernel, by decide +kernel, rfl⟩
theorem rX1_passTerm_6 : vSi mX1_passTerm 6 4 8 := ⟨Or.inr ⟨by decide +kernel, rfl⟩, by decide⟩
theorem rX1_passTerm_8 : vLi mX1_passTerm 8 4 10 := Or.inr ⟨by decide +kernel, rfl⟩
theorem rX1_passTerm_10 : vLa mX1_passTerm 10 1 11 := ⟨1, by decide +kernel, rfl, rfl⟩
theorem rX1_passTerm_11 : vGf mX1_passTerm 11 6 0 14 := ⟨59, (RX6, TX6, 11), by decide +kernel, rfl, rfl, by decide, tF59⟩
theorem rX1_passTerm_14 : vIc mX1_passTerm 14 .ge 59 17 := ⟨45, by decide +kernel, by decide, rfl⟩
theorem rX1_passTerm_17 : vLa mX1_passTerm 17 0 18 := ⟨0, by decide +kernel, rfl, rfl⟩
theorem rX1_passTerm_18 : vGf mX1_passTerm 18 1 2 21 := ⟨9, (RX1, TX1, 6), by decide +kernel, rfl, rfl, by decide, tF120⟩
theorem rX1_passTerm_21 : vLi mX1_passTerm 21 4 23 := Or.inr ⟨by decide +kernel, rfl⟩
theorem rX1_passTerm_23 : vKs mX1_passTerm 23 mX7_at 2 26 := ⟨48, by decide +kernel, rfl, kX7_at, tF286, Or.inr ⟨"BellLots", tN406⟩⟩
theorem rX1_passTerm_26 : vLi mX1_passTerm 26 4 28 := Or.inr ⟨by decide +kernel, rfl⟩
theorem rX1_passTerm_28 : vKs mX1_passTerm 28 mX7_pair 2 31 := ⟨62, by decide +kernel, rfl, kX7_pair, tF332, Or.inr ⟨"BellLots", tN447⟩⟩
theorem rX1_passTerm_31 : vSi mX1_passTerm 31 5 33 := ⟨Or.inr ⟨by decide +kernel, rfl⟩, by decide⟩
theorem rX1_passTerm_33 : vLa mX1_passTerm 33 0 34 := ⟨0, by decide +kernel, rfl, rfl⟩
theorem rX1_passTerm_34 : vGf mX1_passTerm 34 1 5 37 := ⟨21, (RX1, TX1, 6), by decide +kernel, rfl, rfl, by decide, tF127⟩
theorem rX1_passTerm_37 : vLi mX1_passTerm 37 5 39 := Or.inr ⟨by decide +kernel, rfl⟩
theorem rX1_passTerm_39 : vLa mX1_passTerm 39 0 40 := ⟨0, by decide +kernel, rfl, rfl⟩
theorem rX1_passTerm_40 : vGf mX1_passTerm 40 1 5 43 := ⟨21, (RX1, TX1, 6), by decide +kernel, rfl, rfl, by decide, tF127⟩
theorem rX1_passTerm_43 : vLi mX1_passTerm 43 5 45 := Or.inr ⟨by decide +kernel, rfl⟩
theorem rX1_passTerm_45 : vKs mX1_passTerm 45 mX7_at 2 48 := ⟨48, by decide +kernel, rfl, kX7_at, tF286, Or.inr ⟨"BellLots", tN406⟩⟩
theorem rX1_passTerm_48 : vCn mX1_passTerm 48 (nI 1) 49 := Or.inl ⟨1, by decide +kernel, by decide +kernel, rfl⟩
theorem rX1_passTerm_49 : vI mX1_passTerm 49 .iadd 1 50 := ⟨by decide +kernel, rfl⟩
theorem rX1_passTerm_50 : vKs mX1_passTerm 50 mX7_put 3 53 := ⟨66, by decide +kernel, rfl, kX7_put, tF256, Or.inr ⟨"BellLots", tN446⟩⟩
theorem rX1_passTerm_53 : vIn mX1_passTerm 53 4 (nI 1) 56 := ⟨1, by decide +kernel, by decide +kernel, by decide, rfl⟩
theorem rX1_passTerm_56 : vGo mX1_passTerm 56 8 := ⟨-48, by decide +kernel, by decide⟩
theorem rX1_passTerm_59 : vLa mX1_passTerm 59 2 60 := ⟨2, by decide +kernel, rfl, rfl⟩
theorem rX1_passTerm_60 : vLa mX1_passTerm 60 1 61 := ⟨1, by decide +kernel, rfl, rfl⟩
theorem rX1_passTerm_61 : vGf mX1_passTerm 61 6 0 64 := ⟨59, (RX6, TX6, 11), by decide +kernel, rfl, rfl, by decide, tF59⟩
theorem rX1_passTerm_64 : vLi mX1_passTerm 64 3 65 := Or.inl ⟨3, by decide +kernel, rfl, rfl⟩
theorem rX1_passTerm_65 : vKv mX1_passTerm 65 mX3_drawBy 2 3 68 := ⟨70, (RX3, TX3, 3), by decide +kernel, rfl, kX3_drawBy, tF449, tF448, tF450, rfl, rfl⟩
theorem rX1_passTerm_68 : vLa mX1_passTerm 68 2 69 := ⟨2, by decide +kernel, rfl, rfl⟩
theorem rX1_passTerm_69 : vLa mX1_passTerm 69 0 70 := ⟨0, by decide +kernel, rfl, rfl⟩
theorem rX1_passTerm_70 : vGf mX1_passTerm 70 1 2 73 := ⟨9, (RX1, TX1, 6), by decide +kernel, rfl, rfl, by decide, tF120⟩
theorem rX1_passTerm_73 : vKv mX1_passTerm 73 mX3_carry 1 3 76 := ⟨76, (RX3, TX3, 3), by decide +kernel, rfl, kX3_carry, tF464, tF463, tF465, rfl, rfl⟩
theorem rX1_passTerm_76 : vLa mX1_passTerm 76 0 77 := ⟨0, by decide +kernel, rfl, rfl⟩
theorem rX1_passTerm_77 : vI mX1_passTerm 77 .dup 1 78 := ⟨by decide +kernel, rfl⟩
theorem rX1_passTerm_78 : vGf mX1_passTerm 78 1 0 81 := ⟨24, (RX1, TX1, 6), by decide +kernel, rfl, rfl, by decide, tF116⟩
theorem rX1_passTerm_81 : vCn mX1_passTerm 81 (nI 1) 82 := Or.inl ⟨1, by decide +kernel, by decide +kernel, rfl⟩
theorem rX1_passTerm_82 : vI mX1_passTerm 82 .iadd 1 83 := ⟨by decide +kernel, rfl⟩
theorem rX1_passTerm_83 : vPf mX1_passTerm 83 1 0 86 := ⟨24, (RX1, TX1, 6), by decide +kernel, rfl, rfl, by decide, tF116, Or.inl rfl⟩
theorem rX1_passTerm_86 : vLa mX1_passTerm 86 0 87 := ⟨0, by decide +kernel, rfl, rfl⟩
theorem rX1_passTerm_87 : vLa mX1_passTerm 87 1 88 := ⟨1, by decide +kernel, rfl, rfl⟩
theorem rX1_passTerm_88 : vKv mX1_passTerm 88 mX1_cutTowers 1 1 91 := ⟨80, (RX1, TX1, 6), by decide +kernel, rfl, kX1_cutTowers, tF470, tF469, tF471, rfl, rfl⟩
theorem rX1_passTerm_91 : vI mX1_passTerm 91 .ireturn 1 92 := ⟨by decide +kernel, rfl⟩
theorem rX1_judgeOaths_0 : vCn mX1_judgeOaths 0 (nI 0) 1 := Or.inl ⟨0, by decide +kernel, by decide +kernel, rfl⟩
theorem rX1_judgeOaths_1 : vSi mX1_judgeOaths 1 2 2 := ⟨Or.inl ⟨2, by decide +kernel, rfl, rfl⟩, by decide⟩
theorem rX1_judgeOaths_2 : vLi mX1_judgeOaths 2 2 3 := Or.inl ⟨2, by decide +kernel, rfl, rfl⟩
theorem rX1_judgeOaths_3 : vLa mX1_judgeOaths 3 1 4 := ⟨1, by decide +kernel, rfl, rfl⟩
theorem rX1_judgeOaths_4 : vGf mX1_judgeOaths 4 6 2 7 := ⟨84, (RX6, TX6, 11), by decide +kernel, rfl, rfl, by decide, tF66⟩
theorem rX1_judgeOaths_7 : vIc mX1_judgeOaths 7 .ge 80 10 := ⟨73, by decide +kernel, by decide, rfl⟩
theorem rX1_judgeOaths_10 : vLa mX1_judgeOaths 10 1 11 := ⟨1, by decide +kernel, rfl, rfl⟩
theorem rX1_judgeOaths_11 : vGf mX1_judgeOaths 11 6 10 14 := ⟨87, (RX6, TX6, 11), by decide +kernel, rfl, rfl, by decide, tF85⟩
theorem rX1_judgeOaths_14 : vLi mX1_judgeOaths 14 2 15 := Or.inl ⟨2, by decide +kernel, rfl, rfl⟩
theorem rX1_judgeOaths_15 : vKs mX1_judgeOaths 15 mX7_at 2 18 := ⟨48, by decide +kernel, rfl, kX7_at, tF286, Or.inr ⟨"BellLots", tN406⟩⟩
theorem rX1_judgeOaths_18 : vLa mX1_judgeOaths 18 0 19 := ⟨0, by decide +kernel, rfl, rfl⟩
theorem rX1_judgeOaths_19 : vGf mX1_judgeOaths 19 1 0 22 := ⟨24, (RX1, TX1, 6), by decide +kernel, rfl, rfl, by decide, tF116⟩
theorem rX1_judgeOaths_22 : vIc mX1_judgeOaths 22 .ne 74 25 := ⟨52, by decide +kernel, by decide, rfl⟩
theorem rX1_judgeOaths_25 : vLa mX1_judgeOaths 25 0 26 := ⟨0, by decide +kernel, rfl, rfl⟩
theorem rX1_judgeOaths_26 : vGf mX1_judgeOaths 26 1 2 29 := ⟨9, (RX1, TX1, 6), by decide +kernel, rfl, rfl, by decide, tF120⟩
theorem rX1_judgeOaths_29 : vLa mX1_judgeOaths 29 1 30 := ⟨1, by decide +kernel, rfl, rfl⟩
theorem rX1_judgeOaths_30 : vGf mX1_judgeOaths 30 6 9 33 := ⟨90, (RX6, TX6, 11), by decide +kernel, rfl, rfl, by decide, tF82⟩
theorem rX1_judgeOaths_33 : vLi mX1_judgeOaths 33 2 34 := Or.inl ⟨2, by decide +kernel, rfl, rfl⟩
theorem rX1_judgeOaths_34 : vKs mX1_judgeOaths 34 mX7_at 2 37 := ⟨48, by decide +kernel, rfl, kX7_at, tF286, Or.inr ⟨"BellLots", tN406⟩⟩
theorem rX1_judgeOaths_37 : vKs mX1_judgeOaths 37 mX7_at 2 40 := ⟨48, by decide +kernel, rfl, kX7_at, tF286, Or.inr ⟨"BellLots", tN406⟩⟩
theorem rX1_judgeOaths_40 : vLa mX1_judgeOaths 40 1 41 := ⟨1, by decide +kernel, rfl, rfl⟩
theorem rX1_judgeOaths_41 : vGf mX1_judgeOaths 41 6 8 44 := ⟨93, (RX6, TX6, 11), by decide +kernel, rfl, rfl, by decide, tF79⟩
theorem rX1_judgeOaths_44 : vLi mX1_judgeOaths 44 2 45 := Or.inl ⟨2, by decide +kernel, rfl, rfl⟩
theorem rX1_judgeOaths_45 : vKs mX1_judgeOaths 45 mX7_at 2 48 := ⟨48, by decide +kernel, rfl, kX7_at, tF286, Or.inr ⟨"BellLots", tN406⟩⟩
theorem rX1_judgeOaths_48 : vIc mX1_judgeOaths 48 .ne 55 51 := ⟨7, by decide +kernel, by decide, rfl⟩
theorem rX1_judgeOaths_51 : vCn mX1_judgeOaths 51 (nI 1) 52 := Or.inl ⟨1, by decide +kernel, by decide +kernel, rfl⟩
theorem rX1_judgeOaths_52 : vGo mX1_judgeOaths 52 56 := ⟨4, by decide +kernel, by decide⟩
theorem rX1_judgeOaths_55 : vCn mX1_judgeOaths 55 (nI 0) 56 := Or.inl ⟨0, by decide +kernel, by decide +kernel, rfl⟩
theorem rX1_judgeOaths_56 : vSi mX1_judgeOaths 56 3 57 := ⟨Or.inl ⟨3, by decide +kernel, rfl, rfl⟩, by decide⟩
theorem rX1_judgeOaths_57 : vLa mX1_judgeOaths 57 0 58 := ⟨0, by decide +kernel, rfl, rfl⟩
theorem rX1_judgeOaths_58 : vGf mX1_judgeOaths 58 1 4 61 := ⟨18, (RX1, TX1, 6), by decide +kernel, rfl, rfl, by decide, tF125⟩
theorem rX1_judgeOaths_61 : vLi mX1_judgeOaths 61 2 62 := Or.inl ⟨2, by decide +kernel, rfl, rfl⟩
theorem rX1_judgeOaths_62 : vLi mX1_judgeOaths 62 3 63 := Or.inl ⟨3, by decide +kernel, rfl, rfl⟩
theorem rX1_judgeOaths_63 : vIf mX1_judgeOaths 63 .eq 70 66 := ⟨7, by decide +kernel, by decide, rfl⟩
theorem rX1_judgeOaths_66 : vCn mX1_judgeOaths 66 (nI 1) 67 := Or.inl ⟨1, by decide +kernel, by decide +kernel, rfl⟩
theorem rX1_judgeOaths_67 : vGo mX1_judgeOaths 67 71 := ⟨4, by decide +kernel, by decide⟩
theorem rX1_judgeOaths_70 : vCn mX1_judgeOaths 70 (nI 2) 71 := Or.inl ⟨2, by decide +kernel, by decide +kernel, rfl⟩
theorem rX1_judgeOaths_71 : vKs mX1_judgeOaths 71 mX7_put 3 74 := ⟨66, by decide +kernel, rfl, kX7_put, tF256, Or.inr ⟨"BellLots", tN446⟩⟩
theorem rX1_judgeOaths_74 : vIn mX1_judgeOaths 74 2 (nI 1) 77 := ⟨1, by decide +kernel, by decide +kernel, by decide, rfl⟩
theorem rX1_judgeOaths_77 : vGo mX1_judgeOaths 77 2 := ⟨-75, by decide +kernel, by decide⟩
theorem rX1_judgeOaths_80 : vI mX1_judgeOaths 80 .return_ 1 81 := ⟨by decide +kernel, rfl⟩
theorem rX1_cutTowers_0 : vCn mX1_cutTowers 0 (nI 0) 1 := Or.inl ⟨0, by decide +kernel, by decide +kernel, rfl⟩
theorem rX1_cutTowers_1 : vSi mX1_cutTowers 1 2 2 := ⟨Or.inl ⟨2, by decide +kernel, rfl, rfl⟩, by decide⟩
theorem rX1_cutTowers_2 : vCn mX1_cutTowers 2 (nI 0) 3 := Or.inl ⟨0, by decide +kernel, by decide +kernel, rfl⟩
theorem rX1_cutTowers_3 : vSi mX1_cutTowers 3 3 4 := ⟨Or.inl ⟨3, by decide +kernel, rfl, rfl⟩, by decide⟩
theorem rX1_cutTowers_4 : vLi mX1_cutTowers 4 3 5 := Or.inl ⟨3, by decide +kernel, rfl, rfl⟩
theorem rX1_cutTowers_5 : vLa mX1_cutTowers 5 1 6 := ⟨1, by decide +kernel, rfl, rfl⟩
theorem rX1_cutTowers_6 : vGf mX1_cutTowers 6 6 0 9 := ⟨59, (RX6, TX6, 11), by decide +kernel, rfl, rfl, by decide, tF59⟩
theorem rX1_cutTowers_9 : vIc mX1_cutTowers 9 .ge 59 12 := ⟨50, by decide +kernel, by decide, rfl⟩
theorem rX1_cutTowers_12 : vLa mX1_cutTowers 12 0 13 := ⟨0, by decide +kernel, rfl, rfl⟩
theorem rX1_cutTowers_13 : vGf mX1_cutTowers 13 1 2 16 := ⟨9, (RX1, TX1, 6), by decide +kernel, rfl, rfl, by decide, tF120⟩
theorem rX1_cutTowers_16 : vLi mX1_cutTowers 16 3 17 := Or.inl ⟨3, by decide +kernel, rfl, rfl⟩
theorem rX1_cutTowers_17 : vKs mX1_cutTowers 17 mX7_at 2 20 := ⟨48, by decide +kernel, rfl, kX7_at, tF286, Or.inr ⟨"BellLots", tN406⟩⟩
theorem rX1_cutTowers_20 : vSi mX1_cutTowers 20 4 22 := ⟨Or.inr ⟨by decide +kernel, rfl⟩, by decide⟩
theorem rX1_cutTowers_22 : vLa mX1_cutTowers 22 0 23 := ⟨0, by decide +kernel, rfl, rfl⟩
theorem rX1_cutTowers_23 : vLa mX1_cutTowers 23 1 24 := ⟨1, by decide +kernel, rfl, rfl⟩
theorem rX1_cutTowers_24 : vLi mX1_cutTowers 24 3 25 := Or.inl ⟨3, by decide +kernel, rfl, rfl⟩
theorem rX1_cutTowers_25 : vLi mX1_cutTowers 25 4 27 := Or.inr ⟨by decide +kernel, rfl⟩
theorem rX1_cutTowers_27 : vKv mX1_cutTowers 27 mX1_bearsBell 3 1 30 := ⟨96, (RX1, TX1, 6), by decide +kernel, rfl, kX1_bearsBell, tF403, tF473, tF404, rfl, rfl⟩
theorem rX1_cutTowers_30 : vIf mX1_cutTowers 30 .ne 53 33 := ⟨23, by decide +kernel, by decide, rfl⟩
theorem rX1_cutTowers_33 : vLa mX1_cutTowers 33 0 34 := ⟨0, by decide +kernel, rfl, rfl⟩
theorem rX1_cutTowers_34 : vGf mX1_cutTowers 34 1 3 37 := ⟨15, (RX1, TX1, 6), by decide +kernel, rfl, rfl, by decide, tF123⟩
theorem rX1_cutTowers_37 : vLi mX1_cutTowers 37 3 38 := Or.inl ⟨3, by decide +kernel, rfl, rfl⟩
theorem rX1_cutTowers_38 : vLa mX1_cutTowers 38 1 39 := ⟨1, by decide +kernel, rfl, rfl⟩
theorem rX1_cutTowers_39 : vGf mX1_cutTowers 39 6 4 42 := ⟨52, (RX6, TX6, 11), by decide +kernel, rfl, rfl, by decide, tF71⟩
theorem rX1_cutTowers_42 : vLi mX1_cutTowers 42 4 44 := Or.inr ⟨by decide +kernel, rfl⟩
theorem rX1_cutTowers_44 : vKs mX1_cutTowers 44 mX7_at 2 47 := ⟨48, by decide +kernel, rfl, kX7_at, tF286, Or.inr ⟨"BellLots", tN406⟩⟩
theorem rX1_cutTowers_47 : vKs mX1_cutTowers 47 mX7_put 3 50 := ⟨66, by decide +kernel, rfl, kX7_put, tF256, Or.inr ⟨"BellLots", tN446⟩⟩
theorem rX1_cutTowers_50 : vIn mX1_cutTowers 50 2 (nI 1) 53 := ⟨1, by decide +kernel, by decide +kernel, by decide, rfl⟩
theorem rX1_cutTowers_53 : vIn mX1_cutTowers 53 3 (nI 1) 56 := ⟨1, by decide +kernel, by decide +kernel, by decide, rfl⟩
theorem rX1_cutTowers_56 : vGo mX1_cutTowers 56 4 := ⟨-52, by decide +kernel, by decide⟩
theorem rX1_cutTowers_59 : vLa mX1_cutTowers 59 0 60 := ⟨0, by decide +kernel, rfl, rfl⟩
theorem rX1_cutTowers_60 : vI mX1_cutTowers 60 .dup 1 61 := ⟨by decide +kernel, rfl⟩
theorem rX1_cutTowers_61 : vGf mX1_cutTowers 61 1 1 64 := ⟨28, (RX1, TX1, 6), by decide +kernel, rfl, rfl, by decide, tF118⟩
theorem rX1_cutTowers_64 : vLi mX1_cutTowers 64 2 65 := Or.inl ⟨2, by decide +kernel, rfl, rfl⟩
theorem rX1_cutTowers_65 : vI mX1_cutTowers 65 .iadd 1 66 := ⟨by decide +kernel, rfl⟩
theorem rX1_cutTowers_66 : vPf mX1_cutTowers 66 1 1 69 := ⟨28, (RX1, TX1, 6), by decide +kernel, rfl, rfl, by decide, tF118, Or.inl rfl⟩
theorem rX1_cutTowers_69 : vLi mX1_cutTowers 69 2 70 := Or.inl ⟨2, by decide +kernel, rfl, rfl⟩
theorem rX1_cutTowers_70 : vI mX1_cutTowers 70 .ireturn 1 71 := ⟨by decide +kernel, rfl⟩
theorem rX2_init_0 : vLa mX2_init 0 0 1 := ⟨0, by decide +kernel, rfl, rfl⟩
theorem rX2_init_1 : vOi mX2_init 1 4 := ⟨3, by decide +kernel, rfl, tF167, tF20, tF21⟩
theorem rX2_init_4 : vLa mX2_init 4 0 5 := ⟨0, by decide +kernel, rfl, rfl⟩
theorem rX2_init_5 : vCn mX2_init 5 (nI 2) 6 := Or.inl ⟨2, by decide +kernel, by decide +kernel, rfl⟩
theorem rX2_init_6 : vNq mX2_init 6 9 := ⟨9, by decide +kernel, rfl, tF168⟩
theorem rX2_init_9 : vPf mX2_init 9 2 0 12 := ⟨11, (RX2, TX2, 2), by decide +kernel, rfl, rfl, by decide, tF170, Or.inr ⟨rfl, rfl, rfl⟩⟩
theorem rX2_init_12 : vLa mX2_init 12 0 13 := ⟨0, by decide +kernel, rfl, rfl⟩
theorem rX2_init_13 : vCn mX2_init 13 (nI 2) 14 := Or.inl ⟨2, by decide +kernel, by decide +kernel, rfl⟩
theorem rX2_init_14 : vNi mX2_init 14 .boolean 16 := ⟨by decide +kernel, rfl, tF177⟩
theorem rX2_init_16 : vPf mX2_init 16 2 1 19 := ⟨17, (RX2, TX2, 2), by decide +kernel, rfl, rfl, by decide, tF171, Or.inr ⟨rfl, rfl, rfl⟩⟩
theorem rX2_init_19 : vCn mX2_init 19 (nI 0) 20 := Or.inl ⟨0, by decide +kernel, by decide +kernel, rfl⟩
theorem rX2_init_20 : vSi mX2_init 20 1 21 := ⟨Or.inl ⟨1, by decide +kernel, rfl, rfl⟩, by decide⟩
theorem rX2_init_21 : vLi mX2_init 21 1 22 := Or.inl ⟨1, by decide +kernel, rfl, rfl⟩
theorem rX2_init_22 : vCn mX2_init 22 (nI 2) 23 := Or.inl ⟨2, by decide +kernel, by decide +kernel, rfl⟩
theorem rX2_init_23 : vIc mX2_init 23 .ge 45 26 := ⟨22, by decide +kernel, by decide, rfl⟩
theorem rX2_init_26 : vLa mX2_init 26 0 27 := ⟨0, by decide +kernel, rfl, rfl⟩
theorem rX2_init_27 : vGf mX2_init 27 2 0 30 := ⟨11, (RX2, TX2, 2), by decide +kernel, rfl, rfl, by decide, tF170⟩
theorem rX2_init_30 : vLi mX2_init 30 1 31 := Or.inl ⟨1, by decide +kernel, rfl, rfl⟩
theorem rX2_init_31 : vNw mX2_init 31 1 34 := ⟨9, (RX1, TX1, 6), by decide +kernel, rfl, rfl, tF168, tF111, tF4, by decide⟩
theorem rX2_init_34 : vI mX2_init 34 .dup 1 35 := ⟨by decide +kernel, rfl⟩
theorem rX2_init_35 : vKi mX2_init 35 mX1_init 0 38 := ⟨21, by decide +kernel, rfl, kX1_init, tF113, rfl, rfl, Or.inr ⟨"BellLots", tN169⟩⟩
theorem rX2_init_38 : vI mX2_init 38 .aastore 1 39 := ⟨by decide +kernel, rfl⟩
theorem rX2_init_39 : vIn mX2_init 39 1 (nI 1) 42 := ⟨1, by decide +kernel, by decide +kernel, by decide, rfl⟩
theorem rX2_init_42 : vGo mX2_init 42 21 := ⟨-21, by decide +kernel, by decide⟩
theorem rX2_init_45 : vI mX2_init 45 .return_ 1 46 := ⟨by decide +kernel, rfl⟩
theorem rX2_empty_0 : vCn mX2_empty 0 (nI 0) 1 := Or.inl ⟨0, by decide +kernel, by decide +kernel, rfl⟩
theorem rX2_empty_1 : vSi mX2_empty 1 1 2 := ⟨Or.inl ⟨1, by decide +kernel, rfl, rfl⟩, by decide⟩
theorem rX2_empty_2 : vLi mX2_empty 2 1 3 := Or.inl ⟨1, by decide +kernel, rfl, rfl⟩
theorem rX2_empty_3 : vCn mX2_empty 3 (nI 2) 4 := Or.inl ⟨2, by decide +kernel, by decide +kernel, rfl⟩
theorem rX2_empty_4 : vIc mX2_empty 4 .ge 20 7 := ⟨16, by decide +kernel, by decide, rfl⟩
theorem rX2_empty_7 : vLa mX2_empty 7 0 8 := ⟨0, by decide +kernel, rfl, rfl⟩
theorem rX2_empty_8 : vGf mX2_empty 8 2 1 11 := ⟨17, (RX2, TX2, 2), by decide +kernel, rfl, rfl, by decide, tF171⟩
theorem rX2_empty_11 : vLi mX2_empty 11 1 12 := Or.inl ⟨1, by decide +kernel, rfl, rfl⟩
theorem rX2_empty_12 : vCn mX2_empty 12 (nI 0) 13 := Or.inl ⟨0, by decide +kernel, by decide +kernel, rfl⟩
theorem rX2_empty_13 : vI mX2_empty 13 .bastore 1 14 := ⟨by decide +kernel, rfl⟩
theorem rX2_empty_14 : vIn mX2_empty 14 1 (nI 1) 17 := ⟨1, by decide +kernel, by decide +kernel, by decide, rfl⟩
theorem rX2_empty_17 : vGo mX2_empty 17 2 := ⟨-15, by decide +kernel, by decide⟩
theorem rX2_empty_20 : vI mX2_empty 20 .return_ 1 21 := ⟨by decide +kernel, rfl⟩
theorem rX2_keepFrom_0 : vLi mX2_keepFrom 0 1 1 := Or.inl ⟨1, by decide +kernel, rfl, rfl⟩
theorem rX2_keepFrom_1 : vCn mX2_keepFrom 1 (nI 0) 2 := Or.inl ⟨0, by decide +kernel, by decide +kernel, rfl⟩
theorem rX2_keepFrom_2 : vCn mX2_keepFrom 2 (nI 1) 3 := Or.inl ⟨1, by decide +kernel, by decide +kernel, rfl⟩
theorem rX2_keepFrom_3 : vKs mX2_keepFrom 3 mX7_within 3 6 := ⟨22, by decide +kernel, rfl, kX7_within, tF249, Or.inr ⟨"BellLots", tN639⟩⟩
theorem rX2_keepFrom_6 : vIf mX2_keepFrom 6 .eq 18 9 := ⟨12, by decide +kernel, by decide, rfl⟩
theorem rX2_keepFrom_9 : vLa mX2_keepFrom 9 0 10 := ⟨0, by decide +kernel, rfl, rfl⟩
theorem rX2_keepFrom_10 : vGf mX2_keepFrom 10 2 0 13 := ⟨11, (RX2, TX2, 2), by decide +kernel, rfl, rfl, by decide, tF170⟩
theorem rX2_keepFrom_13 : vLi mX2_keepFrom 13 1 14 := Or.inl ⟨1, by decide +kernel, rfl, rfl⟩
theorem rX2_keepFrom_14 : vI mX2_keepFrom 14 .aaload 1 15 := ⟨by decide +kernel, rfl⟩
theorem rX2_keepFrom_15 : vNn mX2_keepFrom 15 20 18 := ⟨5, by decide +kernel, by decide, rfl⟩
theorem rX2_keepFrom_18 : vCn mX2_keepFrom 18 (nI 0) 19 := Or.inl ⟨0, by decide +kernel, by decide +kernel, rfl⟩
theorem rX2_keepFrom_19 : vI mX2_keepFrom 19 .ireturn 1 20 := ⟨by decide +kernel, rfl⟩
theorem rX2_keepFrom_20 : vLa mX2_keepFrom 20 0 21 := ⟨0, by decide +kernel, rfl, rfl⟩
theorem rX2_keepFrom_21 : vGf mX2_keepFrom 21 2 0 24 := ⟨11, (RX2, TX2, 2), by decide +kernel, rfl, rfl, by decide, tF170⟩
theorem rX2_keepFrom_24 : vLi mX2_keepFrom 24 1 25 := Or.inl ⟨1, by decide +kernel, rfl, rfl⟩
theorem rX2_keepFrom_25 : vI mX2_keepFrom 25 .aaload 1 26 := ⟨by decide +kernel, rfl⟩
theorem rX2_keepFrom_26 : vLa mX2_keepFrom 26 2 27 := ⟨2, by decide +kernel, rfl, rfl⟩
theorem rX2_keepFrom_27 : vKv mX2_keepFrom 27 mX1_copyFrom 1 1 30 := ⟨26, (RX1, TX1, 6), by decide +kernel, rfl, kX1_copyFrom, tF435, tF640, tF436, rfl, rfl⟩
theorem rX2_keepFrom_30 : vLa mX2_keepFrom 30 0 31 := ⟨0, by decide +kernel, rfl, rfl⟩
theorem rX2_keepFrom_31 : vGf mX2_keepFrom 31 2 1 34 := ⟨17, (RX2, TX2, 2), by decide +kernel, rfl, rfl, by decide, tF171⟩
theorem rX2_keepFrom_34 : vLi mX2_keepFrom 34 1 35 := Or.inl ⟨1, by decide +kernel, rfl, rfl⟩
theorem rX2_keepFrom_35 : vCn mX2_keepFrom 35 (nI 1) 36 := Or.inl ⟨1, by decide +kernel, by decide +kernel, rfl⟩
theorem rX2_keepFrom_36 : vI mX2_keepFrom 36 .bastore 1 37 := ⟨by decide +kernel, rfl⟩
theorem rX2_keepFrom_37 : vCn mX2_keepFrom 37 (nI 1) 38 := Or.inl ⟨1, by decide +kernel, by decide +kernel, rfl⟩
theorem rX2_keepFrom_38 : vI mX2_keepFrom 38 .ireturn 1 39 := ⟨by decide +kernel, rfl⟩
theorem rX2_bringInto_0 : vLi mX2_bringInto 0 1 1 := Or.inl ⟨1, by decide +kernel, rfl, rfl⟩
theorem rX2_bringInto_1 : vCn mX2_bringInto 1 (nI 0) 2 := Or.inl ⟨0, by decide +kernel, by decide +kernel, rfl⟩
theorem rX2_bringInto_2 : vCn mX2_bringInto 2 (nI 1) 3 := Or.inl ⟨1, by decide +kernel, by decide +kernel, rfl⟩
theorem rX2_bringInto_3 : vKs mX2_bringInto 3 mX7_within 3 6 := ⟨22, by decide +kernel, rfl, kX7_within, tF249, Or.inr ⟨"BellLots", tN639⟩⟩
theorem rX2_bringInto_6 : vIf mX2_bringInto 6 .eq 27 9 := ⟨21, by decide +kernel, by decide, rfl⟩
theorem rX2_bringInto_9 : vLa mX2_bringInto 9 0 10 := ⟨0, by decide +kernel, rfl, rfl⟩
theorem rX2_bringInto_10 : vGf mX2_bringInto 10 2 1 13 := ⟨17, (RX2, TX2, 2), by decide +kernel, rfl, rfl, by decide, tF171⟩
theorem rX2_bringInto_13 : vLi mX2_bringInto 13 1 14 := Or.inl ⟨1, by decide +kernel, rfl, rfl⟩
theorem rX2_bringInto_14 : vI mX2_bringInto 14 .baload 1 15 := ⟨by decide +kernel, rfl⟩
theorem rX2_bringInto_15 : vIf mX2_bringInto 15 .eq 27 18 := ⟨12, by decide +kernel, by decide, rfl⟩
theorem rX2_bringInto_18 : vLa mX2_bringInto 18 0 19 := ⟨0, by decide +kernel, rfl, rfl⟩
theorem rX2_bringInto_19 : vGf mX2_bringInto 19 2 0 22 := ⟨11, (RX2, TX2, 2), by decide +kernel, rfl, rfl, by decide, tF170⟩
theorem rX2_bringInto_22 : vLi mX2_bringInto 22 1 23 := Or.inl ⟨1, by decide +kernel, rfl, rfl⟩
theorem rX2_bringInto_23 : vI mX2_bringInto 23 .aaload 1 24 := ⟨by decide +kernel, rfl⟩
theorem rX2_bringInto_24 : vNn mX2_bringInto 24 29 27 := ⟨5, by decide +kernel, by decide, rfl⟩
theorem rX2_bringInto_27 : vCn mX2_bringInto 27 (nI 0) 28 := Or.inl ⟨0, by decide +kernel, by decide +kernel, rfl⟩
theorem rX2_bringInto_28 : vI mX2_bringInto 28 .ireturn 1 29 := ⟨by decide +kernel, rfl⟩
theorem rX2_bringInto_29 : vLa mX2_bringInto 29 2 30 := ⟨2, by decide +kernel, rfl, rfl⟩
theorem rX2_bringInto_30 : vLa mX2_bringInto 30 0 31 := ⟨0, by decide +kernel, rfl, rfl⟩
theorem rX2_bringInto_31 : vGf mX2_bringInto 31 2 0 34 := ⟨11, (RX2, TX2, 2), by decide +kernel, rfl, rfl, by decide, tF170⟩
theorem rX2_bringInto_34 : vLi mX2_bringInto 34 1 35 := Or.inl ⟨1, by decide +kernel, rfl, rfl⟩
theorem rX2_bringInto_35 : vI mX2_bringInto 35 .aaload 1 36 := ⟨by decide +kernel, rfl⟩
theorem rX2_bringInto_36 : vKv mX2_bringInto 36 mX1_copyFrom 1 1 39 := ⟨26, (RX1, TX1, 6), by decide +kernel, rfl, kX1_copyFrom, tF435, tF640, tF436, rfl, rfl⟩
theorem rX2_bringInto_39 : vCn mX2_bringInto 39 (nI 1) 40 := Or.inl ⟨1, by decide +kernel, by decide +kernel, rfl⟩
theorem rX2_bringInto_40 : vI mX2_bringInto 40 .ireturn 1 41 := ⟨by decide +kernel, rfl⟩
theorem rX3_init_0 : vLa mX3_init 0 0 1 := ⟨0, by decide +kernel, rfl, rfl⟩
theorem rX3_init_1 : vOi mX3_init 1 4 := ⟨3, by decide +kernel, rfl, tF200, tF20, tF21⟩
theorem rX3_init_4 : vLa mX3_init 4 0 5 := ⟨0, by decide +kernel, rfl, rfl⟩
theorem rX3_init_5 : vCn mX3_init 5 (nI 6) 7 := Or.inr (Or.inl ⟨6, by decide +kernel, by decide +kernel, rfl⟩)
theorem rX3_init_7 : vNi mX3_init 7 .int 9 := ⟨by decide +kernel, rfl, tF51⟩
theorem rX3_init_9 : vPf mX3_init 9 3 0 12 := ⟨9, (RX3, TX3, 3), by decide +kernel, rfl, rfl, by decide, tF201, Or.inr ⟨rfl, rfl, rfl⟩⟩
theorem rX3_init_12 : vLa mX3_init 12 0 13 := ⟨0, by decide +kernel, rfl, rfl⟩
theorem rX3_init_13 : vCn mX3_init 13 (nI 6) 15 := Or.inr (Or.inl ⟨6, by decide +kernel, by decide +kernel, rfl⟩)
theorem rX3_init_15 : vNi mX3_init 15 .int 17 := ⟨by decide +kernel, rfl, tF51⟩
theorem rX3_init_17 : vPf mX3_init 17 3 1 20 := ⟨15, (RX3, TX3, 3), by decide +kernel, rfl, rfl, by decide, tF204, Or.inr ⟨rfl, rfl, rfl⟩⟩
theorem rX3_init_20 : vI mX3_init 20 .return_ 1 21 := ⟨by decide +kernel, rfl⟩
theorem rX3_drawBy_0 : vLa mX3_drawBy 0 0 1 := ⟨0, by decide +kernel, rfl, rfl⟩
theorem rX3_drawBy_1 : vCn mX3_drawBy 1 (nI 1) 2 := Or.inl ⟨1, by decide +kernel, by decide +kernel, rfl⟩
theorem rX3_drawBy_2 : vLi mX3_drawBy 2 1 3 := Or.inl ⟨1, by decide +kernel, rfl, rfl⟩
theorem rX3_drawBy_3 : vI mX3_drawBy 3 .ishl 1 4 := ⟨by decide +kernel, rfl⟩
theorem rX3_drawBy_4 : vCn mX3_drawBy 4 (nI 1) 5 := Or.inl ⟨1, by decide +kernel, by decide +kernel, rfl⟩
theorem rX3_drawBy_5 : vI mX3_drawBy 5 .isub 1 6 := ⟨by decide +kernel, rfl⟩
theorem rX3_drawBy_6 : vPf mX3_drawBy 6 3 2 9 := ⟨18, (RX3, TX3, 3), by decide +kernel, rfl, rfl, by decide, tF205, Or.inl rfl⟩
theorem rX3_drawBy_9 : vCn mX3_drawBy 9 (nI 0) 10 := Or.inl ⟨0, by decide +kernel, by decide +kernel, rfl⟩
theorem rX3_drawBy_10 : vSi mX3_drawBy 10 3 11 := ⟨Or.inl ⟨3, by decide +kernel, rfl, rfl⟩, by decide⟩
theorem rX3_drawBy_11 : vLi mX3_drawBy 11 3 12 := Or.inl ⟨3, by decide +kernel, rfl, rfl⟩
theorem rX3_drawBy_12 : vCn mX3_drawBy 12 (nI 6) 14 := Or.inr (Or.inl ⟨6, by decide +kernel, by decide +kernel, rfl⟩)
theorem rX3_drawBy_14 : vIc mX3_drawBy 14 .ge 55 17 := ⟨41, by decide +kernel, by decide, rfl⟩
theorem rX3_drawBy_17 : vLi mX3_drawBy 17 1 18 := Or.inl ⟨1, by decide +kernel, rfl, rfl⟩
theorem rX3_drawBy_18 : vLi mX3_drawBy 18 3 19 := Or.inl ⟨3, by decide +kernel, rfl, rfl⟩
theorem rX3_drawBy_19 : vI mX3_drawBy 19 .isub 1 20 := ⟨by decide +kernel, rfl⟩
theorem rX3_drawBy_20 : vSi mX3_drawBy 20 4 22 := ⟨Or.inr ⟨by decide +kernel, rfl⟩, by decide⟩
theorem rX3_drawBy_22 : vLa mX3_drawBy 22 0 23 := ⟨0, by decide +kernel, rfl, rfl⟩
theorem rX3_drawBy_23 : vGf mX3_drawBy 23 3 0 26 := ⟨9, (RX3, TX3, 3), by decide +kernel, rfl, rfl, by decide, tF201⟩
theorem rX3_drawBy_26 : vLi mX3_drawBy 26 3 27 := Or.inl ⟨3, by decide +kernel, rfl, rfl⟩
theorem rX3_drawBy_27 : vLi mX3_drawBy 27 4 29 := Or.inr ⟨by decide +kernel, rfl⟩
theorem rX3_drawBy_29 : vIf mX3_drawBy 29 .le 47 32 := ⟨18, by decide +kernel, by decide, rfl⟩
theorem rX3_drawBy_32 : vLa mX3_drawBy 32 0 33 := ⟨0, by decide +kernel, rfl, rfl⟩
theorem rX3_drawBy_33 : vLi mX3_drawBy 33 2 34 := Or.inl ⟨2, by decide +kernel, rfl, rfl⟩
theorem rX3_drawBy_34 : vLi mX3_drawBy 34 3 35 := Or.inl ⟨3, by decide +kernel, rfl, rfl⟩
theorem rX3_drawBy_35 : vKs mX3_drawBy 35 mX3_numberDrawn 2 38 := ⟨22, by decide +kernel, rfl, kX3_numberDrawn, tF453, Or.inl tF452⟩
theorem rX3_drawBy_38 : vLi mX3_drawBy 38 4 40 := Or.inr ⟨by decide +kernel, rfl⟩
theorem rX3_drawBy_40 : vI mX3_drawBy 40 .irem 1 41 := ⟨by decide +kernel, rfl⟩
theorem rX3_drawBy_41 : vKv mX3_drawBy 41 mX3_takeUndrawn 1 3 44 := ⟨26, (RX3, TX3, 3), by decide +kernel, rfl, kX3_takeUndrawn, tF461, tF459, tS14, rfl, rfl⟩
theorem rX3_drawBy_44 : vGo mX3_drawBy 44 48 := ⟨4, by decide +kernel, by decide⟩
theorem rX3_drawBy_47 : vLi mX3_drawBy 47 3 48 := Or.inl ⟨3, by decide +kernel, rfl, rfl⟩
theorem rX3_drawBy_48 : vI mX3_drawBy 48 .iastore 1 49 := ⟨by decide +kernel, rfl⟩
theorem rX3_drawBy_49 : vIn mX3_drawBy 49 3 (nI 1) 52 := ⟨1, by decide +kernel, by decide +kernel, by decide, rfl⟩
theorem rX3_drawBy_52 : vGo mX3_drawBy 52 11 := ⟨-41, by decide +kernel, by decide⟩
theorem rX3_drawBy_55 : vI mX3_drawBy 55 .return_ 1 56 := ⟨by decide +kernel, rfl⟩
theorem rX3_numberDrawn_0 : vCl mX3_numberDrawn 0 (lN 7919) 3 := Or.inr ⟨30, by decide +kernel, tF455, rfl⟩
theorem rX3_numberDrawn_3 : vLi mX3_numberDrawn 3 0 4 := Or.inl ⟨0, by decide +kernel, rfl, rfl⟩
theorem rX3_numberDrawn_4 : vI mX3_numberDrawn 4 .i2l 1 5 := ⟨by decide +kernel, rfl⟩
theorem rX3_numberDrawn_5 : vI mX3_numberDrawn 5 .lmul 1 6 := ⟨by decide +kernel, rfl⟩
theorem rX3_numberDrawn_6 : vCl mX3_numberDrawn 6 (lN 6151) 9 := Or.inr ⟨32, by decide +kernel, tF456, rfl⟩
theorem rX3_numberDrawn_9 : vLi mX3_numberDrawn 9 1 10 := Or.inl ⟨1, by decide +kernel, rfl, rfl⟩
theorem rX3_numberDrawn_10 : vI mX3_numberDrawn 10 .i2l 1 11 := ⟨by decide +kernel, rfl⟩
theorem rX3_numberDrawn_11 : vI mX3_numberDrawn 11 .lmul 1 12 := ⟨by decide +kernel, rfl⟩
theorem rX3_numberDrawn_12 : vI mX3_numberDrawn 12 .ladd 1 13 := ⟨by decide +kernel, rfl⟩
theorem rX3_numberDrawn_13 : vCl mX3_numberDrawn 13 (lN 1) 14 := Or.inl ⟨1, by decide +kernel, by decide +kernel, rfl⟩
theorem rX3_numberDrawn_14 : vI mX3_numberDrawn 14 .ladd 1 15 := ⟨by decide +kernel, rfl⟩
theorem rX3_numberDrawn_15 : vSl mX3_numberDrawn 15 2 16 := ⟨Or.inl ⟨2, by decide +kernel, rfl, rfl⟩, by decide⟩
theorem rX3_numberDrawn_16 : vLl mX3_numberDrawn 16 2 17 := Or.inl ⟨2, by decide +kernel, rfl, rfl⟩
theorem rX3_numberDrawn_17 : vLl mX3_numberDrawn 17 2 18 := Or.inl ⟨2, by decide +kernel, rfl, rfl⟩
theorem rX3_numberDrawn_18 : vI mX3_numberDrawn 18 .lmul 1 19 := ⟨by decide +kernel, rfl⟩
theorem rX3_numberDrawn_19 : vCl mX3_numberDrawn 19 (lN 65521) 22 := Or.inr ⟨34, by decide +kernel, tF457, rfl⟩
theorem rX3_numberDrawn_22 : vI mX3_numberDrawn 22 .lrem 1 23 := ⟨by decide +kernel, rfl⟩
theorem rX3_numberDrawn_23 : vCl mX3_numberDrawn 23 (lN 16) 26 := Or.inr ⟨36, by decide +kernel, tF458, rfl⟩
theorem rX3_numberDrawn_26 : vI mX3_numberDrawn 26 .ldiv 1 27 := ⟨by decide +kernel, rfl⟩
theorem rX3_numberDrawn_27 : vI mX3_numberDrawn 27 .l2i 1 28 := ⟨by decide +kernel, rfl⟩
theorem rX3_numberDrawn_28 : vI mX3_numberDrawn 28 .ireturn 1 29 := ⟨by decide +kernel, rfl⟩
theorem rX3_takeUndrawn_0 : vCn mX3_takeUndrawn 0 (nI 0) 1 := Or.inl ⟨0, by decide +kernel, by decide +kernel, rfl⟩
theorem rX3_takeUndrawn_1 : vSi mX3_takeUndrawn 1 2 2 := ⟨Or.inl ⟨2, by decide +kernel, rfl, rfl⟩, by decide⟩
theorem rX3_takeUndrawn_2 : vCn mX3_takeUndrawn 2 (nI 0) 3 := Or.inl ⟨0, by decide +kernel, by decide +kernel, rfl⟩
theorem rX3_takeUndrawn_3 : vSi mX3_takeUndrawn 3 3 4 := ⟨Or.inl ⟨3, by decide +kernel, rfl, rfl⟩, by decide⟩
theorem rX3_takeUndrawn_4 : vLi mX3_takeUndrawn 4 2 5 := Or.inl ⟨2, by decide +kernel, rfl, rfl⟩
theorem rX3_takeUndrawn_5 : vCn mX3_takeUndrawn 5 (nI 5) 6 := Or.inl ⟨5, by decide +kernel, by decide +kernel, rfl⟩
theorem rX3_takeUndrawn_6 : vIc mX3_takeUndrawn 6 .ge 42 9 := ⟨36, by decide +kernel, by decide, rfl⟩
theorem rX3_takeUndrawn_9 : vLi mX3_takeUndrawn 9 3 10 := Or.inl ⟨3, by decide +kernel, rfl, rfl⟩
theorem rX3_takeUndrawn_10 : vLi mX3_takeUndrawn 10 1 11 := Or.inl ⟨1, by decide +kernel, rfl, rfl⟩
theorem rX3_takeUndrawn_11 : vIc mX3_takeUndrawn 11 .lt 25 14 := ⟨14, by decide +kernel, by decide, rfl⟩
theorem rX3_takeUndrawn_14 : vLa mX3_takeUndrawn 14 0 15 := ⟨0, by decide +kernel, rfl, rfl⟩
theorem rX3_takeUndrawn_15 : vGf mX3_takeUndrawn 15 3 2 18 := ⟨18, (RX3, TX3, 3), by decide +kernel, rfl, rfl, by decide, tF205⟩
theorem rX3_takeUndrawn_18 : vLi mX3_takeUndrawn 18 2 19 := Or.inl ⟨2, by decide +kernel, rfl, rfl⟩
theorem rX3_takeUndrawn_19 : vI mX3_takeUndrawn 19 .ishr 1 20 := ⟨by decide +kernel, rfl⟩
theorem rX3_takeUndrawn_20 : vCn mX3_takeUndrawn 20 (nI 1) 21 := Or.inl ⟨1, by decide +kernel, by decide +kernel, rfl⟩
theorem rX3_takeUndrawn_21 : vI mX3_takeUndrawn 21 .iand 1 22 := ⟨by decide +kernel, rfl⟩
theorem rX3_takeUndrawn_22 : vIf mX3_takeUndrawn 22 .ne 42 25 := ⟨20, by decide +kernel, by decide, rfl⟩
theorem rX3_takeUndrawn_25 : vLi mX3_takeUndrawn 25 3 26 := Or.inl ⟨3, by decide +kernel, rfl, rfl⟩
theorem rX3_takeUndrawn_26 : vLa mX3_takeUndrawn 26 0 27 := ⟨0, by decide +kernel, rfl, rfl⟩
theorem rX3_takeUndrawn_27 : vGf mX3_takeUndrawn 27 3 2 30 := ⟨18, (RX3, TX3, 3), by decide +kernel, rfl, rfl, by decide, tF205⟩
theorem rX3_takeUndrawn_30 : vLi mX3_takeUndrawn 30 2 31 := Or.inl ⟨2, by decide +kernel, rfl, rfl⟩
theorem rX3_takeUndrawn_31 : vI mX3_takeUndrawn 31 .ishr 1 32 := ⟨by decide +kernel, rfl⟩
theorem rX3_takeUndrawn_32 : vCn mX3_takeUndrawn 32 (nI 1) 33 := Or.inl ⟨1, by decide +kernel, by decide +kernel, rfl⟩
theorem rX3_takeUndrawn_33 : vI mX3_takeUndrawn 33 .iand 1 34 := ⟨by decide +kernel, rfl⟩
theorem rX3_takeUndrawn_34 : vI mX3_takeUndrawn 34 .iadd 1 35 := ⟨by decide +kernel, rfl⟩
theorem rX3_takeUndrawn_35 : vSi mX3_takeUndrawn 35 3 36 := ⟨Or.inl ⟨3, by decide +kernel, rfl, rfl⟩, by decide⟩
theorem rX3_takeUndrawn_36 : vIn mX3_takeUndrawn 36 2 (nI 1) 39 := ⟨1, by decide +kernel, by decide +kernel, by decide, rfl⟩
theorem rX3_takeUndrawn_39 : vGo mX3_takeUndrawn 39 4 := ⟨-35, by decide +kernel, by decide⟩
theorem rX3_takeUndrawn_42 : vLa mX3_takeUndrawn 42 0 43 := ⟨0, by decide +kernel, rfl, rfl⟩
theorem rX3_takeUndrawn_43 : vI mX3_takeUndrawn 43 .dup 1 44 := ⟨by decide +kernel, rfl⟩
theorem rX3_takeUndrawn_44 : vGf mX3_takeUndrawn 44 3 2 47 := ⟨18, (RX3, TX3, 3), by decide +kernel, rfl, rfl, by decide, tF205⟩
theorem rX3_takeUndrawn_47 : vCn mX3_takeUndrawn 47 (nI 1) 48 := Or.inl ⟨1, by decide +kernel, by decide +kernel, rfl⟩
theorem rX3_takeUndrawn_48 : vLi mX3_takeUndrawn 48 2 49 := Or.inl ⟨2, by decide +kernel, rfl, rfl⟩
theorem rX3_takeUndrawn_49 : vI mX3_takeUndrawn 49 .ishl 1 50 := ⟨by decide +kernel, rfl⟩
theorem rX3_takeUndrawn_50 : vCn mX3_takeUndrawn 50 (-1) 51 := Or.inl ⟨-1, by decide +kernel, by decide +kernel, rfl⟩
theorem rX3_takeUndrawn_51 : vI mX3_takeUndrawn 51 .ixor 1 52 := ⟨by decide +kernel, rfl⟩
theorem rX3_takeUndrawn_52 : vI mX3_takeUndrawn 52 .iand 1 53 := ⟨by decide +kernel, rfl⟩
theorem rX3_takeUndrawn_53 : vPf mX3_takeUndrawn 53 3 2 56 := ⟨18, (RX3, TX3, 3), by decide +kernel, rfl, rfl, by decide, tF205, Or.inl rfl⟩
theorem rX3_takeUndrawn_56 : vLi mX3_takeUndrawn 56 2 57 := Or.inl ⟨2, by decide +kernel, rfl, rfl⟩
theorem rX3_takeUndrawn_57 : vI mX3_takeUndrawn 57 .ireturn 1 58 := ⟨by decide +kernel, rfl⟩
theorem rX3_carry_0 : vCn mX3_carry 0 (nI 0) 1 := Or.inl ⟨0, by decide +kernel, by decide +kernel, rfl⟩
theorem rX3_carry_1 : vSi mX3_carry 1 2 2 := ⟨Or.inl ⟨2, by decide +kernel, rfl, rfl⟩, by decide⟩
theorem rX3_carry_2 : vLi mX3_carry 2 2 3 := Or.inl ⟨2, by decide +kernel, rfl, rfl⟩
theorem rX3_carry_3 : vCn mX3_carry 3 (nI 6) 5 := Or.inr (Or.inl ⟨6, by decide +kernel, by decide +kernel, rfl⟩)
theorem rX3_carry_5 : vIc mX3_carry 5 .ge 30 8 := ⟨25, by decide +kernel, by decide, rfl⟩
theorem rX3_carry_8 : vLa mX3_carry 8 0 9 := ⟨0, by decide +kernel, rfl, rfl⟩
theorem rX3_carry_9 : vGf mX3_carry 9 3 1 12 := ⟨15, (RX3, TX3, 3), by decide +kernel, rfl, rfl, by decide, tF204⟩
theorem rX3_carry_12 : vLi mX3_carry 12 2 13 := Or.inl ⟨2, by decide +kernel, rfl, rfl⟩
theorem rX3_carry_13 : vLa mX3_carry 13 1 14 := ⟨1, by decide +kernel, rfl, rfl⟩
theorem rX3_carry_14 : vLa mX3_carry 14 0 15 := ⟨0, by decide +kernel, rfl, rfl⟩
theorem rX3_carry_15 : vGf mX3_carry 15 3 0 18 := ⟨9, (RX3, TX3, 3), by decide +kernel, rfl, rfl, by decide, tF201⟩
theorem rX3_carry_18 : vLi mX3_carry 18 2 19 := Or.inl ⟨2, by decide +kernel, rfl, rfl⟩
theorem rX3_carry_19 : vI mX3_carry 19 .iaload 1 20 := ⟨by decide +kernel, rfl⟩
theorem rX3_carry_20 : vKs mX3_carry 20 mX7_at 2 23 := ⟨38, by decide +kernel, rfl, kX7_at, tF286, Or.inr ⟨"BellLots", tN467⟩⟩
theorem rX3_carry_23 : vI mX3_carry 23 .iastore 1 24 := ⟨by decide +kernel, rfl⟩
theorem rX3_carry_24 : vIn mX3_carry 24 2 (nI 1) 27 := ⟨1, by decide +kernel, by decide +kernel, by decide, rfl⟩
theorem rX3_carry_27 : vGo mX3_carry 27 2 := ⟨-25, by decide +kernel, by decide⟩
theorem rX3_carry_30 : vCn mX3_carry 30 (nI 0) 31 := Or.inl ⟨0, by decide +kernel, by decide +kernel, rfl⟩
theorem rX3_carry_31 : vSi mX3_carry 31 2 32 := ⟨Or.inl ⟨2, by decide +kernel, rfl, rfl⟩, by decide⟩
theorem rX3_carry_32 : vLi mX3_carry 32 2 33 := Or.inl ⟨2, by decide +kernel, rfl, rfl⟩
theorem rX3_carry_33 : vCn mX3_carry 33 (nI 6) 35 := Or.inr (Or.inl ⟨6, by decide +kernel, by decide +kernel, rfl⟩)
theorem rX3_carry_35 : vIc mX3_carry 35 .ge 55 38 := ⟨20, by decide +kernel, by decide, rfl⟩
theorem rX3_carry_38 : vLa mX3_carry 38 1 39 := ⟨1, by decide +kernel, rfl, rfl⟩
theorem rX3_carry_39 : vLi mX3_carry 39 2 40 := Or.inl ⟨2, by decide +kernel, rfl, rfl⟩
theorem rX3_carry_40 : vLa mX3_carry 40 0 41 := ⟨0, by decide +kernel, rfl, rfl⟩
theorem rX3_carry_41 : vGf mX3_carry 41 3 1 44 := ⟨15, (RX3, TX3, 3), by decide +kernel, rfl, rfl, by decide, tF204⟩
theorem rX3_carry_44 : vLi mX3_carry 44 2 45 := Or.inl ⟨2, by decide +kernel, rfl, rfl⟩
theorem rX3_carry_45 : vI mX3_carry 45 .iaload 1 46 := ⟨by decide +kernel, rfl⟩
theorem rX3_carry_46 : vKs mX3_carry 46 mX7_put 3 49 := ⟨42, by decide +kernel, rfl, kX7_put, tF256, Or.inr ⟨"BellLots", tN468⟩⟩
theorem rX3_carry_49 : vIn mX3_carry 49 2 (nI 1) 52 := ⟨1, by decide +kernel, by decide +kernel, by decide, rfl⟩
theorem rX3_carry_52 : vGo mX3_carry 52 32 := ⟨-20, by decide +kernel, by decide⟩
theorem rX3_carry_55 : vI mX3_carry 55 .return_ 1 56 := ⟨by decide +kernel, rfl⟩
theorem rX3_repeatsTillSame_0 : vCn mX3_repeatsTillSame 0 (nI 1) 1 := Or.inl ⟨1, by decide +kernel, by decide +kernel, rfl⟩
theorem rX3_repeatsTillSame_1 : vSi mX3_repeatsTillSame 1 1 2 := ⟨Or.inl ⟨1, by decide +kernel, rfl, rfl⟩, by decide⟩
theorem rX3_repeatsTillSame_2 : vCn mX3_repeatsTillSame 2 (nI 0) 3 := Or.inl ⟨0, by decide +kernel, by decide +kernel, rfl⟩
theorem rX3_repeatsTillSame_3 : vSi mX3_repeatsTillSame 3 2 4 := ⟨Or.inl ⟨2, by decide +kernel, rfl, rfl⟩, by decide⟩
theorem rX3_repeatsTillSame_4 : vLi mX3_repeatsTillSame 4 2 5 := Or.inl ⟨2, by decide +kernel, rfl, rfl⟩
theorem rX3_repeatsTillSame_5 : vCn mX3_repeatsTillSame 5 (nI 6) 7 := Or.inr (Or.inl ⟨6, by decide +kernel, by decide +kernel, rfl⟩)
theorem rX3_repeatsTillSame_7 : vIc mX3_repeatsTillSame 7 .ge 26 10 := ⟨19, by decide +kernel, by decide, rfl⟩
theorem rX3_repeatsTillSame_10 : vLi mX3_repeatsTillSame 10 1 11 := Or.inl ⟨1, by decide +kernel, rfl, rfl⟩
theorem rX3_repeatsTillSame_11 : vLa mX3_repeatsTillSame 11 0 12 := ⟨0, by decide +kernel, rfl, rfl⟩
theorem rX3_repeatsTillSame_12 : vLi mX3_repeatsTillSame 12 2 13 := Or.inl ⟨2, by decide +kernel, rfl, rfl⟩
theorem rX3_repeatsTillSame_13 : vKv mX3_repeatsTillSame 13 mX3_ringLength 1 3 16 := ⟨46, (RX3, TX3, 3), by decide +kernel, rfl, kX3_ringLength, tF528, tF526, tS17, rfl, rfl⟩
theorem rX3_repeatsTillSame_16 : vKs mX3_repeatsTillSame 16 mX3_leastCommonMultiple 2 19 := ⟨49, by decide +kernel, rfl, kX3_leastCommonMultiple, tF531, Or.inl tF530⟩
theorem rX3_repeatsTillSame_19 : vSi mX3_repeatsTillSame 19 1 20 := ⟨Or.inl ⟨1, by decide +kernel, rfl, rfl⟩, by decide⟩
theorem rX3_repeatsTillSame_20 : vIn mX3_repeatsTillSame 20 2 (nI 1) 23 := ⟨1, by decide +kernel, by decide +kernel, by decide, rfl⟩
theorem rX3_repeatsTillSame_23 : vGo mX3_repeatsTillSame 23 4 := ⟨-19, by decide +kernel, by decide⟩
theorem rX3_repeatsTillSame_26 : vLi mX3_repeatsTillSame 26 1 27 := Or.inl ⟨1, by decide +kernel, rfl, rfl⟩
theorem rX3_repeatsTillSame_27 : vI mX3_repeatsTillSame 27 .ireturn 1 28 := ⟨by decide +kernel, rfl⟩
theorem rX3_ringLength_0 : vCn mX3_ringLength 0 (nI 1) 1 := Or.inl ⟨1, by decide +kernel, by decide +kernel, rfl⟩
theorem rX3_ringLength_1 : vSi mX3_ringLength 1 2 2 := ⟨Or.inl ⟨2, by decide +kernel, rfl, rfl⟩, by decide⟩
theorem rX3_ringLength_2 : vLa mX3_ringLength 2 0 3 := ⟨0, by decide +kernel, rfl, rfl⟩
theorem rX3_ringLength_3 : vGf mX3_ringLength 3 3 0 6 := ⟨9, (RX3, TX3, 3), by decide +kernel, rfl, rfl, by decide, tF201⟩
theorem rX3_ringLength_6 : vLi mX3_ringLength 6 1 7 := Or.inl ⟨1, by decide +kernel, rfl, rfl⟩
theorem rX3_ringLength_7 : vI mX3_ringLength 7 .iaload 1 8 := ⟨by decide +kernel, rfl⟩
theorem rX3_ringLength_8 : vSi mX3_ringLength 8 3 9 := ⟨Or.inl ⟨3, by decide +kernel, rfl, rfl⟩, by decide⟩
theorem rX3_ringLength_9 : vLi mX3_ringLength 9 3 10 := Or.inl ⟨3, by decide +kernel, rfl, rfl⟩
theorem rX3_ringLength_10 : vLi mX3_ringLength 10 1 11 := Or.inl ⟨1, by decide +kernel, rfl, rfl⟩
theorem rX3_ringLength_11 : vIc mX3_ringLength 11 .eq 35 14 := ⟨24, by decide +kernel, by decide, rfl⟩
theorem rX3_ringLength_14 : vLi mX3_ringLength 14 2 15 := Or.inl ⟨2, by decide +kernel, rfl, rfl⟩
theorem rX3_ringLength_15 : vCn mX3_ringLength 15 (nI 6) 17 := Or.inr (Or.inl ⟨6, by decide +kernel, by decide +kernel, rfl⟩)
theorem rX3_ringLength_17 : vIc mX3_ringLength 17 .ge 35 20 := ⟨18, by decide +kernel, by decide, rfl⟩
theorem rX3_ringLength_20 : vLa mX3_ringLength 20 0 21 := ⟨0, by decide +kernel, rfl, rfl⟩
theorem rX3_ringLength_21 : vGf mX3_ringLength 21 3 0 24 := ⟨9, (RX3, TX3, 3), by decide +kernel, rfl, rfl, by decide, tF201⟩
theorem rX3_ringLength_24 : vLi mX3_ringLength 24 3 25 := Or.inl ⟨3, by decide +kernel, rfl, rfl⟩
theorem rX3_ringLength_25 : vKs mX3_ringLength 25 mX7_at 2 28 := ⟨38, by decide +kernel, rfl, kX7_at, tF286, Or.inr ⟨"BellLots", tN467⟩⟩
theorem rX3_ringLength_28 : vSi mX3_ringLength 28 3 29 := ⟨Or.inl ⟨3, by decide +kernel, rfl, rfl⟩, by decide⟩
theorem rX3_ringLength_29 : vIn mX3_ringLength 29 2 (nI 1) 32 := ⟨1, by decide +kernel, by decide +kernel, by decide, rfl⟩
theorem rX3_ringLength_32 : vGo mX3_ringLength 32 9 := ⟨-23, by decide +kernel, by decide⟩
theorem rX3_ringLength_35 : vLi mX3_ringLength 35 2 36 := Or.inl ⟨2, by decide +kernel, rfl, rfl⟩
theorem rX3_ringLength_36 : vI mX3_ringLength 36 .ireturn 1 37 := ⟨by decide +kernel, rfl⟩
theorem rX3_leastCommonMultiple_0 : vLi mX3_leastCommonMultiple 0 0 1 := Or.inl ⟨0, by decide +kernel, rfl, rfl⟩
theorem rX3_leastCommonMultiple_1 : vLi mX3_leastCommonMultiple 1 1 2 := Or.inl ⟨1, by decide +kernel, rfl, rfl⟩
theorem rX3_leastCommonMultiple_2 : vKs mX3_leastCommonMultiple 2 mX7_commonDivisor 2 5 := ⟨52, by decide +kernel, rfl, kX7_commonDivisor, tF534, Or.inr ⟨"BellLots", tN533⟩⟩
theorem rX3_leastCommonMultiple_5 : vSi mX3_leastCommonMultiple 5 2 6 := ⟨Or.inl ⟨2, by decide +kernel, rfl, rfl⟩, by decide⟩
theorem rX3_leastCommonMultiple_6 : vLi mX3_leastCommonMultiple 6 2 7 := Or.inl ⟨2, by decide +kernel, rfl, rfl⟩
theorem rX3_leastCommonMultiple_7 : vIf mX3_leastCommonMultiple 7 .le 18 10 := ⟨11, by decide +kernel, by decide, rfl⟩
theorem rX3_leastCommonMultiple_10 : vLi mX3_leastCommonMultiple 10 0 11 := Or.inl ⟨0, by decide +kernel, rfl, rfl⟩
theorem rX3_leastCommonMultiple_11 : vLi mX3_leastCommonMultiple 11 2 12 := Or.inl ⟨2, by decide +kernel, rfl, rfl⟩
theorem rX3_leastCommonMultiple_12 : vI mX3_leastCommonMultiple 12 .idiv 1 13 := ⟨by decide +kernel, rfl⟩
theorem rX3_leastCommonMultiple_13 : vLi mX3_leastCommonMultiple 13 1 14 := Or.inl ⟨1, by decide +kernel, rfl, rfl⟩
theorem rX3_leastCommonMultiple_14 : vI mX3_leastCommonMultiple 14 .imul 1 15 := ⟨by decide +kernel, rfl⟩
theorem rX3_leastCommonMultiple_15 : vGo mX3_leastCommonMultiple 15 19 := ⟨4, by decide +kernel, by decide⟩
theorem rX3_leastCommonMultiple_18 : vLi mX3_leastCommonMultiple 18 0 19 := Or.inl ⟨0, by decide +kernel, rfl, rfl⟩
theorem rX3_leastCommonMultiple_19 : vI mX3_leastCommonMultiple 19 .ireturn 1 20 := ⟨by decide +kernel, rfl⟩
theorem rX4_init_0 : vLa mX4_init 0 0 1 := ⟨0, by decide +kernel, rfl, rfl⟩
theorem rX4_init_1 : vOi mX4_init 1 4 := ⟨3, by decide +kernel, rfl, tF147, tF20, tF21⟩
theorem rX4_init_4 : vLa mX4_init 4 0 5 := ⟨0, by decide +kernel, rfl, rfl⟩
theorem rX4_init_5 : vCn mX4_init 5 (nI 10) 7 := Or.inr (Or.inl ⟨10, by decide +kernel, by decide +kernel, rfl⟩)
theorem rX4_init_7 : vNq mX4_init 7 10 := ⟨9, by decide +kernel, rfl, tF148⟩
theorem rX4_init_10 : vPf mX4_init 10 4 0 13 := ⟨11, (RX4, TX4, 3), by decide +kernel, rfl, rfl, by decide, tF151, Or.inr ⟨rfl, rfl, rfl⟩⟩
theorem rX4_init_13 : vCn mX4_init 13 (nI 0) 14 := Or.inl ⟨0, by decide +kernel, by decide +kernel, rfl⟩
theorem rX4_init_14 : vSi mX4_init 14 1 15 := ⟨Or.inl ⟨1, by decide +kernel, rfl, rfl⟩, by decide⟩
theorem rX4_init_15 : vLi mX4_init 15 1 16 := Or.inl ⟨1, by decide +kernel, rfl, rfl⟩
theorem rX4_init_16 : vCn mX4_init 16 (nI 10) 18 := Or.inr (Or.inl ⟨10, by decide +kernel, by decide +kernel, rfl⟩)
theorem rX4_init_18 : vIc mX4_init 18 .ge 40 21 := ⟨22, by decide +kernel, by decide, rfl⟩
theorem rX4_init_21 : vLa mX4_init 21 0 22 := ⟨0, by decide +kernel, rfl, rfl⟩
theorem rX4_init_22 : vGf mX4_init 22 4 0 25 := ⟨11, (RX4, TX4, 3), by decide +kernel, rfl, rfl, by decide, tF151⟩
theorem rX4_init_25 : vLi mX4_init 25 1 26 := Or.inl ⟨1, by decide +kernel, rfl, rfl⟩
theorem rX4_init_26 : vNw mX4_init 26 1 29 := ⟨9, (RX1, TX1, 6), by decide +kernel, rfl, rfl, tF148, tF111, tF4, by decide⟩
theorem rX4_init_29 : vI mX4_init 29 .dup 1 30 := ⟨by decide +kernel, rfl⟩
theorem rX4_init_30 : vKi mX4_init 30 mX1_init 0 33 := ⟨17, by decide +kernel, rfl, kX1_init, tF113, rfl, rfl, Or.inr ⟨"BellLots", tN150⟩⟩
theorem rX4_init_33 : vI mX4_init 33 .aastore 1 34 := ⟨by decide +kernel, rfl⟩
theorem rX4_init_34 : vIn mX4_init 34 1 (nI 1) 37 := ⟨1, by decide +kernel, by decide +kernel, by decide, rfl⟩
theorem rX4_init_37 : vGo mX4_init 37 15 := ⟨-22, by decide +kernel, by decide⟩
theorem rX4_init_40 : vI mX4_init 40 .return_ 1 41 := ⟨by decide +kernel, rfl⟩
theorem rX4_empty_0 : vLa mX4_empty 0 0 1 := ⟨0, by decide +kernel, rfl, rfl⟩
theorem rX4_empty_1 : vCn mX4_empty 1 (nI 0) 2 := Or.inl ⟨0, by decide +kernel, by decide +kernel, rfl⟩
theorem rX4_empty_2 : vPf mX4_empty 2 4 2 5 := ⟨18, (RX4, TX4, 3), by decide +kernel, rfl, rfl, by decide, tF153, Or.inl rfl⟩
theorem rX4_empty_5 : vI mX4_empty 5 .return_ 1 6 := ⟨by decide +kernel, rfl⟩
theorem rX4_remember_0 : vLa mX4_remember 0 0 1 := ⟨0, by decide +kernel, rfl, rfl⟩
theorem rX4_remember_1 : vLa mX4_remember 1 0 2 := ⟨0, by decide +kernel, rfl, rfl⟩
theorem rX4_remember_2 : vGf mX4_remember 2 4 1 5 := ⟨22, (RX4, TX4, 3), by decide +kernel, rfl, rfl, by decide, tF152⟩
theorem rX4_remember_5 : vCn mX4_remember 5 (nI 1) 6 := Or.inl ⟨1, by decide +kernel, by decide +kernel, rfl⟩
theorem rX4_remember_6 : vI mX4_remember 6 .iadd 1 7 := ⟨by decide +kernel, rfl⟩
theorem rX4_remember_7 : vCn mX4_remember 7 (nI 10) 9 := Or.inr (Or.inl ⟨10, by decide +kernel, by decide +kernel, rfl⟩)
theorem rX4_remember_9 : vI mX4_remember 9 .irem 1 10 := ⟨by decide +kernel, rfl⟩
theorem rX4_remember_10 : vPf mX4_remember 10 4 1 13 := ⟨22, (RX4, TX4, 3), by decide +kernel, rfl, rfl, by decide, tF152, Or.inl rfl⟩
theorem rX4_remember_13 : vLa mX4_remember 13 0 14 := ⟨0, by decide +kernel, rfl, rfl⟩
theorem rX4_remember_14 : vCn mX4_remember 14 (nI 10) 16 := Or.inr (Or.inl ⟨10, by decide +kernel, by decide +kernel, rfl⟩)
theorem rX4_remember_16 : vLa mX4_remember 16 0 17 := ⟨0, by decide +kernel, rfl, rfl⟩
theorem rX4_remember_17 : vGf mX4_remember 17 4 2 20 := ⟨18, (RX4, TX4, 3), by decide +kernel, rfl, rfl, by decide, tF153⟩
theorem rX4_remember_20 : vCn mX4_remember 20 (nI 1) 21 := Or.inl ⟨1, by decide +kernel, by decide +kernel, rfl⟩
theorem rX4_remember_21 : vI mX4_remember 21 .iadd 1 22 := ⟨by decide +kernel, rfl⟩
theorem rX4_remember_22 : vMmin mX4_remember 22 25 := ⟨25, by decide +kernel, rfl, tF432, tF296, tF11, tF297⟩
theorem rX4_remember_25 : vPf mX4_remember 25 4 2 28 := ⟨18, (RX4, TX4, 3), by decide +kernel, rfl, rfl, by decide, tF153, Or.inl rfl⟩
theorem rX4_remember_28 : vLa mX4_remember 28 0 29 := ⟨0, by decide +kernel, rfl, rfl⟩
theorem rX4_remember_29 : vGf mX4_remember 29 4 1 32 := ⟨22, (RX4, TX4, 3), by decide +kernel, rfl, rfl, by decide, tF152⟩
theorem rX4_remember_32 : vCn mX4_remember 32 (nI 0) 33 := Or.inl ⟨0, by decide +kernel, by decide +kernel, rfl⟩
theorem rX4_remember_33 : vCn mX4_remember 33 (nI 9) 35 := Or.inr (Or.inl ⟨9, by decide +kernel, by decide +kernel, rfl⟩)
theorem rX4_remember_35 : vKs mX4_remember 35 mX7_within 3 38 := ⟨31, by decide +kernel, rfl, kX7_within, tF249, Or.inr ⟨"BellLots", tN433⟩⟩
theorem rX4_remember_38 : vIf mX4_remember 38 .eq 66 41 := ⟨28, by decide +kernel, by decide, rfl⟩
theorem rX4_remember_41 : vLa mX4_remember 41 0 42 := ⟨0, by decide +kernel, rfl, rfl⟩
theorem rX4_remember_42 : vGf mX4_remember 42 4 0 45 := ⟨11, (RX4, TX4, 3), by decide +kernel, rfl, rfl, by decide, tF151⟩
theorem rX4_remember_45 : vLa mX4_remember 45 0 46 := ⟨0, by decide +kernel, rfl, rfl⟩
theorem rX4_remember_46 : vGf mX4_remember 46 4 1 49 := ⟨22, (RX4, TX4, 3), by decide +kernel, rfl, rfl, by decide, tF152⟩
theorem rX4_remember_49 : vI mX4_remember 49 .aaload 1 50 := ⟨by decide +kernel, rfl⟩
theorem rX4_remember_50 : vNl mX4_remember 50 66 53 := ⟨16, by decide +kernel, by decide, rfl⟩
theorem rX4_remember_53 : vLa mX4_remember 53 0 54 := ⟨0, by decide +kernel, rfl, rfl⟩
theorem rX4_remember_54 : vGf mX4_remember 54 4 0 57 := ⟨11, (RX4, TX4, 3), by decide +kernel, rfl, rfl, by decide, tF151⟩
theorem rX4_remember_57 : vLa mX4_remember 57 0 58 := ⟨0, by decide +kernel, rfl, rfl⟩
theorem rX4_remember_58 : vGf mX4_remember 58 4 1 61 := ⟨22, (RX4, TX4, 3), by decide +kernel, rfl, rfl, by decide, tF152⟩
theorem rX4_remember_61 : vI mX4_remember 61 .aaload 1 62 := ⟨by decide +kernel, rfl⟩
theorem rX4_remember_62 : vLa mX4_remember 62 1 63 := ⟨1, by decide +kernel, rfl, rfl⟩
theorem rX4_remember_63 : vKv mX4_remember 63 mX1_copyFrom 1 1 66 := ⟨35, (RX1, TX1, 6), by decide +kernel, rfl, kX1_copyFrom, tF435, tF434, tF436, rfl, rfl⟩
theorem rX4_remember_66 : vI mX4_remember 66 .return_ 1 67 := ⟨by decide +kernel, rfl⟩
theorem rX4_recallInto_0 : vLa mX4_recallInto 0 0 1 := ⟨0, by decide +kernel, rfl, rfl⟩
theorem rX4_recallInto_1 : vGf mX4_recallInto 1 4 2 4 := ⟨18, (RX4, TX4, 3), by decide +kernel, rfl, rfl, by decide, tF153⟩
theorem rX4_recallInto_4 : vIf mX4_recallInto 4 .le 32 7 := ⟨28, by decide +kernel, by decide, rfl⟩
theorem rX4_recallInto_7 : vLa mX4_recallInto 7 0 8 := ⟨0, by decide +kernel, rfl, rfl⟩
theorem rX4_recallInto_8 : vGf mX4_recallInto 8 4 1 11 := ⟨22, (RX4, TX4, 3), by decide +kernel, rfl, rfl, by decide, tF152⟩
theorem rX4_recallInto_11 : vCn mX4_recallInto 11 (nI 0) 12 := Or.inl ⟨0, by decide +kernel, by decide +kernel, rfl⟩
theorem rX4_recallInto_12 : vCn mX4_recallInto 12 (nI 9) 14 := Or.inr (Or.inl ⟨9, by decide +kernel, by decide +kernel, rfl⟩)
theorem rX4_recallInto_14 : vKs mX4_recallInto 14 mX7_within 3 17 := ⟨31, by decide +kernel, rfl, kX7_within, tF249, Or.inr ⟨"BellLots", tN433⟩⟩
theorem rX4_recallInto_17 : vIf mX4_recallInto 17 .eq 32 20 := ⟨15, by decide +kernel, by decide, rfl⟩
theorem rX4_recallInto_20 : vLa mX4_recallInto 20 0 21 := ⟨0, by decide +kernel, rfl, rfl⟩
theorem rX4_recallInto_21 : vGf mX4_recallInto 21 4 0 24 := ⟨11, (RX4, TX4, 3), by decide +kernel, rfl, rfl, by decide, tF151⟩
theorem rX4_recallInto_24 : vLa mX4_recallInto 24 0 25 := ⟨0, by decide +kernel, rfl, rfl⟩
theorem rX4_recallInto_25 : vGf mX4_recallInto 25 4 1 28 := ⟨22, (RX4, TX4, 3), by decide +kernel, rfl, rfl, by decide, tF152⟩
theorem rX4_recallInto_28 : vI mX4_recallInto 28 .aaload 1 29 := ⟨by decide +kernel, rfl⟩
theorem rX4_recallInto_29 : vNn mX4_recallInto 29 34 32 := ⟨5, by decide +kernel, by decide, rfl⟩
theorem rX4_recallInto_32 : vCn mX4_recallInto 32 (nI 0) 33 := Or.inl ⟨0, by decide +kernel, by decide +kernel, rfl⟩
theorem rX4_recallInto_33 : vI mX4_recallInto 33 .ireturn 1 34 := ⟨by decide +kernel, rfl⟩
theorem rX4_recallInto_34 : vLa mX4_recallInto 34 1 35 := ⟨1, by decide +kernel, rfl, rfl⟩
theorem rX4_recallInto_35 : vLa mX4_recallInto 35 0 36 := ⟨0, by decide +kernel, rfl, rfl⟩
theorem rX4_recallInto_36 : vGf mX4_recallInto 36 4 0 39 := ⟨11, (RX4, TX4, 3), by decide +kernel, rfl, rfl, by decide, tF151⟩
theorem rX4_recallInto_39 : vLa mX4_recallInto 39 0 40 := ⟨0, by decide +kernel, rfl, rfl⟩
theorem rX4_recallInto_40 : vGf mX4_recallInto 40 4 1 43 := ⟨22, (RX4, TX4, 3), by decide +kernel, rfl, rfl, by decide, tF152⟩
theorem rX4_recallInto_43 : vI mX4_recallInto 43 .aaload 1 44 := ⟨by decide +kernel, rfl⟩
theorem rX4_recallInto_44 : vKv mX4_recallInto 44 mX1_copyFrom 1 1 47 := ⟨35, (RX1, TX1, 6), by decide +kernel, rfl, kX1_copyFrom, tF435, tF434, tF436, rfl, rfl⟩
theorem rX4_recallInto_47 : vLa mX4_recallInto 47 0 48 := ⟨0, by decide +kernel, rfl, rfl⟩
theorem rX4_recallInto_48 : vLa mX4_recallInto 48 0 49 := ⟨0, by decide +kernel, rfl, rfl⟩
theorem rX4_recallInto_49 : vGf mX4_recallInto 49 4 1 52 := ⟨22, (RX4, TX4, 3), by decide +kernel, rfl, rfl, by decide, tF152⟩
theorem rX4_recallInto_52 : vCn mX4_recallInto 52 (nI 10) 54 := Or.inr (Or.inl ⟨10, by decide +kernel, by decide +kernel, rfl⟩)
theorem rX4_recallInto_54 : vI mX4_recallInto 54 .iadd 1 55 := ⟨by decide +kernel, rfl⟩
theorem rX4_recallInto_55 : vCn mX4_recallInto 55 (nI 1) 56 := Or.inl ⟨1, by decide +kernel, by decide +kernel, rfl⟩
theorem rX4_recallInto_56 : vI mX4_recallInto 56 .isub 1 57 := ⟨by decide +kernel, rfl⟩
theorem rX4_recallInto_57 : vCn mX4_recallInto 57 (nI 10) 59 := Or.inr (Or.inl ⟨10, by decide +kernel, by decide +kernel, rfl⟩)
theorem rX4_recallInto_59 : vI mX4_recallInto 59 .irem 1 60 := ⟨by decide +kernel, rfl⟩
theorem rX4_recallInto_60 : vPf mX4_recallInto 60 4 1 63 := ⟨22, (RX4, TX4, 3), by decide +kernel, rfl, rfl, by decide, tF152, Or.inl rfl⟩
theorem rX4_recallInto_63 : vLa mX4_recallInto 63 0 64 := ⟨0, by decide +kernel, rfl, rfl⟩
theorem rX4_recallInto_64 : vI mX4_recallInto 64 .dup 1 65 := ⟨by decide +kernel, rfl⟩
theorem rX4_recallInto_65 : vGf mX4_recallInto 65 4 2 68 := ⟨18, (RX4, TX4, 3), by decide +kernel, rfl, rfl, by decide, tF153⟩
theorem rX4_recallInto_68 : vCn mX4_recallInto 68 (nI 1) 69 := Or.inl ⟨1, by decide +kernel, by decide +kernel, rfl⟩
theorem rX4_recallInto_69 : vI mX4_recallInto 69 .isub 1 70 := ⟨by decide +kernel, rfl⟩
theorem rX4_recallInto_70 : vPf mX4_recallInto 70 4 2 73 := ⟨18, (RX4, TX4, 3), by decide +kernel, rfl, rfl, by decide, tF153, Or.inl rfl⟩
theorem rX4_recallInto_73 : vCn mX4_recallInto 73 (nI 1) 74 := Or.inl ⟨1, by decide +kernel, by decide +kernel, rfl⟩
theorem rX4_recallInto_74 : vI mX4_recallInto 74 .ireturn 1 75 := ⟨by decide +kernel, rfl⟩
theorem rX5_init_0 : vLa mX5_init 0 0 1 := ⟨0, by decide +kernel, rfl, rfl⟩
theorem rX5_init_1 : vOi mX5_init 1 4 := ⟨3, by decide +kernel, rfl, tF27, tF20, tF21⟩
theorem rX5_init_4 : vLa mX5_init 4 0 5 := ⟨0, by decide +kernel, rfl, rfl⟩
theorem rX5_init_5 : vCn mX5_init 5 (nI 200) 8 := Or.inr (Or.inr (Or.inl ⟨200, by decide +kernel, by decide +kernel, rfl⟩))
theorem rX5_init_8 : vNi mX5_init 8 .int 10 := ⟨by decide +kernel, rfl, tF51⟩
theorem rX5_init_10 : vPf mX5_init 10 5 0 13 := ⟨9, (RX5, TX5, 7), by decide +kernel, rfl, rfl, by decide, tF28, Or.inr ⟨rfl, rfl, rfl⟩⟩
theorem rX5_init_13 : vLa mX5_init 13 0 14 := ⟨0, by decide +kernel, rfl, rfl⟩
theorem rX5_init_14 : vCn mX5_init 14 (nI 3) 15 := Or.inl ⟨3, by decide +kernel, by decide +kernel, rfl⟩
theorem rX5_init_15 : vNi mX5_init 15 .int 17 := ⟨by decide +kernel, rfl, tF51⟩
theorem rX5_init_17 : vPf mX5_init 17 5 2 20 := ⟨15, (RX5, TX5, 7), by decide +kernel, rfl, rfl, by decide, tF31, Or.inr ⟨rfl, rfl, rfl⟩⟩
theorem rX5_init_20 : vI mX5_init 20 .return_ 1 21 := ⟨by decide +kernel, rfl⟩
theorem rX5_append_0 : vLa mX5_append 0 0 1 := ⟨0, by decide +kernel, rfl, rfl⟩
theorem rX5_append_1 : vGf mX5_append 1 5 1 4 := ⟨18, (RX5, TX5, 7), by decide +kernel, rfl, rfl, by decide, tF29⟩
theorem rX5_append_4 : vCn mX5_append 4 (nI 200) 7 := Or.inr (Or.inr (Or.inl ⟨200, by decide +kernel, by decide +kernel, rfl⟩))
theorem rX5_append_7 : vIc mX5_append 7 .lt 12 10 := ⟨5, by decide +kernel, by decide, rfl⟩
theorem rX5_append_10 : vCn mX5_append 10 (nI 0) 11 := Or.inl ⟨0, by decide +kernel, by decide +kernel, rfl⟩
theorem rX5_append_11 : vI mX5_append 11 .ireturn 1 12 := ⟨by decide +kernel, rfl⟩
theorem rX5_append_12 : vLa mX5_append 12 0 13 := ⟨0, by decide +kernel, rfl, rfl⟩
theorem rX5_append_13 : vGf mX5_append 13 5 0 16 := ⟨9, (RX5, TX5, 7), by decide +kernel, rfl, rfl, by decide, tF28⟩
theorem rX5_append_16 : vLa mX5_append 16 0 17 := ⟨0, by decide +kernel, rfl, rfl⟩
theorem rX5_append_17 : vGf mX5_append 17 5 1 20 := ⟨18, (RX5, TX5, 7), by decide +kernel, rfl, rfl, by decide, tF29⟩
theorem rX5_append_20 : vLi mX5_append 20 1 21 := Or.inl ⟨1, by decide +kernel, rfl, rfl⟩
theorem rX5_append_21 : vKs mX5_append 21 mX7_put 3 24 := ⟨22, by decide +kernel, rfl, kX7_put, tF256, Or.inr ⟨"BellLots", tN255⟩⟩
theorem rX5_append_24 : vLa mX5_append 24 0 25 := ⟨0, by decide +kernel, rfl, rfl⟩
theorem rX5_append_25 : vI mX5_append 25 .dup 1 26 := ⟨by decide +kernel, rfl⟩
theorem rX5_append_26 : vGf mX5_append 26 5 1 29 := ⟨18, (RX5, TX5, 7), by decide +kernel, rfl, rfl, by decide, tF29⟩
theorem rX5_append_29 : vCn mX5_append 29 (nI 1) 30 := Or.inl ⟨1, by decide +kernel, by decide +kernel, rfl⟩
theorem rX5_append_30 : vI mX5_append 30 .iadd 1 31 := ⟨by decide +kernel, rfl⟩
theorem rX5_append_31 : vPf mX5_append 31 5 1 34 := ⟨18, (RX5, TX5, 7), by decide +kernel, rfl, rfl, by decide, tF29, Or.inl rfl⟩
theorem rX5_append_34 : vCn mX5_append 34 (nI 1) 35 := Or.inl ⟨1, by decide +kernel, by decide +kernel, rfl⟩
theorem rX5_append_35 : vI mX5_append 35 .ireturn 1 36 := ⟨by decide +kernel, rfl⟩
theorem rX5_empty_0 : vLa mX5_empty 0 0 1 := ⟨0, by decide +kernel, rfl, rfl⟩
theorem rX5_empty_1 : vGf mX5_empty 1 5 1 4 := ⟨18, (RX5, TX5, 7), by decide +kernel, rfl, rfl, by decide, tF29⟩
theorem rX5_empty_4 : vSi mX5_empty 4 1 5 := ⟨Or.inl ⟨1, by decide +kernel, rfl, rfl⟩, by decide⟩
theorem rX5_empty_5 : vLa mX5_empty 5 0 6 := ⟨0, by decide +kernel, rfl, rfl⟩
theorem rX5_empty_6 : vCn mX5_empty 6 (nI 0) 7 := Or.inl ⟨0, by decide +kernel, by decide +kernel, rfl⟩
theorem rX5_empty_7 : vPf mX5_empty 7 5 1 10 := ⟨18, (RX5, TX5, 7), by decide +kernel, rfl, rfl, by decide, tF29, Or.inl rfl⟩
theorem rX5_empty_10 : vLi mX5_empty 10 1 11 := Or.inl ⟨1, by decide +kernel, rfl, rfl⟩
theorem rX5_empty_11 : vI mX5_empty 11 .ireturn 1 12 := ⟨by decide +kernel, rfl⟩
theorem rX5_readInto_0 : vLa mX5_readInto 0 1 1 := ⟨1, by decide +kernel, rfl, rfl⟩
theorem rX5_readInto_1 : vKv mX5_readInto 1 mX6_empty 0 6 4 := ⟨26, (RX6, TX6, 11), by decide +kernel, rfl, kX6_empty, tF275, tF274, tF276, rfl, rfl⟩
theorem rX5_readInto_4 : vLa mX5_readInto 4 0 5 := ⟨0, by decide +kernel, rfl, rfl⟩
theorem rX5_readInto_5 : vCn mX5_readInto 5 (nI 0) 6 := Or.inl ⟨0, by decide +kernel, by decide +kernel, rfl⟩
theorem rX5_readInto_6 : vPf mX5_readInto 6 5 3 9 := ⟨31, (RX5, TX5, 7), by decide +kernel, rfl, rfl, by decide, tF32, Or.inl rfl⟩
theorem rX5_readInto_9 : vCn mX5_readInto 9 (nI 0) 10 := Or.inl ⟨0, by decide +kernel, by decide +kernel, rfl⟩
theorem rX5_readInto_10 : vSi mX5_readInto 10 2 11 := ⟨Or.inl ⟨2, by decide +kernel, rfl, rfl⟩, by decide⟩
theorem rX5_readInto_11 : vLa mX5_readInto 11 0 12 := ⟨0, by decide +kernel, rfl, rfl⟩
theorem rX5_readInto_12 : vKv mX5_readInto 12 mX5_nextToken 0 5 15 := ⟨34, (RX5, TX5, 7), by decide +kernel, rfl, kX5_nextToken, tF283, tF281, tS0, rfl, rfl⟩
theorem rX5_readInto_15 : vLa mX5_readInto 15 0 16 := ⟨0, by decide +kernel, rfl, rfl⟩
theorem rX5_readInto_16 : vGf mX5_readInto 16 5 5 19 := ⟨37, (RX5, TX5, 7), by decide +kernel, rfl, rfl, by decide, tF34⟩
theorem rX5_readInto_19 : vIf mX5_readInto 19 .eq 55 22 := ⟨36, by decide +kernel, by decide, rfl⟩
theorem rX5_readInto_22 : vLi mX5_readInto 22 2 23 := Or.inl ⟨2, by decide +kernel, rfl, rfl⟩
theorem rX5_readInto_23 : vCn mX5_readInto 23 (nI 200) 26 := Or.inr (Or.inr (Or.inl ⟨200, by decide +kernel, by decide +kernel, rfl⟩))
theorem rX5_readInto_26 : vIc mX5_readInto 26 .ge 55 29 := ⟨29, by decide +kernel, by decide, rfl⟩
theorem rX5_readInto_29 : vLa mX5_readInto 29 0 30 := ⟨0, by decide +kernel, rfl, rfl⟩
theorem rX5_readInto_30 : vLa mX5_readInto 30 1 31 := ⟨1, by decide +kernel, rfl, rfl⟩
theorem rX5_readInto_31 : vKv mX5_readInto 31 mX5_readItem 1 5 34 := ⟨40, (RX5, TX5, 7), by decide +kernel, rfl, kX5_readItem, tF300, tF298, tS2, rfl, rfl⟩
theorem rX5_readInto_34 : vIf mX5_readInto 34 .ne 45 37 := ⟨11, by decide +kernel, by decide, rfl⟩
theorem rX5_readInto_37 : vCn mX5_readInto 37 (-10) 39 := Or.inr (Or.inl ⟨-10, by decide +kernel, by decide +kernel, rfl⟩)
theorem rX5_readInto_39 : vLa mX5_readInto 39 0 40 := ⟨0, by decide +kernel, rfl, rfl⟩
theorem rX5_readInto_40 : vGf mX5_readInto 40 5 4 43 := ⟨44, (RX5, TX5, 7), by decide +kernel, rfl, rfl, by decide, tF33⟩
theorem rX5_readInto_43 : vI mX5_readInto 43 .isub 1 44 := ⟨by decide +kernel, rfl⟩
theorem rX5_readInto_44 : vI mX5_readInto 44 .ireturn 1 45 := ⟨by decide +kernel, rfl⟩
theorem rX5_readInto_45 : vIn mX5_readInto 45 2 (nI 1) 48 := ⟨1, by decide +kernel, by decide +kernel, by decide, rfl⟩
theorem rX5_readInto_48 : vLa mX5_readInto 48 0 49 := ⟨0, by decide +kernel, rfl, rfl⟩
theorem rX5_readInto_49 : vKv mX5_readInto 49 mX5_nextToken 0 5 52 := ⟨34, (RX5, TX5, 7), by decide +kernel, rfl, kX5_nextToken, tF283, tF281, tS0, rfl, rfl⟩
theorem rX5_readInto_52 : vGo mX5_readInto 52 15 := ⟨-37, by decide +kernel, by decide⟩
theorem rX5_readInto_55 : vLi mX5_readInto 55 2 56 := Or.inl ⟨2, by decide +kernel, rfl, rfl⟩
theorem rX5_readInto_56 : vI mX5_readInto 56 .ireturn 1 57 := ⟨by decide +kernel, rfl⟩
theorem rX5_readItem_0 : vLa mX5_readItem 0 0 1 := ⟨0, by decide +kernel, rfl, rfl⟩
theorem rX5_readItem_1 : vGf mX5_readItem 1 5 5 4 := ⟨37, (RX5, TX5, 7), by decide +kernel, rfl, rfl, by decide, tF34⟩
theorem rX5_readItem_4 : vSi mX5_readItem 4 2 5 := ⟨Or.inl ⟨2, by decide +kernel, rfl, rfl⟩, by decide⟩
theorem rX5_readItem_5 : vLa mX5_readItem 5 1 6 := ⟨1, by decide +kernel, rfl, rfl⟩
theorem rX5_readItem_6 : vLi mX5_readItem 6 2 7 := Or.inl ⟨2, by decide +kernel, rfl, rfl⟩
theorem rX5_readItem_7 : vKs mX5_readItem 7 mX5_mayBegin 2 10 := ⟨47, by decide +kernel, rfl, kX5_mayBegin, tF303, Or.inl tF302⟩
theorem rX5_readItem_10 : vIf mX5_readItem 10 .ne 15 13 := ⟨5, by decide +kernel, by decide, rfl⟩
theorem rX5_readItem_13 : vCn mX5_readItem 13 (nI 0) 14 := Or.inl ⟨0, by decide +kernel, by decide +kernel, rfl⟩
theorem rX5_readItem_14 : vI mX5_readItem 14 .ireturn 1 15 := ⟨by decide +kernel, rfl⟩
theorem rX5_readItem_15 : vCn mX5_readItem 15 (nI 0) 16 := Or.inl ⟨0, by decide +kernel, by decide +kernel, rfl⟩
theorem rX5_readItem_16 : vSi mX5_readItem 16 3 17 := ⟨Or.inl ⟨3, by decide +kernel, rfl, rfl⟩, by decide⟩
theorem rX5_readItem_17 : vLi mX5_readItem 17 3 18 := Or.inl ⟨3, by decide +kernel, rfl, rfl⟩
theorem rX5_readItem_18 : vCn mX5_readItem 18 (nI 3) 19 := Or.inl ⟨3, by decide +kernel, by decide +kernel, rfl⟩
theorem rX5_readItem_19 : vIc mX5_readItem 19 .ge 62 22 := ⟨43, by decide +kernel, by decide, rfl⟩
theorem rX5_readItem_22 : vLa mX5_readItem 22 0 23 := ⟨0, by decide +kernel, rfl, rfl⟩
theorem rX5_readItem_23 : vKv mX5_readItem 23 mX5_nextToken 0 5 26 := ⟨34, (RX5, TX5, 7), by decide +kernel, rfl, kX5_nextToken, tF283, tF281, tS0, rfl, rfl⟩
theorem rX5_readItem_26 : vLa mX5_readItem 26 0 27 := ⟨0, by decide +kernel, rfl, rfl⟩
theorem rX5_readItem_27 : vGf mX5_readItem 27 5 5 30 := ⟨37, (RX5, TX5, 7), by decide +kernel, rfl, rfl, by decide, tF34⟩
theorem rX5_readItem_30 : vCn mX5_readItem 30 (nI 1) 31 := Or.inl ⟨1, by decide +kernel, by decide +kernel, rfl⟩
theorem rX5_readItem_31 : vIc mX5_readItem 31 .ne 44 34 := ⟨13, by decide +kernel, by decide, rfl⟩
theorem rX5_readItem_34 : vLa mX5_readItem 34 0 35 := ⟨0, by decide +kernel, rfl, rfl⟩
theorem rX5_readItem_35 : vLa mX5_readItem 35 1 36 := ⟨1, by decide +kernel, rfl, rfl⟩
theorem rX5_readItem_36 : vLi mX5_readItem 36 2 37 := Or.inl ⟨2, by decide +kernel, rfl, rfl⟩
theorem rX5_readItem_37 : vLi mX5_readItem 37 3 38 := Or.inl ⟨3, by decide +kernel, rfl, rfl⟩
theorem rX5_readItem_38 : vKv mX5_readItem 38 mX5_mayStand 3 5 41 := ⟨51, (RX5, TX5, 7), by decide +kernel, rfl, kX5_mayStand, tF307, tF305, tS3, rfl, rfl⟩
theorem rX5_readItem_41 : vIf mX5_readItem 41 .ne 46 44 := ⟨5, by decide +kernel, by decide, rfl⟩
theorem rX5_readItem_44 : vCn mX5_readItem 44 (nI 0) 45 := Or.inl ⟨0, by decide +kernel, by decide +kernel, rfl⟩
theorem rX5_readItem_45 : vI mX5_readItem 45 .ireturn 1 46 := ⟨by decide +kernel, rfl⟩
theorem rX5_readItem_46 : vLa mX5_readItem 46 0 47 := ⟨0, by decide +kernel, rfl, rfl⟩
theorem rX5_readItem_47 : vGf mX5_readItem 47 5 2 50 := ⟨15, (RX5, TX5, 7), by decide +kernel, rfl, rfl, by decide, tF31⟩
theorem rX5_readItem_50 : vLi mX5_readItem 50 3 51 := Or.inl ⟨3, by decide +kernel, rfl, rfl⟩
theorem rX5_readItem_51 : vLa mX5_readItem 51 0 52 := ⟨0, by decide +kernel, rfl, rfl⟩
theorem rX5_readItem_52 : vGf mX5_readItem 52 5 6 55 := ⟨55, (RX5, TX5, 7), by decide +kernel, rfl, rfl, by decide, tF35⟩
theorem rX5_readItem_55 : vI mX5_readItem 55 .iastore 1 56 := ⟨by decide +kernel, rfl⟩
theorem rX5_readItem_56 : vIn mX5_readItem 56 3 (nI 1) 59 := ⟨1, by decide +kernel, by decide +kernel, by decide, rfl⟩
theorem rX5_readItem_59 : vGo mX5_readItem 59 17 := ⟨-42, by decide +kernel, by decide⟩
theorem rX5_readItem_62 : vLa mX5_readItem 62 0 63 := ⟨0, by decide +kernel, rfl, rfl⟩
theorem rX5_readItem_63 : vKv mX5_readItem 63 mX5_nextToken 0 5 66 := ⟨34, (RX5, TX5, 7), by decide +kernel, rfl, kX5_nextToken, tF283, tF281, tS0, rfl, rfl⟩
theorem rX5_readItem_66 : vLa mX5_readItem 66 0 67 := ⟨0, by decide +kernel, rfl, rfl⟩
theorem rX5_readItem_67 : vGf mX5_readItem 67 5 5 70 := ⟨37, (RX5, TX5, 7), by decide +kernel, rfl, rfl, by decide, tF34⟩
theorem rX5_readItem_70 : vCn mX5_readItem 70 (nI 59) 72 := Or.inr (Or.inl ⟨59, by decide +kernel, by decide +kernel, rfl⟩)
theorem rX5_readItem_72 : vIc mX5_readItem 72 .eq 77 75 := ⟨5, by decide +kernel, by decide, rfl⟩
theorem rX5_readItem_75 : vCn mX5_readItem 75 (nI 0) 76 := Or.inl ⟨0, by decide +kernel, by decide +kernel, rfl⟩
theorem rX5_readItem_76 : vI mX5_readItem 76 .ireturn 1 77 := ⟨by decide +kernel, rfl⟩
theorem rX5_readItem_77 : vLa mX5_readItem 77 1 78 := ⟨1, by decide +kernel, rfl, rfl⟩
theorem rX5_readItem_78 : vLi mX5_readItem 78 2 79 := Or.inl ⟨2, by decide +kernel, rfl, rfl⟩
theorem rX5_readItem_79 : vLa mX5_readItem 79 0 80 := ⟨0, by decide +kernel, rfl, rfl⟩
theorem rX5_readItem_80 : vGf mX5_readItem 80 5 2 83 := ⟨15, (RX5, TX5, 7), by decide +kernel, rfl, rfl, by decide, tF31⟩
theorem rX5_readItem_83 : vCn mX5_readItem 83 (nI 0) 84 := Or.inl ⟨0, by decide +kernel, by decide +kernel, rfl⟩
theorem rX5_readItem_84 : vI mX5_readItem 84 .iaload 1 85 := ⟨by decide +kernel, rfl⟩
theorem rX5_readItem_85 : vLa mX5_readItem 85 0 86 := ⟨0, by decide +kernel, rfl, rfl⟩
theorem rX5_readItem_86 : vGf mX5_readItem 86 5 2 89 := ⟨15, (RX5, TX5, 7), by decide +kernel, rfl, rfl, by decide, tF31⟩
theorem rX5_readItem_89 : vCn mX5_readItem 89 (nI 1) 90 := Or.inl ⟨1, by decide +kernel, by decide +kernel, rfl⟩
theorem rX5_readItem_90 : vI mX5_readItem 90 .iaload 1 91 := ⟨by decide +kernel, rfl⟩
theorem rX5_readItem_91 : vLa mX5_readItem 91 0 92 := ⟨0, by decide +kernel, rfl, rfl⟩
theorem rX5_readItem_92 : vGf mX5_readItem 92 5 2 95 := ⟨15, (RX5, TX5, 7), by decide +kernel, rfl, rfl, by decide, tF31⟩
theorem rX5_readItem_95 : vCn mX5_readItem 95 (nI 2) 96 := Or.inl ⟨2, by decide +kernel, by decide +kernel, rfl⟩
theorem rX5_readItem_96 : vI mX5_readItem 96 .iaload 1 97 := ⟨by decide +kernel, rfl⟩
theorem rX5_readItem_97 : vKv mX5_readItem 97 mX6_add 4 6 100 := ⟨58, (RX6, TX6, 11), by decide +kernel, rfl, kX6_add, tF316, tF315, tF317, rfl, rfl⟩
theorem rX5_readItem_100 : vCn mX5_readItem 100 (nI 1) 101 := Or.inl ⟨1, by decide +kernel, by decide +kernel, rfl⟩
theorem rX5_readItem_101 : vI mX5_readItem 101 .ireturn 1 102 := ⟨by decide +kernel, rfl⟩
theorem rX5_mayBegin_0 : vLi mX5_mayBegin 0 1 1 := Or.inl ⟨1, by decide +kernel, rfl, rfl⟩
theorem rX5_mayBegin_1 : vLk mX5_mayBegin 1 [(100, 50), (111, 52), (116, 35)] 67 := ⟨35, by decide +kernel, by decide⟩
theorem rX5_mayBegin_36 : vLa mX5_mayBegin 36 0 37 := ⟨0, by decide +kernel, rfl, rfl⟩
theorem rX5_mayBegin_37 : vGf mX5_mayBegin 37 6 0 40 := ⟨62, (RX6, TX6, 11), by decide +kernel, rfl, rfl, by decide, tF60⟩
theorem rX5_mayBegin_40 : vCn mX5_mayBegin 40 (nI 6) 42 := Or.inr (Or.inl ⟨6, by decide +kernel, by decide +kernel, rfl⟩)
theorem rX5_mayBegin_42 : vIc mX5_mayBegin 42 .ge 49 45 := ⟨7, by decide +kernel, by decide, rfl⟩
theorem rX5_mayBegin_45 : vCn mX5_mayBegin 45 (nI 1) 46 := Or.inl ⟨1, by decide +kernel, by decide +kernel, rfl⟩
theorem rX5_mayBegin_46 : vGo mX5_mayBegin 46 50 := ⟨4, by decide +kernel, by decide⟩
theorem rX5_mayBegin_49 : vCn mX5_mayBegin 49 (nI 0) 50 := Or.inl ⟨0, by decide +kernel, by decide +kernel, rfl⟩
theorem rX5_mayBegin_50 : vI mX5_mayBegin 50 .ireturn 1 51 := ⟨by decide +kernel, rfl⟩
theorem rX5_mayBegin_51 : vCn mX5_mayBegin 51 (nI 1) 52 := Or.inl ⟨1, by decide +kernel, by decide +kernel, rfl⟩
theorem rX5_mayBegin_52 : vI mX5_mayBegin 52 .ireturn 1 53 := ⟨by decide +kernel, rfl⟩
theorem rX5_mayBegin_53 : vLa mX5_mayBegin 53 0 54 := ⟨0, by decide +kernel, rfl, rfl⟩
theorem rX5_mayBegin_54 : vGf mX5_mayBegin 54 6 2 57 := ⟨65, (RX6, TX6, 11), by decide +kernel, rfl, rfl, by decide, tF65⟩
theorem rX5_mayBegin_57 : vCn mX5_mayBegin 57 (nI 6) 59 := Or.inr (Or.inl ⟨6, by decide +kernel, by decide +kernel, rfl⟩)
theorem rX5_mayBegin_59 : vIc mX5_mayBegin 59 .ge 66 62 := ⟨7, by decide +kernel, by decide, rfl⟩
theorem rX5_mayBegin_62 : vCn mX5_mayBegin 62 (nI 1) 63 := Or.inl ⟨1, by decide +kernel, by decide +kernel, rfl⟩
theorem rX5_mayBegin_63 : vGo mX5_mayBegin 63 67 := ⟨4, by decide +kernel, by decide⟩
theorem rX5_mayBegin_66 : vCn mX5_mayBegin 66 (nI 0) 67 := Or.inl ⟨0, by decide +kernel, by decide +kernel, rfl⟩
theorem rX5_mayBegin_67 : vI mX5_mayBegin 67 .ireturn 1 68 := ⟨by decide +kernel, rfl⟩
theorem rX5_mayBegin_68 : vCn mX5_mayBegin 68 (nI 0) 69 := Or.inl ⟨0, by decide +kernel, by decide +kernel, rfl⟩
theorem rX5_mayBegin_69 : vI mX5_mayBegin 69 .ireturn 1 70 := ⟨by decide +kernel, rfl⟩
theorem rX5_mayStand_0 : vLi mX5_mayStand 0 3 1 := Or.inl ⟨3, by decide +kernel, rfl, rfl⟩
theorem rX5_mayStand_1 : vCn mX5_mayStand 1 (nI 2) 2 := Or.inl ⟨2, by decide +kernel, by decide +kernel, rfl⟩
theorem rX5_mayStand_2 : vIc mX5_mayStand 2 .ne 9 5 := ⟨7, by decide +kernel, by decide, rfl⟩
theorem rX5_mayStand_5 : vCn mX5_mayStand 5 (nI 1) 6 := Or.inl ⟨1, by decide +kernel, by decide +kernel, rfl⟩
theorem rX5_mayStand_6 : vGo mX5_mayStand 6 10 := ⟨4, by decide +kernel, by decide⟩
theorem rX5_mayStand_9 : vCn mX5_mayStand 9 (nI 0) 10 := Or.inl ⟨0, by decide +kernel, by decide +kernel, rfl⟩
theorem rX5_mayStand_10 : vSi mX5_mayStand 10 4 12 := ⟨Or.inr ⟨by decide +kernel, rfl⟩, by decide⟩
theorem rX5_mayStand_12 : vLi mX5_mayStand 12 2 13 := Or.inl ⟨2, by decide +kernel, rfl, rfl⟩
theorem rX5_mayStand_13 : vLk mX5_mayStand 13 [(100, 56), (116, 27)] 108 := ⟨27, by decide +kernel, by decide⟩
theorem rX5_mayStand_40 : vLi mX5_mayStand 40 4 42 := Or.inr ⟨by decide +kernel, rfl⟩
theorem rX5_mayStand_42 : vIf mX5_mayStand 42 .eq 58 45 := ⟨16, by decide +kernel, by decide, rfl⟩
theorem rX5_mayStand_45 : vLa mX5_mayStand 45 0 46 := ⟨0, by decide +kernel, rfl, rfl⟩
theorem rX5_mayStand_46 : vGf mX5_mayStand 46 5 6 49 := ⟨55, (RX5, TX5, 7), by decide +kernel, rfl, rfl, by decide, tF35⟩
theorem rX5_mayStand_49 : vCn mX5_mayStand 49 (nI 0) 50 := Or.inl ⟨0, by decide +kernel, by decide +kernel, rfl⟩
theorem rX5_mayStand_50 : vCn mX5_mayStand 50 (nI 6) 52 := Or.inr (Or.inl ⟨6, by decide +kernel, by decide +kernel, rfl⟩)
theorem rX5_mayStand_52 : vKs mX5_mayStand 52 mX7_within 3 55 := ⟨68, by decide +kernel, rfl, kX7_within, tF249, Or.inr ⟨"BellLots", tN309⟩⟩
theorem rX5_mayStand_55 : vGo mX5_mayStand 55 68 := ⟨13, by decide +kernel, by decide⟩
theorem rX5_mayStand_58 : vLa mX5_mayStand 58 0 59 := ⟨0, by decide +kernel, rfl, rfl⟩
theorem rX5_mayStand_59 : vGf mX5_mayStand 59 5 6 62 := ⟨55, (RX5, TX5, 7), by decide +kernel, rfl, rfl, by decide, tF35⟩
theorem rX5_mayStand_62 : vCn mX5_mayStand 62 (nI 1) 63 := Or.inl ⟨1, by decide +kernel, by decide +kernel, rfl⟩
theorem rX5_mayStand_63 : vCn mX5_mayStand 63 (nI 99) 65 := Or.inr (Or.inl ⟨99, by decide +kernel, by decide +kernel, rfl⟩)
theorem rX5_mayStand_65 : vKs mX5_mayStand 65 mX7_within 3 68 := ⟨68, by decide +kernel, rfl, kX7_within, tF249, Or.inr ⟨"BellLots", tN309⟩⟩
theorem rX5_mayStand_68 : vI mX5_mayStand 68 .ireturn 1 69 := ⟨by decide +kernel, rfl⟩
theorem rX5_mayStand_69 : vLi mX5_mayStand 69 4 71 := Or.inr ⟨by decide +kernel, rfl⟩
theorem rX5_mayStand_71 : vIf mX5_mayStand 71 .eq 87 74 := ⟨16, by decide +kernel, by decide, rfl⟩
theorem rX5_mayStand_74 : vLa mX5_mayStand 74 0 75 := ⟨0, by decide +kernel, rfl, rfl⟩
theorem rX5_mayStand_75 : vGf mX5_mayStand 75 5 6 78 := ⟨55, (RX5, TX5, 7), by decide +kernel, rfl, rfl, by decide, tF35⟩
theorem rX5_mayStand_78 : vCn mX5_mayStand 78 (nI 1) 79 := Or.inl ⟨1, by decide +kernel, by decide +kernel, rfl⟩
theorem rX5_mayStand_79 : vCn mX5_mayStand 79 (nI 9) 81 := Or.inr (Or.inl ⟨9, by decide +kernel, by decide +kernel, rfl⟩)
theorem rX5_mayStand_81 : vKs mX5_mayStand 81 mX7_within 3 84 := ⟨68, by decide +kernel, rfl, kX7_within, tF249, Or.inr ⟨"BellLots", tN309⟩⟩
theorem rX5_mayStand_84 : vGo mX5_mayStand 84 120 := ⟨36, by decide +kernel, by decide⟩
theorem rX5_mayStand_87 : vLa mX5_mayStand 87 1 88 := ⟨1, by decide +kernel, rfl, rfl⟩
theorem rX5_mayStand_88 : vLa mX5_mayStand 88 0 89 := ⟨0, by decide +kernel, rfl, rfl⟩
theorem rX5_mayStand_89 : vGf mX5_mayStand 89 5 6 92 := ⟨55, (RX5, TX5, 7), by decide +kernel, rfl, rfl, by decide, tF35⟩
theorem rX5_mayStand_92 : vKv mX5_mayStand 92 mX6_hasTown 1 6 95 := ⟨72, (RX6, TX6, 11), by decide +kernel, rfl, kX6_hasTown, tF311, tF310, tF312, rfl, rfl⟩
theorem rX5_mayStand_95 : vIf mX5_mayStand 95 .eq 119 98 := ⟨24, by decide +kernel, by decide, rfl⟩
theorem rX5_mayStand_98 : vLi mX5_mayStand 98 3 99 := Or.inl ⟨3, by decide +kernel, rfl, rfl⟩
theorem rX5_mayStand_99 : vIf mX5_mayStand 99 .eq 115 102 := ⟨16, by decide +kernel, by decide, rfl⟩
theorem rX5_mayStand_102 : vLa mX5_mayStand 102 0 103 := ⟨0, by decide +kernel, rfl, rfl⟩
theorem rX5_mayStand_103 : vGf mX5_mayStand 103 5 6 106 := ⟨55, (RX5, TX5, 7), by decide +kernel, rfl, rfl, by decide, tF35⟩
theorem rX5_mayStand_106 : vLa mX5_mayStand 106 0 107 := ⟨0, by decide +kernel, rfl, rfl⟩
theorem rX5_mayStand_107 : vGf mX5_mayStand 107 5 2 110 := ⟨15, (RX5, TX5, 7), by decide +kernel, rfl, rfl, by decide, tF31⟩
theorem rX5_mayStand_110 : vCn mX5_mayStand 110 (nI 0) 111 := Or.inl ⟨0, by decide +kernel, by decide +kernel, rfl⟩
theorem rX5_mayStand_111 : vI mX5_mayStand 111 .iaload 1 112 := ⟨by decide +kernel, rfl⟩
theorem rX5_mayStand_112 : vIc mX5_mayStand 112 .eq 119 115 := ⟨7, by decide +kernel, by decide, rfl⟩
theorem rX5_mayStand_115 : vCn mX5_mayStand 115 (nI 1) 116 := Or.inl ⟨1, by decide +kernel, by decide +kernel, rfl⟩
theorem rX5_mayStand_116 : vGo mX5_mayStand 116 120 := ⟨4, by decide +kernel, by decide⟩
theorem rX5_mayStand_119 : vCn mX5_mayStand 119 (nI 0) 120 := Or.inl ⟨0, by decide +kernel, by decide +kernel, rfl⟩
theorem rX5_mayStand_120 : vI mX5_mayStand 120 .ireturn 1 121 := ⟨by decide +kernel, rfl⟩
theorem rX5_mayStand_121 : vLi mX5_mayStand 121 4 123 := Or.inr ⟨by decide +kernel, rfl⟩
theorem rX5_mayStand_123 : vIf mX5_mayStand 123 .eq 139 126 := ⟨16, by decide +kernel, by decide, rfl⟩
theorem rX5_mayStand_126 : vLa mX5_mayStand 126 0 127 := ⟨0, by decide +kernel, rfl, rfl⟩
theorem rX5_mayStand_127 : vGf mX5_mayStand 127 5 6 130 := ⟨55, (RX5, TX5, 7), by decide +kernel, rfl, rfl, by decide, tF35⟩
theorem rX5_mayStand_130 : vCn mX5_mayStand 130 (nI 0) 131 := Or.inl ⟨0, by decide +kernel, by decide +kernel, rfl⟩
theorem rX5_mayStand_131 : vCn mX5_mayStand 131 (nI 60) 133 := Or.inr (Or.inl ⟨60, by decide +kernel, by decide +kernel, rfl⟩)
theorem rX5_mayStand_133 : vKs mX5_mayStand 133 mX7_within 3 136 := ⟨68, by decide +kernel, rfl, kX7_within, tF249, Or.inr ⟨"BellLots", tN309⟩⟩
theorem rX5_mayStand_136 : vGo mX5_mayStand 136 147 := ⟨11, by decide +kernel, by decide⟩
theorem rX5_mayStand_139 : vLa mX5_mayStand 139 1 140 := ⟨1, by decide +kernel, rfl, rfl⟩
theorem rX5_mayStand_140 : vLa mX5_mayStand 140 0 141 := ⟨0, by decide +kernel, rfl, rfl⟩
theorem rX5_mayStand_141 : vGf mX5_mayStand 141 5 6 144 := ⟨55, (RX5, TX5, 7), by decide +kernel, rfl, rfl, by decide, tF35⟩
theorem rX5_mayStand_144 : vKv mX5_mayStand 144 mX6_hasTown 1 6 147 := ⟨72, (RX6, TX6, 11), by decide +kernel, rfl, kX6_hasTown, tF311, tF310, tF312, rfl, rfl⟩
theorem rX5_mayStand_147 : vI mX5_mayStand 147 .ireturn 1 148 := ⟨by decide +kernel, rfl⟩
theorem rX5_nextToken_0 : vLa mX5_nextToken 0 0 1 := ⟨0, by decide +kernel, rfl, rfl⟩
theorem rX5_nextToken_1 : vGf mX5_nextToken 1 5 3 4 := ⟨31, (RX5, TX5, 7), by decide +kernel, rfl, rfl, by decide, tF32⟩
theorem rX5_nextToken_4 : vLa mX5_nextToken 4 0 5 := ⟨0, by decide +kernel, rfl, rfl⟩
theorem rX5_nextToken_5 : vGf mX5_nextToken 5 5 1 8 := ⟨18, (RX5, TX5, 7), by decide +kernel, rfl, rfl, by decide, tF29⟩
theorem rX5_nextToken_8 : vIc mX5_nextToken 8 .ge 40 11 := ⟨32, by decide +kernel, by decide, rfl⟩
theorem rX5_nextToken_11 : vLa mX5_nextToken 11 0 12 := ⟨0, by decide +kernel, rfl, rfl⟩
theorem rX5_nextToken_12 : vGf mX5_nextToken 12 5 0 15 := ⟨9, (RX5, TX5, 7), by decide +kernel, rfl, rfl, by decide, tF28⟩
theorem rX5_nextToken_15 : vLa mX5_nextToken 15 0 16 := ⟨0, by decide +kernel, rfl, rfl⟩
theorem rX5_nextToken_16 : vGf mX5_nextToken 16 5 3 19 := ⟨31, (RX5, TX5, 7), by decide +kernel, rfl, rfl, by decide, tF32⟩
theorem rX5_nextToken_19 : vKs mX5_nextToken 19 mX7_at 2 22 := ⟨76, by decide +kernel, rfl, kX7_at, tF286, Or.inr ⟨"BellLots", tN285⟩⟩
theorem rX5_nextToken_22 : vCn mX5_nextToken 22 (nI 32) 24 := Or.inr (Or.inl ⟨32, by decide +kernel, by decide +kernel, rfl⟩)
theorem rX5_nextToken_24 : vIc mX5_nextToken 24 .ne 40 27 := ⟨16, by decide +kernel, by decide, rfl⟩
theorem rX5_nextToken_27 : vLa mX5_nextToken 27 0 28 := ⟨0, by decide +kernel, rfl, rfl⟩
theorem rX5_nextToken_28 : vI mX5_nextToken 28 .dup 1 29 := ⟨by decide +kernel, rfl⟩
theorem rX5_nextToken_29 : vGf mX5_nextToken 29 5 3 32 := ⟨31, (RX5, TX5, 7), by decide +kernel, rfl, rfl, by decide, tF32⟩
theorem rX5_nextToken_32 : vCn mX5_nextToken 32 (nI 1) 33 := Or.inl ⟨1, by decide +kernel, by decide +kernel, rfl⟩
theorem rX5_nextToken_33 : vI mX5_nextToken 33 .iadd 1 34 := ⟨by decide +kernel, rfl⟩
theorem rX5_nextToken_34 : vPf mX5_nextToken 34 5 3 37 := ⟨31, (RX5, TX5, 7), by decide +kernel, rfl, rfl, by decide, tF32, Or.inl rfl⟩
theorem rX5_nextToken_37 : vGo mX5_nextToken 37 0 := ⟨-37, by decide +kernel, by decide⟩
theorem rX5_nextToken_40 : vLa mX5_nextToken 40 0 41 := ⟨0, by decide +kernel, rfl, rfl⟩
theorem rX5_nextToken_41 : vLa mX5_nextToken 41 0 42 := ⟨0, by decide +kernel, rfl, rfl⟩
theorem rX5_nextToken_42 : vGf mX5_nextToken 42 5 3 45 := ⟨31, (RX5, TX5, 7), by decide +kernel, rfl, rfl, by decide, tF32⟩
theorem rX5_nextToken_45 : vPf mX5_nextToken 45 5 4 48 := ⟨44, (RX5, TX5, 7), by decide +kernel, rfl, rfl, by decide, tF33, Or.inl rfl⟩
theorem rX5_nextToken_48 : vLa mX5_nextToken 48 0 49 := ⟨0, by decide +kernel, rfl, rfl⟩
theorem rX5_nextToken_49 : vGf mX5_nextToken 49 5 3 52 := ⟨31, (RX5, TX5, 7), by decide +kernel, rfl, rfl, by decide, tF32⟩
theorem rX5_nextToken_52 : vLa mX5_nextToken 52 0 53 := ⟨0, by decide +kernel, rfl, rfl⟩
theorem rX5_nextToken_53 : vGf mX5_nextToken 53 5 1 56 := ⟨18, (RX5, TX5, 7), by decide +kernel, rfl, rfl, by decide, tF29⟩
theorem rX5_nextToken_56 : vIc mX5_nextToken 56 .lt 65 59 := ⟨9, by decide +kernel, by decide, rfl⟩
theorem rX5_nextToken_59 : vLa mX5_nextToken 59 0 60 := ⟨0, by decide +kernel, rfl, rfl⟩
theorem rX5_nextToken_60 : vCn mX5_nextToken 60 (nI 0) 61 := Or.inl ⟨0, by decide +kernel, by decide +kernel, rfl⟩
theorem rX5_nextToken_61 : vPf mX5_nextToken 61 5 5 64 := ⟨37, (RX5, TX5, 7), by decide +kernel, rfl, rfl, by decide, tF34, Or.inl rfl⟩
theorem rX5_nextToken_64 : vI mX5_nextToken 64 .return_ 1 65 := ⟨by decide +kernel, rfl⟩
theorem rX5_nextToken_65 : vLa mX5_nextToken 65 0 66 := ⟨0, by decide +kernel, rfl, rfl⟩
theorem rX5_nextToken_66 : vGf mX5_nextToken 66 5 0 69 := ⟨9, (RX5, TX5, 7), by decide +kernel, rfl, rfl, by decide, tF28⟩
theorem rX5_nextToken_69 : vLa mX5_nextToken 69 0 70 := ⟨0, by decide +kernel, rfl, rfl⟩
theorem rX5_nextToken_70 : vGf mX5_nextToken 70 5 3 73 := ⟨31, (RX5, TX5, 7), by decide +kernel, rfl, rfl, by decide, tF32⟩
theorem rX5_nextToken_73 : vKs mX5_nextToken 73 mX7_at 2 76 := ⟨76, by decide +kernel, rfl, kX7_at, tF286, Or.inr ⟨"BellLots", tN285⟩⟩
theorem rX5_nextToken_76 : vSi mX5_nextToken 76 1 77 := ⟨Or.inl ⟨1, by decide +kernel, rfl, rfl⟩, by decide⟩
theorem rX5_nextToken_77 : vLi mX5_nextToken 77 1 78 := Or.inl ⟨1, by decide +kernel, rfl, rfl⟩
theorem rX5_nextToken_78 : vKs mX5_nextToken 78 mX5_isDigit 1 81 := ⟨80, by decide +kernel, rfl, kX5_isDigit, tF289, Or.inl tF288⟩
theorem rX5_nextToken_81 : vIf mX5_nextToken 81 .eq 89 84 := ⟨8, by decide +kernel, by decide, rfl⟩
theorem rX5_nextToken_84 : vLa mX5_nextToken 84 0 85 := ⟨0, by decide +kernel, rfl, rfl⟩
theorem rX5_nextToken_85 : vKv mX5_nextToken 85 mX5_readNumber 0 5 88 := ⟨83, (RX5, TX5, 7), by decide +kernel, rfl, kX5_readNumber, tF293, tF291, tS1, rfl, rfl⟩
theorem rX5_nextToken_88 : vI mX5_nextToken 88 .return_ 1 89 := ⟨by decide +kernel, rfl⟩
theorem rX5_nextToken_89 : vLa mX5_nextToken 89 0 90 := ⟨0, by decide +kernel, rfl, rfl⟩
theorem rX5_nextToken_90 : vI mX5_nextToken 90 .dup 1 91 := ⟨by decide +kernel, rfl⟩
theorem rX5_nextToken_91 : vGf mX5_nextToken 91 5 3 94 := ⟨31, (RX5, TX5, 7), by decide +kernel, rfl, rfl, by decide, tF32⟩
theorem rX5_nextToken_94 : vCn mX5_nextToken 94 (nI 1) 95 := Or.inl ⟨1, by decide +kernel, by decide +kernel, rfl⟩
theorem rX5_nextToken_95 : vI mX5_nextToken 95 .iadd 1 96 := ⟨by decide +kernel, rfl⟩
theorem rX5_nextToken_96 : vPf mX5_nextToken 96 5 3 99 := ⟨31, (RX5, TX5, 7), by decide +kernel, rfl, rfl, by decide, tF32, Or.inl rfl⟩
theorem rX5_nextToken_99 : vLa mX5_nextToken 99 0 100 := ⟨0, by decide +kernel, rfl, rfl⟩
theorem rX5_nextToken_100 : vLi mX5_nextToken 100 1 101 := Or.inl ⟨1, by decide +kernel, rfl, rfl⟩
theorem rX5_nextToken_101 : vCn mX5_nextToken 101 (nI 116) 103 := Or.inr (Or.inl ⟨116, by decide +kernel, by decide +kernel, rfl⟩)
theorem rX5_nextToken_103 : vIc mX5_nextToken 103 .eq 124 106 := ⟨21, by decide +kernel, by decide, rfl⟩
theorem rX5_nextToken_106 : vLi mX5_nextToken 106 1 107 := Or.inl ⟨1, by decide +kernel, rfl, rfl⟩
theorem rX5_nextToken_107 : vCn mX5_nextToken 107 (nI 100) 109 := Or.inr (Or.inl ⟨100, by decide +kernel, by decide +kernel, rfl⟩)
theorem rX5_nextToken_109 : vIc mX5_nextToken 109 .eq 124 112 := ⟨15, by decide +kernel, by decide, rfl⟩
theorem rX5_nextToken_112 : vLi mX5_nextToken 112 1 113 := Or.inl ⟨1, by decide +kernel, rfl, rfl⟩
theorem rX5_nextToken_113 : vCn mX5_nextToken 113 (nI 111) 115 := Or.inr (Or.inl ⟨111, by decide +kernel, by decide +kernel, rfl⟩)
theorem rX5_nextToken_115 : vIc mX5_nextToken 115 .eq 124 118 := ⟨9, by decide +kernel, by decide, rfl⟩
theorem rX5_nextToken_118 : vLi mX5_nextToken 118 1 119 := Or.inl ⟨1, by decide +kernel, rfl, rfl⟩
theorem rX5_nextToken_119 : vCn mX5_nextToken 119 (nI 59) 121 := Or.inr (Or.inl ⟨59, by decide +kernel, by decide +kernel, rfl⟩)
theorem rX5_nextToken_121 : vIc mX5_nextToken 121 .ne 128 124 := ⟨7, by decide +kernel, by decide, rfl⟩
theorem rX5_nextToken_124 : vLi mX5_nextToken 124 1 125 := Or.inl ⟨1, by decide +kernel, rfl, rfl⟩
theorem rX5_nextToken_125 : vGo mX5_nextToken 125 129 := ⟨4, by decide +kernel, by decide⟩
theorem rX5_nextToken_128 : vCn mX5_nextToken 128 (nI 2) 129 := Or.inl ⟨2, by decide +kernel, by decide +kernel, rfl⟩
theorem rX5_nextToken_129 : vPf mX5_nextToken 129 5 5 132 := ⟨37, (RX5, TX5, 7), by decide +kernel, rfl, rfl, by decide, tF34, Or.inl rfl⟩
theorem rX5_nextToken_132 : vI mX5_nextToken 132 .return_ 1 133 := ⟨by decide +kernel, rfl⟩
theorem rX5_readNumber_0 : vLa mX5_readNumber 0 0 1 := ⟨0, by decide +kernel, rfl, rfl⟩
theorem rX5_readNumber_1 : vCn mX5_readNumber 1 (nI 0) 2 := Or.inl ⟨0, by decide +kernel, by decide +kernel, rfl⟩
theorem rX5_readNumber_2 : vPf mX5_readNumber 2 5 6 5 := ⟨55, (RX5, TX5, 7), by decide +kernel, rfl, rfl, by decide, tF35, Or.inl rfl⟩
theorem rX5_readNumber_5 : vLa mX5_readNumber 5 0 6 := ⟨0, by decide +kernel, rfl, rfl⟩
theorem rX5_readNumber_6 : vGf mX5_readNumber 6 5 3 9 := ⟨31, (RX5, TX5, 7), by decide +kernel, rfl, rfl, by decide, tF32⟩
theorem rX5_readNumber_9 : vLa mX5_readNumber 9 0 10 := ⟨0, by decide +kernel, rfl, rfl⟩
theorem rX5_readNumber_10 : vGf mX5_readNumber 10 5 1 13 := ⟨18, (RX5, TX5, 7), by decide +kernel, rfl, rfl, by decide, tF29⟩
theorem rX5_readNumber_13 : vIc mX5_readNumber 13 .ge 77 16 := ⟨64, by decide +kernel, by decide, rfl⟩
theorem rX5_readNumber_16 : vLa mX5_readNumber 16 0 17 := ⟨0, by decide +kernel, rfl, rfl⟩
theorem rX5_readNumber_17 : vGf mX5_readNumber 17 5 0 20 := ⟨9, (RX5, TX5, 7), by decide +kernel, rfl, rfl, by decide, tF28⟩
theorem rX5_readNumber_20 : vLa mX5_readNumber 20 0 21 := ⟨0, by decide +kernel, rfl, rfl⟩
theorem rX5_readNumber_21 : vGf mX5_readNumber 21 5 3 24 := ⟨31, (RX5, TX5, 7), by decide +kernel, rfl, rfl, by decide, tF32⟩
theorem rX5_readNumber_24 : vKs mX5_readNumber 24 mX7_at 2 27 := ⟨76, by decide +kernel, rfl, kX7_at, tF286, Or.inr ⟨"BellLots", tN285⟩⟩
theorem rX5_readNumber_27 : vKs mX5_readNumber 27 mX5_isDigit 1 30 := ⟨80, by decide +kernel, rfl, kX5_isDigit, tF289, Or.inl tF288⟩
theorem rX5_readNumber_30 : vIf mX5_readNumber 30 .eq 77 33 := ⟨47, by decide +kernel, by decide, rfl⟩
theorem rX5_readNumber_33 : vLa mX5_readNumber 33 0 34 := ⟨0, by decide +kernel, rfl, rfl⟩
theorem rX5_readNumber_34 : vCn mX5_readNumber 34 (nI 100) 36 := Or.inr (Or.inl ⟨100, by decide +kernel, by decide +kernel, rfl⟩)
theorem rX5_readNumber_36 : vCn mX5_readNumber 36 (nI 10) 38 := Or.inr (Or.inl ⟨10, by decide +kernel, by decide +kernel, rfl⟩)
theorem rX5_readNumber_38 : vLa mX5_readNumber 38 0 39 := ⟨0, by decide +kernel, rfl, rfl⟩
theorem rX5_readNumber_39 : vGf mX5_readNumber 39 5 6 42 := ⟨55, (RX5, TX5, 7), by decide +kernel, rfl, rfl, by decide, tF35⟩
theorem rX5_readNumber_42 : vI mX5_readNumber 42 .imul 1 43 := ⟨by decide +kernel, rfl⟩
theorem rX5_readNumber_43 : vLa mX5_readNumber 43 0 44 := ⟨0, by decide +kernel, rfl, rfl⟩
theorem rX5_readNumber_44 : vGf mX5_readNumber 44 5 0 47 := ⟨9, (RX5, TX5, 7), by decide +kernel, rfl, rfl, by decide, tF28⟩
theorem rX5_readNumber_47 : vLa mX5_readNumber 47 0 48 := ⟨0, by decide +kernel, rfl, rfl⟩
theorem rX5_readNumber_48 : vGf mX5_readNumber 48 5 3 51 := ⟨31, (RX5, TX5, 7), by decide +kernel, rfl, rfl, by decide, tF32⟩
theorem rX5_readNumber_51 : vKs mX5_readNumber 51 mX7_at 2 54 := ⟨76, by decide +kernel, rfl, kX7_at, tF286, Or.inr ⟨"BellLots", tN285⟩⟩
theorem rX5_readNumber_54 : vI mX5_readNumber 54 .iadd 1 55 := ⟨by decide +kernel, rfl⟩
theorem rX5_readNumber_55 : vCn mX5_readNumber 55 (nI 48) 57 := Or.inr (Or.inl ⟨48, by decide +kernel, by decide +kernel, rfl⟩)
theorem rX5_readNumber_57 : vI mX5_readNumber 57 .isub 1 58 := ⟨by decide +kernel, rfl⟩
theorem rX5_readNumber_58 : vMmin mX5_readNumber 58 61 := ⟨86, by decide +kernel, rfl, tF295, tF296, tF11, tF297⟩
theorem rX5_readNumber_61 : vPf mX5_readNumber 61 5 6 64 := ⟨55, (RX5, TX5, 7), by decide +kernel, rfl, rfl, by decide, tF35, Or.inl rfl⟩
theorem rX5_readNumber_64 : vLa mX5_readNumber 64 0 65 := ⟨0, by decide +kernel, rfl, rfl⟩
theorem rX5_readNumber_65 : vI mX5_readNumber 65 .dup 1 66 := ⟨by decide +kernel, rfl⟩
theorem rX5_readNumber_66 : vGf mX5_readNumber 66 5 3 69 := ⟨31, (RX5, TX5, 7), by decide +kernel, rfl, rfl, by decide, tF32⟩
theorem rX5_readNumber_69 : vCn mX5_readNumber 69 (nI 1) 70 := Or.inl ⟨1, by decide +kernel, by decide +kernel, rfl⟩
theorem rX5_readNumber_70 : vI mX5_readNumber 70 .iadd 1 71 := ⟨by decide +kernel, rfl⟩
theorem rX5_readNumber_71 : vPf mX5_readNumber 71 5 3 74 := ⟨31, (RX5, TX5, 7), by decide +kernel, rfl, rfl, by decide, tF32, Or.inl rfl⟩
theorem rX5_readNumber_74 : vGo mX5_readNumber 74 5 := ⟨-69, by decide +kernel, by decide⟩
theorem rX5_readNumber_77 : vLa mX5_readNumber 77 0 78 := ⟨0, by decide +kernel, rfl, rfl⟩
theorem rX5_readNumber_78 : vGf mX5_readNumber 78 5 0 81 := ⟨9, (RX5, TX5, 7), by decide +kernel, rfl, rfl, by decide, tF28⟩
theorem rX5_readNumber_81 : vLa mX5_readNumber 81 0 82 := ⟨0, by decide +kernel, rfl, rfl⟩
theorem rX5_readNumber_82 : vGf mX5_readNumber 82 5 4 85 := ⟨44, (RX5, TX5, 7), by decide +kernel, rfl, rfl, by decide, tF33⟩
theorem rX5_readNumber_85 : vKs mX5_readNumber 85 mX7_at 2 88 := ⟨76, by decide +kernel, rfl, kX7_at, tF286, Or.inr ⟨"BellLots", tN285⟩⟩
theorem rX5_readNumber_88 : vCn mX5_readNumber 88 (nI 48) 90 := Or.inr (Or.inl ⟨48, by decide +kernel, by decide +kernel, rfl⟩)
theorem rX5_readNumber_90 : vIc mX5_readNumber 90 .ne 110 93 := ⟨20, by decide +kernel, by decide, rfl⟩
theorem rX5_readNumber_93 : vLa mX5_readNumber 93 0 94 := ⟨0, by decide +kernel, rfl, rfl⟩
theorem rX5_readNumber_94 : vGf mX5_readNumber 94 5 3 97 := ⟨31, (RX5, TX5, 7), by decide +kernel, rfl, rfl, by decide, tF32⟩
theorem rX5_readNumber_97 : vLa mX5_readNumber 97 0 98 := ⟨0, by decide +kernel, rfl, rfl⟩
theorem rX5_readNumber_98 : vGf mX5_readNumber 98 5 4 101 := ⟨44, (RX5, TX5, 7), by decide +kernel, rfl, rfl, by decide, tF33⟩
theorem rX5_readNumber_101 : vI mX5_readNumber 101 .isub 1 102 := ⟨by decide +kernel, rfl⟩
theorem rX5_readNumber_102 : vCn mX5_readNumber 102 (nI 1) 103 := Or.inl ⟨1, by decide +kernel, by decide +kernel, rfl⟩
theorem rX5_readNumber_103 : vIc mX5_readNumber 103 .le 110 106 := ⟨7, by decide +kernel, by decide, rfl⟩
theorem rX5_readNumber_106 : vCn mX5_readNumber 106 (nI 1) 107 := Or.inl ⟨1, by decide +kernel, by decide +kernel, rfl⟩
theorem rX5_readNumber_107 : vGo mX5_readNumber 107 111 := ⟨4, by decide +kernel, by decide⟩
theorem rX5_readNumber_110 : vCn mX5_readNumber 110 (nI 0) 111 := Or.inl ⟨0, by decide +kernel, by decide +kernel, rfl⟩
theorem rX5_readNumber_111 : vSi mX5_readNumber 111 1 112 := ⟨Or.inl ⟨1, by decide +kernel, rfl, rfl⟩, by decide⟩
theorem rX5_readNumber_112 : vLa mX5_readNumber 112 0 113 := ⟨0, by decide +kernel, rfl, rfl⟩
theorem rX5_readNumber_113 : vLi mX5_readNumber 113 1 114 := Or.inl ⟨1, by decide +kernel, rfl, rfl⟩
theorem rX5_readNumber_114 : vIf mX5_readNumber 114 .ne 126 117 := ⟨12, by decide +kernel, by decide, rfl⟩
theorem rX5_readNumber_117 : vLa mX5_readNumber 117 0 118 := ⟨0, by decide +kernel, rfl, rfl⟩
theorem rX5_readNumber_118 : vGf mX5_readNumber 118 5 6 121 := ⟨55, (RX5, TX5, 7), by decide +kernel, rfl, rfl, by decide, tF35⟩
theorem rX5_readNumber_121 : vCn mX5_readNumber 121 (nI 99) 123 := Or.inr (Or.inl ⟨99, by decide +kernel, by decide +kernel, rfl⟩)
theorem rX5_readNumber_123 : vIc mX5_readNumber 123 .le 130 126 := ⟨7, by decide +kernel, by decide, rfl⟩
theorem rX5_readNumber_126 : vCn mX5_readNumber 126 (nI 2) 127 := Or.inl ⟨2, by decide +kernel, by decide +kernel, rfl⟩
theorem rX5_readNumber_127 : vGo mX5_readNumber 127 131 := ⟨4, by decide +kernel, by decide⟩
theorem rX5_readNumber_130 : vCn mX5_readNumber 130 (nI 1) 131 := Or.inl ⟨1, by decide +kernel, by decide +kernel, rfl⟩
theorem rX5_readNumber_131 : vPf mX5_readNumber 131 5 5 134 := ⟨37, (RX5, TX5, 7), by decide +kernel, rfl, rfl, by decide, tF34, Or.inl rfl⟩
theorem rX5_readNumber_134 : vI mX5_readNumber 134 .return_ 1 135 := ⟨by decide +kernel, rfl⟩
theorem rX5_isDigit_0 : vLi mX5_isDigit 0 0 1 := Or.inl ⟨0, by decide +kernel, rfl, rfl⟩
theorem rX5_isDigit_1 : vCn mX5_isDigit 1 (nI 48) 3 := Or.inr (Or.inl ⟨48, by decide +kernel, by decide +kernel, rfl⟩)
theorem rX5_isDigit_3 : vIc mX5_isDigit 3 .lt 16 6 := ⟨13, by decide +kernel, by decide, rfl⟩
theorem rX5_isDigit_6 : vLi mX5_isDigit 6 0 7 := Or.inl ⟨0, by decide +kernel, rfl, rfl⟩
theorem rX5_isDigit_7 : vCn mX5_isDigit 7 (nI 57) 9 := Or.inr (Or.inl ⟨57, by decide +kernel, by decide +kernel, rfl⟩)
theorem rX5_isDigit_9 : vIc mX5_isDigit 9 .gt 16 12 := ⟨7, by decide +kernel, by decide, rfl⟩
theorem rX5_isDigit_12 : vCn mX5_isDigit 12 (nI 1) 13 := Or.inl ⟨1, by decide +kernel, by decide +kernel, rfl⟩
theorem rX5_isDigit_13 : vGo mX5_isDigit 13 17 := ⟨4, by decide +kernel, by decide⟩
theorem rX5_isDigit_16 : vCn mX5_isDigit 16 (nI 0) 17 := Or.inl ⟨0, by decide +kernel, by decide +kernel, rfl⟩
theorem rX5_isDigit_17 : vI mX5_isDigit 17 .ireturn 1 18 := ⟨by decide +kernel, rfl⟩
theorem rX6_init_0 : vLa mX6_init 0 0 1 := ⟨0, by decide +kernel, rfl, rfl⟩
theorem rX6_init_1 : vOi mX6_init 1 4 := ⟨3, by decide +kernel, rfl, tF57, tF20, tF21⟩
theorem rX6_init_4 : vLa mX6_init 4 0 5 := ⟨0, by decide +kernel, rfl, rfl⟩
theorem rX6_init_5 : vCn mX6_init 5 (nI 6) 7 := Or.inr (Or.inl ⟨6, by decide +kernel, by decide +kernel, rfl⟩)
theorem rX6_init_7 : vNi mX6_init 7 .int 9 := ⟨by decide +kernel, rfl, tF51⟩
theorem rX6_init_9 : vPf mX6_init 9 6 3 12 := ⟨9, (RX6, TX6, 11), by decide +kernel, rfl, rfl, by decide, tF68, Or.inr ⟨rfl, rfl, rfl⟩⟩
theorem rX6_init_12 : vLa mX6_init 12 0 13 := ⟨0, by decide +kernel, rfl, rfl⟩
theorem rX6_init_13 : vCn mX6_init 13 (nI 6) 15 := Or.inr (Or.inl ⟨6, by decide +kernel, by decide +kernel, rfl⟩)
theorem rX6_init_15 : vNi mX6_init 15 .int 17 := ⟨by decide +kernel, rfl, tF51⟩
theorem rX6_init_17 : vPf mX6_init 17 6 4 20 := ⟨15, (RX6, TX6, 11), by decide +kernel, rfl, rfl, by decide, tF70, Or.inr ⟨rfl, rfl, rfl⟩⟩
theorem rX6_init_20 : vLa mX6_init 20 0 21 := ⟨0, by decide +kernel, rfl, rfl⟩
theorem rX6_init_21 : vCn mX6_init 21 (nI 6) 23 := Or.inr (Or.inl ⟨6, by decide +kernel, by decide +kernel, rfl⟩)
theorem rX6_init_23 : vNi mX6_init 23 .int 25 := ⟨by decide +kernel, rfl, tF51⟩
theorem rX6_init_25 : vPf mX6_init 25 6 5 28 := ⟨18, (RX6, TX6, 11), by decide +kernel, rfl, rfl, by decide, tF73, Or.inr ⟨rfl, rfl, rfl⟩⟩
theorem rX6_init_28 : vLa mX6_init 28 0 29 := ⟨0, by decide +kernel, rfl, rfl⟩
theorem rX6_init_29 : vCn mX6_init 29 (nI 36) 31 := Or.inr (Or.inl ⟨36, by decide +kernel, by decide +kernel, rfl⟩)
theorem rX6_init_31 : vNi mX6_init 31 .int 33 := ⟨by decide +kernel, rfl, tF51⟩
theorem rX6_init_33 : vPf mX6_init 33 6 6 36 := ⟨21, (RX6, TX6, 11), by decide +kernel, rfl, rfl, by decide, tF75, Or.inr ⟨rfl, rfl, rfl⟩⟩
theorem rX6_init_36 : vLa mX6_init 36 0 37 := ⟨0, by decide +kernel, rfl, rfl⟩
theorem rX6_init_37 : vCn mX6_init 37 (nI 36) 39 := Or.inr (Or.inl ⟨36, by decide +kernel, by decide +kernel, rfl⟩)
theorem rX6_init_39 : vNi mX6_init 39 .int 41 := ⟨by decide +kernel, rfl, tF51⟩
theorem rX6_init_41 : vPf mX6_init 41 6 7 44 := ⟨24, (RX6, TX6, 11), by decide +kernel, rfl, rfl, by decide, tF77, Or.inr ⟨rfl, rfl, rfl⟩⟩
theorem rX6_init_44 : vLa mX6_init 44 0 45 := ⟨0, by decide +kernel, rfl, rfl⟩
theorem rX6_init_45 : vCn mX6_init 45 (nI 6) 47 := Or.inr (Or.inl ⟨6, by decide +kernel, by decide +kernel, rfl⟩)
theorem rX6_init_47 : vNi mX6_init 47 .int 49 := ⟨by decide +kernel, rfl, tF51⟩
theorem rX6_init_49 : vPf mX6_init 49 6 8 52 := ⟨27, (RX6, TX6, 11), by decide +kernel, rfl, rfl, by decide, tF78, Or.inr ⟨rfl, rfl, rfl⟩⟩
theorem rX6_init_52 : vLa mX6_init 52 0 53 := ⟨0, by decide +kernel, rfl, rfl⟩
theorem rX6_init_53 : vCn mX6_init 53 (nI 6) 55 := Or.inr (Or.inl ⟨6, by decide +kernel, by decide +kernel, rfl⟩)
theorem rX6_init_55 : vNi mX6_init 55 .int 57 := ⟨by decide +kernel, rfl, tF51⟩
theorem rX6_init_57 : vPf mX6_init 57 6 9 60 := ⟨30, (RX6, TX6, 11), by decide +kernel, rfl, rfl, by decide, tF81, Or.inr ⟨rfl, rfl, rfl⟩⟩
theorem rX6_init_60 : vLa mX6_init 60 0 61 := ⟨0, by decide +kernel, rfl, rfl⟩
theorem rX6_init_61 : vCn mX6_init 61 (nI 6) 63 := Or.inr (Or.inl ⟨6, by decide +kernel, by decide +kernel, rfl⟩)
theorem rX6_init_63 : vNi mX6_init 63 .int 65 := ⟨by decide +kernel, rfl, tF51⟩
theorem rX6_init_65 : vPf mX6_init 65 6 10 68 := ⟨33, (RX6, TX6, 11), by decide +kernel, rfl, rfl, by decide, tF84, Or.inr ⟨rfl, rfl, rfl⟩⟩
theorem rX6_init_68 : vI mX6_init 68 .return_ 1 69 := ⟨by decide +kernel, rfl⟩
theorem rX6_empty_0 : vLa mX6_empty 0 0 1 := ⟨0, by decide +kernel, rfl, rfl⟩
theorem rX6_empty_1 : vCn mX6_empty 1 (nI 0) 2 := Or.inl ⟨0, by decide +kernel, by decide +kernel, rfl⟩
theorem rX6_empty_2 : vPf mX6_empty 2 6 0 5 := ⟨36, (RX6, TX6, 11), by decide +kernel, rfl, rfl, by decide, tF58, Or.inl rfl⟩
theorem rX6_empty_5 : vLa mX6_empty 5 0 6 := ⟨0, by decide +kernel, rfl, rfl⟩
theorem rX6_empty_6 : vCn mX6_empty 6 (nI 0) 7 := Or.inl ⟨0, by decide +kernel, by decide +kernel, rfl⟩
theorem rX6_empty_7 : vPf mX6_empty 7 6 1 10 := ⟨40, (RX6, TX6, 11), by decide +kernel, rfl, rfl, by decide, tF62, Or.inl rfl⟩
theorem rX6_empty_10 : vLa mX6_empty 10 0 11 := ⟨0, by decide +kernel, rfl, rfl⟩
theorem rX6_empty_11 : vCn mX6_empty 11 (nI 0) 12 := Or.inl ⟨0, by decide +kernel, by decide +kernel, rfl⟩
theorem rX6_empty_12 : vPf mX6_empty 12 6 2 15 := ⟨43, (RX6, TX6, 11), by decide +kernel, rfl, rfl, by decide, tF64, Or.inl rfl⟩
theorem rX6_empty_15 : vLa mX6_empty 15 0 16 := ⟨0, by decide +kernel, rfl, rfl⟩
theorem rX6_empty_16 : vGf mX6_empty 16 6 6 19 := ⟨21, (RX6, TX6, 11), by decide +kernel, rfl, rfl, by decide, tF75⟩
theorem rX6_empty_19 : vCn mX6_empty 19 (nI 0) 20 := Or.inl ⟨0, by decide +kernel, by decide +kernel, rfl⟩
theorem rX6_empty_20 : vKs mX6_empty 20 mJ7_fill_53178 2 23 := ⟨46, by decide +kernel, rfl, kJ7_fill_53178, tF279, Or.inl tF278⟩
theorem rX6_empty_23 : vI mX6_empty 23 .return_ 1 24 := ⟨by decide +kernel, rfl⟩
theorem rX6_hasTown_0 : vLi mX6_hasTown 0 1 1 := Or.inl ⟨1, by decide +kernel, rfl, rfl⟩
theorem rX6_hasTown_1 : vCn mX6_hasTown 1 (nI 0) 2 := Or.inl ⟨0, by decide +kernel, by decide +kernel, rfl⟩
theorem rX6_hasTown_2 : vLa mX6_hasTown 2 0 3 := ⟨0, by decide +kernel, rfl, rfl⟩
theorem rX6_hasTown_3 : vGf mX6_hasTown 3 6 0 6 := ⟨36, (RX6, TX6, 11), by decide +kernel, rfl, rfl, by decide, tF58⟩
theorem rX6_hasTown_6 : vCn mX6_hasTown 6 (nI 1) 7 := Or.inl ⟨1, by decide +kernel, by decide +kernel, rfl⟩
theorem rX6_hasTown_7 : vI mX6_hasTown 7 .isub 1 8 := ⟨by decide +kernel, rfl⟩
theorem rX6_hasTown_8 : vKs mX6_hasTown 8 mX7_within 3 11 := ⟨52, by decide +kernel, rfl, kX7_within, tF249, Or.inr ⟨"BellLots", tN314⟩⟩
theorem rX6_hasTown_11 : vI mX6_hasTown 11 .ireturn 1 12 := ⟨by decide +kernel, rfl⟩
theorem rX6_add_0 : vLi mX6_add 0 1 1 := Or.inl ⟨1, by decide +kernel, rfl, rfl⟩
theorem rX6_add_1 : vCn mX6_add 1 (nI 116) 3 := Or.inr (Or.inl ⟨116, by decide +kernel, by decide +kernel, rfl⟩)
theorem rX6_add_3 : vIc mX6_add 3 .ne 17 6 := ⟨14, by decide +kernel, by decide, rfl⟩
theorem rX6_add_6 : vLa mX6_add 6 0 7 := ⟨0, by decide +kernel, rfl, rfl⟩
theorem rX6_add_7 : vLi mX6_add 7 2 8 := Or.inl ⟨2, by decide +kernel, rfl, rfl⟩
theorem rX6_add_8 : vLi mX6_add 8 3 9 := Or.inl ⟨3, by decide +kernel, rfl, rfl⟩
theorem rX6_add_9 : vLi mX6_add 9 4 11 := Or.inr ⟨by decide +kernel, rfl⟩
theorem rX6_add_11 : vKv mX6_add 11 mX6_addTown 3 6 14 := ⟨56, (RX6, TX6, 11), by decide +kernel, rfl, kX6_addTown, tF321, tF319, tS4, rfl, rfl⟩
theorem rX6_add_14 : vGo mX6_add 14 42 := ⟨28, by decide +kernel, by decide⟩
theorem rX6_add_17 : vLi mX6_add 17 1 18 := Or.inl ⟨1, by decide +kernel, rfl, rfl⟩
theorem rX6_add_18 : vCn mX6_add 18 (nI 100) 20 := Or.inr (Or.inl ⟨100, by decide +kernel, by decide +kernel, rfl⟩)
theorem rX6_add_20 : vIc mX6_add 20 .ne 34 23 := ⟨14, by decide +kernel, by decide, rfl⟩
theorem rX6_add_23 : vLa mX6_add 23 0 24 := ⟨0, by decide +kernel, rfl, rfl⟩
theorem rX6_add_24 : vLi mX6_add 24 2 25 := Or.inl ⟨2, by decide +kernel, rfl, rfl⟩
theorem rX6_add_25 : vLi mX6_add 25 3 26 := Or.inl ⟨3, by decide +kernel, rfl, rfl⟩
theorem rX6_add_26 : vLi mX6_add 26 4 28 := Or.inr ⟨by decide +kernel, rfl⟩
theorem rX6_add_28 : vKv mX6_add 28 mX6_addRoad 3 6 31 := ⟨60, (RX6, TX6, 11), by decide +kernel, rfl, kX6_addRoad, tF329, tF327, tS5, rfl, rfl⟩
theorem rX6_add_31 : vGo mX6_add 31 42 := ⟨11, by decide +kernel, by decide⟩
theorem rX6_add_34 : vLa mX6_add 34 0 35 := ⟨0, by decide +kernel, rfl, rfl⟩
theorem rX6_add_35 : vLi mX6_add 35 2 36 := Or.inl ⟨2, by decide +kernel, rfl, rfl⟩
theorem rX6_add_36 : vLi mX6_add 36 3 37 := Or.inl ⟨3, by decide +kernel, rfl, rfl⟩
theorem rX6_add_37 : vLi mX6_add 37 4 39 := Or.inr ⟨by decide +kernel, rfl⟩
theorem rX6_add_39 : vKv mX6_add 39 mX6_addOath 3 6 42 := ⟨63, (RX6, TX6, 11), by decide +kernel, rfl, kX6_addOath, tF337, tF335, tS6, rfl, rfl⟩
theorem rX6_add_42 : vI mX6_add 42 .return_ 1 43 := ⟨by decide +kernel, rfl⟩
theorem rX6_addTown_0 : vLa mX6_addTown 0 0 1 := ⟨0, by decide +kernel, rfl, rfl⟩
theorem rX6_addTown_1 : vGf mX6_addTown 1 6 3 4 := ⟨9, (RX6, TX6, 11), by decide +kernel, rfl, rfl, by decide, tF68⟩
theorem rX6_addTown_4 : vLa mX6_addTown 4 0 5 := ⟨0, by decide +kernel, rfl, rfl⟩
theorem rX6_addTown_5 : vGf mX6_addTown 5 6 0 8 := ⟨36, (RX6, TX6, 11), by decide +kernel, rfl, rfl, by decide, tF58⟩
theorem rX6_addTown_8 : vLi mX6_addTown 8 1 9 := Or.inl ⟨1, by decide +kernel, rfl, rfl⟩
theorem rX6_addTown_9 : vLi mX6_addTown 9 2 10 := Or.inl ⟨2, by decide +kernel, rfl, rfl⟩
theorem rX6_addTown_10 : vMmax mX6_addTown 10 13 := ⟨66, by decide +kernel, rfl, tF323, tF324, tF11, tF325⟩
theorem rX6_addTown_13 : vKs mX6_addTown 13 mX7_put 3 16 := ⟨72, by decide +kernel, rfl, kX7_put, tF256, Or.inr ⟨"BellLots", tN326⟩⟩
theorem rX6_addTown_16 : vLa mX6_addTown 16 0 17 := ⟨0, by decide +kernel, rfl, rfl⟩
theorem rX6_addTown_17 : vGf mX6_addTown 17 6 4 20 := ⟨15, (RX6, TX6, 11), by decide +kernel, rfl, rfl, by decide, tF70⟩
theorem rX6_addTown_20 : vLa mX6_addTown 20 0 21 := ⟨0, by decide +kernel, rfl, rfl⟩
theorem rX6_addTown_21 : vGf mX6_addTown 21 6 0 24 := ⟨36, (RX6, TX6, 11), by decide +kernel, rfl, rfl, by decide, tF58⟩
theorem rX6_addTown_24 : vLi mX6_addTown 24 2 25 := Or.inl ⟨2, by decide +kernel, rfl, rfl⟩
theorem rX6_addTown_25 : vKs mX6_addTown 25 mX7_put 3 28 := ⟨72, by decide +kernel, rfl, kX7_put, tF256, Or.inr ⟨"BellLots", tN326⟩⟩
theorem rX6_addTown_28 : vLa mX6_addTown 28 0 29 := ⟨0, by decide +kernel, rfl, rfl⟩
theorem rX6_addTown_29 : vGf mX6_addTown 29 6 5 32 := ⟨18, (RX6, TX6, 11), by decide +kernel, rfl, rfl, by decide, tF73⟩
theorem rX6_addTown_32 : vLa mX6_addTown 32 0 33 := ⟨0, by decide +kernel, rfl, rfl⟩
theorem rX6_addTown_33 : vGf mX6_addTown 33 6 0 36 := ⟨36, (RX6, TX6, 11), by decide +kernel, rfl, rfl, by decide, tF58⟩
theorem rX6_addTown_36 : vLi mX6_addTown 36 3 37 := Or.inl ⟨3, by decide +kernel, rfl, rfl⟩
theorem rX6_addTown_37 : vKs mX6_addTown 37 mX7_put 3 40 := ⟨72, by decide +kernel, rfl, kX7_put, tF256, Or.inr ⟨"BellLots", tN326⟩⟩
theorem rX6_addTown_40 : vLa mX6_addTown 40 0 41 := ⟨0, by decide +kernel, rfl, rfl⟩
theorem rX6_addTown_41 : vI mX6_addTown 41 .dup 1 42 := ⟨by decide +kernel, rfl⟩
theorem rX6_addTown_42 : vGf mX6_addTown 42 6 0 45 := ⟨36, (RX6, TX6, 11), by decide +kernel, rfl, rfl, by decide, tF58⟩
theorem rX6_addTown_45 : vCn mX6_addTown 45 (nI 1) 46 := Or.inl ⟨1, by decide +kernel, by decide +kernel, rfl⟩
theorem rX6_addTown_46 : vI mX6_addTown 46 .iadd 1 47 := ⟨by decide +kernel, rfl⟩
theorem rX6_addTown_47 : vPf mX6_addTown 47 6 0 50 := ⟨36, (RX6, TX6, 11), by decide +kernel, rfl, rfl, by decide, tF58, Or.inl rfl⟩
theorem rX6_addTown_50 : vI mX6_addTown 50 .return_ 1 51 := ⟨by decide +kernel, rfl⟩
theorem rX6_addRoad_0 : vLa mX6_addRoad 0 0 1 := ⟨0, by decide +kernel, rfl, rfl⟩
theorem rX6_addRoad_1 : vGf mX6_addRoad 1 6 6 4 := ⟨21, (RX6, TX6, 11), by decide +kernel, rfl, rfl, by decide, tF75⟩
theorem rX6_addRoad_4 : vLi mX6_addRoad 4 1 5 := Or.inl ⟨1, by decide +kernel, rfl, rfl⟩
theorem rX6_addRoad_5 : vLi mX6_addRoad 5 2 6 := Or.inl ⟨2, by decide +kernel, rfl, rfl⟩
theorem rX6_addRoad_6 : vKs mX6_addRoad 6 mX7_pair 2 9 := ⟨76, by decide +kernel, rfl, kX7_pair, tF332, Or.inr ⟨"BellLots", tN331⟩⟩
theorem rX6_addRoad_9 : vKs mX6_addRoad 9 mX7_at 2 12 := ⟨79, by decide +kernel, rfl, kX7_at, tF286, Or.inr ⟨"BellLots", tN334⟩⟩
theorem rX6_addRoad_12 : vIf mX6_addRoad 12 .ne 25 15 := ⟨13, by decide +kernel, by decide, rfl⟩
theorem rX6_addRoad_15 : vLa mX6_addRoad 15 0 16 := ⟨0, by decide +kernel, rfl, rfl⟩
theorem rX6_addRoad_16 : vI mX6_addRoad 16 .dup 1 17 := ⟨by decide +kernel, rfl⟩
theorem rX6_addRoad_17 : vGf mX6_addRoad 17 6 1 20 := ⟨40, (RX6, TX6, 11), by decide +kernel, rfl, rfl, by decide, tF62⟩
theorem rX6_addRoad_20 : vCn mX6_addRoad 20 (nI 1) 21 := Or.inl ⟨1, by decide +kernel, by decide +kernel, rfl⟩
theorem rX6_addRoad_21 : vI mX6_addRoad 21 .iadd 1 22 := ⟨by decide +kernel, rfl⟩
theorem rX6_addRoad_22 : vPf mX6_addRoad 22 6 1 25 := ⟨40, (RX6, TX6, 11), by decide +kernel, rfl, rfl, by decide, tF62, Or.inl rfl⟩
theorem rX6_addRoad_25 : vLa mX6_addRoad 25 0 26 := ⟨0, by decide +kernel, rfl, rfl⟩
theorem rX6_addRoad_26 : vGf mX6_addRoad 26 6 6 29 := ⟨21, (RX6, TX6, 11), by decide +kernel, rfl, rfl, by decide, tF75⟩
theorem rX6_addRoad_29 : vLi mX6_addRoad 29 1 30 := Or.inl ⟨1, by decide +kernel, rfl, rfl⟩
theorem rX6_addRoad_30 : vLi mX6_addRoad 30 2 31 := Or.inl ⟨2, by decide +kernel, rfl, rfl⟩
theorem rX6_addRoad_31 : vKs mX6_addRoad 31 mX7_pair 2 34 := ⟨76, by decide +kernel, rfl, kX7_pair, tF332, Or.inr ⟨"BellLots", tN331⟩⟩
theorem rX6_addRoad_34 : vLi mX6_addRoad 34 3 35 := Or.inl ⟨3, by decide +kernel, rfl, rfl⟩
theorem rX6_addRoad_35 : vKs mX6_addRoad 35 mX7_put 3 38 := ⟨72, by decide +kernel, rfl, kX7_put, tF256, Or.inr ⟨"BellLots", tN326⟩⟩
theorem rX6_addRoad_38 : vLa mX6_addRoad 38 0 39 := ⟨0, by decide +kernel, rfl, rfl⟩
theorem rX6_addRoad_39 : vGf mX6_addRoad 39 6 6 42 := ⟨21, (RX6, TX6, 11), by decide +kernel, rfl, rfl, by decide, tF75⟩
theorem rX6_addRoad_42 : vLi mX6_addRoad 42 2 43 := Or.inl ⟨2, by decide +kernel, rfl, rfl⟩
theorem rX6_addRoad_43 : vLi mX6_addRoad 43 1 44 := Or.inl ⟨1, by decide +kernel, rfl, rfl⟩
theorem rX6_addRoad_44 : vKs mX6_addRoad 44 mX7_pair 2 47 := ⟨76, by decide +kernel, rfl, kX7_pair, tF332, Or.inr ⟨"BellLots", tN331⟩⟩
theorem rX6_addRoad_47 : vLi mX6_addRoad 47 3 48 := Or.inl ⟨3, by decide +kernel, rfl, rfl⟩
theorem rX6_addRoad_48 : vKs mX6_addRoad 48 mX7_put 3 51 := ⟨72, by decide +kernel, rfl, kX7_put, tF256, Or.inr ⟨"BellLots", tN326⟩⟩
theorem rX6_addRoad_51 : vI mX6_addRoad 51 .return_ 1 52 := ⟨by decide +kernel, rfl⟩
theorem rX6_addOath_0 : vLa mX6_addOath 0 0 1 := ⟨0, by decide +kernel, rfl, rfl⟩
theorem rX6_addOath_1 : vGf mX6_addOath 1 6 8 4 := ⟨27, (RX6, TX6, 11), by decide +kernel, rfl, rfl, by decide, tF78⟩
theorem rX6_addOath_4 : vLa mX6_addOath 4 0 5 := ⟨0, by decide +kernel, rfl, rfl⟩
theorem rX6_addOath_5 : vGf mX6_addOath 5 6 2 8 := ⟨43, (RX6, TX6, 11), by decide +kernel, rfl, rfl, by decide, tF64⟩
theorem rX6_addOath_8 : vLi mX6_addOath 8 1 9 := Or.inl ⟨1, by decide +kernel, rfl, rfl⟩
theorem rX6_addOath_9 : vKs mX6_addOath 9 mX7_put 3 12 := ⟨72, by decide +kernel, rfl, kX7_put, tF256, Or.inr ⟨"BellLots", tN326⟩⟩
theorem rX6_addOath_12 : vLa mX6_addOath 12 0 13 := ⟨0, by decide +kernel, rfl, rfl⟩
theorem rX6_addOath_13 : vGf mX6_addOath 13 6 9 16 := ⟨30, (RX6, TX6, 11), by decide +kernel, rfl, rfl, by decide, tF81⟩
theorem rX6_addOath_16 : vLa mX6_addOath 16 0 17 := ⟨0, by decide +kernel, rfl, rfl⟩
theorem rX6_addOath_17 : vGf mX6_addOath 17 6 2 20 := ⟨43, (RX6, TX6, 11), by decide +kernel, rfl, rfl, by decide, tF64⟩
theorem rX6_addOath_20 : vLi mX6_addOath 20 2 21 := Or.inl ⟨2, by decide +kernel, rfl, rfl⟩
theorem rX6_addOath_21 : vKs mX6_addOath 21 mX7_put 3 24 := ⟨72, by decide +kernel, rfl, kX7_put, tF256, Or.inr ⟨"BellLots", tN326⟩⟩
theorem rX6_addOath_24 : vLa mX6_addOath 24 0 25 := ⟨0, by decide +kernel, rfl, rfl⟩
theorem rX6_addOath_25 : vGf mX6_addOath 25 6 10 28 := ⟨33, (RX6, TX6, 11), by decide +kernel, rfl, rfl, by decide, tF84⟩
theorem rX6_addOath_28 : vLa mX6_addOath 28 0 29 := ⟨0, by decide +kernel, rfl, rfl⟩
theorem rX6_addOath_29 : vGf mX6_addOath 29 6 2 32 := ⟨43, (RX6, TX6, 11), by decide +kernel, rfl, rfl, by decide, tF64⟩
theorem rX6_addOath_32 : vLi mX6_addOath 32 3 33 := Or.inl ⟨3, by decide +kernel, rfl, rfl⟩
theorem rX6_addOath_33 : vKs mX6_addOath 33 mX7_put 3 36 := ⟨72, by decide +kernel, rfl, kX7_put, tF256, Or.inr ⟨"BellLots", tN326⟩⟩
theorem rX6_addOath_36 : vLa mX6_addOath 36 0 37 := ⟨0, by decide +kernel, rfl, rfl⟩
theorem rX6_addOath_37 : vI mX6_addOath 37 .dup 1 38 := ⟨by decide +kernel, rfl⟩
theorem rX6_addOath_38 : vGf mX6_addOath 38 6 2 41 := ⟨43, (RX6, TX6, 11), by decide +kernel, rfl, rfl, by decide, tF64⟩
theorem rX6_addOath_41 : vCn mX6_addOath 41 (nI 1) 42 := Or.inl ⟨1, by decide +kernel, by decide +kernel, rfl⟩
theorem rX6_addOath_42 : vI mX6_addOath 42 .iadd 1 43 := ⟨by decide +kernel, rfl⟩
theorem rX6_addOath_43 : vPf mX6_addOath 43 6 2 46 := ⟨43, (RX6, TX6, 11), by decide +kernel, rfl, rfl, by decide, tF64, Or.inl rfl⟩
theorem rX6_addOath_46 : vI mX6_addOath 46 .return_ 1 47 := ⟨by decide +kernel, rfl⟩
theorem rX6_measureWays_0 : vCn mX6_measureWays 0 (nI 0) 1 := Or.inl ⟨0, by decide +kernel, by decide +kernel, rfl⟩
theorem rX6_measureWays_1 : vSi mX6_measureWays 1 1 2 := ⟨Or.inl ⟨1, by decide +kernel, rfl, rfl⟩, by decide⟩
theorem rX6_measureWays_2 : vLi mX6_measureWays 2 1 3 := Or.inl ⟨1, by decide +kernel, rfl, rfl⟩
theorem rX6_measureWays_3 : vLa mX6_measureWays 3 0 4 := ⟨0, by decide +kernel, rfl, rfl⟩
theorem rX6_measureWays_4 : vGf mX6_measureWays 4 6 0 7 := ⟨36, (RX6, TX6, 11), by decide +kernel, rfl, rfl, by decide, tF58⟩
theorem rX6_measureWays_7 : vIc mX6_measureWays 7 .ge 76 10 := ⟨69, by decide +kernel, by decide, rfl⟩
theorem rX6_measureWays_10 : vCn mX6_measureWays 10 (nI 0) 11 := Or.inl ⟨0, by decide +kernel, by decide +kernel, rfl⟩
theorem rX6_measureWays_11 : vSi mX6_measureWays 11 2 12 := ⟨Or.inl ⟨2, by decide +kernel, rfl, rfl⟩, by decide⟩
theorem rX6_measureWays_12 : vLi mX6_measureWays 12 2 13 := Or.inl ⟨2, by decide +kernel, rfl, rfl⟩
theorem rX6_measureWays_13 : vLa mX6_measureWays 13 0 14 := ⟨0, by decide +kernel, rfl, rfl⟩
theorem rX6_measureWays_14 : vGf mX6_measureWays 14 6 0 17 := ⟨36, (RX6, TX6, 11), by decide +kernel, rfl, rfl, by decide, tF58⟩
theorem rX6_measureWays_17 : vIc mX6_measureWays 17 .ge 70 20 := ⟨53, by decide +kernel, by decide, rfl⟩
theorem rX6_measureWays_20 : vLa mX6_measureWays 20 0 21 := ⟨0, by decide +kernel, rfl, rfl⟩
theorem rX6_measureWays_21 : vGf mX6_measureWays 21 6 6 24 := ⟨21, (RX6, TX6, 11), by decide +kernel, rfl, rfl, by decide, tF75⟩
theorem rX6_measureWays_24 : vLi mX6_measureWays 24 1 25 := Or.inl ⟨1, by decide +kernel, rfl, rfl⟩
theorem rX6_measureWays_25 : vLi mX6_measureWays 25 2 26 := Or.inl ⟨2, by decide +kernel, rfl, rfl⟩
theorem rX6_measureWays_26 : vKs mX6_measureWays 26 mX7_pair 2 29 := ⟨76, by decide +kernel, rfl, kX7_pair, tF332, Or.inr ⟨"BellLots", tN331⟩⟩
theorem rX6_measureWays_29 : vKs mX6_measureWays 29 mX7_at 2 32 := ⟨79, by decide +kernel, rfl, kX7_at, tF286, Or.inr ⟨"BellLots", tN334⟩⟩
theorem rX6_measureWays_32 : vSi mX6_measureWays 32 3 33 := ⟨Or.inl ⟨3, by decide +kernel, rfl, rfl⟩, by decide⟩
theorem rX6_measureWays_33 : vLa mX6_measureWays 33 0 34 := ⟨0, by decide +kernel, rfl, rfl⟩
theorem rX6_measureWays_34 : vGf mX6_measureWays 34 6 7 37 := ⟨24, (RX6, TX6, 11), by decide +kernel, rfl, rfl, by decide, tF77⟩
theorem rX6_measureWays_37 : vLi mX6_measureWays 37 1 38 := Or.inl ⟨1, by decide +kernel, rfl, rfl⟩
theorem rX6_measureWays_38 : vLi mX6_measureWays 38 2 39 := Or.inl ⟨2, by decide +kernel, rfl, rfl⟩
theorem rX6_measureWays_39 : vKs mX6_measureWays 39 mX7_pair 2 42 := ⟨76, by decide +kernel, rfl, kX7_pair, tF332, Or.inr ⟨"BellLots", tN331⟩⟩
theorem rX6_measureWays_42 : vLi mX6_measureWays 42 1 43 := Or.inl ⟨1, by decide +kernel, rfl, rfl⟩
theorem rX6_measureWays_43 : vLi mX6_measureWays 43 2 44 := Or.inl ⟨2, by decide +kernel, rfl, rfl⟩
theorem rX6_measureWays_44 : vIc mX6_measureWays 44 .ne 51 47 := ⟨7, by decide +kernel, by decide, rfl⟩
theorem rX6_measureWays_47 : vCn mX6_measureWays 47 (nI 0) 48 := Or.inl ⟨0, by decide +kernel, by decide +kernel, rfl⟩
theorem rX6_measureWays_48 : vGo mX6_measureWays 48 61 := ⟨13, by decide +kernel, by decide⟩
theorem rX6_measureWays_51 : vLi mX6_measureWays 51 3 52 := Or.inl ⟨3, by decide +kernel, rfl, rfl⟩
theorem rX6_measureWays_52 : vIf mX6_measureWays 52 .le 59 55 := ⟨7, by decide +kernel, by decide, rfl⟩
theorem rX6_measureWays_55 : vLi mX6_measureWays 55 3 56 := Or.inl ⟨3, by decide +kernel, rfl, rfl⟩
theorem rX6_measureWays_56 : vGo mX6_measureWays 56 61 := ⟨5, by decide +kernel, by decide⟩
theorem rX6_measureWays_59 : vCn mX6_measureWays 59 (-9) 61 := Or.inr (Or.inl ⟨-9, by decide +kernel, by decide +kernel, rfl⟩)
theorem rX6_measureWays_61 : vKs mX6_measureWays 61 mX7_put 3 64 := ⟨72, by decide +kernel, rfl, kX7_put, tF256, Or.inr ⟨"BellLots", tN326⟩⟩
theorem rX6_measureWays_64 : vIn mX6_measureWays 64 2 (nI 1) 67 := ⟨1, by decide +kernel, by decide +kernel, by decide, rfl⟩
theorem rX6_measureWays_67 : vGo mX6_measureWays 67 12 := ⟨-55, by decide +kernel, by decide⟩
theorem rX6_measureWays_70 : vIn mX6_measureWays 70 1 (nI 1) 73 := ⟨1, by decide +kernel, by decide +kernel, by decide, rfl⟩
theorem rX6_measureWays_73 : vGo mX6_measureWays 73 2 := ⟨-71, by decide +kernel, by decide⟩
theorem rX6_measureWays_76 : vCn mX6_measureWays 76 (nI 0) 77 := Or.inl ⟨0, by decide +kernel, by decide +kernel, rfl⟩
theorem rX6_measureWays_77 : vSi mX6_measureWays 77 1 78 := ⟨Or.inl ⟨1, by decide +kernel, rfl, rfl⟩, by decide⟩
theorem rX6_measureWays_78 : vLi mX6_measureWays 78 1 79 := Or.inl ⟨1, by decide +kernel, rfl, rfl⟩
theorem rX6_measureWays_79 : vLa mX6_measureWays 79 0 80 := ⟨0, by decide +kernel, rfl, rfl⟩
theorem rX6_measureWays_80 : vGf mX6_measureWays 80 6 0 83 := ⟨36, (RX6, TX6, 11), by decide +kernel, rfl, rfl, by decide, tF58⟩
theorem rX6_measureWays_83 : vIc mX6_measureWays 83 .ge 97 86 := ⟨14, by decide +kernel, by decide, rfl⟩
theorem rX6_measureWays_86 : vLa mX6_measureWays 86 0 87 := ⟨0, by decide +kernel, rfl, rfl⟩
theorem rX6_measureWays_87 : vLi mX6_measureWays 87 1 88 := Or.inl ⟨1, by decide +kernel, rfl, rfl⟩
theorem rX6_measureWays_88 : vKv mX6_measureWays 88 mX6_shortenWays 1 6 91 := ⟨83, (RX6, TX6, 11), by decide +kernel, rfl, kX6_shortenWays, tF345, tF343, tS7, rfl, rfl⟩
theorem rX6_measureWays_91 : vIn mX6_measureWays 91 1 (nI 1) 94 := ⟨1, by decide +kernel, by decide +kernel, by decide, rfl⟩
theorem rX6_measureWays_94 : vGo mX6_measureWays 94 78 := ⟨-16, by decide +kernel, by decide⟩
theorem rX6_measureWays_97 : vI mX6_measureWays 97 .return_ 1 98 := ⟨by decide +kernel, rfl⟩
theorem rX6_shortenWays_0 : vCn mX6_shortenWays 0 (nI 0) 1 := Or.inl ⟨0, by decide +kernel, by decide +kernel, rfl⟩
theorem rX6_shortenWays_1 : vSi mX6_shortenWays 1 2 2 := ⟨Or.inl ⟨2, by decide +kernel, rfl, rfl⟩, by decide⟩
theorem rX6_shortenWays_2 : vLi mX6_shortenWays 2 2 3 := Or.inl ⟨2, by decide +kernel, rfl, rfl⟩
theorem rX6_shortenWays_3 : vLa mX6_shortenWays 3 0 4 := ⟨0, by decide +kernel, rfl, rfl⟩
theorem rX6_shortenWays_4 : vGf mX6_shortenWays 4 6 0 7 := ⟨36, (RX6, TX6, 11), by decide +kernel, rfl, rfl, by decide, tF58⟩
theorem rX6_shortenWays_7 : vIc mX6_shortenWays 7 .ge 104 10 := ⟨97, by decide +kernel, by decide, rfl⟩
theorem rX6_shortenWays_10 : vCn mX6_shortenWays 10 (nI 0) 11 := Or.inl ⟨0, by decide +kernel, by decide +kernel, rfl⟩
theorem rX6_shortenWays_11 : vSi mX6_shortenWays 11 3 12 := ⟨Or.inl ⟨3, by decide +kernel, rfl, rfl⟩, by decide⟩
theorem rX6_shortenWays_12 : vLi mX6_shortenWays 12 3 13 := Or.inl ⟨3, by decide +kernel, rfl, rfl⟩
theorem rX6_shortenWays_13 : vLa mX6_shortenWays 13 0 14 := ⟨0, by decide +kernel, rfl, rfl⟩
theorem rX6_shortenWays_14 : vGf mX6_shortenWays 14 6 0 17 := ⟨36, (RX6, TX6, 11), by decide +kernel, rfl, rfl, by decide, tF58⟩
theorem rX6_shortenWays_17 : vIc mX6_shortenWays 17 .ge 98 20 := ⟨81, by decide +kernel, by decide, rfl⟩
theorem rX6_shortenWays_20 : vLa mX6_shortenWays 20 0 21 := ⟨0, by decide +kernel, rfl, rfl⟩
theorem rX6_shortenWays_21 : vLi mX6_shortenWays 21 2 22 := Or.inl ⟨2, by decide +kernel, rfl, rfl⟩
theorem rX6_shortenWays_22 : vLi mX6_shortenWays 22 1 23 := Or.inl ⟨1, by decide +kernel, rfl, rfl⟩
theorem rX6_shortenWays_23 : vKv mX6_shortenWays 23 mX6_wayBetween 2 6 26 := ⟨87, (RX6, TX6, 11), by decide +kernel, rfl, kX6_wayBetween, tF348, tF347, tF349, rfl, rfl⟩
theorem rX6_shortenWays_26 : vSi mX6_shortenWays 26 4 28 := ⟨Or.inr ⟨by decide +kernel, rfl⟩, by decide⟩
theorem rX6_shortenWays_28 : vLa mX6_shortenWays 28 0 29 := ⟨0, by decide +kernel, rfl, rfl⟩
theorem rX6_shortenWays_29 : vLi mX6_shortenWays 29 1 30 := Or.inl ⟨1, by decide +kernel, rfl, rfl⟩
theorem rX6_shortenWays_30 : vLi mX6_shortenWays 30 3 31 := Or.inl ⟨3, by decide +kernel, rfl, rfl⟩
theorem rX6_shortenWays_31 : vKv mX6_shortenWays 31 mX6_wayBetween 2 6 34 := ⟨87, (RX6, TX6, 11), by decide +kernel, rfl, kX6_wayBetween, tF348, tF347, tF349, rfl, rfl⟩
theorem rX6_shortenWays_34 : vSi mX6_shortenWays 34 5 36 := ⟨Or.inr ⟨by decide +kernel, rfl⟩, by decide⟩
theorem rX6_shortenWays_36 : vLa mX6_shortenWays 36 0 37 := ⟨0, by decide +kernel, rfl, rfl⟩
theorem rX6_shortenWays_37 : vLi mX6_shortenWays 37 2 38 := Or.inl ⟨2, by decide +kernel, rfl, rfl⟩
theorem rX6_shortenWays_38 : vLi mX6_shortenWays 38 3 39 := Or.inl ⟨3, by decide +kernel, rfl, rfl⟩
theorem rX6_shortenWays_39 : vKv mX6_shortenWays 39 mX6_wayBetween 2 6 42 := ⟨87, (RX6, TX6, 11), by decide +kernel, rfl, kX6_wayBetween, tF348, tF347, tF349, rfl, rfl⟩
theorem rX6_shortenWays_42 : vSi mX6_shortenWays 42 6 44 := ⟨Or.inr ⟨by decide +kernel, rfl⟩, by decide⟩
theorem rX6_shortenWays_44 : vLi mX6_shortenWays 44 4 46 := Or.inr ⟨by decide +kernel, rfl⟩
theorem rX6_shortenWays_46 : vCn mX6_shortenWays 46 (-9) 48 := Or.inr (Or.inl ⟨-9, by decide +kernel, by decide +kernel, rfl⟩)
theorem rX6_shortenWays_48 : vIc mX6_shortenWays 48 .eq 92 51 := ⟨44, by decide +kernel, by decide, rfl⟩
theorem rX6_shortenWays_51 : vLi mX6_shortenWays 51 5 53 := Or.inr ⟨by decide +kernel, rfl⟩
theorem rX6_shortenWays_53 : vCn mX6_shortenWays 53 (-9) 55 := Or.inr (Or.inl ⟨-9, by decide +kernel, by decide +kernel, rfl⟩)
theorem rX6_shortenWays_55 : vIc mX6_shortenWays 55 .eq 92 58 := ⟨37, by decide +kernel, by decide, rfl⟩
theorem rX6_shortenWays_58 : vLi mX6_shortenWays 58 6 60 := Or.inr ⟨by decide +kernel, rfl⟩
theorem rX6_shortenWays_60 : vCn mX6_shortenWays 60 (-9) 62 := Or.inr (Or.inl ⟨-9, by decide +kernel, by decide +kernel, rfl⟩)
theorem rX6_shortenWays_62 : vIc mX6_shortenWays 62 .eq 75 65 := ⟨13, by decide +kernel, by decide, rfl⟩
theorem rX6_shortenWays_65 : vLi mX6_shortenWays 65 4 67 := Or.inr ⟨by decide +kernel, rfl⟩
theorem rX6_shortenWays_67 : vLi mX6_shortenWays 67 5 69 := Or.inr ⟨by decide +kernel, rfl⟩
theorem rX6_shortenWays_69 : vI mX6_shortenWays 69 .iadd 1 70 := ⟨by decide +kernel, rfl⟩
theorem rX6_shortenWays_70 : vLi mX6_shortenWays 70 6 72 := Or.inr ⟨by decide +kernel, rfl⟩
theorem rX6_shortenWays_72 : vIc mX6_shortenWays 72 .ge 92 75 := ⟨20, by decide +kernel, by decide, rfl⟩
theorem rX6_shortenWays_75 : vLa mX6_shortenWays 75 0 76 := ⟨0, by decide +kernel, rfl, rfl⟩
theorem rX6_shortenWays_76 : vGf mX6_shortenWays 76 6 7 79 := ⟨24, (RX6, TX6, 11), by decide +kernel, rfl, rfl, by decide, tF77⟩
theorem rX6_shortenWays_79 : vLi mX6_shortenWays 79 2 80 := Or.inl ⟨2, by decide +kernel, rfl, rfl⟩
theorem rX6_shortenWays_80 : vLi mX6_shortenWays 80 3 81 := Or.inl ⟨3, by decide +kernel, rfl, rfl⟩
theorem rX6_shortenWays_81 : vKs mX6_shortenWays 81 mX7_pair 2 84 := ⟨76, by decide +kernel, rfl, kX7_pair, tF332, Or.inr ⟨"BellLots", tN331⟩⟩
theorem rX6_shortenWays_84 : vLi mX6_shortenWays 84 4 86 := Or.inr ⟨by decide +kernel, rfl⟩
theorem rX6_shortenWays_86 : vLi mX6_shortenWays 86 5 88 := Or.inr ⟨by decide +kernel, rfl⟩
theorem rX6_shortenWays_88 : vI mX6_shortenWays 88 .iadd 1 89 := ⟨by decide +kernel, rfl⟩
theorem rX6_shortenWays_89 : vKs mX6_shortenWays 89 mX7_put 3 92 := ⟨72, by decide +kernel, rfl, kX7_put, tF256, Or.inr ⟨"BellLots", tN326⟩⟩
theorem rX6_shortenWays_92 : vIn mX6_shortenWays 92 3 (nI 1) 95 := ⟨1, by decide +kernel, by decide +kernel, by decide, rfl⟩
theorem rX6_shortenWays_95 : vGo mX6_shortenWays 95 12 := ⟨-83, by decide +kernel, by decide⟩
theorem rX6_shortenWays_98 : vIn mX6_shortenWays 98 2 (nI 1) 101 := ⟨1, by decide +kernel, by decide +kernel, by decide, rfl⟩
theorem rX6_shortenWays_101 : vGo mX6_shortenWays 101 2 := ⟨-99, by decide +kernel, by decide⟩
theorem rX6_shortenWays_104 : vI mX6_shortenWays 104 .return_ 1 105 := ⟨by decide +kernel, rfl⟩
theorem rX6_wayBetween_0 : vLa mX6_wayBetween 0 0 1 := ⟨0, by decide +kernel, rfl, rfl⟩
theorem rX6_wayBetween_1 : vGf mX6_wayBetween 1 6 7 4 := ⟨24, (RX6, TX6, 11), by decide +kernel, rfl, rfl, by decide, tF77⟩
theorem rX6_wayBetween_4 : vLi mX6_wayBetween 4 1 5 := Or.inl ⟨1, by decide +kernel, rfl, rfl⟩
theorem rX6_wayBetween_5 : vLi mX6_wayBetween 5 2 6 := Or.inl ⟨2, by decide +kernel, rfl, rfl⟩
theorem rX6_wayBetween_6 : vKs mX6_wayBetween 6 mX7_pair 2 9 := ⟨76, by decide +kernel, rfl, kX7_pair, tF332, Or.inr ⟨"BellLots", tN331⟩⟩
theorem rX6_wayBetween_9 : vKs mX6_wayBetween 9 mX7_at 2 12 := ⟨79, by decide +kernel, rfl, kX7_at, tF286, Or.inr ⟨"BellLots", tN334⟩⟩
theorem rX6_wayBetween_12 : vI mX6_wayBetween 12 .ireturn 1 13 := ⟨by decide +kernel, rfl⟩
theorem rX6_oathsCross_0 : vLa mX6_oathsCross 0 0 1 := ⟨0, by decide +kernel, rfl, rfl⟩
theorem rX6_oathsCross_1 : vGf mX6_oathsCross 1 6 8 4 := ⟨27, (RX6, TX6, 11), by decide +kernel, rfl, rfl, by decide, tF78⟩
theorem rX6_oathsCross_4 : vLi mX6_oathsCross 4 1 5 := Or.inl ⟨1, by decide +kernel, rfl, rfl⟩
theorem rX6_oathsCross_5 : vKs mX6_oathsCross 5 mX7_at 2 8 := ⟨79, by decide +kernel, rfl, kX7_at, tF286, Or.inr ⟨"BellLots", tN334⟩⟩
theorem rX6_oathsCross_8 : vLa mX6_oathsCross 8 0 9 := ⟨0, by decide +kernel, rfl, rfl⟩
theorem rX6_oathsCross_9 : vGf mX6_oathsCross 9 6 8 12 := ⟨27, (RX6, TX6, 11), by decide +kernel, rfl, rfl, by decide, tF78⟩
theorem rX6_oathsCross_12 : vLi mX6_oathsCross 12 2 13 := Or.inl ⟨2, by decide +kernel, rfl, rfl⟩
theorem rX6_oathsCross_13 : vKs mX6_oathsCross 13 mX7_at 2 16 := ⟨79, by decide +kernel, rfl, kX7_at, tF286, Or.inr ⟨"BellLots", tN334⟩⟩
theorem rX6_oathsCross_16 : vIc mX6_oathsCross 16 .ne 23 19 := ⟨7, by decide +kernel, by decide, rfl⟩
theorem rX6_oathsCross_19 : vCn mX6_oathsCross 19 (nI 1) 20 := Or.inl ⟨1, by decide +kernel, by decide +kernel, rfl⟩
theorem rX6_oathsCross_20 : vGo mX6_oathsCross 20 24 := ⟨4, by decide +kernel, by decide⟩
theorem rX6_oathsCross_23 : vCn mX6_oathsCross 23 (nI 0) 24 := Or.inl ⟨0, by decide +kernel, by decide +kernel, rfl⟩
theorem rX6_oathsCross_24 : vSi mX6_oathsCross 24 3 25 := ⟨Or.inl ⟨3, by decide +kernel, rfl, rfl⟩, by decide⟩
theorem rX6_oathsCross_25 : vLa mX6_oathsCross 25 0 26 := ⟨0, by decide +kernel, rfl, rfl⟩
theorem rX6_oathsCross_26 : vGf mX6_oathsCross 26 6 9 29 := ⟨30, (RX6, TX6, 11), by decide +kernel, rfl, rfl, by decide, tF81⟩
theorem rX6_oathsCross_29 : vLi mX6_oathsCross 29 1 30 := Or.inl ⟨1, by decide +kernel, rfl, rfl⟩
theorem rX6_oathsCross_30 : vKs mX6_oathsCross 30 mX7_at 2 33 := ⟨79, by decide +kernel, rfl, kX7_at, tF286, Or.inr ⟨"BellLots", tN334⟩⟩
theorem rX6_oathsCross_33 : vLa mX6_oathsCross 33 0 34 := ⟨0, by decide +kernel, rfl, rfl⟩
theorem rX6_oathsCross_34 : vGf mX6_oathsCross 34 6 9 37 := ⟨30, (RX6, TX6, 11), by decide +kernel, rfl, rfl, by decide, tF81⟩
theorem rX6_oathsCross_37 : vLi mX6_oathsCross 37 2 38 := Or.inl ⟨2, by decide +kernel, rfl, rfl⟩
theorem rX6_oathsCross_38 : vKs mX6_oathsCross 38 mX7_at 2 41 := ⟨79, by decide +kernel, rfl, kX7_at, tF286, Or.inr ⟨"BellLots", tN334⟩⟩
theorem rX6_oathsCross_41 : vIc mX6_oathsCross 41 .ne 48 44 := ⟨7, by decide +kernel, by decide, rfl⟩
theorem rX6_oathsCross_44 : vCn mX6_oathsCross 44 (nI 1) 45 := Or.inl ⟨1, by decide +kernel, by decide +kernel, rfl⟩
theorem rX6_oathsCross_45 : vGo mX6_oathsCross 45 49 := ⟨4, by decide +kernel, by decide⟩
theorem rX6_oathsCross_48 : vCn mX6_oathsCross 48 (nI 0) 49 := Or.inl ⟨0, by decide +kernel, by decide +kernel, rfl⟩
theorem rX6_oathsCross_49 : vSi mX6_oathsCross 49 4 51 := ⟨Or.inr ⟨by decide +kernel, rfl⟩, by decide⟩
theorem rX6_oathsCross_51 : vLa mX6_oathsCross 51 0 52 := ⟨0, by decide +kernel, rfl, rfl⟩
theorem rX6_oathsCross_52 : vGf mX6_oathsCross 52 6 10 55 := ⟨33, (RX6, TX6, 11), by decide +kernel, rfl, rfl, by decide, tF84⟩
theorem rX6_oathsCross_55 : vLi mX6_oathsCross 55 1 56 := Or.inl ⟨1, by decide +kernel, rfl, rfl⟩
theorem rX6_oathsCross_56 : vKs mX6_oathsCross 56 mX7_at 2 59 := ⟨79, by decide +kernel, rfl, kX7_at, tF286, Or.inr ⟨"BellLots", tN334⟩⟩
theorem rX6_oathsCross_59 : vLa mX6_oathsCross 59 0 60 := ⟨0, by decide +kernel, rfl, rfl⟩
theorem rX6_oathsCross_60 : vGf mX6_oathsCross 60 6 10 63 := ⟨33, (RX6, TX6, 11), by decide +kernel, rfl, rfl, by decide, tF84⟩
theorem rX6_oathsCross_63 : vLi mX6_oathsCross 63 2 64 := Or.inl ⟨2, by decide +kernel, rfl, rfl⟩
theorem rX6_oathsCross_64 : vKs mX6_oathsCross 64 mX7_at 2 67 := ⟨79, by decide +kernel, rfl, kX7_at, tF286, Or.inr ⟨"BellLots", tN334⟩⟩
theorem rX6_oathsCross_67 : vIc mX6_oathsCross 67 .ne 80 70 := ⟨13, by decide +kernel, by decide, rfl⟩
theorem rX6_oathsCross_70 : vLi mX6_oathsCross 70 3 71 := Or.inl ⟨3, by decide +kernel, rfl, rfl⟩
theorem rX6_oathsCross_71 : vLi mX6_oathsCross 71 4 73 := Or.inr ⟨by decide +kernel, rfl⟩
theorem rX6_oathsCross_73 : vIc mX6_oathsCross 73 .eq 80 76 := ⟨7, by decide +kernel, by decide, rfl⟩
theorem rX6_oathsCross_76 : vCn mX6_oathsCross 76 (nI 1) 77 := Or.inl ⟨1, by decide +kernel, by decide +kernel, rfl⟩
theorem rX6_oathsCross_77 : vGo mX6_oathsCross 77 81 := ⟨4, by decide +kernel, by decide⟩
theorem rX6_oathsCross_80 : vCn mX6_oathsCross 80 (nI 0) 81 := Or.inl ⟨0, by decide +kernel, by decide +kernel, rfl⟩
theorem rX6_oathsCross_81 : vI mX6_oathsCross 81 .ireturn 1 82 := ⟨by decide +kernel, rfl⟩
theorem rX6_bellsHungBefore_0 : vCn mX6_bellsHungBefore 0 (nI 0) 1 := Or.inl ⟨0, by decide +kernel, by decide +kernel, rfl⟩
theorem rX6_bellsHungBefore_1 : vSi mX6_bellsHungBefore 1 2 2 := ⟨Or.inl ⟨2, by decide +kernel, rfl, rfl⟩, by decide⟩
theorem rX6_bellsHungBefore_2 : vCn mX6_bellsHungBefore 2 (nI 0) 3 := Or.inl ⟨0, by decide +kernel, by decide +kernel, rfl⟩
theorem rX6_bellsHungBefore_3 : vSi mX6_bellsHungBefore 3 3 4 := ⟨Or.inl ⟨3, by decide +kernel, rfl, rfl⟩, by decide⟩
theorem rX6_bellsHungBefore_4 : vLi mX6_bellsHungBefore 4 3 5 := Or.inl ⟨3, by decide +kernel, rfl, rfl⟩
theorem rX6_bellsHungBefore_5 : vLa mX6_bellsHungBefore 5 0 6 := ⟨0, by decide +kernel, rfl, rfl⟩
theorem rX6_bellsHungBefore_6 : vGf mX6_bellsHungBefore 6 6 0 9 := ⟨36, (RX6, TX6, 11), by decide +kernel, rfl, rfl, by decide, tF58⟩
theorem rX6_bellsHungBefore_9 : vIc mX6_bellsHungBefore 9 .ge 55 12 := ⟨46, by decide +kernel, by decide, rfl⟩
theorem rX6_bellsHungBefore_12 : vLa mX6_bellsHungBefore 12 0 13 := ⟨0, by decide +kernel, rfl, rfl⟩
theorem rX6_bellsHungBefore_13 : vGf mX6_bellsHungBefore 13 6 4 16 := ⟨15, (RX6, TX6, 11), by decide +kernel, rfl, rfl, by decide, tF70⟩
theorem rX6_bellsHungBefore_16 : vLi mX6_bellsHungBefore 16 3 17 := Or.inl ⟨3, by decide +kernel, rfl, rfl⟩
theorem rX6_bellsHungBefore_17 : vKs mX6_bellsHungBefore 17 mX7_at 2 20 := ⟨79, by decide +kernel, rfl, kX7_at, tF286, Or.inr ⟨"BellLots", tN334⟩⟩
theorem rX6_bellsHungBefore_20 : vLa mX6_bellsHungBefore 20 0 21 := ⟨0, by decide +kernel, rfl, rfl⟩
theorem rX6_bellsHungBefore_21 : vGf mX6_bellsHungBefore 21 6 4 24 := ⟨15, (RX6, TX6, 11), by decide +kernel, rfl, rfl, by decide, tF70⟩
theorem rX6_bellsHungBefore_24 : vLi mX6_bellsHungBefore 24 1 25 := Or.inl ⟨1, by decide +kernel, rfl, rfl⟩
theorem rX6_bellsHungBefore_25 : vKs mX6_bellsHungBefore 25 mX7_at 2 28 := ⟨79, by decide +kernel, rfl, kX7_at, tF286, Or.inr ⟨"BellLots", tN334⟩⟩
theorem rX6_bellsHungBefore_28 : vI mX6_bellsHungBefore 28 .isub 1 29 := ⟨by decide +kernel, rfl⟩
theorem rX6_bellsHungBefore_29 : vSi mX6_bellsHungBefore 29 4 31 := ⟨Or.inr ⟨by decide +kernel, rfl⟩, by decide⟩
theorem rX6_bellsHungBefore_31 : vLi mX6_bellsHungBefore 31 4 33 := Or.inr ⟨by decide +kernel, rfl⟩
theorem rX6_bellsHungBefore_33 : vIf mX6_bellsHungBefore 33 .gt 46 36 := ⟨13, by decide +kernel, by decide, rfl⟩
theorem rX6_bellsHungBefore_36 : vLi mX6_bellsHungBefore 36 4 38 := Or.inr ⟨by decide +kernel, rfl⟩
theorem rX6_bellsHungBefore_38 : vIf mX6_bellsHungBefore 38 .ne 49 41 := ⟨11, by decide +kernel, by decide, rfl⟩
theorem rX6_bellsHungBefore_41 : vLi mX6_bellsHungBefore 41 3 42 := Or.inl ⟨3, by decide +kernel, rfl, rfl⟩
theorem rX6_bellsHungBefore_42 : vLi mX6_bellsHungBefore 42 1 43 := Or.inl ⟨1, by decide +kernel, rfl, rfl⟩
theorem rX6_bellsHungBefore_43 : vIc mX6_bellsHungBefore 43 .ge 49 46 := ⟨6, by decide +kernel, by decide, rfl⟩
theorem rX6_bellsHungBefore_46 : vIn mX6_bellsHungBefore 46 2 (nI 1) 49 := ⟨1, by decide +kernel, by decide +kernel, by decide, rfl⟩
theorem rX6_bellsHungBefore_49 : vIn mX6_bellsHungBefore 49 3 (nI 1) 52 := ⟨1, by decide +kernel, by decide +kernel, by decide, rfl⟩
theorem rX6_bellsHungBefore_52 : vGo mX6_bellsHungBefore 52 4 := ⟨-48, by decide +kernel, by decide⟩
theorem rX6_bellsHungBefore_55 : vLi mX6_bellsHungBefore 55 2 56 := Or.inl ⟨2, by decide +kernel, rfl, rfl⟩
theorem rX6_bellsHungBefore_56 : vI mX6_bellsHungBefore 56 .ireturn 1 57 := ⟨by decide +kernel, rfl⟩
theorem rX7_init_0 : vLa mX7_init 0 0 1 := ⟨0, by decide +kernel, rfl, rfl⟩
theorem rX7_init_1 : vOi mX7_init 1 4 := ⟨1, by decide +kernel, rfl, tF19, tF20, tF21⟩
theorem rX7_init_4 : vLa mX7_init 4 0 5 := ⟨0, by decide +kernel, rfl, rfl⟩
theorem rX7_init_5 : vNw mX7_init 5 5 8 := ⟨7, (RX5, TX5, 7), by decide +kernel, rfl, rfl, tF22, tF23, tF2, by decide⟩
theorem rX7_init_8 : vI mX7_init 8 .dup 1 9 := ⟨by decide +kernel, rfl⟩
theorem rX7_init_9 : vKi mX7_init 9 mX5_init 0 12 := ⟨9, by decide +kernel, rfl, kX5_init, tF25, rfl, rfl, Or.inr ⟨"BellLots", tN24⟩⟩
theorem rX7_init_12 : vPf mX7_init 12 7 0 15 := ⟨10, (RX7, TX7, 10), by decide +kernel, rfl, rfl, by decide, tF213, Or.inr ⟨rfl, rfl, rfl⟩⟩
theorem rX7_init_15 : vLa mX7_init 15 0 16 := ⟨0, by decide +kernel, rfl, rfl⟩
theorem rX7_init_16 : vNw mX7_init 16 6 19 := ⟨16, (RX6, TX6, 11), by decide +kernel, rfl, rfl, tF52, tF53, tF3, by decide⟩
theorem rX7_init_19 : vI mX7_init 19 .dup 1 20 := ⟨by decide +kernel, rfl⟩
theorem rX7_init_20 : vKi mX7_init 20 mX6_init 0 23 := ⟨18, by decide +kernel, rfl, kX6_init, tF55, rfl, rfl, Or.inr ⟨"BellLots", tN54⟩⟩
theorem rX7_init_23 : vPf mX7_init 23 7 1 26 := ⟨19, (RX7, TX7, 10), by decide +kernel, rfl, rfl, by decide, tF214, Or.inl rfl⟩
theorem rX7_init_26 : vLa mX7_init 26 0 27 := ⟨0, by decide +kernel, rfl, rfl⟩
theorem rX7_init_27 : vNw mX7_init 27 6 30 := ⟨16, (RX6, TX6, 11), by decide +kernel, rfl, rfl, tF52, tF53, tF3, by decide⟩
theorem rX7_init_30 : vI mX7_init 30 .dup 1 31 := ⟨by decide +kernel, rfl⟩
theorem rX7_init_31 : vKi mX7_init 31 mX6_init 0 34 := ⟨18, by decide +kernel, rfl, kX6_init, tF55, rfl, rfl, Or.inr ⟨"BellLots", tN54⟩⟩
theorem rX7_init_34 : vPf mX7_init 34 7 2 37 := ⟨23, (RX7, TX7, 10), by decide +kernel, rfl, rfl, by decide, tF215, Or.inl rfl⟩
theorem rX7_init_37 : vLa mX7_init 37 0 38 := ⟨0, by decide +kernel, rfl, rfl⟩
theorem rX7_init_38 : vNw mX7_init 38 1 41 := ⟨26, (RX1, TX1, 6), by decide +kernel, rfl, rfl, tF110, tF111, tF4, by decide⟩
theorem rX7_init_41 : vI mX7_init 41 .dup 1 42 := ⟨by decide +kernel, rfl⟩
theorem rX7_init_42 : vKi mX7_init 42 mX1_init 0 45 := ⟨28, by decide +kernel, rfl, kX1_init, tF113, rfl, rfl, Or.inr ⟨"BellLots", tN112⟩⟩
theorem rX7_init_45 : vPf mX7_init 45 7 3 48 := ⟨29, (RX7, TX7, 10), by decide +kernel, rfl, rfl, by decide, tF216, Or.inr ⟨rfl, rfl, rfl⟩⟩
theorem rX7_init_48 : vLa mX7_init 48 0 49 := ⟨0, by decide +kernel, rfl, rfl⟩
theorem rX7_init_49 : vNw mX7_init 49 1 52 := ⟨26, (RX1, TX1, 6), by decide +kernel, rfl, rfl, tF110, tF111, tF4, by decide⟩
theorem rX7_init_52 : vI mX7_init 52 .dup 1 53 := ⟨by decide +kernel, rfl⟩
theorem rX7_init_53 : vKi mX7_init 53 mX1_init 0 56 := ⟨28, by decide +kernel, rfl, kX1_init, tF113, rfl, rfl, Or.inr ⟨"BellLots", tN112⟩⟩
theorem rX7_init_56 : vPf mX7_init 56 7 4 59 := ⟨33, (RX7, TX7, 10), by decide +kernel, rfl, rfl, by decide, tF217, Or.inr ⟨rfl, rfl, rfl⟩⟩
theorem rX7_init_59 : vLa mX7_init 59 0 60 := ⟨0, by decide +kernel, rfl, rfl⟩
theorem rX7_init_60 : vNw mX7_init 60 4 63 := ⟨36, (RX4, TX4, 3), by decide +kernel, rfl, rfl, tF142, tF143, tF5, by decide⟩
theorem rX7_init_63 : vI mX7_init 63 .dup 1 64 := ⟨by decide +kernel, rfl⟩
theorem rX7_init_64 : vKi mX7_init 64 mX4_init 0 67 := ⟨38, by decide +kernel, rfl, kX4_init, tF145, rfl, rfl, Or.inl tF144⟩
theorem rX7_init_67 : vPf mX7_init 67 7 5 70 := ⟨39, (RX7, TX7, 10), by decide +kernel, rfl, rfl, by decide, tF218, Or.inr ⟨rfl, rfl, rfl⟩⟩
theorem rX7_init_70 : vLa mX7_init 70 0 71 := ⟨0, by decide +kernel, rfl, rfl⟩
theorem rX7_init_71 : vNw mX7_init 71 2 74 := ⟨43, (RX2, TX2, 2), by decide +kernel, rfl, rfl, tF162, tF163, tF6, by decide⟩
theorem rX7_init_74 : vI mX7_init 74 .dup 1 75 := ⟨by decide +kernel, rfl⟩
theorem rX7_init_75 : vKi mX7_init 75 mX2_init 0 78 := ⟨45, by decide +kernel, rfl, kX2_init, tF165, rfl, rfl, Or.inl tF164⟩
theorem rX7_init_78 : vPf mX7_init 78 7 6 81 := ⟨46, (RX7, TX7, 10), by decide +kernel, rfl, rfl, by decide, tF219, Or.inr ⟨rfl, rfl, rfl⟩⟩
theorem rX7_init_81 : vLa mX7_init 81 0 82 := ⟨0, by decide +kernel, rfl, rfl⟩
theorem rX7_init_82 : vNw mX7_init 82 0 85 := ⟨50, (RX0, TX0, 3), by decide +kernel, rfl, rfl, tF178, tF179, tF7, by decide⟩
theorem rX7_init_85 : vI mX7_init 85 .dup 1 86 := ⟨by decide +kernel, rfl⟩
theorem rX7_init_86 : vKi mX7_init 86 mX0_init 0 89 := ⟨52, by decide +kernel, rfl, kX0_init, tF181, rfl, rfl, Or.inr ⟨"BellLots", tN180⟩⟩
theorem rX7_init_89 : vPf mX7_init 89 7 7 92 := ⟨53, (RX7, TX7, 10), by decide +kernel, rfl, rfl, by decide, tF220, Or.inr ⟨rfl, rfl, rfl⟩⟩
theorem rX7_init_92 : vLa mX7_init 92 0 93 := ⟨0, by decide +kernel, rfl, rfl⟩
theorem rX7_init_93 : vNw mX7_init 93 3 96 := ⟨57, (RX3, TX3, 3), by decide +kernel, rfl, rfl, tF195, tF196, tF8, by decide⟩
theorem rX7_init_96 : vI mX7_init 96 .dup 1 97 := ⟨by decide +kernel, rfl⟩
theorem rX7_init_97 : vKi mX7_init 97 mX3_init 0 100 := ⟨59, by decide +kernel, rfl, kX3_init, tF198, rfl, rfl, Or.inr ⟨"BellLots", tN197⟩⟩
theorem rX7_init_100 : vPf mX7_init 100 7 8 103 := ⟨60, (RX7, TX7, 10), by decide +kernel, rfl, rfl, by decide, tF221, Or.inr ⟨rfl, rfl, rfl⟩⟩
theorem rX7_init_103 : vI mX7_init 103 .return_ 1 104 := ⟨by decide +kernel, rfl⟩
theorem rX7_type_0 : vLi mX7_type 0 1 1 := Or.inl ⟨1, by decide +kernel, rfl, rfl⟩
theorem rX7_type_1 : vCn mX7_type 1 (nI 0) 2 := Or.inl ⟨0, by decide +kernel, by decide +kernel, rfl⟩
theorem rX7_type_2 : vCn mX7_type 2 (nI 255) 5 := Or.inr (Or.inr (Or.inl ⟨255, by decide +kernel, by decide +kernel, rfl⟩))
theorem rX7_type_5 : vKs mX7_type 5 mX7_within 3 8 := ⟨64, by decide +kernel, rfl, kX7_within, tF249, Or.inl tF248⟩
theorem rX7_type_8 : vIf mX7_type 8 .ne 13 11 := ⟨5, by decide +kernel, by decide, rfl⟩
theorem rX7_type_11 : vCn mX7_type 11 (-1) 12 := Or.inl ⟨-1, by decide +kernel, by decide +kernel, rfl⟩
theorem rX7_type_12 : vI mX7_type 12 .ireturn 1 13 := ⟨by decide +kernel, rfl⟩
theorem rX7_type_13 : vLa mX7_type 13 0 14 := ⟨0, by decide +kernel, rfl, rfl⟩
theorem rX7_type_14 : vGf mX7_type 14 7 0 17 := ⟨10, (RX7, TX7, 10), by decide +kernel, rfl, rfl, by decide, tF213⟩
theorem rX7_type_17 : vLi mX7_type 17 1 18 := Or.inl ⟨1, by decide +kernel, rfl, rfl⟩
theorem rX7_type_18 : vKv mX7_type 18 mX5_append 1 5 21 := ⟨68, (RX5, TX5, 7), by decide +kernel, rfl, kX5_append, tF252, tF251, tF253, rfl, rfl⟩
theorem rX7_type_21 : vIf mX7_type 21 .eq 34 24 := ⟨13, by decide +kernel, by decide, rfl⟩
theorem rX7_type_24 : vLa mX7_type 24 0 25 := ⟨0, by decide +kernel, rfl, rfl⟩
theorem rX7_type_25 : vGf mX7_type 25 7 0 28 := ⟨10, (RX7, TX7, 10), by decide +kernel, rfl, rfl, by decide, tF213⟩
theorem rX7_type_28 : vGf mX7_type 28 5 1 31 := ⟨72, (RX5, TX5, 7), by decide +kernel, rfl, rfl, by decide, tF30⟩
theorem rX7_type_31 : vGo mX7_type 31 36 := ⟨5, by decide +kernel, by decide⟩
theorem rX7_type_34 : vCn mX7_type 34 (-3) 36 := Or.inr (Or.inl ⟨-3, by decide +kernel, by decide +kernel, rfl⟩)
theorem rX7_type_36 : vI mX7_type 36 .ireturn 1 37 := ⟨by decide +kernel, rfl⟩
theorem rX7_clear_0 : vLa mX7_clear 0 0 1 := ⟨0, by decide +kernel, rfl, rfl⟩
theorem rX7_clear_1 : vGf mX7_clear 1 7 0 4 := ⟨10, (RX7, TX7, 10), by decide +kernel, rfl, rfl, by decide, tF213⟩
theorem rX7_clear_4 : vKv mX7_clear 4 mX5_empty 0 5 7 := ⟨76, (RX5, TX5, 7), by decide +kernel, rfl, kX5_empty, tF263, tF262, tF264, rfl, rfl⟩
theorem rX7_clear_7 : vI mX7_clear 7 .ireturn 1 8 := ⟨by decide +kernel, rfl⟩
theorem rX7_plain_0 : vLa mX7_plain 0 0 1 := ⟨0, by decide +kernel, rfl, rfl⟩
theorem rX7_plain_1 : vGf mX7_plain 1 7 0 4 := ⟨10, (RX7, TX7, 10), by decide +kernel, rfl, rfl, by decide, tF213⟩
theorem rX7_plain_4 : vLa mX7_plain 4 0 5 := ⟨0, by decide +kernel, rfl, rfl⟩
theorem rX7_plain_5 : vGf mX7_plain 5 7 2 8 := ⟨23, (RX7, TX7, 10), by decide +kernel, rfl, rfl, by decide, tF215⟩
theorem rX7_plain_8 : vKv mX7_plain 8 mX5_readInto 1 5 11 := ⟨80, (RX5, TX5, 7), by decide +kernel, rfl, kX5_readInto, tF271, tF270, tF272, rfl, rfl⟩
theorem rX7_plain_11 : vSi mX7_plain 11 1 12 := ⟨Or.inl ⟨1, by decide +kernel, rfl, rfl⟩, by decide⟩
theorem rX7_plain_12 : vLi mX7_plain 12 1 13 := Or.inl ⟨1, by decide +kernel, rfl, rfl⟩
theorem rX7_plain_13 : vIf mX7_plain 13 .ge 18 16 := ⟨5, by decide +kernel, by decide, rfl⟩
theorem rX7_plain_16 : vLi mX7_plain 16 1 17 := Or.inl ⟨1, by decide +kernel, rfl, rfl⟩
theorem rX7_plain_17 : vI mX7_plain 17 .ireturn 1 18 := ⟨by decide +kernel, rfl⟩
theorem rX7_plain_18 : vLa mX7_plain 18 0 19 := ⟨0, by decide +kernel, rfl, rfl⟩
theorem rX7_plain_19 : vGf mX7_plain 19 7 2 22 := ⟨23, (RX7, TX7, 10), by decide +kernel, rfl, rfl, by decide, tF215⟩
theorem rX7_plain_22 : vSa mX7_plain 22 2 23 := ⟨⟨2, by decide +kernel, rfl, rfl⟩, by decide⟩
theorem rX7_plain_23 : vLa mX7_plain 23 0 24 := ⟨0, by decide +kernel, rfl, rfl⟩
theorem rX7_plain_24 : vLa mX7_plain 24 0 25 := ⟨0, by decide +kernel, rfl, rfl⟩
theorem rX7_plain_25 : vGf mX7_plain 25 7 1 28 := ⟨19, (RX7, TX7, 10), by decide +kernel, rfl, rfl, by decide, tF214⟩
theorem rX7_plain_28 : vPf mX7_plain 28 7 2 31 := ⟨23, (RX7, TX7, 10), by decide +kernel, rfl, rfl, by decide, tF215, Or.inl rfl⟩
theorem rX7_plain_31 : vLa mX7_plain 31 0 32 := ⟨0, by decide +kernel, rfl, rfl⟩
theorem rX7_plain_32 : vLa mX7_plain 32 2 33 := ⟨2, by decide +kernel, rfl, rfl⟩
theorem rX7_plain_33 : vPf mX7_plain 33 7 1 36 := ⟨19, (RX7, TX7, 10), by decide +kernel, rfl, rfl, by decide, tF214, Or.inl rfl⟩
theorem rX7_plain_36 : vLa mX7_plain 36 0 37 := ⟨0, by decide +kernel, rfl, rfl⟩
theorem rX7_plain_37 : vGf mX7_plain 37 7 1 40 := ⟨19, (RX7, TX7, 10), by decide +kernel, rfl, rfl, by decide, tF214⟩
theorem rX7_plain_40 : vKv mX7_plain 40 mX6_measureWays 0 6 43 := ⟨84, (RX6, TX6, 11), by decide +kernel, rfl, kX6_measureWays, tF340, tF339, tF341, rfl, rfl⟩
theorem rX7_plain_43 : vLa mX7_plain 43 0 44 := ⟨0, by decide +kernel, rfl, rfl⟩
theorem rX7_plain_44 : vGf mX7_plain 44 7 3 47 := ⟨29, (RX7, TX7, 10), by decide +kernel, rfl, rfl, by decide, tF216⟩
theorem rX7_plain_47 : vLa mX7_plain 47 0 48 := ⟨0, by decide +kernel, rfl, rfl⟩
theorem rX7_plain_48 : vGf mX7_plain 48 7 1 51 := ⟨19, (RX7, TX7, 10), by decide +kernel, rfl, rfl, by decide, tF214⟩
theorem rX7_plain_51 : vKv mX7_plain 51 mX1_begin 1 1 54 := ⟨87, (RX1, TX1, 6), by decide +kernel, rfl, kX1_begin, tF352, tF351, tF353, rfl, rfl⟩
theorem rX7_plain_54 : vLa mX7_plain 54 0 55 := ⟨0, by decide +kernel, rfl, rfl⟩
theorem rX7_plain_55 : vGf mX7_plain 55 7 5 58 := ⟨39, (RX7, TX7, 10), by decide +kernel, rfl, rfl, by decide, tF218⟩
theorem rX7_plain_58 : vKv mX7_plain 58 mX4_empty 0 4 61 := ⟨91, (RX4, TX4, 3), by decide +kernel, rfl, kX4_empty, tF360, tF359, tF361, rfl, rfl⟩
theorem rX7_plain_61 : vLa mX7_plain 61 0 62 := ⟨0, by decide +kernel, rfl, rfl⟩
theorem rX7_plain_62 : vGf mX7_plain 62 7 6 65 := ⟨46, (RX7, TX7, 10), by decide +kernel, rfl, rfl, by decide, tF219⟩
theorem rX7_plain_65 : vKv mX7_plain 65 mX2_empty 0 2 68 := ⟨93, (RX2, TX2, 2), by decide +kernel, rfl, kX2_empty, tF364, tF363, tF365, rfl, rfl⟩
theorem rX7_plain_68 : vLa mX7_plain 68 0 69 := ⟨0, by decide +kernel, rfl, rfl⟩
theorem rX7_plain_69 : vGf mX7_plain 69 7 7 72 := ⟨53, (RX7, TX7, 10), by decide +kernel, rfl, rfl, by decide, tF220⟩
theorem rX7_plain_72 : vKv mX7_plain 72 mX0_empty 0 0 75 := ⟨94, (RX0, TX0, 3), by decide +kernel, rfl, kX0_empty, tF368, tF367, tF369, rfl, rfl⟩
theorem rX7_plain_75 : vI mX7_plain 75 .pop 1 76 := ⟨by decide +kernel, rfl⟩
theorem rX7_plain_76 : vLa mX7_plain 76 0 77 := ⟨0, by decide +kernel, rfl, rfl⟩
theorem rX7_plain_77 : vGf mX7_plain 77 7 0 80 := ⟨10, (RX7, TX7, 10), by decide +kernel, rfl, rfl, by decide, tF213⟩
theorem rX7_plain_80 : vKv mX7_plain 80 mX5_empty 0 5 83 := ⟨76, (RX5, TX5, 7), by decide +kernel, rfl, kX5_empty, tF263, tF262, tF264, rfl, rfl⟩
theorem rX7_plain_83 : vI mX7_plain 83 .pop 1 84 := ⟨by decide +kernel, rfl⟩
theorem rX7_plain_84 : vLi mX7_plain 84 1 85 := Or.inl ⟨1, by decide +kernel, rfl, rfl⟩
theorem rX7_plain_85 : vI mX7_plain 85 .ireturn 1 86 := ⟨by decide +kernel, rfl⟩
theorem rX7_town_0 : vLa mX7_town 0 0 1 := ⟨0, by decide +kernel, rfl, rfl⟩
theorem rX7_town_1 : vGf mX7_town 1 7 1 4 := ⟨19, (RX7, TX7, 10), by decide +kernel, rfl, rfl, by decide, tF214⟩
theorem rX7_town_4 : vLi mX7_town 4 1 5 := Or.inl ⟨1, by decide +kernel, rfl, rfl⟩
theorem rX7_town_5 : vKv mX7_town 5 mX6_hasTown 1 6 8 := ⟨95, (RX6, TX6, 11), by decide +kernel, rfl, kX6_hasTown, tF311, tF375, tF312, rfl, rfl⟩
theorem rX7_town_8 : vIf mX7_town 8 .ne 13 11 := ⟨5, by decide +kernel, by decide, rfl⟩
theorem rX7_town_11 : vCn mX7_town 11 (-1) 12 := Or.inl ⟨-1, by decide +kernel, by decide +kernel, rfl⟩
theorem rX7_town_12 : vI mX7_town 12 .ireturn 1 13 := ⟨by decide +kernel, rfl⟩
theorem rX7_town_13 : vLi mX7_town 13 2 14 := Or.inl ⟨2, by decide +kernel, rfl, rfl⟩
theorem rX7_town_14 : vTb mX7_town 14 0 [44, 56, 68, 77] 86 := ⟨72, 3, #[30, 42, 54, 63], 30, by decide +kernel, by decide, by decide, by decide⟩
theorem rX7_town_44 : vLa mX7_town 44 0 45 := ⟨0, by decide +kernel, rfl, rfl⟩
theorem rX7_town_45 : vGf mX7_town 45 7 3 48 := ⟨29, (RX7, TX7, 10), by decide +kernel, rfl, rfl, by decide, tF216⟩
theorem rX7_town_48 : vGf mX7_town 48 1 3 51 := ⟨98, (RX1, TX1, 6), by decide +kernel, rfl, rfl, by decide, tF124⟩
theorem rX7_town_51 : vLi mX7_town 51 1 52 := Or.inl ⟨1, by decide +kernel, rfl, rfl⟩
theorem rX7_town_52 : vKs mX7_town 52 mX7_at 2 55 := ⟨102, by decide +kernel, rfl, kX7_at, tF286, Or.inl tF376⟩
theorem rX7_town_55 : vI mX7_town 55 .ireturn 1 56 := ⟨by decide +kernel, rfl⟩
theorem rX7_town_56 : vLa mX7_town 56 0 57 := ⟨0, by decide +kernel, rfl, rfl⟩
theorem rX7_town_57 : vGf mX7_town 57 7 3 60 := ⟨29, (RX7, TX7, 10), by decide +kernel, rfl, rfl, by decide, tF216⟩
theorem rX7_town_60 : vGf mX7_town 60 1 2 63 := ⟨106, (RX1, TX1, 6), by decide +kernel, rfl, rfl, by decide, tF122⟩
theorem rX7_town_63 : vLi mX7_town 63 1 64 := Or.inl ⟨1, by decide +kernel, rfl, rfl⟩
theorem rX7_town_64 : vKs mX7_town 64 mX7_at 2 67 := ⟨102, by decide +kernel, rfl, kX7_at, tF286, Or.inl tF376⟩
theorem rX7_town_67 : vI mX7_town 67 .ireturn 1 68 := ⟨by decide +kernel, rfl⟩
theorem rX7_town_68 : vLa mX7_town 68 0 69 := ⟨0, by decide +kernel, rfl, rfl⟩
theorem rX7_town_69 : vGf mX7_town 69 7 3 72 := ⟨29, (RX7, TX7, 10), by decide +kernel, rfl, rfl, by decide, tF216⟩
theorem rX7_town_72 : vLi mX7_town 72 1 73 := Or.inl ⟨1, by decide +kernel, rfl, rfl⟩
theorem rX7_town_73 : vKv mX7_town 73 mX1_townOf 1 1 76 := ⟨109, (RX1, TX1, 6), by decide +kernel, rfl, kX1_townOf, tF378, tF377, tF379, rfl, rfl⟩
theorem rX7_town_76 : vI mX7_town 76 .ireturn 1 77 := ⟨by decide +kernel, rfl⟩
theorem rX7_town_77 : vLa mX7_town 77 0 78 := ⟨0, by decide +kernel, rfl, rfl⟩
theorem rX7_town_78 : vKv mX7_town 78 mX7_dumbTowns 0 7 81 := ⟨113, (RX7, TX7, 10), by decide +kernel, rfl, kX7_dumbTowns, tF383, tF381, tS8, rfl, rfl⟩
theorem rX7_town_81 : vLi mX7_town 81 1 82 := Or.inl ⟨1, by decide +kernel, rfl, rfl⟩
theorem rX7_town_82 : vI mX7_town 82 .ishr 1 83 := ⟨by decide +kernel, rfl⟩
theorem rX7_town_83 : vCn mX7_town 83 (nI 1) 84 := Or.inl ⟨1, by decide +kernel, by decide +kernel, rfl⟩
theorem rX7_town_84 : vI mX7_town 84 .iand 1 85 := ⟨by decide +kernel, rfl⟩
theorem rX7_town_85 : vI mX7_town 85 .ireturn 1 86 := ⟨by decide +kernel, rfl⟩
theorem rX7_town_86 : vCn mX7_town 86 (-1) 87 := Or.inl ⟨-1, by decide +kernel, by decide +kernel, rfl⟩
theorem rX7_town_87 : vI mX7_town 87 .ireturn 1 88 := ⟨by decide +kernel, rfl⟩
theorem rX7_bell_0 : vLa mX7_bell 0 0 1 := ⟨0, by decide +kernel, rfl, rfl⟩
theorem rX7_bell_1 : vGf mX7_bell 1 7 1 4 := ⟨19, (RX7, TX7, 10), by decide +kernel, rfl, rfl, by decide, tF214⟩
theorem rX7_bell_4 : vLi mX7_bell 4 1 5 := Or.inl ⟨1, by decide +kernel, rfl, rfl⟩
theorem rX7_bell_5 : vKv mX7_bell 5 mX6_hasTown 1 6 8 := ⟨95, (RX6, TX6, 11), by decide +kernel, rfl, kX6_hasTown, tF311, tF375, tF312, rfl, rfl⟩
theorem rX7_bell_8 : vIf mX7_bell 8 .ne 13 11 := ⟨5, by decide +kernel, by decide, rfl⟩
theorem rX7_bell_11 : vCn mX7_bell 11 (-1) 12 := Or.inl ⟨-1, by decide +kernel, by decide +kernel, rfl⟩
theorem rX7_bell_12 : vI mX7_bell 12 .ireturn 1 13 := ⟨by decide +kernel, rfl⟩
theorem rX7_bell_13 : vLi mX7_bell 13 2 14 := Or.inl ⟨2, by decide +kernel, rfl, rfl⟩
theorem rX7_bell_14 : vTb mX7_bell 14 0 [44, 56, 68, 77] 83 := ⟨69, 3, #[30, 42, 54, 63], 30, by decide +kernel, by decide, by decide, by decide⟩
theorem rX7_bell_44 : vLa mX7_bell 44 0 45 := ⟨0, by decide +kernel, rfl, rfl⟩
theorem rX7_bell_45 : vGf mX7_bell 45 7 1 48 := ⟨19, (RX7, TX7, 10), by decide +kernel, rfl, rfl, by decide, tF214⟩
theorem rX7_bell_48 : vGf mX7_bell 48 6 4 51 := ⟨116, (RX6, TX6, 11), by decide +kernel, rfl, rfl, by decide, tF72⟩
theorem rX7_bell_51 : vLi mX7_bell 51 1 52 := Or.inl ⟨1, by decide +kernel, rfl, rfl⟩
theorem rX7_bell_52 : vKs mX7_bell 52 mX7_at 2 55 := ⟨102, by decide +kernel, rfl, kX7_at, tF286, Or.inl tF376⟩
theorem rX7_bell_55 : vI mX7_bell 55 .ireturn 1 56 := ⟨by decide +kernel, rfl⟩
theorem rX7_bell_56 : vLa mX7_bell 56 0 57 := ⟨0, by decide +kernel, rfl, rfl⟩
theorem rX7_bell_57 : vGf mX7_bell 57 7 1 60 := ⟨19, (RX7, TX7, 10), by decide +kernel, rfl, rfl, by decide, tF214⟩
theorem rX7_bell_60 : vGf mX7_bell 60 6 5 63 := ⟨119, (RX6, TX6, 11), by decide +kernel, rfl, rfl, by decide, tF74⟩
theorem rX7_bell_63 : vLi mX7_bell 63 1 64 := Or.inl ⟨1, by decide +kernel, rfl, rfl⟩
theorem rX7_bell_64 : vKs mX7_bell 64 mX7_at 2 67 := ⟨102, by decide +kernel, rfl, kX7_at, tF286, Or.inl tF376⟩
theorem rX7_bell_67 : vI mX7_bell 67 .ireturn 1 68 := ⟨by decide +kernel, rfl⟩
theorem rX7_bell_68 : vLa mX7_bell 68 0 69 := ⟨0, by decide +kernel, rfl, rfl⟩
theorem rX7_bell_69 : vGf mX7_bell 69 7 3 72 := ⟨29, (RX7, TX7, 10), by decide +kernel, rfl, rfl, by decide, tF216⟩
theorem rX7_bell_72 : vLi mX7_bell 72 1 73 := Or.inl ⟨1, by decide +kernel, rfl, rfl⟩
theorem rX7_bell_73 : vKv mX7_bell 73 mX1_townOf 1 1 76 := ⟨109, (RX1, TX1, 6), by decide +kernel, rfl, kX1_townOf, tF378, tF377, tF379, rfl, rfl⟩
theorem rX7_bell_76 : vI mX7_bell 76 .ireturn 1 77 := ⟨by decide +kernel, rfl⟩
theorem rX7_bell_77 : vLa mX7_bell 77 0 78 := ⟨0, by decide +kernel, rfl, rfl⟩
theorem rX7_bell_78 : vLi mX7_bell 78 1 79 := Or.inl ⟨1, by decide +kernel, rfl, rfl⟩
theorem rX7_bell_79 : vKv mX7_bell 79 mX7_fitsOf 1 7 82 := ⟨122, (RX7, TX7, 10), by decide +kernel, rfl, kX7_fitsOf, tF400, tF398, tS11, rfl, rfl⟩
theorem rX7_bell_82 : vI mX7_bell 82 .ireturn 1 83 := ⟨by decide +kernel, rfl⟩
theorem rX7_bell_83 : vCn mX7_bell 83 (-1) 84 := Or.inl ⟨-1, by decide +kernel, by decide +kernel, rfl⟩
theorem rX7_bell_84 : vI mX7_bell 84 .ireturn 1 85 := ⟨by decide +kernel, rfl⟩
theorem rX7_far_0 : vLa mX7_far 0 0 1 := ⟨0, by decide +kernel, rfl, rfl⟩
theorem rX7_far_1 : vGf mX7_far 1 7 1 4 := ⟨19, (RX7, TX7, 10), by decide +kernel, rfl, rfl, by decide, tF214⟩
theorem rX7_far_4 : vLi mX7_far 4 1 5 := Or.inl ⟨1, by decide +kernel, rfl, rfl⟩
theorem rX7_far_5 : vKv mX7_far 5 mX6_hasTown 1 6 8 := ⟨95, (RX6, TX6, 11), by decide +kernel, rfl, kX6_hasTown, tF311, tF375, tF312, rfl, rfl⟩
theorem rX7_far_8 : vIf mX7_far 8 .eq 34 11 := ⟨26, by decide +kernel, by decide, rfl⟩
theorem rX7_far_11 : vLa mX7_far 11 0 12 := ⟨0, by decide +kernel, rfl, rfl⟩
theorem rX7_far_12 : vGf mX7_far 12 7 1 15 := ⟨19, (RX7, TX7, 10), by decide +kernel, rfl, rfl, by decide, tF214⟩
theorem rX7_far_15 : vLi mX7_far 15 2 16 := Or.inl ⟨2, by decide +kernel, rfl, rfl⟩
theorem rX7_far_16 : vKv mX7_far 16 mX6_hasTown 1 6 19 := ⟨95, (RX6, TX6, 11), by decide +kernel, rfl, kX6_hasTown, tF311, tF375, tF312, rfl, rfl⟩
theorem rX7_far_19 : vIf mX7_far 19 .eq 34 22 := ⟨15, by decide +kernel, by decide, rfl⟩
theorem rX7_far_22 : vLa mX7_far 22 0 23 := ⟨0, by decide +kernel, rfl, rfl⟩
theorem rX7_far_23 : vGf mX7_far 23 7 1 26 := ⟨19, (RX7, TX7, 10), by decide +kernel, rfl, rfl, by decide, tF214⟩
theorem rX7_far_26 : vLi mX7_far 26 1 27 := Or.inl ⟨1, by decide +kernel, rfl, rfl⟩
theorem rX7_far_27 : vLi mX7_far 27 2 28 := Or.inl ⟨2, by decide +kernel, rfl, rfl⟩
theorem rX7_far_28 : vKv mX7_far 28 mX6_wayBetween 2 6 31 := ⟨125, (RX6, TX6, 11), by decide +kernel, rfl, kX6_wayBetween, tF348, tF411, tF349, rfl, rfl⟩
theorem rX7_far_31 : vGo mX7_far 31 35 := ⟨4, by decide +kernel, by decide⟩
theorem rX7_far_34 : vCn mX7_far 34 (-1) 35 := Or.inl ⟨-1, by decide +kernel, by decide +kernel, rfl⟩
theorem rX7_far_35 : vI mX7_far 35 .ireturn 1 36 := ⟨by decide +kernel, rfl⟩
theorem rX7_oath_0 : vLi mX7_oath 0 1 1 := Or.inl ⟨1, by decide +kernel, rfl, rfl⟩
theorem rX7_oath_1 : vCn mX7_oath 1 (nI 0) 2 := Or.inl ⟨0, by decide +kernel, by decide +kernel, rfl⟩
theorem rX7_oath_2 : vLa mX7_oath 2 0 3 := ⟨0, by decide +kernel, rfl, rfl⟩
theorem rX7_oath_3 : vGf mX7_oath 3 7 1 6 := ⟨19, (RX7, TX7, 10), by decide +kernel, rfl, rfl, by decide, tF214⟩
theorem rX7_oath_6 : vGf mX7_oath 6 6 2 9 := ⟨129, (RX6, TX6, 11), by decide +kernel, rfl, rfl, by decide, tF67⟩
theorem rX7_oath_9 : vCn mX7_oath 9 (nI 1) 10 := Or.inl ⟨1, by decide +kernel, by decide +kernel, rfl⟩
theorem rX7_oath_10 : vI mX7_oath 10 .isub 1 11 := ⟨by decide +kernel, rfl⟩
theorem rX7_oath_11 : vKs mX7_oath 11 mX7_within 3 14 := ⟨64, by decide +kernel, rfl, kX7_within, tF249, Or.inl tF248⟩
theorem rX7_oath_14 : vIf mX7_oath 14 .ne 19 17 := ⟨5, by decide +kernel, by decide, rfl⟩
theorem rX7_oath_17 : vCn mX7_oath 17 (-1) 18 := Or.inl ⟨-1, by decide +kernel, by decide +kernel, rfl⟩
theorem rX7_oath_18 : vI mX7_oath 18 .ireturn 1 19 := ⟨by decide +kernel, rfl⟩
theorem rX7_oath_19 : vLi mX7_oath 19 2 20 := Or.inl ⟨2, by decide +kernel, rfl, rfl⟩
theorem rX7_oath_20 : vTb mX7_oath 20 0 [52, 64, 76, 88] 100 := ⟨80, 3, #[32, 44, 56, 68], 32, by decide +kernel, by decide, by decide, by decide⟩
theorem rX7_oath_52 : vLa mX7_oath 52 0 53 := ⟨0, by decide +kernel, rfl, rfl⟩
theorem rX7_oath_53 : vGf mX7_oath 53 7 1 56 := ⟨19, (RX7, TX7, 10), by decide +kernel, rfl, rfl, by decide, tF214⟩
theorem rX7_oath_56 : vGf mX7_oath 56 6 8 59 := ⟨132, (RX6, TX6, 11), by decide +kernel, rfl, rfl, by decide, tF80⟩
theorem rX7_oath_59 : vLi mX7_oath 59 1 60 := Or.inl ⟨1, by decide +kernel, rfl, rfl⟩
theorem rX7_oath_60 : vKs mX7_oath 60 mX7_at 2 63 := ⟨102, by decide +kernel, rfl, kX7_at, tF286, Or.inl tF376⟩
theorem rX7_oath_63 : vI mX7_oath 63 .ireturn 1 64 := ⟨by decide +kernel, rfl⟩
theorem rX7_oath_64 : vLa mX7_oath 64 0 65 := ⟨0, by decide +kernel, rfl, rfl⟩
theorem rX7_oath_65 : vGf mX7_oath 65 7 1 68 := ⟨19, (RX7, TX7, 10), by decide +kernel, rfl, rfl, by decide, tF214⟩
theorem rX7_oath_68 : vGf mX7_oath 68 6 9 71 := ⟨135, (RX6, TX6, 11), by decide +kernel, rfl, rfl, by decide, tF83⟩
theorem rX7_oath_71 : vLi mX7_oath 71 1 72 := Or.inl ⟨1, by decide +kernel, rfl, rfl⟩
theorem rX7_oath_72 : vKs mX7_oath 72 mX7_at 2 75 := ⟨102, by decide +kernel, rfl, kX7_at, tF286, Or.inl tF376⟩
theorem rX7_oath_75 : vI mX7_oath 75 .ireturn 1 76 := ⟨by decide +kernel, rfl⟩
theorem rX7_oath_76 : vLa mX7_oath 76 0 77 := ⟨0, by decide +kernel, rfl, rfl⟩
theorem rX7_oath_77 : vGf mX7_oath 77 7 1 80 := ⟨19, (RX7, TX7, 10), by decide +kernel, rfl, rfl, by decide, tF214⟩
theorem rX7_oath_80 : vGf mX7_oath 80 6 10 83 := ⟨138, (RX6, TX6, 11), by decide +kernel, rfl, rfl, by decide, tF86⟩
theorem rX7_oath_83 : vLi mX7_oath 83 1 84 := Or.inl ⟨1, by decide +kernel, rfl, rfl⟩
theorem rX7_oath_84 : vKs mX7_oath 84 mX7_at 2 87 := ⟨102, by decide +kernel, rfl, kX7_at, tF286, Or.inl tF376⟩
theorem rX7_oath_87 : vI mX7_oath 87 .ireturn 1 88 := ⟨by decide +kernel, rfl⟩
theorem rX7_oath_88 : vLa mX7_oath 88 0 89 := ⟨0, by decide +kernel, rfl, rfl⟩
theorem rX7_oath_89 : vGf mX7_oath 89 7 3 92 := ⟨29, (RX7, TX7, 10), by decide +kernel, rfl, rfl, by decide, tF216⟩
theorem rX7_oath_92 : vGf mX7_oath 92 1 4 95 := ⟨141, (RX1, TX1, 6), by decide +kernel, rfl, rfl, by decide, tF126⟩
theorem rX7_oath_95 : vLi mX7_oath 95 1 96 := Or.inl ⟨1, by decide +kernel, rfl, rfl⟩
theorem rX7_oath_96 : vKs mX7_oath 96 mX7_at 2 99 := ⟨102, by decide +kernel, rfl, kX7_at, tF286, Or.inl tF376⟩
theorem rX7_oath_99 : vI mX7_oath 99 .ireturn 1 100 := ⟨by decide +kernel, rfl⟩
theorem rX7_oath_100 : vCn mX7_oath 100 (-1) 101 := Or.inl ⟨-1, by decide +kernel, by decide +kernel, rfl⟩
theorem rX7_oath_101 : vI mX7_oath 101 .ireturn 1 102 := ⟨by decide +kernel, rfl⟩
theorem rX7_now_0 : vLi mX7_now 0 1 1 := Or.inl ⟨1, by decide +kernel, rfl, rfl⟩
theorem rX7_now_1 : vTb mX7_now 1 0 [36, 44, 52, 57, 62] 70 := ⟨69, 4, #[35, 43, 51, 56, 61], 35, by decide +kernel, by decide, by decide, by decide⟩
theorem rX7_now_36 : vLa mX7_now 36 0 37 := ⟨0, by decide +kernel, rfl, rfl⟩
theorem rX7_now_37 : vGf mX7_now 37 7 3 40 := ⟨29, (RX7, TX7, 10), by decide +kernel, rfl, rfl, by decide, tF216⟩
theorem rX7_now_40 : vGf mX7_now 40 1 0 43 := ⟨144, (RX1, TX1, 6), by decide +kernel, rfl, rfl, by decide, tF117⟩
theorem rX7_now_43 : vI mX7_now 43 .ireturn 1 44 := ⟨by decide +kernel, rfl⟩
theorem rX7_now_44 : vLa mX7_now 44 0 45 := ⟨0, by decide +kernel, rfl, rfl⟩
theorem rX7_now_45 : vGf mX7_now 45 7 3 48 := ⟨29, (RX7, TX7, 10), by decide +kernel, rfl, rfl, by decide, tF216⟩
theorem rX7_now_48 : vGf mX7_now 48 1 1 51 := ⟨147, (RX1, TX1, 6), by decide +kernel, rfl, rfl, by decide, tF119⟩
theorem rX7_now_51 : vI mX7_now 51 .ireturn 1 52 := ⟨by decide +kernel, rfl⟩
theorem rX7_now_52 : vLa mX7_now 52 0 53 := ⟨0, by decide +kernel, rfl, rfl⟩
theorem rX7_now_53 : vKv mX7_now 53 mX7_bellsAtHome 0 7 56 := ⟨150, (RX7, TX7, 10), by decide +kernel, rfl, kX7_bellsAtHome, tF422, tF420, tS12, rfl, rfl⟩
theorem rX7_now_56 : vI mX7_now 56 .ireturn 1 57 := ⟨by decide +kernel, rfl⟩
theorem rX7_now_57 : vLa mX7_now 57 0 58 := ⟨0, by decide +kernel, rfl, rfl⟩
theorem rX7_now_58 : vKv mX7_now 58 mX7_dumbTowns 0 7 61 := ⟨113, (RX7, TX7, 10), by decide +kernel, rfl, kX7_dumbTowns, tF383, tF381, tS8, rfl, rfl⟩
theorem rX7_now_61 : vI mX7_now 61 .ireturn 1 62 := ⟨by decide +kernel, rfl⟩
theorem rX7_now_62 : vLa mX7_now 62 0 63 := ⟨0, by decide +kernel, rfl, rfl⟩
theorem rX7_now_63 : vGf mX7_now 63 7 5 66 := ⟨39, (RX7, TX7, 10), by decide +kernel, rfl, rfl, by decide, tF218⟩
theorem rX7_now_66 : vGf mX7_now 66 4 2 69 := ⟨153, (RX4, TX4, 3), by decide +kernel, rfl, rfl, by decide, tF154⟩
theorem rX7_now_69 : vI mX7_now 69 .ireturn 1 70 := ⟨by decide +kernel, rfl⟩
theorem rX7_now_70 : vCn mX7_now 70 (-1) 71 := Or.inl ⟨-1, by decide +kernel, by decide +kernel, rfl⟩
theorem rX7_now_71 : vI mX7_now 71 .ireturn 1 72 := ⟨by decide +kernel, rfl⟩
theorem rX7_lots_0 : vLi mX7_lots 0 1 1 := Or.inl ⟨1, by decide +kernel, rfl, rfl⟩
theorem rX7_lots_1 : vCn mX7_lots 1 (nI 0) 2 := Or.inl ⟨0, by decide +kernel, by decide +kernel, rfl⟩
theorem rX7_lots_2 : vCn mX7_lots 2 (nI 9999) 5 := Or.inr (Or.inr (Or.inl ⟨9999, by decide +kernel, by decide +kernel, rfl⟩))
theorem rX7_lots_5 : vKs mX7_lots 5 mX7_within 3 8 := ⟨64, by decide +kernel, rfl, kX7_within, tF249, Or.inl tF248⟩
theorem rX7_lots_8 : vIf mX7_lots 8 .ne 13 11 := ⟨5, by decide +kernel, by decide, rfl⟩
theorem rX7_lots_11 : vCn mX7_lots 11 (-1) 12 := Or.inl ⟨-1, by decide +kernel, by decide +kernel, rfl⟩
theorem rX7_lots_12 : vI mX7_lots 12 .ireturn 1 13 := ⟨by decide +kernel, rfl⟩
theorem rX7_lots_13 : vLa mX7_lots 13 0 14 := ⟨0, by decide +kernel, rfl, rfl⟩
theorem rX7_lots_14 : vGf mX7_lots 14 7 3 17 := ⟨29, (RX7, TX7, 10), by decide +kernel, rfl, rfl, by decide, tF216⟩
theorem rX7_lots_17 : vGf mX7_lots 17 1 0 20 := ⟨144, (RX1, TX1, 6), by decide +kernel, rfl, rfl, by decide, tF117⟩
theorem rX7_lots_20 : vCn mX7_lots 20 (nI 60) 22 := Or.inr (Or.inl ⟨60, by decide +kernel, by decide +kernel, rfl⟩)
theorem rX7_lots_22 : vIc mX7_lots 22 .lt 28 25 := ⟨6, by decide +kernel, by decide, rfl⟩
theorem rX7_lots_25 : vCn mX7_lots 25 (-2) 27 := Or.inr (Or.inl ⟨-2, by decide +kernel, by decide +kernel, rfl⟩)
theorem rX7_lots_27 : vI mX7_lots 27 .ireturn 1 28 := ⟨by decide +kernel, rfl⟩
theorem rX7_lots_28 : vLa mX7_lots 28 0 29 := ⟨0, by decide +kernel, rfl, rfl⟩
theorem rX7_lots_29 : vGf mX7_lots 29 7 5 32 := ⟨39, (RX7, TX7, 10), by decide +kernel, rfl, rfl, by decide, tF218⟩
theorem rX7_lots_32 : vLa mX7_lots 32 0 33 := ⟨0, by decide +kernel, rfl, rfl⟩
theorem rX7_lots_33 : vGf mX7_lots 33 7 3 36 := ⟨29, (RX7, TX7, 10), by decide +kernel, rfl, rfl, by decide, tF216⟩
theorem rX7_lots_36 : vKv mX7_lots 36 mX4_remember 1 4 39 := ⟨156, (RX4, TX4, 3), by decide +kernel, rfl, kX4_remember, tF429, tF428, tF430, rfl, rfl⟩
theorem rX7_lots_39 : vLa mX7_lots 39 0 40 := ⟨0, by decide +kernel, rfl, rfl⟩
theorem rX7_lots_40 : vGf mX7_lots 40 7 3 43 := ⟨29, (RX7, TX7, 10), by decide +kernel, rfl, rfl, by decide, tF216⟩
theorem rX7_lots_43 : vLa mX7_lots 43 0 44 := ⟨0, by decide +kernel, rfl, rfl⟩
theorem rX7_lots_44 : vGf mX7_lots 44 7 1 47 := ⟨19, (RX7, TX7, 10), by decide +kernel, rfl, rfl, by decide, tF214⟩
theorem rX7_lots_47 : vLa mX7_lots 47 0 48 := ⟨0, by decide +kernel, rfl, rfl⟩
theorem rX7_lots_48 : vGf mX7_lots 48 7 8 51 := ⟨60, (RX7, TX7, 10), by decide +kernel, rfl, rfl, by decide, tF221⟩
theorem rX7_lots_51 : vLi mX7_lots 51 1 52 := Or.inl ⟨1, by decide +kernel, rfl, rfl⟩
theorem rX7_lots_52 : vKv mX7_lots 52 mX1_passTerm 3 1 55 := ⟨160, (RX1, TX1, 6), by decide +kernel, rfl, kX1_passTerm, tF439, tF438, tF440, rfl, rfl⟩
theorem rX7_lots_55 : vI mX7_lots 55 .ireturn 1 56 := ⟨by decide +kernel, rfl⟩
theorem rX7_trades_0 : vLa mX7_trades 0 0 1 := ⟨0, by decide +kernel, rfl, rfl⟩
theorem rX7_trades_1 : vGf mX7_trades 1 7 1 4 := ⟨19, (RX7, TX7, 10), by decide +kernel, rfl, rfl, by decide, tF214⟩
theorem rX7_trades_4 : vLi mX7_trades 4 1 5 := Or.inl ⟨1, by decide +kernel, rfl, rfl⟩
theorem rX7_trades_5 : vKv mX7_trades 5 mX6_hasTown 1 6 8 := ⟨95, (RX6, TX6, 11), by decide +kernel, rfl, kX6_hasTown, tF311, tF375, tF312, rfl, rfl⟩
theorem rX7_trades_8 : vIf mX7_trades 8 .eq 27 11 := ⟨19, by decide +kernel, by decide, rfl⟩
theorem rX7_trades_11 : vLa mX7_trades 11 0 12 := ⟨0, by decide +kernel, rfl, rfl⟩
theorem rX7_trades_12 : vGf mX7_trades 12 7 1 15 := ⟨19, (RX7, TX7, 10), by decide +kernel, rfl, rfl, by decide, tF214⟩
theorem rX7_trades_15 : vLi mX7_trades 15 2 16 := Or.inl ⟨2, by decide +kernel, rfl, rfl⟩
theorem rX7_trades_16 : vKv mX7_trades 16 mX6_hasTown 1 6 19 := ⟨95, (RX6, TX6, 11), by decide +kernel, rfl, kX6_hasTown, tF311, tF375, tF312, rfl, rfl⟩
theorem rX7_trades_19 : vIf mX7_trades 19 .eq 27 22 := ⟨8, by decide +kernel, by decide, rfl⟩
theorem rX7_trades_22 : vLi mX7_trades 22 1 23 := Or.inl ⟨1, by decide +kernel, rfl, rfl⟩
theorem rX7_trades_23 : vLi mX7_trades 23 2 24 := Or.inl ⟨2, by decide +kernel, rfl, rfl⟩
theorem rX7_trades_24 : vIc mX7_trades 24 .ne 29 27 := ⟨5, by decide +kernel, by decide, rfl⟩
theorem rX7_trades_27 : vCn mX7_trades 27 (-1) 28 := Or.inl ⟨-1, by decide +kernel, by decide +kernel, rfl⟩
theorem rX7_trades_28 : vI mX7_trades 28 .ireturn 1 29 := ⟨by decide +kernel, rfl⟩
theorem rX7_trades_29 : vLa mX7_trades 29 0 30 := ⟨0, by decide +kernel, rfl, rfl⟩
theorem rX7_trades_30 : vGf mX7_trades 30 7 5 33 := ⟨39, (RX7, TX7, 10), by decide +kernel, rfl, rfl, by decide, tF218⟩
theorem rX7_trades_33 : vLa mX7_trades 33 0 34 := ⟨0, by decide +kernel, rfl, rfl⟩
theorem rX7_trades_34 : vGf mX7_trades 34 7 3 37 := ⟨29, (RX7, TX7, 10), by decide +kernel, rfl, rfl, by decide, tF216⟩
theorem rX7_trades_37 : vKv mX7_trades 37 mX4_remember 1 4 40 := ⟨156, (RX4, TX4, 3), by decide +kernel, rfl, kX4_remember, tF429, tF428, tF430, rfl, rfl⟩
theorem rX7_trades_40 : vLa mX7_trades 40 0 41 := ⟨0, by decide +kernel, rfl, rfl⟩
theorem rX7_trades_41 : vGf mX7_trades 41 7 3 44 := ⟨29, (RX7, TX7, 10), by decide +kernel, rfl, rfl, by decide, tF216⟩
theorem rX7_trades_44 : vGf mX7_trades 44 1 2 47 := ⟨106, (RX1, TX1, 6), by decide +kernel, rfl, rfl, by decide, tF122⟩
theorem rX7_trades_47 : vLi mX7_trades 47 1 48 := Or.inl ⟨1, by decide +kernel, rfl, rfl⟩
theorem rX7_trades_48 : vKs mX7_trades 48 mX7_at 2 51 := ⟨102, by decide +kernel, rfl, kX7_at, tF286, Or.inl tF376⟩
theorem rX7_trades_51 : vSi mX7_trades 51 3 52 := ⟨Or.inl ⟨3, by decide +kernel, rfl, rfl⟩, by decide⟩
theorem rX7_trades_52 : vLa mX7_trades 52 0 53 := ⟨0, by decide +kernel, rfl, rfl⟩
theorem rX7_trades_53 : vGf mX7_trades 53 7 3 56 := ⟨29, (RX7, TX7, 10), by decide +kernel, rfl, rfl, by decide, tF216⟩
theorem rX7_trades_56 : vGf mX7_trades 56 1 2 59 := ⟨106, (RX1, TX1, 6), by decide +kernel, rfl, rfl, by decide, tF122⟩
theorem rX7_trades_59 : vLi mX7_trades 59 1 60 := Or.inl ⟨1, by decide +kernel, rfl, rfl⟩
theorem rX7_trades_60 : vLa mX7_trades 60 0 61 := ⟨0, by decide +kernel, rfl, rfl⟩
theorem rX7_trades_61 : vGf mX7_trades 61 7 3 64 := ⟨29, (RX7, TX7, 10), by decide +kernel, rfl, rfl, by decide, tF216⟩
theorem rX7_trades_64 : vGf mX7_trades 64 1 2 67 := ⟨106, (RX1, TX1, 6), by decide +kernel, rfl, rfl, by decide, tF122⟩
theorem rX7_trades_67 : vLi mX7_trades 67 2 68 := Or.inl ⟨2, by decide +kernel, rfl, rfl⟩
theorem rX7_trades_68 : vKs mX7_trades 68 mX7_at 2 71 := ⟨102, by decide +kernel, rfl, kX7_at, tF286, Or.inl tF376⟩
theorem rX7_trades_71 : vKs mX7_trades 71 mX7_put 3 74 := ⟨164, by decide +kernel, rfl, kX7_put, tF256, Or.inl tF478⟩
theorem rX7_trades_74 : vLa mX7_trades 74 0 75 := ⟨0, by decide +kernel, rfl, rfl⟩
theorem rX7_trades_75 : vGf mX7_trades 75 7 3 78 := ⟨29, (RX7, TX7, 10), by decide +kernel, rfl, rfl, by decide, tF216⟩
theorem rX7_trades_78 : vGf mX7_trades 78 1 2 81 := ⟨106, (RX1, TX1, 6), by decide +kernel, rfl, rfl, by decide, tF122⟩
theorem rX7_trades_81 : vLi mX7_trades 81 2 82 := Or.inl ⟨2, by decide +kernel, rfl, rfl⟩
theorem rX7_trades_82 : vLi mX7_trades 82 3 83 := Or.inl ⟨3, by decide +kernel, rfl, rfl⟩
theorem rX7_trades_83 : vKs mX7_trades 83 mX7_put 3 86 := ⟨164, by decide +kernel, rfl, kX7_put, tF256, Or.inl tF478⟩
theorem rX7_trades_86 : vLa mX7_trades 86 0 87 := ⟨0, by decide +kernel, rfl, rfl⟩
theorem rX7_trades_87 : vGf mX7_trades 87 7 3 90 := ⟨29, (RX7, TX7, 10), by decide +kernel, rfl, rfl, by decide, tF216⟩
theorem rX7_trades_90 : vLa mX7_trades 90 0 91 := ⟨0, by decide +kernel, rfl, rfl⟩
theorem rX7_trades_91 : vGf mX7_trades 91 7 1 94 := ⟨19, (RX7, TX7, 10), by decide +kernel, rfl, rfl, by decide, tF214⟩
theorem rX7_trades_94 : vKv mX7_trades 94 mX1_cutTowers 1 1 97 := ⟨168, (RX1, TX1, 6), by decide +kernel, rfl, kX1_cutTowers, tF470, tF479, tF471, rfl, rfl⟩
theorem rX7_trades_97 : vI mX7_trades 97 .ireturn 1 98 := ⟨by decide +kernel, rfl⟩
theorem rX7_widens_0 : vLa mX7_widens 0 0 1 := ⟨0, by decide +kernel, rfl, rfl⟩
theorem rX7_widens_1 : vGf mX7_widens 1 7 1 4 := ⟨19, (RX7, TX7, 10), by decide +kernel, rfl, rfl, by decide, tF214⟩
theorem rX7_widens_4 : vLi mX7_widens 4 1 5 := Or.inl ⟨1, by decide +kernel, rfl, rfl⟩
theorem rX7_widens_5 : vKv mX7_widens 5 mX6_hasTown 1 6 8 := ⟨95, (RX6, TX6, 11), by decide +kernel, rfl, kX6_hasTown, tF311, tF375, tF312, rfl, rfl⟩
theorem rX7_widens_8 : vIf mX7_widens 8 .eq 21 11 := ⟨13, by decide +kernel, by decide, rfl⟩
theorem rX7_widens_11 : vLi mX7_widens 11 2 12 := Or.inl ⟨2, by decide +kernel, rfl, rfl⟩
theorem rX7_widens_12 : vCn mX7_widens 12 (nI 1) 13 := Or.inl ⟨1, by decide +kernel, by decide +kernel, rfl⟩
theorem rX7_widens_13 : vCn mX7_widens 13 (nI 99) 15 := Or.inr (Or.inl ⟨99, by decide +kernel, by decide +kernel, rfl⟩)
theorem rX7_widens_15 : vKs mX7_widens 15 mX7_within 3 18 := ⟨64, by decide +kernel, rfl, kX7_within, tF249, Or.inl tF248⟩
theorem rX7_widens_18 : vIf mX7_widens 18 .ne 23 21 := ⟨5, by decide +kernel, by decide, rfl⟩
theorem rX7_widens_21 : vCn mX7_widens 21 (-1) 22 := Or.inl ⟨-1, by decide +kernel, by decide +kernel, rfl⟩
theorem rX7_widens_22 : vI mX7_widens 22 .ireturn 1 23 := ⟨by decide +kernel, rfl⟩
theorem rX7_widens_23 : vLa mX7_widens 23 0 24 := ⟨0, by decide +kernel, rfl, rfl⟩
theorem rX7_widens_24 : vGf mX7_widens 24 7 1 27 := ⟨19, (RX7, TX7, 10), by decide +kernel, rfl, rfl, by decide, tF214⟩
theorem rX7_widens_27 : vGf mX7_widens 27 6 4 30 := ⟨116, (RX6, TX6, 11), by decide +kernel, rfl, rfl, by decide, tF72⟩
theorem rX7_widens_30 : vLa mX7_widens 30 0 31 := ⟨0, by decide +kernel, rfl, rfl⟩
theorem rX7_widens_31 : vGf mX7_widens 31 7 3 34 := ⟨29, (RX7, TX7, 10), by decide +kernel, rfl, rfl, by decide, tF216⟩
theorem rX7_widens_34 : vGf mX7_widens 34 1 2 37 := ⟨106, (RX1, TX1, 6), by decide +kernel, rfl, rfl, by decide, tF122⟩
theorem rX7_widens_37 : vLi mX7_widens 37 1 38 := Or.inl ⟨1, by decide +kernel, rfl, rfl⟩
theorem rX7_widens_38 : vKs mX7_widens 38 mX7_at 2 41 := ⟨102, by decide +kernel, rfl, kX7_at, tF286, Or.inl tF376⟩
theorem rX7_widens_41 : vKs mX7_widens 41 mX7_at 2 44 := ⟨102, by decide +kernel, rfl, kX7_at, tF286, Or.inl tF376⟩
theorem rX7_widens_44 : vLi mX7_widens 44 2 45 := Or.inl ⟨2, by decide +kernel, rfl, rfl⟩
theorem rX7_widens_45 : vIc mX7_widens 45 .le 51 48 := ⟨6, by decide +kernel, by decide, rfl⟩
theorem rX7_widens_48 : vCn mX7_widens 48 (-2) 50 := Or.inr (Or.inl ⟨-2, by decide +kernel, by decide +kernel, rfl⟩)
theorem rX7_widens_50 : vI mX7_widens 50 .ireturn 1 51 := ⟨by decide +kernel, rfl⟩
theorem rX7_widens_51 : vLa mX7_widens 51 0 52 := ⟨0, by decide +kernel, rfl, rfl⟩
theorem rX7_widens_52 : vGf mX7_widens 52 7 5 55 := ⟨39, (RX7, TX7, 10), by decide +kernel, rfl, rfl, by decide, tF218⟩
theorem rX7_widens_55 : vLa mX7_widens 55 0 56 := ⟨0, by decide +kernel, rfl, rfl⟩
theorem rX7_widens_56 : vGf mX7_widens 56 7 3 59 := ⟨29, (RX7, TX7, 10), by decide +kernel, rfl, rfl, by decide, tF216⟩
theorem rX7_widens_59 : vKv mX7_widens 59 mX4_remember 1 4 62 := ⟨156, (RX4, TX4, 3), by decide +kernel, rfl, kX4_remember, tF429, tF428, tF430, rfl, rfl⟩
theorem rX7_widens_62 : vLa mX7_widens 62 0 63 := ⟨0, by decide +kernel, rfl, rfl⟩
theorem rX7_widens_63 : vGf mX7_widens 63 7 3 66 := ⟨29, (RX7, TX7, 10), by decide +kernel, rfl, rfl, by decide, tF216⟩
theorem rX7_widens_66 : vGf mX7_widens 66 1 3 69 := ⟨98, (RX1, TX1, 6), by decide +kernel, rfl, rfl, by decide, tF124⟩
theorem rX7_widens_69 : vLi mX7_widens 69 1 70 := Or.inl ⟨1, by decide +kernel, rfl, rfl⟩
theorem rX7_widens_70 : vKs mX7_widens 70 mX7_at 2 73 := ⟨102, by decide +kernel, rfl, kX7_at, tF286, Or.inl tF376⟩
theorem rX7_widens_73 : vSi mX7_widens 73 3 74 := ⟨Or.inl ⟨3, by decide +kernel, rfl, rfl⟩, by decide⟩
theorem rX7_widens_74 : vLa mX7_widens 74 0 75 := ⟨0, by decide +kernel, rfl, rfl⟩
theorem rX7_widens_75 : vGf mX7_widens 75 7 3 78 := ⟨29, (RX7, TX7, 10), by decide +kernel, rfl, rfl, by decide, tF216⟩
theorem rX7_widens_78 : vGf mX7_widens 78 1 3 81 := ⟨98, (RX1, TX1, 6), by decide +kernel, rfl, rfl, by decide, tF124⟩
theorem rX7_widens_81 : vLi mX7_widens 81 1 82 := Or.inl ⟨1, by decide +kernel, rfl, rfl⟩
theorem rX7_widens_82 : vLi mX7_widens 82 2 83 := Or.inl ⟨2, by decide +kernel, rfl, rfl⟩
theorem rX7_widens_83 : vKs mX7_widens 83 mX7_put 3 86 := ⟨164, by decide +kernel, rfl, kX7_put, tF256, Or.inl tF478⟩
theorem rX7_widens_86 : vLi mX7_widens 86 3 87 := Or.inl ⟨3, by decide +kernel, rfl, rfl⟩
theorem rX7_widens_87 : vI mX7_widens 87 .ireturn 1 88 := ⟨by decide +kernel, rfl⟩
theorem rX7_undo_0 : vLa mX7_undo 0 0 1 := ⟨0, by decide +kernel, rfl, rfl⟩
theorem rX7_undo_1 : vGf mX7_undo 1 7 5 4 := ⟨39, (RX7, TX7, 10), by decide +kernel, rfl, rfl, by decide, tF218⟩
theorem rX7_undo_4 : vLa mX7_undo 4 0 5 := ⟨0, by decide +kernel, rfl, rfl⟩
theorem rX7_undo_5 : vGf mX7_undo 5 7 3 8 := ⟨29, (RX7, TX7, 10), by decide +kernel, rfl, rfl, by decide, tF216⟩
theorem rX7_undo_8 : vKv mX7_undo 8 mX4_recallInto 1 4 11 := ⟨171, (RX4, TX4, 3), by decide +kernel, rfl, kX4_recallInto, tF489, tF488, tF490, rfl, rfl⟩
theorem rX7_undo_11 : vIf mX7_undo 11 .eq 24 14 := ⟨13, by decide +kernel, by decide, rfl⟩
theorem rX7_undo_14 : vLa mX7_undo 14 0 15 := ⟨0, by decide +kernel, rfl, rfl⟩
theorem rX7_undo_15 : vGf mX7_undo 15 7 5 18 := ⟨39, (RX7, TX7, 10), by decide +kernel, rfl, rfl, by decide, tF218⟩
theorem rX7_undo_18 : vGf mX7_undo 18 4 2 21 := ⟨153, (RX4, TX4, 3), by decide +kernel, rfl, rfl, by decide, tF154⟩
theorem rX7_undo_21 : vGo mX7_undo 21 26 := ⟨5, by decide +kernel, by decide⟩
theorem rX7_undo_24 : vCn mX7_undo 24 (-2) 26 := Or.inr (Or.inl ⟨-2, by decide +kernel, by decide +kernel, rfl⟩)
theorem rX7_undo_26 : vI mX7_undo 26 .ireturn 1 27 := ⟨by decide +kernel, rfl⟩
theorem rX7_inLots_0 : vLi mX7_inLots 0 1 1 := Or.inl ⟨1, by decide +kernel, rfl, rfl⟩
theorem rX7_inLots_1 : vCn mX7_inLots 1 (nI 0) 2 := Or.inl ⟨0, by decide +kernel, by decide +kernel, rfl⟩
theorem rX7_inLots_2 : vCn mX7_inLots 2 (nI 9999) 5 := Or.inr (Or.inr (Or.inl ⟨9999, by decide +kernel, by decide +kernel, rfl⟩))
theorem rX7_inLots_5 : vKs mX7_inLots 5 mX7_within 3 8 := ⟨64, by decide +kernel, rfl, kX7_within, tF249, Or.inl tF248⟩
theorem rX7_inLots_8 : vIf mX7_inLots 8 .eq 37 11 := ⟨29, by decide +kernel, by decide, rfl⟩
theorem rX7_inLots_11 : vLi mX7_inLots 11 2 12 := Or.inl ⟨2, by decide +kernel, rfl, rfl⟩
theorem rX7_inLots_12 : vCn mX7_inLots 12 (nI 0) 13 := Or.inl ⟨0, by decide +kernel, by decide +kernel, rfl⟩
theorem rX7_inLots_13 : vCn mX7_inLots 13 (nI 20) 15 := Or.inr (Or.inl ⟨20, by decide +kernel, by decide +kernel, rfl⟩)
theorem rX7_inLots_15 : vKs mX7_inLots 15 mX7_within 3 18 := ⟨64, by decide +kernel, rfl, kX7_within, tF249, Or.inl tF248⟩
theorem rX7_inLots_18 : vIf mX7_inLots 18 .eq 37 21 := ⟨19, by decide +kernel, by decide, rfl⟩
theorem rX7_inLots_21 : vLi mX7_inLots 21 3 22 := Or.inl ⟨3, by decide +kernel, rfl, rfl⟩
theorem rX7_inLots_22 : vCn mX7_inLots 22 (-1) 23 := Or.inl ⟨-1, by decide +kernel, by decide +kernel, rfl⟩
theorem rX7_inLots_23 : vIc mX7_inLots 23 .eq 39 26 := ⟨16, by decide +kernel, by decide, rfl⟩
theorem rX7_inLots_26 : vLa mX7_inLots 26 0 27 := ⟨0, by decide +kernel, rfl, rfl⟩
theorem rX7_inLots_27 : vGf mX7_inLots 27 7 1 30 := ⟨19, (RX7, TX7, 10), by decide +kernel, rfl, rfl, by decide, tF214⟩
theorem rX7_inLots_30 : vLi mX7_inLots 30 3 31 := Or.inl ⟨3, by decide +kernel, rfl, rfl⟩
theorem rX7_inLots_31 : vKv mX7_inLots 31 mX6_hasTown 1 6 34 := ⟨95, (RX6, TX6, 11), by decide +kernel, rfl, kX6_hasTown, tF311, tF375, tF312, rfl, rfl⟩
theorem rX7_inLots_34 : vIf mX7_inLots 34 .ne 39 37 := ⟨5, by decide +kernel, by decide, rfl⟩
theorem rX7_inLots_37 : vCn mX7_inLots 37 (-1) 38 := Or.inl ⟨-1, by decide +kernel, by decide +kernel, rfl⟩
theorem rX7_inLots_38 : vI mX7_inLots 38 .ireturn 1 39 := ⟨by decide +kernel, rfl⟩
theorem rX7_inLots_39 : vLa mX7_inLots 39 0 40 := ⟨0, by decide +kernel, rfl, rfl⟩
theorem rX7_inLots_40 : vGf mX7_inLots 40 7 4 43 := ⟨33, (RX7, TX7, 10), by decide +kernel, rfl, rfl, by decide, tF217⟩
theorem rX7_inLots_43 : vLa mX7_inLots 43 0 44 := ⟨0, by decide +kernel, rfl, rfl⟩
theorem rX7_inLots_44 : vGf mX7_inLots 44 7 3 47 := ⟨29, (RX7, TX7, 10), by decide +kernel, rfl, rfl, by decide, tF216⟩
theorem rX7_inLots_47 : vKv mX7_inLots 47 mX1_copyFrom 1 1 50 := ⟨175, (RX1, TX1, 6), by decide +kernel, rfl, kX1_copyFrom, tF435, tF496, tF436, rfl, rfl⟩
theorem rX7_inLots_50 : vCn mX7_inLots 50 (nI 0) 51 := Or.inl ⟨0, by decide +kernel, by decide +kernel, rfl⟩
theorem rX7_inLots_51 : vSi mX7_inLots 51 4 53 := ⟨Or.inr ⟨by decide +kernel, rfl⟩, by decide⟩
theorem rX7_inLots_53 : vCn mX7_inLots 53 (nI 0) 54 := Or.inl ⟨0, by decide +kernel, by decide +kernel, rfl⟩
theorem rX7_inLots_54 : vSi mX7_inLots 54 5 56 := ⟨Or.inr ⟨by decide +kernel, rfl⟩, by decide⟩
theorem rX7_inLots_56 : vLi mX7_inLots 56 5 58 := Or.inr ⟨by decide +kernel, rfl⟩
theorem rX7_inLots_58 : vLi mX7_inLots 58 2 59 := Or.inl ⟨2, by decide +kernel, rfl, rfl⟩
theorem rX7_inLots_59 : vIc mX7_inLots 59 .ge 96 62 := ⟨37, by decide +kernel, by decide, rfl⟩
theorem rX7_inLots_62 : vLi mX7_inLots 62 4 64 := Or.inr ⟨by decide +kernel, rfl⟩
theorem rX7_inLots_64 : vLa mX7_inLots 64 0 65 := ⟨0, by decide +kernel, rfl, rfl⟩
theorem rX7_inLots_65 : vGf mX7_inLots 65 7 4 68 := ⟨33, (RX7, TX7, 10), by decide +kernel, rfl, rfl, by decide, tF217⟩
theorem rX7_inLots_68 : vLa mX7_inLots 68 0 69 := ⟨0, by decide +kernel, rfl, rfl⟩
theorem rX7_inLots_69 : vGf mX7_inLots 69 7 1 72 := ⟨19, (RX7, TX7, 10), by decide +kernel, rfl, rfl, by decide, tF214⟩
theorem rX7_inLots_72 : vLa mX7_inLots 72 0 73 := ⟨0, by decide +kernel, rfl, rfl⟩
theorem rX7_inLots_73 : vGf mX7_inLots 73 7 8 76 := ⟨60, (RX7, TX7, 10), by decide +kernel, rfl, rfl, by decide, tF221⟩
theorem rX7_inLots_76 : vLi mX7_inLots 76 1 77 := Or.inl ⟨1, by decide +kernel, rfl, rfl⟩
theorem rX7_inLots_77 : vLi mX7_inLots 77 5 79 := Or.inr ⟨by decide +kernel, rfl⟩
theorem rX7_inLots_79 : vI mX7_inLots 79 .iadd 1 80 := ⟨by decide +kernel, rfl⟩
theorem rX7_inLots_80 : vCn mX7_inLots 80 (nI 10000) 83 := Or.inr (Or.inr (Or.inl ⟨10000, by decide +kernel, by decide +kernel, rfl⟩))
theorem rX7_inLots_83 : vI mX7_inLots 83 .irem 1 84 := ⟨by decide +kernel, rfl⟩
theorem rX7_inLots_84 : vKv mX7_inLots 84 mX1_passTerm 3 1 87 := ⟨160, (RX1, TX1, 6), by decide +kernel, rfl, kX1_passTerm, tF439, tF438, tF440, rfl, rfl⟩
theorem rX7_inLots_87 : vI mX7_inLots 87 .iadd 1 88 := ⟨by decide +kernel, rfl⟩
theorem rX7_inLots_88 : vSi mX7_inLots 88 4 90 := ⟨Or.inr ⟨by decide +kernel, rfl⟩, by decide⟩
theorem rX7_inLots_90 : vIn mX7_inLots 90 5 (nI 1) 93 := ⟨1, by decide +kernel, by decide +kernel, by decide, rfl⟩
theorem rX7_inLots_93 : vGo mX7_inLots 93 56 := ⟨-37, by decide +kernel, by decide⟩
theorem rX7_inLots_96 : vLi mX7_inLots 96 3 97 := Or.inl ⟨3, by decide +kernel, rfl, rfl⟩
theorem rX7_inLots_97 : vCn mX7_inLots 97 (-1) 98 := Or.inl ⟨-1, by decide +kernel, by decide +kernel, rfl⟩
theorem rX7_inLots_98 : vIc mX7_inLots 98 .ne 106 101 := ⟨8, by decide +kernel, by decide, rfl⟩
theorem rX7_inLots_101 : vLi mX7_inLots 101 4 103 := Or.inr ⟨by decide +kernel, rfl⟩
theorem rX7_inLots_103 : vGo mX7_inLots 103 117 := ⟨14, by decide +kernel, by decide⟩
theorem rX7_inLots_106 : vLa mX7_inLots 106 0 107 := ⟨0, by decide +kernel, rfl, rfl⟩
theorem rX7_inLots_107 : vGf mX7_inLots 107 7 4 110 := ⟨33, (RX7, TX7, 10), by decide +kernel, rfl, rfl, by decide, tF217⟩
theorem rX7_inLots_110 : vGf mX7_inLots 110 1 2 113 := ⟨106, (RX1, TX1, 6), by decide +kernel, rfl, rfl, by decide, tF122⟩
theorem rX7_inLots_113 : vLi mX7_inLots 113 3 114 := Or.inl ⟨3, by decide +kernel, rfl, rfl⟩
theorem rX7_inLots_114 : vKs mX7_inLots 114 mX7_at 2 117 := ⟨102, by decide +kernel, rfl, kX7_at, tF286, Or.inl tF376⟩
theorem rX7_inLots_117 : vI mX7_inLots 117 .ireturn 1 118 := ⟨by decide +kernel, rfl⟩
theorem rX7_cost_0 : vLi mX7_cost 0 1 1 := Or.inl ⟨1, by decide +kernel, rfl, rfl⟩
theorem rX7_cost_1 : vCn mX7_cost 1 (nI 0) 2 := Or.inl ⟨0, by decide +kernel, by decide +kernel, rfl⟩
theorem rX7_cost_2 : vCn mX7_cost 2 (nI 9999) 5 := Or.inr (Or.inr (Or.inl ⟨9999, by decide +kernel, by decide +kernel, rfl⟩))
theorem rX7_cost_5 : vKs mX7_cost 5 mX7_within 3 8 := ⟨64, by decide +kernel, rfl, kX7_within, tF249, Or.inl tF248⟩
theorem rX7_cost_8 : vIf mX7_cost 8 .ne 13 11 := ⟨5, by decide +kernel, by decide, rfl⟩
theorem rX7_cost_11 : vCn mX7_cost 11 (-1) 12 := Or.inl ⟨-1, by decide +kernel, by decide +kernel, rfl⟩
theorem rX7_cost_12 : vI mX7_cost 12 .ireturn 1 13 := ⟨by decide +kernel, rfl⟩
theorem rX7_cost_13 : vLa mX7_cost 13 0 14 := ⟨0, by decide +kernel, rfl, rfl⟩
theorem rX7_cost_14 : vGf mX7_cost 14 7 8 17 := ⟨60, (RX7, TX7, 10), by decide +kernel, rfl, rfl, by decide, tF221⟩
theorem rX7_cost_17 : vLa mX7_cost 17 0 18 := ⟨0, by decide +kernel, rfl, rfl⟩
theorem rX7_cost_18 : vGf mX7_cost 18 7 1 21 := ⟨19, (RX7, TX7, 10), by decide +kernel, rfl, rfl, by decide, tF214⟩
theorem rX7_cost_21 : vGf mX7_cost 21 6 0 24 := ⟨178, (RX6, TX6, 11), by decide +kernel, rfl, rfl, by decide, tF61⟩
theorem rX7_cost_24 : vLi mX7_cost 24 1 25 := Or.inl ⟨1, by decide +kernel, rfl, rfl⟩
theorem rX7_cost_25 : vKv mX7_cost 25 mX3_drawBy 2 3 28 := ⟨181, (RX3, TX3, 3), by decide +kernel, rfl, kX3_drawBy, tF449, tF501, tF450, rfl, rfl⟩
theorem rX7_cost_28 : vCn mX7_cost 28 (nI 0) 29 := Or.inl ⟨0, by decide +kernel, by decide +kernel, rfl⟩
theorem rX7_cost_29 : vSi mX7_cost 29 2 30 := ⟨Or.inl ⟨2, by decide +kernel, rfl, rfl⟩, by decide⟩
theorem rX7_cost_30 : vCn mX7_cost 30 (nI 0) 31 := Or.inl ⟨0, by decide +kernel, by decide +kernel, rfl⟩
theorem rX7_cost_31 : vSi mX7_cost 31 3 32 := ⟨Or.inl ⟨3, by decide +kernel, rfl, rfl⟩, by decide⟩
theorem rX7_cost_32 : vLi mX7_cost 32 3 33 := Or.inl ⟨3, by decide +kernel, rfl, rfl⟩
theorem rX7_cost_33 : vLa mX7_cost 33 0 34 := ⟨0, by decide +kernel, rfl, rfl⟩
theorem rX7_cost_34 : vGf mX7_cost 34 7 1 37 := ⟨19, (RX7, TX7, 10), by decide +kernel, rfl, rfl, by decide, tF214⟩
theorem rX7_cost_37 : vGf mX7_cost 37 6 0 40 := ⟨178, (RX6, TX6, 11), by decide +kernel, rfl, rfl, by decide, tF61⟩
theorem rX7_cost_40 : vIc mX7_cost 40 .ge 112 43 := ⟨72, by decide +kernel, by decide, rfl⟩
theorem rX7_cost_43 : vLa mX7_cost 43 0 44 := ⟨0, by decide +kernel, rfl, rfl⟩
theorem rX7_cost_44 : vGf mX7_cost 44 7 8 47 := ⟨60, (RX7, TX7, 10), by decide +kernel, rfl, rfl, by decide, tF221⟩
theorem rX7_cost_47 : vGf mX7_cost 47 3 0 50 := ⟨185, (RX3, TX3, 3), by decide +kernel, rfl, rfl, by decide, tF203⟩
theorem rX7_cost_50 : vLi mX7_cost 50 3 51 := Or.inl ⟨3, by decide +kernel, rfl, rfl⟩
theorem rX7_cost_51 : vKs mX7_cost 51 mX7_at 2 54 := ⟨102, by decide +kernel, rfl, kX7_at, tF286, Or.inl tF376⟩
theorem rX7_cost_54 : vSi mX7_cost 54 4 56 := ⟨Or.inr ⟨by decide +kernel, rfl⟩, by decide⟩
theorem rX7_cost_56 : vLa mX7_cost 56 0 57 := ⟨0, by decide +kernel, rfl, rfl⟩
theorem rX7_cost_57 : vGf mX7_cost 57 7 1 60 := ⟨19, (RX7, TX7, 10), by decide +kernel, rfl, rfl, by decide, tF214⟩
theorem rX7_cost_60 : vLi mX7_cost 60 4 62 := Or.inr ⟨by decide +kernel, rfl⟩
theorem rX7_cost_62 : vLi mX7_cost 62 3 63 := Or.inl ⟨3, by decide +kernel, rfl, rfl⟩
theorem rX7_cost_63 : vKv mX7_cost 63 mX6_wayBetween 2 6 66 := ⟨125, (RX6, TX6, 11), by decide +kernel, rfl, kX6_wayBetween, tF348, tF411, tF349, rfl, rfl⟩
theorem rX7_cost_66 : vSi mX7_cost 66 5 68 := ⟨Or.inr ⟨by decide +kernel, rfl⟩, by decide⟩
theorem rX7_cost_68 : vLi mX7_cost 68 5 70 := Or.inr ⟨by decide +kernel, rfl⟩
theorem rX7_cost_70 : vCn mX7_cost 70 (-9) 72 := Or.inr (Or.inl ⟨-9, by decide +kernel, by decide +kernel, rfl⟩)
theorem rX7_cost_72 : vIc mX7_cost 72 .ne 78 75 := ⟨6, by decide +kernel, by decide, rfl⟩
theorem rX7_cost_75 : vCn mX7_cost 75 (-9) 77 := Or.inr (Or.inl ⟨-9, by decide +kernel, by decide +kernel, rfl⟩)
theorem rX7_cost_77 : vI mX7_cost 77 .ireturn 1 78 := ⟨by decide +kernel, rfl⟩
theorem rX7_cost_78 : vLi mX7_cost 78 2 79 := Or.inl ⟨2, by decide +kernel, rfl, rfl⟩
theorem rX7_cost_79 : vLa mX7_cost 79 0 80 := ⟨0, by decide +kernel, rfl, rfl⟩
theorem rX7_cost_80 : vGf mX7_cost 80 7 1 83 := ⟨19, (RX7, TX7, 10), by decide +kernel, rfl, rfl, by decide, tF214⟩
theorem rX7_cost_83 : vGf mX7_cost 83 6 4 86 := ⟨116, (RX6, TX6, 11), by decide +kernel, rfl, rfl, by decide, tF72⟩
theorem rX7_cost_86 : vLa mX7_cost 86 0 87 := ⟨0, by decide +kernel, rfl, rfl⟩
theorem rX7_cost_87 : vGf mX7_cost 87 7 3 90 := ⟨29, (RX7, TX7, 10), by decide +kernel, rfl, rfl, by decide, tF216⟩
theorem rX7_cost_90 : vGf mX7_cost 90 1 2 93 := ⟨106, (RX1, TX1, 6), by decide +kernel, rfl, rfl, by decide, tF122⟩
theorem rX7_cost_93 : vLi mX7_cost 93 4 95 := Or.inr ⟨by decide +kernel, rfl⟩
theorem rX7_cost_95 : vKs mX7_cost 95 mX7_at 2 98 := ⟨102, by decide +kernel, rfl, kX7_at, tF286, Or.inl tF376⟩
theorem rX7_cost_98 : vKs mX7_cost 98 mX7_at 2 101 := ⟨102, by decide +kernel, rfl, kX7_at, tF286, Or.inl tF376⟩
theorem rX7_cost_101 : vLi mX7_cost 101 5 103 := Or.inr ⟨by decide +kernel, rfl⟩
theorem rX7_cost_103 : vI mX7_cost 103 .imul 1 104 := ⟨by decide +kernel, rfl⟩
theorem rX7_cost_104 : vI mX7_cost 104 .iadd 1 105 := ⟨by decide +kernel, rfl⟩
theorem rX7_cost_105 : vSi mX7_cost 105 2 106 := ⟨Or.inl ⟨2, by decide +kernel, rfl, rfl⟩, by decide⟩
theorem rX7_cost_106 : vIn mX7_cost 106 3 (nI 1) 109 := ⟨1, by decide +kernel, by decide +kernel, by decide, rfl⟩
theorem rX7_cost_109 : vGo mX7_cost 109 32 := ⟨-77, by decide +kernel, by decide⟩
theorem rX7_cost_112 : vLi mX7_cost 112 2 113 := Or.inl ⟨2, by decide +kernel, rfl, rfl⟩
theorem rX7_cost_113 : vI mX7_cost 113 .ireturn 1 114 := ⟨by decide +kernel, rfl⟩
theorem rX7_home_0 : vLi mX7_home 0 1 1 := Or.inl ⟨1, by decide +kernel, rfl, rfl⟩
theorem rX7_home_1 : vLk mX7_home 1 [(0, 27), (1, 40)] 45 := ⟨27, by decide +kernel, by decide⟩
theorem rX7_home_28 : vLa mX7_home 28 0 29 := ⟨0, by decide +kernel, rfl, rfl⟩
theorem rX7_home_29 : vGf mX7_home 29 7 1 32 := ⟨19, (RX7, TX7, 10), by decide +kernel, rfl, rfl, by decide, tF214⟩
theorem rX7_home_32 : vGf mX7_home 32 6 0 35 := ⟨178, (RX6, TX6, 11), by decide +kernel, rfl, rfl, by decide, tF61⟩
theorem rX7_home_35 : vLa mX7_home 35 0 36 := ⟨0, by decide +kernel, rfl, rfl⟩
theorem rX7_home_36 : vKv mX7_home 36 mX7_rings 0 7 39 := ⟨188, (RX7, TX7, 10), by decide +kernel, rfl, kX7_rings, tF508, tF506, tS15, rfl, rfl⟩
theorem rX7_home_39 : vI mX7_home 39 .isub 1 40 := ⟨by decide +kernel, rfl⟩
theorem rX7_home_40 : vI mX7_home 40 .ireturn 1 41 := ⟨by decide +kernel, rfl⟩
theorem rX7_home_41 : vLa mX7_home 41 0 42 := ⟨0, by decide +kernel, rfl, rfl⟩
theorem rX7_home_42 : vKv mX7_home 42 mX7_firstTradeHome 0 7 45 := ⟨191, (RX7, TX7, 10), by decide +kernel, rfl, kX7_firstTradeHome, tF512, tF510, tS16, rfl, rfl⟩
theorem rX7_home_45 : vI mX7_home 45 .ireturn 1 46 := ⟨by decide +kernel, rfl⟩
theorem rX7_home_46 : vCn mX7_home 46 (-1) 47 := Or.inl ⟨-1, by decide +kernel, by decide +kernel, rfl⟩
theorem rX7_home_47 : vI mX7_home 47 .ireturn 1 48 := ⟨by decide +kernel, rfl⟩
theorem rX7_hang_0 : vLi mX7_hang 0 1 1 := Or.inl ⟨1, by decide +kernel, rfl, rfl⟩
theorem rX7_hang_1 : vCn mX7_hang 1 (-1) 2 := Or.inl ⟨-1, by decide +kernel, by decide +kernel, rfl⟩
theorem rX7_hang_2 : vIc mX7_hang 2 .eq 18 5 := ⟨16, by decide +kernel, by decide, rfl⟩
theorem rX7_hang_5 : vLa mX7_hang 5 0 6 := ⟨0, by decide +kernel, rfl, rfl⟩
theorem rX7_hang_6 : vGf mX7_hang 6 7 1 9 := ⟨19, (RX7, TX7, 10), by decide +kernel, rfl, rfl, by decide, tF214⟩
theorem rX7_hang_9 : vLi mX7_hang 9 1 10 := Or.inl ⟨1, by decide +kernel, rfl, rfl⟩
theorem rX7_hang_10 : vKv mX7_hang 10 mX6_hasTown 1 6 13 := ⟨95, (RX6, TX6, 11), by decide +kernel, rfl, kX6_hasTown, tF311, tF375, tF312, rfl, rfl⟩
theorem rX7_hang_13 : vIf mX7_hang 13 .ne 18 16 := ⟨5, by decide +kernel, by decide, rfl⟩
theorem rX7_hang_16 : vCn mX7_hang 16 (-1) 17 := Or.inl ⟨-1, by decide +kernel, by decide +kernel, rfl⟩
theorem rX7_hang_17 : vI mX7_hang 17 .ireturn 1 18 := ⟨by decide +kernel, rfl⟩
theorem rX7_hang_18 : vLi mX7_hang 18 1 19 := Or.inl ⟨1, by decide +kernel, rfl, rfl⟩
theorem rX7_hang_19 : vCn mX7_hang 19 (-1) 20 := Or.inl ⟨-1, by decide +kernel, by decide +kernel, rfl⟩
theorem rX7_hang_20 : vIc mX7_hang 20 .ne 27 23 := ⟨7, by decide +kernel, by decide, rfl⟩
theorem rX7_hang_23 : vCn mX7_hang 23 (nI 0) 24 := Or.inl ⟨0, by decide +kernel, by decide +kernel, rfl⟩
theorem rX7_hang_24 : vGo mX7_hang 24 38 := ⟨14, by decide +kernel, by decide⟩
theorem rX7_hang_27 : vLa mX7_hang 27 0 28 := ⟨0, by decide +kernel, rfl, rfl⟩
theorem rX7_hang_28 : vGf mX7_hang 28 7 3 31 := ⟨29, (RX7, TX7, 10), by decide +kernel, rfl, rfl, by decide, tF216⟩
theorem rX7_hang_31 : vGf mX7_hang 31 1 2 34 := ⟨106, (RX1, TX1, 6), by decide +kernel, rfl, rfl, by decide, tF122⟩
theorem rX7_hang_34 : vLi mX7_hang 34 1 35 := Or.inl ⟨1, by decide +kernel, rfl, rfl⟩
theorem rX7_hang_35 : vKs mX7_hang 35 mX7_at 2 38 := ⟨102, by decide +kernel, rfl, kX7_at, tF286, Or.inl tF376⟩
theorem rX7_hang_38 : vI mX7_hang 38 .ireturn 1 39 := ⟨by decide +kernel, rfl⟩
theorem rX7_round_0 : vLi mX7_round 0 1 1 := Or.inl ⟨1, by decide +kernel, rfl, rfl⟩
theorem rX7_round_1 : vCn mX7_round 1 (nI 0) 2 := Or.inl ⟨0, by decide +kernel, by decide +kernel, rfl⟩
theorem rX7_round_2 : vCn mX7_round 2 (nI 9999) 5 := Or.inr (Or.inr (Or.inl ⟨9999, by decide +kernel, by decide +kernel, rfl⟩))
theorem rX7_round_5 : vKs mX7_round 5 mX7_within 3 8 := ⟨64, by decide +kernel, rfl, kX7_within, tF249, Or.inl tF248⟩
theorem rX7_round_8 : vIf mX7_round 8 .ne 13 11 := ⟨5, by decide +kernel, by decide, rfl⟩
theorem rX7_round_11 : vCn mX7_round 11 (-1) 12 := Or.inl ⟨-1, by decide +kernel, by decide +kernel, rfl⟩
theorem rX7_round_12 : vI mX7_round 12 .ireturn 1 13 := ⟨by decide +kernel, rfl⟩
theorem rX7_round_13 : vLa mX7_round 13 0 14 := ⟨0, by decide +kernel, rfl, rfl⟩
theorem rX7_round_14 : vGf mX7_round 14 7 8 17 := ⟨60, (RX7, TX7, 10), by decide +kernel, rfl, rfl, by decide, tF221⟩
theorem rX7_round_17 : vLa mX7_round 17 0 18 := ⟨0, by decide +kernel, rfl, rfl⟩
theorem rX7_round_18 : vGf mX7_round 18 7 1 21 := ⟨19, (RX7, TX7, 10), by decide +kernel, rfl, rfl, by decide, tF214⟩
theorem rX7_round_21 : vGf mX7_round 21 6 0 24 := ⟨178, (RX6, TX6, 11), by decide +kernel, rfl, rfl, by decide, tF61⟩
theorem rX7_round_24 : vLi mX7_round 24 1 25 := Or.inl ⟨1, by decide +kernel, rfl, rfl⟩
theorem rX7_round_25 : vKv mX7_round 25 mX3_drawBy 2 3 28 := ⟨181, (RX3, TX3, 3), by decide +kernel, rfl, kX3_drawBy, tF449, tF501, tF450, rfl, rfl⟩
theorem rX7_round_28 : vLa mX7_round 28 0 29 := ⟨0, by decide +kernel, rfl, rfl⟩
theorem rX7_round_29 : vGf mX7_round 29 7 8 32 := ⟨60, (RX7, TX7, 10), by decide +kernel, rfl, rfl, by decide, tF221⟩
theorem rX7_round_32 : vKv mX7_round 32 mX3_repeatsTillSame 0 3 35 := ⟨194, (RX3, TX3, 3), by decide +kernel, rfl, kX3_repeatsTillSame, tF523, tF522, tF524, rfl, rfl⟩
theorem rX7_round_35 : vI mX7_round 35 .ireturn 1 36 := ⟨by decide +kernel, rfl⟩
theorem rX7_crossed_0 : vCn mX7_crossed 0 (nI 0) 1 := Or.inl ⟨0, by decide +kernel, by decide +kernel, rfl⟩
theorem rX7_crossed_1 : vSi mX7_crossed 1 1 2 := ⟨Or.inl ⟨1, by decide +kernel, rfl, rfl⟩, by decide⟩
theorem rX7_crossed_2 : vLi mX7_crossed 2 1 3 := Or.inl ⟨1, by decide +kernel, rfl, rfl⟩
theorem rX7_crossed_3 : vLa mX7_crossed 3 0 4 := ⟨0, by decide +kernel, rfl, rfl⟩
theorem rX7_crossed_4 : vGf mX7_crossed 4 7 1 7 := ⟨19, (RX7, TX7, 10), by decide +kernel, rfl, rfl, by decide, tF214⟩
theorem rX7_crossed_7 : vGf mX7_crossed 7 6 2 10 := ⟨129, (RX6, TX6, 11), by decide +kernel, rfl, rfl, by decide, tF67⟩
theorem rX7_crossed_10 : vIc mX7_crossed 10 .ge 59 13 := ⟨49, by decide +kernel, by decide, rfl⟩
theorem rX7_crossed_13 : vLi mX7_crossed 13 1 14 := Or.inl ⟨1, by decide +kernel, rfl, rfl⟩
theorem rX7_crossed_14 : vCn mX7_crossed 14 (nI 1) 15 := Or.inl ⟨1, by decide +kernel, by decide +kernel, rfl⟩
theorem rX7_crossed_15 : vI mX7_crossed 15 .iadd 1 16 := ⟨by decide +kernel, rfl⟩
theorem rX7_crossed_16 : vSi mX7_crossed 16 2 17 := ⟨Or.inl ⟨2, by decide +kernel, rfl, rfl⟩, by decide⟩
theorem rX7_crossed_17 : vLi mX7_crossed 17 2 18 := Or.inl ⟨2, by decide +kernel, rfl, rfl⟩
theorem rX7_crossed_18 : vLa mX7_crossed 18 0 19 := ⟨0, by decide +kernel, rfl, rfl⟩
theorem rX7_crossed_19 : vGf mX7_crossed 19 7 1 22 := ⟨19, (RX7, TX7, 10), by decide +kernel, rfl, rfl, by decide, tF214⟩
theorem rX7_crossed_22 : vGf mX7_crossed 22 6 2 25 := ⟨129, (RX6, TX6, 11), by decide +kernel, rfl, rfl, by decide, tF67⟩
theorem rX7_crossed_25 : vIc mX7_crossed 25 .ge 53 28 := ⟨28, by decide +kernel, by decide, rfl⟩
theorem rX7_crossed_28 : vLa mX7_crossed 28 0 29 := ⟨0, by decide +kernel, rfl, rfl⟩
theorem rX7_crossed_29 : vGf mX7_crossed 29 7 1 32 := ⟨19, (RX7, TX7, 10), by decide +kernel, rfl, rfl, by decide, tF214⟩
theorem rX7_crossed_32 : vLi mX7_crossed 32 1 33 := Or.inl ⟨1, by decide +kernel, rfl, rfl⟩
theorem rX7_crossed_33 : vLi mX7_crossed 33 2 34 := Or.inl ⟨2, by decide +kernel, rfl, rfl⟩
theorem rX7_crossed_34 : vKv mX7_crossed 34 mX6_oathsCross 2 6 37 := ⟨197, (RX6, TX6, 11), by decide +kernel, rfl, kX6_oathsCross, tF541, tF540, tF542, rfl, rfl⟩
theorem rX7_crossed_37 : vIf mX7_crossed 37 .eq 47 40 := ⟨10, by decide +kernel, by decide, rfl⟩
theorem rX7_crossed_40 : vCn mX7_crossed 40 (nI 10) 42 := Or.inr (Or.inl ⟨10, by decide +kernel, by decide +kernel, rfl⟩)
theorem rX7_crossed_42 : vLi mX7_crossed 42 1 43 := Or.inl ⟨1, by decide +kernel, rfl, rfl⟩
theorem rX7_crossed_43 : vI mX7_crossed 43 .imul 1 44 := ⟨by decide +kernel, rfl⟩
theorem rX7_crossed_44 : vLi mX7_crossed 44 2 45 := Or.inl ⟨2, by decide +kernel, rfl, rfl⟩
theorem rX7_crossed_45 : vI mX7_crossed 45 .iadd 1 46 := ⟨by decide +kernel, rfl⟩
theorem rX7_crossed_46 : vI mX7_crossed 46 .ireturn 1 47 := ⟨by decide +kernel, rfl⟩
theorem rX7_crossed_47 : vIn mX7_crossed 47 2 (nI 1) 50 := ⟨1, by decide +kernel, by decide +kernel, by decide, rfl⟩
theorem rX7_crossed_50 : vGo mX7_crossed 50 17 := ⟨-33, by decide +kernel, by decide⟩
theorem rX7_crossed_53 : vIn mX7_crossed 53 1 (nI 1) 56 := ⟨1, by decide +kernel, by decide +kernel, by decide, rfl⟩
theorem rX7_crossed_56 : vGo mX7_crossed 56 2 := ⟨-54, by decide +kernel, by decide⟩
theorem rX7_crossed_59 : vCn mX7_crossed 59 (-9) 61 := Or.inr (Or.inl ⟨-9, by decide +kernel, by decide +kernel, rfl⟩)
theorem rX7_crossed_61 : vI mX7_crossed 61 .ireturn 1 62 := ⟨by decide +kernel, rfl⟩
theorem rX7_oaths_0 : vLi mX7_oaths 0 1 1 := Or.inl ⟨1, by decide +kernel, rfl, rfl⟩
theorem rX7_oaths_1 : vCn mX7_oaths 1 (nI 0) 2 := Or.inl ⟨0, by decide +kernel, by decide +kernel, rfl⟩
theorem rX7_oaths_2 : vCn mX7_oaths 2 (nI 2) 3 := Or.inl ⟨2, by decide +kernel, by decide +kernel, rfl⟩
theorem rX7_oaths_3 : vKs mX7_oaths 3 mX7_within 3 6 := ⟨64, by decide +kernel, rfl, kX7_within, tF249, Or.inl tF248⟩
theorem rX7_oaths_6 : vIf mX7_oaths 6 .ne 11 9 := ⟨5, by decide +kernel, by decide, rfl⟩
theorem rX7_oaths_9 : vCn mX7_oaths 9 (-1) 10 := Or.inl ⟨-1, by decide +kernel, by decide +kernel, rfl⟩
theorem rX7_oaths_10 : vI mX7_oaths 10 .ireturn 1 11 := ⟨by decide +kernel, rfl⟩
theorem rX7_oaths_11 : vCn mX7_oaths 11 (nI 0) 12 := Or.inl ⟨0, by decide +kernel, by decide +kernel, rfl⟩
theorem rX7_oaths_12 : vSi mX7_oaths 12 2 13 := ⟨Or.inl ⟨2, by decide +kernel, rfl, rfl⟩, by decide⟩
theorem rX7_oaths_13 : vCn mX7_oaths 13 (nI 0) 14 := Or.inl ⟨0, by decide +kernel, by decide +kernel, rfl⟩
theorem rX7_oaths_14 : vSi mX7_oaths 14 3 15 := ⟨Or.inl ⟨3, by decide +kernel, rfl, rfl⟩, by decide⟩
theorem rX7_oaths_15 : vLi mX7_oaths 15 3 16 := Or.inl ⟨3, by decide +kernel, rfl, rfl⟩
theorem rX7_oaths_16 : vLa mX7_oaths 16 0 17 := ⟨0, by decide +kernel, rfl, rfl⟩
theorem rX7_oaths_17 : vGf mX7_oaths 17 7 1 20 := ⟨19, (RX7, TX7, 10), by decide +kernel, rfl, rfl, by decide, tF214⟩
theorem rX7_oaths_20 : vGf mX7_oaths 20 6 2 23 := ⟨129, (RX6, TX6, 11), by decide +kernel, rfl, rfl, by decide, tF67⟩
theorem rX7_oaths_23 : vIc mX7_oaths 23 .ge 50 26 := ⟨27, by decide +kernel, by decide, rfl⟩
theorem rX7_oaths_26 : vLa mX7_oaths 26 0 27 := ⟨0, by decide +kernel, rfl, rfl⟩
theorem rX7_oaths_27 : vGf mX7_oaths 27 7 3 30 := ⟨29, (RX7, TX7, 10), by decide +kernel, rfl, rfl, by decide, tF216⟩
theorem rX7_oaths_30 : vGf mX7_oaths 30 1 4 33 := ⟨141, (RX1, TX1, 6), by decide +kernel, rfl, rfl, by decide, tF126⟩
theorem rX7_oaths_33 : vLi mX7_oaths 33 3 34 := Or.inl ⟨3, by decide +kernel, rfl, rfl⟩
theorem rX7_oaths_34 : vKs mX7_oaths 34 mX7_at 2 37 := ⟨102, by decide +kernel, rfl, kX7_at, tF286, Or.inl tF376⟩
theorem rX7_oaths_37 : vLi mX7_oaths 37 1 38 := Or.inl ⟨1, by decide +kernel, rfl, rfl⟩
theorem rX7_oaths_38 : vIc mX7_oaths 38 .ne 44 41 := ⟨6, by decide +kernel, by decide, rfl⟩
theorem rX7_oaths_41 : vIn mX7_oaths 41 2 (nI 1) 44 := ⟨1, by decide +kernel, by decide +kernel, by decide, rfl⟩
theorem rX7_oaths_44 : vIn mX7_oaths 44 3 (nI 1) 47 := ⟨1, by decide +kernel, by decide +kernel, by decide, rfl⟩
theorem rX7_oaths_47 : vGo mX7_oaths 47 15 := ⟨-32, by decide +kernel, by decide⟩
theorem rX7_oaths_50 : vLi mX7_oaths 50 2 51 := Or.inl ⟨2, by decide +kernel, rfl, rfl⟩
theorem rX7_oaths_51 : vI mX7_oaths 51 .ireturn 1 52 := ⟨by decide +kernel, rfl⟩
theorem rX7_strokes_0 : vLa mX7_strokes 0 0 1 := ⟨0, by decide +kernel, rfl, rfl⟩
theorem rX7_strokes_1 : vGf mX7_strokes 1 7 1 4 := ⟨19, (RX7, TX7, 10), by decide +kernel, rfl, rfl, by decide, tF214⟩
theorem rX7_strokes_4 : vLi mX7_strokes 4 1 5 := Or.inl ⟨1, by decide +kernel, rfl, rfl⟩
theorem rX7_strokes_5 : vKv mX7_strokes 5 mX6_hasTown 1 6 8 := ⟨95, (RX6, TX6, 11), by decide +kernel, rfl, kX6_hasTown, tF311, tF375, tF312, rfl, rfl⟩
theorem rX7_strokes_8 : vIf mX7_strokes 8 .eq 40 11 := ⟨32, by decide +kernel, by decide, rfl⟩
theorem rX7_strokes_11 : vLa mX7_strokes 11 0 12 := ⟨0, by decide +kernel, rfl, rfl⟩
theorem rX7_strokes_12 : vGf mX7_strokes 12 7 1 15 := ⟨19, (RX7, TX7, 10), by decide +kernel, rfl, rfl, by decide, tF214⟩
theorem rX7_strokes_15 : vLi mX7_strokes 15 2 16 := Or.inl ⟨2, by decide +kernel, rfl, rfl⟩
theorem rX7_strokes_16 : vKv mX7_strokes 16 mX6_hasTown 1 6 19 := ⟨95, (RX6, TX6, 11), by decide +kernel, rfl, kX6_hasTown, tF311, tF375, tF312, rfl, rfl⟩
theorem rX7_strokes_19 : vIf mX7_strokes 19 .eq 40 22 := ⟨21, by decide +kernel, by decide, rfl⟩
theorem rX7_strokes_22 : vLa mX7_strokes 22 0 23 := ⟨0, by decide +kernel, rfl, rfl⟩
theorem rX7_strokes_23 : vGf mX7_strokes 23 7 3 26 := ⟨29, (RX7, TX7, 10), by decide +kernel, rfl, rfl, by decide, tF216⟩
theorem rX7_strokes_26 : vGf mX7_strokes 26 1 5 29 := ⟨201, (RX1, TX1, 6), by decide +kernel, rfl, rfl, by decide, tF128⟩
theorem rX7_strokes_29 : vLi mX7_strokes 29 1 30 := Or.inl ⟨1, by decide +kernel, rfl, rfl⟩
theorem rX7_strokes_30 : vLi mX7_strokes 30 2 31 := Or.inl ⟨2, by decide +kernel, rfl, rfl⟩
theorem rX7_strokes_31 : vKs mX7_strokes 31 mX7_pair 2 34 := ⟨204, by decide +kernel, rfl, kX7_pair, tF332, Or.inl tF389⟩
theorem rX7_strokes_34 : vKs mX7_strokes 34 mX7_at 2 37 := ⟨102, by decide +kernel, rfl, kX7_at, tF286, Or.inl tF376⟩
theorem rX7_strokes_37 : vGo mX7_strokes 37 41 := ⟨4, by decide +kernel, by decide⟩
theorem rX7_strokes_40 : vCn mX7_strokes 40 (-1) 41 := Or.inl ⟨-1, by decide +kernel, by decide +kernel, rfl⟩
theorem rX7_strokes_41 : vI mX7_strokes 41 .ireturn 1 42 := ⟨by decide +kernel, rfl⟩
theorem rX7_found_0 : vLa mX7_found 0 0 1 := ⟨0, by decide +kernel, rfl, rfl⟩
theorem rX7_found_1 : vGf mX7_found 1 7 1 4 := ⟨19, (RX7, TX7, 10), by decide +kernel, rfl, rfl, by decide, tF214⟩
theorem rX7_found_4 : vLi mX7_found 4 1 5 := Or.inl ⟨1, by decide +kernel, rfl, rfl⟩
theorem rX7_found_5 : vKv mX7_found 5 mX6_hasTown 1 6 8 := ⟨95, (RX6, TX6, 11), by decide +kernel, rfl, kX6_hasTown, tF311, tF375, tF312, rfl, rfl⟩
theorem rX7_found_8 : vIf mX7_found 8 .eq 22 11 := ⟨14, by decide +kernel, by decide, rfl⟩
theorem rX7_found_11 : vLa mX7_found 11 0 12 := ⟨0, by decide +kernel, rfl, rfl⟩
theorem rX7_found_12 : vGf mX7_found 12 7 1 15 := ⟨19, (RX7, TX7, 10), by decide +kernel, rfl, rfl, by decide, tF214⟩
theorem rX7_found_15 : vLi mX7_found 15 2 16 := Or.inl ⟨2, by decide +kernel, rfl, rfl⟩
theorem rX7_found_16 : vKv mX7_found 16 mX6_hasTown 1 6 19 := ⟨95, (RX6, TX6, 11), by decide +kernel, rfl, kX6_hasTown, tF311, tF375, tF312, rfl, rfl⟩
theorem rX7_found_19 : vIf mX7_found 19 .ne 24 22 := ⟨5, by decide +kernel, by decide, rfl⟩
theorem rX7_found_22 : vCn mX7_found 22 (-1) 23 := Or.inl ⟨-1, by decide +kernel, by decide +kernel, rfl⟩
theorem rX7_found_23 : vI mX7_found 23 .ireturn 1 24 := ⟨by decide +kernel, rfl⟩
theorem rX7_found_24 : vLa mX7_found 24 0 25 := ⟨0, by decide +kernel, rfl, rfl⟩
theorem rX7_found_25 : vGf mX7_found 25 7 7 28 := ⟨53, (RX7, TX7, 10), by decide +kernel, rfl, rfl, by decide, tF220⟩
theorem rX7_found_28 : vLi mX7_found 28 1 29 := Or.inl ⟨1, by decide +kernel, rfl, rfl⟩
theorem rX7_found_29 : vLi mX7_found 29 2 30 := Or.inl ⟨2, by decide +kernel, rfl, rfl⟩
theorem rX7_found_30 : vKv mX7_found 30 mX0_append 2 0 33 := ⟨207, (RX0, TX0, 3), by decide +kernel, rfl, kX0_append, tF557, tF556, tF558, rfl, rfl⟩
theorem rX7_found_33 : vIf mX7_found 33 .eq 46 36 := ⟨13, by decide +kernel, by decide, rfl⟩
theorem rX7_found_36 : vLa mX7_found 36 0 37 := ⟨0, by decide +kernel, rfl, rfl⟩
theorem rX7_found_37 : vGf mX7_found 37 7 7 40 := ⟨53, (RX7, TX7, 10), by decide +kernel, rfl, rfl, by decide, tF220⟩
theorem rX7_found_40 : vGf mX7_found 40 0 2 43 := ⟨209, (RX0, TX0, 3), by decide +kernel, rfl, rfl, by decide, tF187⟩
theorem rX7_found_43 : vGo mX7_found 43 48 := ⟨5, by decide +kernel, by decide⟩
theorem rX7_found_46 : vCn mX7_found 46 (-3) 48 := Or.inr (Or.inl ⟨-3, by decide +kernel, by decide +kernel, rfl⟩)
theorem rX7_found_48 : vI mX7_found 48 .ireturn 1 49 := ⟨by decide +kernel, rfl⟩
theorem rX7_forget_0 : vLa mX7_forget 0 0 1 := ⟨0, by decide +kernel, rfl, rfl⟩
theorem rX7_forget_1 : vGf mX7_forget 1 7 7 4 := ⟨53, (RX7, TX7, 10), by decide +kernel, rfl, rfl, by decide, tF220⟩
theorem rX7_forget_4 : vKv mX7_forget 4 mX0_empty 0 0 7 := ⟨94, (RX0, TX0, 3), by decide +kernel, rfl, kX0_empty, tF368, tF367, tF369, rfl, rfl⟩
theorem rX7_forget_7 : vI mX7_forget 7 .ireturn 1 8 := ⟨by decide +kernel, rfl⟩
theorem rX7_which_0 : vLi mX7_which 0 1 1 := Or.inl ⟨1, by decide +kernel, rfl, rfl⟩
theorem rX7_which_1 : vCn mX7_which 1 (nI 0) 2 := Or.inl ⟨0, by decide +kernel, by decide +kernel, rfl⟩
theorem rX7_which_2 : vCn mX7_which 2 (nI 1) 3 := Or.inl ⟨1, by decide +kernel, by decide +kernel, rfl⟩
theorem rX7_which_3 : vKs mX7_which 3 mX7_within 3 6 := ⟨64, by decide +kernel, rfl, kX7_within, tF249, Or.inl tF248⟩
theorem rX7_which_6 : vIf mX7_which 6 .ne 11 9 := ⟨5, by decide +kernel, by decide, rfl⟩
theorem rX7_which_9 : vCn mX7_which 9 (-1) 10 := Or.inl ⟨-1, by decide +kernel, by decide +kernel, rfl⟩
theorem rX7_which_10 : vI mX7_which 10 .ireturn 1 11 := ⟨by decide +kernel, rfl⟩
theorem rX7_which_11 : vCn mX7_which 11 (nI 0) 12 := Or.inl ⟨0, by decide +kernel, by decide +kernel, rfl⟩
theorem rX7_which_12 : vSi mX7_which 12 2 13 := ⟨Or.inl ⟨2, by decide +kernel, rfl, rfl⟩, by decide⟩
theorem rX7_which_13 : vCn mX7_which 13 (nI 0) 14 := Or.inl ⟨0, by decide +kernel, by decide +kernel, rfl⟩
theorem rX7_which_14 : vSi mX7_which 14 3 15 := ⟨Or.inl ⟨3, by decide +kernel, rfl, rfl⟩, by decide⟩
theorem rX7_which_15 : vLi mX7_which 15 3 16 := Or.inl ⟨3, by decide +kernel, rfl, rfl⟩
theorem rX7_which_16 : vCn mX7_which 16 (nI 999) 19 := Or.inr (Or.inr (Or.inl ⟨999, by decide +kernel, by decide +kernel, rfl⟩))
theorem rX7_which_19 : vIc mX7_which 19 .gt 71 22 := ⟨52, by decide +kernel, by decide, rfl⟩
theorem rX7_which_22 : vLa mX7_which 22 0 23 := ⟨0, by decide +kernel, rfl, rfl⟩
theorem rX7_which_23 : vGf mX7_which 23 7 8 26 := ⟨60, (RX7, TX7, 10), by decide +kernel, rfl, rfl, by decide, tF221⟩
theorem rX7_which_26 : vLa mX7_which 26 0 27 := ⟨0, by decide +kernel, rfl, rfl⟩
theorem rX7_which_27 : vGf mX7_which 27 7 1 30 := ⟨19, (RX7, TX7, 10), by decide +kernel, rfl, rfl, by decide, tF214⟩
theorem rX7_which_30 : vGf mX7_which 30 6 0 33 := ⟨178, (RX6, TX6, 11), by decide +kernel, rfl, rfl, by decide, tF61⟩
theorem rX7_which_33 : vLi mX7_which 33 3 34 := Or.inl ⟨3, by decide +kernel, rfl, rfl⟩
theorem rX7_which_34 : vKv mX7_which 34 mX3_drawBy 2 3 37 := ⟨181, (RX3, TX3, 3), by decide +kernel, rfl, kX3_drawBy, tF449, tF501, tF450, rfl, rfl⟩
theorem rX7_which_37 : vLa mX7_which 37 0 38 := ⟨0, by decide +kernel, rfl, rfl⟩
theorem rX7_which_38 : vGf mX7_which 38 7 7 41 := ⟨53, (RX7, TX7, 10), by decide +kernel, rfl, rfl, by decide, tF220⟩
theorem rX7_which_41 : vLa mX7_which 41 0 42 := ⟨0, by decide +kernel, rfl, rfl⟩
theorem rX7_which_42 : vGf mX7_which 42 7 8 45 := ⟨60, (RX7, TX7, 10), by decide +kernel, rfl, rfl, by decide, tF221⟩
theorem rX7_which_45 : vLa mX7_which 45 0 46 := ⟨0, by decide +kernel, rfl, rfl⟩
theorem rX7_which_46 : vGf mX7_which 46 7 3 49 := ⟨29, (RX7, TX7, 10), by decide +kernel, rfl, rfl, by decide, tF216⟩
theorem rX7_which_49 : vKv mX7_which 49 mX0_holdBehind 2 0 52 := ⟨212, (RX0, TX0, 3), by decide +kernel, rfl, kX0_holdBehind, tF570, tF569, tF571, rfl, rfl⟩
theorem rX7_which_52 : vIf mX7_which 52 .eq 65 55 := ⟨13, by decide +kernel, by decide, rfl⟩
theorem rX7_which_55 : vLi mX7_which 55 1 56 := Or.inl ⟨1, by decide +kernel, rfl, rfl⟩
theorem rX7_which_56 : vCn mX7_which 56 (nI 1) 57 := Or.inl ⟨1, by decide +kernel, by decide +kernel, rfl⟩
theorem rX7_which_57 : vIc mX7_which 57 .ne 62 60 := ⟨5, by decide +kernel, by decide, rfl⟩
theorem rX7_which_60 : vLi mX7_which 60 3 61 := Or.inl ⟨3, by decide +kernel, rfl, rfl⟩
theorem rX7_which_61 : vI mX7_which 61 .ireturn 1 62 := ⟨by decide +kernel, rfl⟩
theorem rX7_which_62 : vIn mX7_which 62 2 (nI 1) 65 := ⟨1, by decide +kernel, by decide +kernel, by decide, rfl⟩
theorem rX7_which_65 : vIn mX7_which 65 3 (nI 1) 68 := ⟨1, by decide +kernel, by decide +kernel, by decide, rfl⟩
theorem rX7_which_68 : vGo mX7_which 68 15 := ⟨-53, by decide +kernel, by decide⟩
theorem rX7_which_71 : vLi mX7_which 71 1 72 := Or.inl ⟨1, by decide +kernel, rfl, rfl⟩
theorem rX7_which_72 : vCn mX7_which 72 (nI 1) 73 := Or.inl ⟨1, by decide +kernel, by decide +kernel, rfl⟩
theorem rX7_which_73 : vIc mX7_which 73 .ne 81 76 := ⟨8, by decide +kernel, by decide, rfl⟩
theorem rX7_which_76 : vCn mX7_which 76 (-9) 78 := Or.inr (Or.inl ⟨-9, by decide +kernel, by decide +kernel, rfl⟩)
theorem rX7_which_78 : vGo mX7_which 78 82 := ⟨4, by decide +kernel, by decide⟩
theorem rX7_which_81 : vLi mX7_which 81 2 82 := Or.inl ⟨2, by decide +kernel, rfl, rfl⟩
theorem rX7_which_82 : vI mX7_which 82 .ireturn 1 83 := ⟨by decide +kernel, rfl⟩
theorem rX7_odds_0 : vLi mX7_odds 0 1 1 := Or.inl ⟨1, by decide +kernel, rfl, rfl⟩
theorem rX7_odds_1 : vCn mX7_odds 1 (nI 0) 2 := Or.inl ⟨0, by decide +kernel, by decide +kernel, rfl⟩
theorem rX7_odds_2 : vCn mX7_odds 2 (nI 1) 3 := Or.inl ⟨1, by decide +kernel, by decide +kernel, rfl⟩
theorem rX7_odds_3 : vKs mX7_odds 3 mX7_within 3 6 := ⟨64, by decide +kernel, rfl, kX7_within, tF249, Or.inl tF248⟩
theorem rX7_odds_6 : vIf mX7_odds 6 .ne 11 9 := ⟨5, by decide +kernel, by decide, rfl⟩
theorem rX7_odds_9 : vCn mX7_odds 9 (-1) 10 := Or.inl ⟨-1, by decide +kernel, by decide +kernel, rfl⟩
theorem rX7_odds_10 : vI mX7_odds 10 .ireturn 1 11 := ⟨by decide +kernel, rfl⟩
theorem rX7_odds_11 : vLa mX7_odds 11 0 12 := ⟨0, by decide +kernel, rfl, rfl⟩
theorem rX7_odds_12 : vKv mX7_odds 12 mX7_harmlessWays 0 7 15 := ⟨216, (RX7, TX7, 10), by decide +kernel, rfl, kX7_harmlessWays, tF580, tF578, tS18, rfl, rfl⟩
theorem rX7_odds_15 : vSi mX7_odds 15 2 16 := ⟨Or.inl ⟨2, by decide +kernel, rfl, rfl⟩, by decide⟩
theorem rX7_odds_16 : vLa mX7_odds 16 0 17 := ⟨0, by decide +kernel, rfl, rfl⟩
theorem rX7_odds_17 : vKv mX7_odds 17 mX7_allWays 0 7 20 := ⟨219, (RX7, TX7, 10), by decide +kernel, rfl, kX7_allWays, tF594, tF592, tS19, rfl, rfl⟩
theorem rX7_odds_20 : vSi mX7_odds 20 3 21 := ⟨Or.inl ⟨3, by decide +kernel, rfl, rfl⟩, by decide⟩
theorem rX7_odds_21 : vLi mX7_odds 21 2 22 := Or.inl ⟨2, by decide +kernel, rfl, rfl⟩
theorem rX7_odds_22 : vLi mX7_odds 22 3 23 := Or.inl ⟨3, by decide +kernel, rfl, rfl⟩
theorem rX7_odds_23 : vKs mX7_odds 23 mX7_commonDivisor 2 26 := ⟨222, by decide +kernel, rfl, kX7_commonDivisor, tF534, Or.inl tF596⟩
theorem rX7_odds_26 : vSi mX7_odds 26 4 28 := ⟨Or.inr ⟨by decide +kernel, rfl⟩, by decide⟩
theorem rX7_odds_28 : vLi mX7_odds 28 4 30 := Or.inr ⟨by decide +kernel, rfl⟩
theorem rX7_odds_30 : vIf mX7_odds 30 .gt 35 33 := ⟨5, by decide +kernel, by decide, rfl⟩
theorem rX7_odds_33 : vCn mX7_odds 33 (-1) 34 := Or.inl ⟨-1, by decide +kernel, by decide +kernel, rfl⟩
theorem rX7_odds_34 : vI mX7_odds 34 .ireturn 1 35 := ⟨by decide +kernel, rfl⟩
theorem rX7_odds_35 : vLi mX7_odds 35 1 36 := Or.inl ⟨1, by decide +kernel, rfl, rfl⟩
theorem rX7_odds_36 : vIf mX7_odds 36 .ne 43 39 := ⟨7, by decide +kernel, by decide, rfl⟩
theorem rX7_odds_39 : vLi mX7_odds 39 2 40 := Or.inl ⟨2, by decide +kernel, rfl, rfl⟩
theorem rX7_odds_40 : vGo mX7_odds 40 44 := ⟨4, by decide +kernel, by decide⟩
theorem rX7_odds_43 : vLi mX7_odds 43 3 44 := Or.inl ⟨3, by decide +kernel, rfl, rfl⟩
theorem rX7_odds_44 : vLi mX7_odds 44 4 46 := Or.inr ⟨by decide +kernel, rfl⟩
theorem rX7_odds_46 : vI mX7_odds 46 .idiv 1 47 := ⟨by decide +kernel, rfl⟩
theorem rX7_odds_47 : vI mX7_odds 47 .ireturn 1 48 := ⟨by decide +kernel, rfl⟩
theorem rX7_rate_0 : vLi mX7_rate 0 1 1 := Or.inl ⟨1, by decide +kernel, rfl, rfl⟩
theorem rX7_rate_1 : vCn mX7_rate 1 (nI 0) 2 := Or.inl ⟨0, by decide +kernel, by decide +kernel, rfl⟩
theorem rX7_rate_2 : vCn mX7_rate 2 (nI 5) 3 := Or.inl ⟨5, by decide +kernel, by decide +kernel, rfl⟩
theorem rX7_rate_3 : vKs mX7_rate 3 mX7_within 3 6 := ⟨64, by decide +kernel, rfl, kX7_within, tF249, Or.inl tF248⟩
theorem rX7_rate_6 : vIf mX7_rate 6 .eq 20 9 := ⟨14, by decide +kernel, by decide, rfl⟩
theorem rX7_rate_9 : vLa mX7_rate 9 0 10 := ⟨0, by decide +kernel, rfl, rfl⟩
theorem rX7_rate_10 : vGf mX7_rate 10 7 1 13 := ⟨19, (RX7, TX7, 10), by decide +kernel, rfl, rfl, by decide, tF214⟩
theorem rX7_rate_13 : vLi mX7_rate 13 2 14 := Or.inl ⟨2, by decide +kernel, rfl, rfl⟩
theorem rX7_rate_14 : vKv mX7_rate 14 mX6_hasTown 1 6 17 := ⟨95, (RX6, TX6, 11), by decide +kernel, rfl, kX6_hasTown, tF311, tF375, tF312, rfl, rfl⟩
theorem rX7_rate_17 : vIf mX7_rate 17 .ne 23 20 := ⟨6, by decide +kernel, by decide, rfl⟩
theorem rX7_rate_20 : vCn mX7_rate 20 (-1000000) 22 := Or.inr (Or.inr (Or.inr (Or.inl ⟨225, by decide +kernel, tF601, rfl⟩)))
theorem rX7_rate_22 : vI mX7_rate 22 .ireturn 1 23 := ⟨by decide +kernel, rfl⟩
theorem rX7_rate_23 : vLi mX7_rate 23 1 24 := Or.inl ⟨1, by decide +kernel, rfl, rfl⟩
theorem rX7_rate_24 : vTb mX7_rate 24 1 [60, 66, 72, 78, 84] 90 := ⟨66, 5, #[36, 42, 48, 54, 60], 36, by decide +kernel, by decide, by decide, by decide⟩
theorem rX7_rate_60 : vLa mX7_rate 60 0 61 := ⟨0, by decide +kernel, rfl, rfl⟩
theorem rX7_rate_61 : vLi mX7_rate 61 2 62 := Or.inl ⟨2, by decide +kernel, rfl, rfl⟩
theorem rX7_rate_62 : vKv mX7_rate 62 mX7_rateGreat 1 7 65 := ⟨226, (RX7, TX7, 10), by decide +kernel, rfl, kX7_rateGreat, tF604, tF602, tS20, rfl, rfl⟩
theorem rX7_rate_65 : vI mX7_rate 65 .ireturn 1 66 := ⟨by decide +kernel, rfl⟩
theorem rX7_rate_66 : vLa mX7_rate 66 0 67 := ⟨0, by decide +kernel, rfl, rfl⟩
theorem rX7_rate_67 : vLi mX7_rate 67 2 68 := Or.inl ⟨2, by decide +kernel, rfl, rfl⟩
theorem rX7_rate_68 : vKv mX7_rate 68 mX7_rateCracked 1 7 71 := ⟨229, (RX7, TX7, 10), by decide +kernel, rfl, kX7_rateCracked, tF613, tF611, tS22, rfl, rfl⟩
theorem rX7_rate_71 : vI mX7_rate 71 .ireturn 1 72 := ⟨by decide +kernel, rfl⟩
theorem rX7_rate_72 : vLa mX7_rate 72 0 73 := ⟨0, by decide +kernel, rfl, rfl⟩
theorem rX7_rate_73 : vLi mX7_rate 73 2 74 := Or.inl ⟨2, by decide +kernel, rfl, rfl⟩
theorem rX7_rate_74 : vKv mX7_rate 74 mX7_rateStorm 1 7 77 := ⟨232, (RX7, TX7, 10), by decide +kernel, rfl, kX7_rateStorm, tF618, tF616, tS23, rfl, rfl⟩
theorem rX7_rate_77 : vI mX7_rate 77 .ireturn 1 78 := ⟨by decide +kernel, rfl⟩
theorem rX7_rate_78 : vLa mX7_rate 78 0 79 := ⟨0, by decide +kernel, rfl, rfl⟩
theorem rX7_rate_79 : vLi mX7_rate 79 2 80 := Or.inl ⟨2, by decide +kernel, rfl, rfl⟩
theorem rX7_rate_80 : vKv mX7_rate 80 mX7_rateRiver 1 7 83 := ⟨235, (RX7, TX7, 10), by decide +kernel, rfl, kX7_rateRiver, tF623, tF621, tS24, rfl, rfl⟩
theorem rX7_rate_83 : vI mX7_rate 83 .ireturn 1 84 := ⟨by decide +kernel, rfl⟩
theorem rX7_rate_84 : vLa mX7_rate 84 0 85 := ⟨0, by decide +kernel, rfl, rfl⟩
theorem rX7_rate_85 : vLi mX7_rate 85 2 86 := Or.inl ⟨2, by decide +kernel, rfl, rfl⟩
theorem rX7_rate_86 : vKv mX7_rate 86 mX7_rateCow 1 7 89 := ⟨238, (RX7, TX7, 10), by decide +kernel, rfl, kX7_rateCow, tF628, tF626, tS25, rfl, rfl⟩
theorem rX7_rate_89 : vI mX7_rate 89 .ireturn 1 90 := ⟨by decide +kernel, rfl⟩
theorem rX7_rate_90 : vLa mX7_rate 90 0 91 := ⟨0, by decide +kernel, rfl, rfl⟩
theorem rX7_rate_91 : vLi mX7_rate 91 2 92 := Or.inl ⟨2, by decide +kernel, rfl, rfl⟩
theorem rX7_rate_92 : vKv mX7_rate 92 mX7_rateBell 1 7 95 := ⟨241, (RX7, TX7, 10), by decide +kernel, rfl, kX7_rateBell, tF609, tF607, tS21, rfl, rfl⟩
theorem rX7_rate_95 : vI mX7_rate 95 .ireturn 1 96 := ⟨by decide +kernel, rfl⟩
theorem rX7_keep_0 : vLa mX7_keep 0 0 1 := ⟨0, by decide +kernel, rfl, rfl⟩
theorem rX7_keep_1 : vGf mX7_keep 1 7 6 4 := ⟨46, (RX7, TX7, 10), by decide +kernel, rfl, rfl, by decide, tF219⟩
theorem rX7_keep_4 : vLi mX7_keep 4 1 5 := Or.inl ⟨1, by decide +kernel, rfl, rfl⟩
theorem rX7_keep_5 : vLa mX7_keep 5 0 6 := ⟨0, by decide +kernel, rfl, rfl⟩
theorem rX7_keep_6 : vGf mX7_keep 6 7 3 9 := ⟨29, (RX7, TX7, 10), by decide +kernel, rfl, rfl, by decide, tF216⟩
end
section
theorem rX7_keep_9 : vKv mX7_keep 9 mX2_keepFrom 2 2 12 := ⟨244, (RX2, TX2, 2), by decide +kernel, rfl, kX2_keepFrom, tF636, tF635, tF637, rfl, rfl⟩
theorem rX7_keep_12 : vIf mX7_keep 12 .eq 25 15 := ⟨13, by decide +kernel, by decide, rfl⟩
theorem rX7_keep_15 : vLa mX7_keep 15 0 16 := ⟨0, by decide +kernel, rfl, rfl⟩
theorem rX7_keep_16 : vGf mX7_keep 16 7 3 19 := ⟨29, (RX7, TX7, 10), by decide +kernel, rfl, rfl, by decide, tF216⟩
theorem rX7_keep_19 : vGf mX7_keep 19 1 0 22 := ⟨144, (RX1, TX1, 6), by decide +kernel, rfl, rfl, by decide, tF117⟩
theorem rX7_keep_22 : vGo mX7_keep 22 26 := ⟨4, by decide +kernel, by decide⟩
theorem rX7_keep_25 : vCn mX7_keep 25 (-1) 26 := Or.inl ⟨-1, by decide +kernel, by decide +kernel, rfl⟩
theorem rX7_keep_26 : vI mX7_keep 26 .ireturn 1 27 := ⟨by decide +kernel, rfl⟩
theorem rX7_back_0 : vLi mX7_back 0 1 1 := Or.inl ⟨1, by decide +kernel, rfl, rfl⟩
theorem rX7_back_1 : vCn mX7_back 1 (nI 0) 2 := Or.inl ⟨0, by decide +kernel, by decide +kernel, rfl⟩
theorem rX7_back_2 : vCn mX7_back 2 (nI 1) 3 := Or.inl ⟨1, by decide +kernel, by decide +kernel, rfl⟩
theorem rX7_back_3 : vKs mX7_back 3 mX7_within 3 6 := ⟨64, by decide +kernel, rfl, kX7_within, tF249, Or.inl tF248⟩
theorem rX7_back_6 : vIf mX7_back 6 .ne 11 9 := ⟨5, by decide +kernel, by decide, rfl⟩
theorem rX7_back_9 : vCn mX7_back 9 (-1) 10 := Or.inl ⟨-1, by decide +kernel, by decide +kernel, rfl⟩
theorem rX7_back_10 : vI mX7_back 10 .ireturn 1 11 := ⟨by decide +kernel, rfl⟩
theorem rX7_back_11 : vLa mX7_back 11 0 12 := ⟨0, by decide +kernel, rfl, rfl⟩
theorem rX7_back_12 : vGf mX7_back 12 7 6 15 := ⟨46, (RX7, TX7, 10), by decide +kernel, rfl, rfl, by decide, tF219⟩
theorem rX7_back_15 : vLi mX7_back 15 1 16 := Or.inl ⟨1, by decide +kernel, rfl, rfl⟩
theorem rX7_back_16 : vLa mX7_back 16 0 17 := ⟨0, by decide +kernel, rfl, rfl⟩
theorem rX7_back_17 : vGf mX7_back 17 7 3 20 := ⟨29, (RX7, TX7, 10), by decide +kernel, rfl, rfl, by decide, tF216⟩
theorem rX7_back_20 : vKv mX7_back 20 mX2_bringInto 2 2 23 := ⟨248, (RX2, TX2, 2), by decide +kernel, rfl, kX2_bringInto, tF646, tF645, tF647, rfl, rfl⟩
theorem rX7_back_23 : vIf mX7_back 23 .ne 29 26 := ⟨6, by decide +kernel, by decide, rfl⟩
theorem rX7_back_26 : vCn mX7_back 26 (-2) 28 := Or.inr (Or.inl ⟨-2, by decide +kernel, by decide +kernel, rfl⟩)
theorem rX7_back_28 : vI mX7_back 28 .ireturn 1 29 := ⟨by decide +kernel, rfl⟩
theorem rX7_back_29 : vLa mX7_back 29 0 30 := ⟨0, by decide +kernel, rfl, rfl⟩
theorem rX7_back_30 : vGf mX7_back 30 7 5 33 := ⟨39, (RX7, TX7, 10), by decide +kernel, rfl, rfl, by decide, tF218⟩
theorem rX7_back_33 : vKv mX7_back 33 mX4_empty 0 4 36 := ⟨91, (RX4, TX4, 3), by decide +kernel, rfl, kX4_empty, tF360, tF359, tF361, rfl, rfl⟩
theorem rX7_back_36 : vLa mX7_back 36 0 37 := ⟨0, by decide +kernel, rfl, rfl⟩
theorem rX7_back_37 : vGf mX7_back 37 7 3 40 := ⟨29, (RX7, TX7, 10), by decide +kernel, rfl, rfl, by decide, tF216⟩
theorem rX7_back_40 : vGf mX7_back 40 1 0 43 := ⟨144, (RX1, TX1, 6), by decide +kernel, rfl, rfl, by decide, tF117⟩
theorem rX7_back_43 : vI mX7_back 43 .ireturn 1 44 := ⟨by decide +kernel, rfl⟩
theorem rX7_count_0 : vLi mX7_count 0 1 1 := Or.inl ⟨1, by decide +kernel, rfl, rfl⟩
theorem rX7_count_1 : vTb mX7_count 1 0 [36, 44, 52, 60, 68] 76 := ⟨75, 4, #[35, 43, 51, 59, 67], 35, by decide +kernel, by decide, by decide, by decide⟩
theorem rX7_count_36 : vLa mX7_count 36 0 37 := ⟨0, by decide +kernel, rfl, rfl⟩
theorem rX7_count_37 : vGf mX7_count 37 7 1 40 := ⟨19, (RX7, TX7, 10), by decide +kernel, rfl, rfl, by decide, tF214⟩
theorem rX7_count_40 : vGf mX7_count 40 6 0 43 := ⟨178, (RX6, TX6, 11), by decide +kernel, rfl, rfl, by decide, tF61⟩
theorem rX7_count_43 : vI mX7_count 43 .ireturn 1 44 := ⟨by decide +kernel, rfl⟩
theorem rX7_count_44 : vLa mX7_count 44 0 45 := ⟨0, by decide +kernel, rfl, rfl⟩
theorem rX7_count_45 : vGf mX7_count 45 7 1 48 := ⟨19, (RX7, TX7, 10), by decide +kernel, rfl, rfl, by decide, tF214⟩
theorem rX7_count_48 : vGf mX7_count 48 6 1 51 := ⟨251, (RX6, TX6, 11), by decide +kernel, rfl, rfl, by decide, tF63⟩
theorem rX7_count_51 : vI mX7_count 51 .ireturn 1 52 := ⟨by decide +kernel, rfl⟩
theorem rX7_count_52 : vLa mX7_count 52 0 53 := ⟨0, by decide +kernel, rfl, rfl⟩
theorem rX7_count_53 : vGf mX7_count 53 7 1 56 := ⟨19, (RX7, TX7, 10), by decide +kernel, rfl, rfl, by decide, tF214⟩
theorem rX7_count_56 : vGf mX7_count 56 6 2 59 := ⟨129, (RX6, TX6, 11), by decide +kernel, rfl, rfl, by decide, tF67⟩
theorem rX7_count_59 : vI mX7_count 59 .ireturn 1 60 := ⟨by decide +kernel, rfl⟩
theorem rX7_count_60 : vLa mX7_count 60 0 61 := ⟨0, by decide +kernel, rfl, rfl⟩
theorem rX7_count_61 : vGf mX7_count 61 7 7 64 := ⟨53, (RX7, TX7, 10), by decide +kernel, rfl, rfl, by decide, tF220⟩
theorem rX7_count_64 : vGf mX7_count 64 0 2 67 := ⟨209, (RX0, TX0, 3), by decide +kernel, rfl, rfl, by decide, tF187⟩
theorem rX7_count_67 : vI mX7_count 67 .ireturn 1 68 := ⟨by decide +kernel, rfl⟩
theorem rX7_count_68 : vLa mX7_count 68 0 69 := ⟨0, by decide +kernel, rfl, rfl⟩
theorem rX7_count_69 : vGf mX7_count 69 7 0 72 := ⟨10, (RX7, TX7, 10), by decide +kernel, rfl, rfl, by decide, tF213⟩
theorem rX7_count_72 : vGf mX7_count 72 5 1 75 := ⟨72, (RX5, TX5, 7), by decide +kernel, rfl, rfl, by decide, tF30⟩
theorem rX7_count_75 : vI mX7_count 75 .ireturn 1 76 := ⟨by decide +kernel, rfl⟩
theorem rX7_count_76 : vCn mX7_count 76 (-1) 77 := Or.inl ⟨-1, by decide +kernel, by decide +kernel, rfl⟩
theorem rX7_count_77 : vI mX7_count 77 .ireturn 1 78 := ⟨by decide +kernel, rfl⟩
theorem rX7_trace_0 : vLa mX7_trace 0 0 1 := ⟨0, by decide +kernel, rfl, rfl⟩
theorem rX7_trace_1 : vGf mX7_trace 1 7 9 4 := ⟨254, (RX7, TX7, 10), by decide +kernel, rfl, rfl, by decide, tF222⟩
theorem rX7_trace_4 : vI mX7_trace 4 .lreturn 1 5 := ⟨by decide +kernel, rfl⟩
theorem rX7_within_0 : vLi mX7_within 0 0 1 := Or.inl ⟨0, by decide +kernel, rfl, rfl⟩
theorem rX7_within_1 : vLi mX7_within 1 1 2 := Or.inl ⟨1, by decide +kernel, rfl, rfl⟩
theorem rX7_within_2 : vIc mX7_within 2 .lt 14 5 := ⟨12, by decide +kernel, by decide, rfl⟩
theorem rX7_within_5 : vLi mX7_within 5 0 6 := Or.inl ⟨0, by decide +kernel, rfl, rfl⟩
theorem rX7_within_6 : vLi mX7_within 6 2 7 := Or.inl ⟨2, by decide +kernel, rfl, rfl⟩
theorem rX7_within_7 : vIc mX7_within 7 .gt 14 10 := ⟨7, by decide +kernel, by decide, rfl⟩
theorem rX7_within_10 : vCn mX7_within 10 (nI 1) 11 := Or.inl ⟨1, by decide +kernel, by decide +kernel, rfl⟩
theorem rX7_within_11 : vGo mX7_within 11 15 := ⟨4, by decide +kernel, by decide⟩
theorem rX7_within_14 : vCn mX7_within 14 (nI 0) 15 := Or.inl ⟨0, by decide +kernel, by decide +kernel, rfl⟩
theorem rX7_within_15 : vI mX7_within 15 .ireturn 1 16 := ⟨by decide +kernel, rfl⟩
theorem rX7_at_0 : vLi mX7_at 0 1 1 := Or.inl ⟨1, by decide +kernel, rfl, rfl⟩
theorem rX7_at_1 : vIf mX7_at 1 .lt 16 4 := ⟨15, by decide +kernel, by decide, rfl⟩
theorem rX7_at_4 : vLi mX7_at 4 1 5 := Or.inl ⟨1, by decide +kernel, rfl, rfl⟩
theorem rX7_at_5 : vLa mX7_at 5 0 6 := ⟨0, by decide +kernel, rfl, rfl⟩
theorem rX7_at_6 : vI mX7_at 6 .arraylength 1 7 := ⟨by decide +kernel, rfl⟩
theorem rX7_at_7 : vIc mX7_at 7 .ge 16 10 := ⟨9, by decide +kernel, by decide, rfl⟩
theorem rX7_at_10 : vLa mX7_at 10 0 11 := ⟨0, by decide +kernel, rfl, rfl⟩
theorem rX7_at_11 : vLi mX7_at 11 1 12 := Or.inl ⟨1, by decide +kernel, rfl, rfl⟩
theorem rX7_at_12 : vI mX7_at 12 .iaload 1 13 := ⟨by decide +kernel, rfl⟩
theorem rX7_at_13 : vGo mX7_at 13 17 := ⟨4, by decide +kernel, by decide⟩
theorem rX7_at_16 : vCn mX7_at 16 (nI 0) 17 := Or.inl ⟨0, by decide +kernel, by decide +kernel, rfl⟩
theorem rX7_at_17 : vI mX7_at 17 .ireturn 1 18 := ⟨by decide +kernel, rfl⟩
theorem rX7_put_0 : vLi mX7_put 0 1 1 := Or.inl ⟨1, by decide +kernel, rfl, rfl⟩
theorem rX7_put_1 : vIf mX7_put 1 .lt 14 4 := ⟨13, by decide +kernel, by decide, rfl⟩
theorem rX7_put_4 : vLi mX7_put 4 1 5 := Or.inl ⟨1, by decide +kernel, rfl, rfl⟩
theorem rX7_put_5 : vLa mX7_put 5 0 6 := ⟨0, by decide +kernel, rfl, rfl⟩
theorem rX7_put_6 : vI mX7_put 6 .arraylength 1 7 := ⟨by decide +kernel, rfl⟩
theorem rX7_put_7 : vIc mX7_put 7 .ge 14 10 := ⟨7, by decide +kernel, by decide, rfl⟩
theorem rX7_put_10 : vLa mX7_put 10 0 11 := ⟨0, by decide +kernel, rfl, rfl⟩
theorem rX7_put_11 : vLi mX7_put 11 1 12 := Or.inl ⟨1, by decide +kernel, rfl, rfl⟩
theorem rX7_put_12 : vLi mX7_put 12 2 13 := Or.inl ⟨2, by decide +kernel, rfl, rfl⟩
theorem rX7_put_13 : vI mX7_put 13 .iastore 1 14 := ⟨by decide +kernel, rfl⟩
theorem rX7_put_14 : vI mX7_put 14 .return_ 1 15 := ⟨by decide +kernel, rfl⟩
theorem rX7_pair_0 : vLi mX7_pair 0 0 1 := Or.inl ⟨0, by decide +kernel, rfl, rfl⟩
theorem rX7_pair_1 : vCn mX7_pair 1 (nI 6) 3 := Or.inr (Or.inl ⟨6, by decide +kernel, by decide +kernel, rfl⟩)
theorem rX7_pair_3 : vI mX7_pair 3 .imul 1 4 := ⟨by decide +kernel, rfl⟩
theorem rX7_pair_4 : vLi mX7_pair 4 1 5 := Or.inl ⟨1, by decide +kernel, rfl, rfl⟩
theorem rX7_pair_5 : vI mX7_pair 5 .iadd 1 6 := ⟨by decide +kernel, rfl⟩
theorem rX7_pair_6 : vI mX7_pair 6 .ireturn 1 7 := ⟨by decide +kernel, rfl⟩
theorem rX7_commonDivisor_0 : vCn mX7_commonDivisor 0 (nI 0) 1 := Or.inl ⟨0, by decide +kernel, by decide +kernel, rfl⟩
theorem rX7_commonDivisor_1 : vSi mX7_commonDivisor 1 2 2 := ⟨Or.inl ⟨2, by decide +kernel, rfl, rfl⟩, by decide⟩
theorem rX7_commonDivisor_2 : vLi mX7_commonDivisor 2 2 3 := Or.inl ⟨2, by decide +kernel, rfl, rfl⟩
theorem rX7_commonDivisor_3 : vCn mX7_commonDivisor 3 (nI 64) 5 := Or.inr (Or.inl ⟨64, by decide +kernel, by decide +kernel, rfl⟩)
theorem rX7_commonDivisor_5 : vIc mX7_commonDivisor 5 .ge 26 8 := ⟨21, by decide +kernel, by decide, rfl⟩
theorem rX7_commonDivisor_8 : vLi mX7_commonDivisor 8 1 9 := Or.inl ⟨1, by decide +kernel, rfl, rfl⟩
theorem rX7_commonDivisor_9 : vIf mX7_commonDivisor 9 .eq 26 12 := ⟨17, by decide +kernel, by decide, rfl⟩
theorem rX7_commonDivisor_12 : vLi mX7_commonDivisor 12 0 13 := Or.inl ⟨0, by decide +kernel, rfl, rfl⟩
theorem rX7_commonDivisor_13 : vLi mX7_commonDivisor 13 1 14 := Or.inl ⟨1, by decide +kernel, rfl, rfl⟩
theorem rX7_commonDivisor_14 : vI mX7_commonDivisor 14 .irem 1 15 := ⟨by decide +kernel, rfl⟩
theorem rX7_commonDivisor_15 : vSi mX7_commonDivisor 15 3 16 := ⟨Or.inl ⟨3, by decide +kernel, rfl, rfl⟩, by decide⟩
theorem rX7_commonDivisor_16 : vLi mX7_commonDivisor 16 1 17 := Or.inl ⟨1, by decide +kernel, rfl, rfl⟩
theorem rX7_commonDivisor_17 : vSi mX7_commonDivisor 17 0 18 := ⟨Or.inl ⟨0, by decide +kernel, rfl, rfl⟩, by decide⟩
theorem rX7_commonDivisor_18 : vLi mX7_commonDivisor 18 3 19 := Or.inl ⟨3, by decide +kernel, rfl, rfl⟩
theorem rX7_commonDivisor_19 : vSi mX7_commonDivisor 19 1 20 := ⟨Or.inl ⟨1, by decide +kernel, rfl, rfl⟩, by decide⟩
theorem rX7_commonDivisor_20 : vIn mX7_commonDivisor 20 2 (nI 1) 23 := ⟨1, by decide +kernel, by decide +kernel, by decide, rfl⟩
theorem rX7_commonDivisor_23 : vGo mX7_commonDivisor 23 2 := ⟨-21, by decide +kernel, by decide⟩
theorem rX7_commonDivisor_26 : vLi mX7_commonDivisor 26 0 27 := Or.inl ⟨0, by decide +kernel, rfl, rfl⟩
theorem rX7_commonDivisor_27 : vI mX7_commonDivisor 27 .ireturn 1 28 := ⟨by decide +kernel, rfl⟩
theorem rX7_dumbTowns_0 : vCn mX7_dumbTowns 0 (nI 0) 1 := Or.inl ⟨0, by decide +kernel, by decide +kernel, rfl⟩
theorem rX7_dumbTowns_1 : vSi mX7_dumbTowns 1 1 2 := ⟨Or.inl ⟨1, by decide +kernel, rfl, rfl⟩, by decide⟩
theorem rX7_dumbTowns_2 : vCn mX7_dumbTowns 2 (nI 0) 3 := Or.inl ⟨0, by decide +kernel, by decide +kernel, rfl⟩
theorem rX7_dumbTowns_3 : vSi mX7_dumbTowns 3 2 4 := ⟨Or.inl ⟨2, by decide +kernel, rfl, rfl⟩, by decide⟩
theorem rX7_dumbTowns_4 : vLi mX7_dumbTowns 4 2 5 := Or.inl ⟨2, by decide +kernel, rfl, rfl⟩
theorem rX7_dumbTowns_5 : vLa mX7_dumbTowns 5 0 6 := ⟨0, by decide +kernel, rfl, rfl⟩
theorem rX7_dumbTowns_6 : vGf mX7_dumbTowns 6 7 1 9 := ⟨19, (RX7, TX7, 10), by decide +kernel, rfl, rfl, by decide, tF214⟩
theorem rX7_dumbTowns_9 : vGf mX7_dumbTowns 9 6 0 12 := ⟨178, (RX6, TX6, 11), by decide +kernel, rfl, rfl, by decide, tF61⟩
theorem rX7_dumbTowns_12 : vIc mX7_dumbTowns 12 .ge 35 15 := ⟨23, by decide +kernel, by decide, rfl⟩
theorem rX7_dumbTowns_15 : vLa mX7_dumbTowns 15 0 16 := ⟨0, by decide +kernel, rfl, rfl⟩
theorem rX7_dumbTowns_16 : vLi mX7_dumbTowns 16 2 17 := Or.inl ⟨2, by decide +kernel, rfl, rfl⟩
theorem rX7_dumbTowns_17 : vKv mX7_dumbTowns 17 mX7_hasLikeNeighbour 1 7 20 := ⟨258, (RX7, TX7, 10), by decide +kernel, rfl, kX7_hasLikeNeighbour, tF387, tF385, tS9, rfl, rfl⟩
theorem rX7_dumbTowns_20 : vIf mX7_dumbTowns 20 .eq 29 23 := ⟨9, by decide +kernel, by decide, rfl⟩
theorem rX7_dumbTowns_23 : vLi mX7_dumbTowns 23 1 24 := Or.inl ⟨1, by decide +kernel, rfl, rfl⟩
theorem rX7_dumbTowns_24 : vCn mX7_dumbTowns 24 (nI 1) 25 := Or.inl ⟨1, by decide +kernel, by decide +kernel, rfl⟩
theorem rX7_dumbTowns_25 : vLi mX7_dumbTowns 25 2 26 := Or.inl ⟨2, by decide +kernel, rfl, rfl⟩
theorem rX7_dumbTowns_26 : vI mX7_dumbTowns 26 .ishl 1 27 := ⟨by decide +kernel, rfl⟩
theorem rX7_dumbTowns_27 : vI mX7_dumbTowns 27 .ior 1 28 := ⟨by decide +kernel, rfl⟩
theorem rX7_dumbTowns_28 : vSi mX7_dumbTowns 28 1 29 := ⟨Or.inl ⟨1, by decide +kernel, rfl, rfl⟩, by decide⟩
theorem rX7_dumbTowns_29 : vIn mX7_dumbTowns 29 2 (nI 1) 32 := ⟨1, by decide +kernel, by decide +kernel, by decide, rfl⟩
theorem rX7_dumbTowns_32 : vGo mX7_dumbTowns 32 4 := ⟨-28, by decide +kernel, by decide⟩
theorem rX7_dumbTowns_35 : vLi mX7_dumbTowns 35 1 36 := Or.inl ⟨1, by decide +kernel, rfl, rfl⟩
theorem rX7_dumbTowns_36 : vI mX7_dumbTowns 36 .ireturn 1 37 := ⟨by decide +kernel, rfl⟩
theorem rX7_hasLikeNeighbour_0 : vCn mX7_hasLikeNeighbour 0 (nI 0) 1 := Or.inl ⟨0, by decide +kernel, by decide +kernel, rfl⟩
theorem rX7_hasLikeNeighbour_1 : vSi mX7_hasLikeNeighbour 1 2 2 := ⟨Or.inl ⟨2, by decide +kernel, rfl, rfl⟩, by decide⟩
theorem rX7_hasLikeNeighbour_2 : vLi mX7_hasLikeNeighbour 2 2 3 := Or.inl ⟨2, by decide +kernel, rfl, rfl⟩
theorem rX7_hasLikeNeighbour_3 : vLa mX7_hasLikeNeighbour 3 0 4 := ⟨0, by decide +kernel, rfl, rfl⟩
theorem rX7_hasLikeNeighbour_4 : vGf mX7_hasLikeNeighbour 4 7 1 7 := ⟨19, (RX7, TX7, 10), by decide +kernel, rfl, rfl, by decide, tF214⟩
theorem rX7_hasLikeNeighbour_7 : vGf mX7_hasLikeNeighbour 7 6 0 10 := ⟨178, (RX6, TX6, 11), by decide +kernel, rfl, rfl, by decide, tF61⟩
theorem rX7_hasLikeNeighbour_10 : vIc mX7_hasLikeNeighbour 10 .ge 52 13 := ⟨42, by decide +kernel, by decide, rfl⟩
theorem rX7_hasLikeNeighbour_13 : vLa mX7_hasLikeNeighbour 13 0 14 := ⟨0, by decide +kernel, rfl, rfl⟩
theorem rX7_hasLikeNeighbour_14 : vGf mX7_hasLikeNeighbour 14 7 1 17 := ⟨19, (RX7, TX7, 10), by decide +kernel, rfl, rfl, by decide, tF214⟩
theorem rX7_hasLikeNeighbour_17 : vGf mX7_hasLikeNeighbour 17 6 6 20 := ⟨261, (RX6, TX6, 11), by decide +kernel, rfl, rfl, by decide, tF76⟩
theorem rX7_hasLikeNeighbour_20 : vLi mX7_hasLikeNeighbour 20 1 21 := Or.inl ⟨1, by decide +kernel, rfl, rfl⟩
theorem rX7_hasLikeNeighbour_21 : vLi mX7_hasLikeNeighbour 21 2 22 := Or.inl ⟨2, by decide +kernel, rfl, rfl⟩
theorem rX7_hasLikeNeighbour_22 : vKs mX7_hasLikeNeighbour 22 mX7_pair 2 25 := ⟨204, by decide +kernel, rfl, kX7_pair, tF332, Or.inl tF389⟩
theorem rX7_hasLikeNeighbour_25 : vKs mX7_hasLikeNeighbour 25 mX7_at 2 28 := ⟨102, by decide +kernel, rfl, kX7_at, tF286, Or.inl tF376⟩
theorem rX7_hasLikeNeighbour_28 : vIf mX7_hasLikeNeighbour 28 .le 46 31 := ⟨18, by decide +kernel, by decide, rfl⟩
theorem rX7_hasLikeNeighbour_31 : vLa mX7_hasLikeNeighbour 31 0 32 := ⟨0, by decide +kernel, rfl, rfl⟩
theorem rX7_hasLikeNeighbour_32 : vLi mX7_hasLikeNeighbour 32 2 33 := Or.inl ⟨2, by decide +kernel, rfl, rfl⟩
theorem rX7_hasLikeNeighbour_33 : vKv mX7_hasLikeNeighbour 33 mX7_noteIn 1 7 36 := ⟨264, (RX7, TX7, 10), by decide +kernel, rfl, kX7_noteIn, tF392, tF390, tS10, rfl, rfl⟩
theorem rX7_hasLikeNeighbour_36 : vLa mX7_hasLikeNeighbour 36 0 37 := ⟨0, by decide +kernel, rfl, rfl⟩
theorem rX7_hasLikeNeighbour_37 : vLi mX7_hasLikeNeighbour 37 1 38 := Or.inl ⟨1, by decide +kernel, rfl, rfl⟩
theorem rX7_hasLikeNeighbour_38 : vKv mX7_hasLikeNeighbour 38 mX7_noteIn 1 7 41 := ⟨264, (RX7, TX7, 10), by decide +kernel, rfl, kX7_noteIn, tF392, tF390, tS10, rfl, rfl⟩
theorem rX7_hasLikeNeighbour_41 : vIc mX7_hasLikeNeighbour 41 .ne 46 44 := ⟨5, by decide +kernel, by decide, rfl⟩
theorem rX7_hasLikeNeighbour_44 : vCn mX7_hasLikeNeighbour 44 (nI 1) 45 := Or.inl ⟨1, by decide +kernel, by decide +kernel, rfl⟩
theorem rX7_hasLikeNeighbour_45 : vI mX7_hasLikeNeighbour 45 .ireturn 1 46 := ⟨by decide +kernel, rfl⟩
theorem rX7_hasLikeNeighbour_46 : vIn mX7_hasLikeNeighbour 46 2 (nI 1) 49 := ⟨1, by decide +kernel, by decide +kernel, by decide, rfl⟩
theorem rX7_hasLikeNeighbour_49 : vGo mX7_hasLikeNeighbour 49 2 := ⟨-47, by decide +kernel, by decide⟩
theorem rX7_hasLikeNeighbour_52 : vCn mX7_hasLikeNeighbour 52 (nI 0) 53 := Or.inl ⟨0, by decide +kernel, by decide +kernel, rfl⟩
theorem rX7_hasLikeNeighbour_53 : vI mX7_hasLikeNeighbour 53 .ireturn 1 54 := ⟨by decide +kernel, rfl⟩
theorem rX7_noteIn_0 : vLa mX7_noteIn 0 0 1 := ⟨0, by decide +kernel, rfl, rfl⟩
theorem rX7_noteIn_1 : vGf mX7_noteIn 1 7 1 4 := ⟨19, (RX7, TX7, 10), by decide +kernel, rfl, rfl, by decide, tF214⟩
theorem rX7_noteIn_4 : vGf mX7_noteIn 4 6 5 7 := ⟨119, (RX6, TX6, 11), by decide +kernel, rfl, rfl, by decide, tF74⟩
theorem rX7_noteIn_7 : vLa mX7_noteIn 7 0 8 := ⟨0, by decide +kernel, rfl, rfl⟩
theorem rX7_noteIn_8 : vGf mX7_noteIn 8 7 3 11 := ⟨29, (RX7, TX7, 10), by decide +kernel, rfl, rfl, by decide, tF216⟩
theorem rX7_noteIn_11 : vGf mX7_noteIn 11 1 2 14 := ⟨106, (RX1, TX1, 6), by decide +kernel, rfl, rfl, by decide, tF122⟩
theorem rX7_noteIn_14 : vLi mX7_noteIn 14 1 15 := Or.inl ⟨1, by decide +kernel, rfl, rfl⟩
theorem rX7_noteIn_15 : vKs mX7_noteIn 15 mX7_at 2 18 := ⟨102, by decide +kernel, rfl, kX7_at, tF286, Or.inl tF376⟩
theorem rX7_noteIn_18 : vKs mX7_noteIn 18 mX7_at 2 21 := ⟨102, by decide +kernel, rfl, kX7_at, tF286, Or.inl tF376⟩
theorem rX7_noteIn_21 : vI mX7_noteIn 21 .ireturn 1 22 := ⟨by decide +kernel, rfl⟩
theorem rX7_bellsAtHome_0 : vCn mX7_bellsAtHome 0 (nI 0) 1 := Or.inl ⟨0, by decide +kernel, by decide +kernel, rfl⟩
theorem rX7_bellsAtHome_1 : vSi mX7_bellsAtHome 1 1 2 := ⟨Or.inl ⟨1, by decide +kernel, rfl, rfl⟩, by decide⟩
theorem rX7_bellsAtHome_2 : vCn mX7_bellsAtHome 2 (nI 0) 3 := Or.inl ⟨0, by decide +kernel, by decide +kernel, rfl⟩
theorem rX7_bellsAtHome_3 : vSi mX7_bellsAtHome 3 2 4 := ⟨Or.inl ⟨2, by decide +kernel, rfl, rfl⟩, by decide⟩
theorem rX7_bellsAtHome_4 : vLi mX7_bellsAtHome 4 2 5 := Or.inl ⟨2, by decide +kernel, rfl, rfl⟩
theorem rX7_bellsAtHome_5 : vLa mX7_bellsAtHome 5 0 6 := ⟨0, by decide +kernel, rfl, rfl⟩
theorem rX7_bellsAtHome_6 : vGf mX7_bellsAtHome 6 7 1 9 := ⟨19, (RX7, TX7, 10), by decide +kernel, rfl, rfl, by decide, tF214⟩
theorem rX7_bellsAtHome_9 : vGf mX7_bellsAtHome 9 6 0 12 := ⟨178, (RX6, TX6, 11), by decide +kernel, rfl, rfl, by decide, tF61⟩
theorem rX7_bellsAtHome_12 : vIc mX7_bellsAtHome 12 .ge 42 15 := ⟨30, by decide +kernel, by decide, rfl⟩
theorem rX7_bellsAtHome_15 : vLa mX7_bellsAtHome 15 0 16 := ⟨0, by decide +kernel, rfl, rfl⟩
theorem rX7_bellsAtHome_16 : vGf mX7_bellsAtHome 16 7 3 19 := ⟨29, (RX7, TX7, 10), by decide +kernel, rfl, rfl, by decide, tF216⟩
theorem rX7_bellsAtHome_19 : vGf mX7_bellsAtHome 19 1 2 22 := ⟨106, (RX1, TX1, 6), by decide +kernel, rfl, rfl, by decide, tF122⟩
theorem rX7_bellsAtHome_22 : vLi mX7_bellsAtHome 22 2 23 := Or.inl ⟨2, by decide +kernel, rfl, rfl⟩
theorem rX7_bellsAtHome_23 : vKs mX7_bellsAtHome 23 mX7_at 2 26 := ⟨102, by decide +kernel, rfl, kX7_at, tF286, Or.inl tF376⟩
theorem rX7_bellsAtHome_26 : vLi mX7_bellsAtHome 26 2 27 := Or.inl ⟨2, by decide +kernel, rfl, rfl⟩
theorem rX7_bellsAtHome_27 : vIc mX7_bellsAtHome 27 .ne 36 30 := ⟨9, by decide +kernel, by decide, rfl⟩
theorem rX7_bellsAtHome_30 : vLi mX7_bellsAtHome 30 1 31 := Or.inl ⟨1, by decide +kernel, rfl, rfl⟩
theorem rX7_bellsAtHome_31 : vCn mX7_bellsAtHome 31 (nI 1) 32 := Or.inl ⟨1, by decide +kernel, by decide +kernel, rfl⟩
theorem rX7_bellsAtHome_32 : vLi mX7_bellsAtHome 32 2 33 := Or.inl ⟨2, by decide +kernel, rfl, rfl⟩
theorem rX7_bellsAtHome_33 : vI mX7_bellsAtHome 33 .ishl 1 34 := ⟨by decide +kernel, rfl⟩
theorem rX7_bellsAtHome_34 : vI mX7_bellsAtHome 34 .ior 1 35 := ⟨by decide +kernel, rfl⟩
theorem rX7_bellsAtHome_35 : vSi mX7_bellsAtHome 35 1 36 := ⟨Or.inl ⟨1, by decide +kernel, rfl, rfl⟩, by decide⟩
theorem rX7_bellsAtHome_36 : vIn mX7_bellsAtHome 36 2 (nI 1) 39 := ⟨1, by decide +kernel, by decide +kernel, by decide, rfl⟩
theorem rX7_bellsAtHome_39 : vGo mX7_bellsAtHome 39 4 := ⟨-35, by decide +kernel, by decide⟩
theorem rX7_bellsAtHome_42 : vLi mX7_bellsAtHome 42 1 43 := Or.inl ⟨1, by decide +kernel, rfl, rfl⟩
theorem rX7_bellsAtHome_43 : vI mX7_bellsAtHome 43 .ireturn 1 44 := ⟨by decide +kernel, rfl⟩
theorem rX7_fitsOf_0 : vCn mX7_fitsOf 0 (nI 0) 1 := Or.inl ⟨0, by decide +kernel, by decide +kernel, rfl⟩
theorem rX7_fitsOf_1 : vSi mX7_fitsOf 1 2 2 := ⟨Or.inl ⟨2, by decide +kernel, rfl, rfl⟩, by decide⟩
theorem rX7_fitsOf_2 : vCn mX7_fitsOf 2 (nI 0) 3 := Or.inl ⟨0, by decide +kernel, by decide +kernel, rfl⟩
theorem rX7_fitsOf_3 : vSi mX7_fitsOf 3 3 4 := ⟨Or.inl ⟨3, by decide +kernel, rfl, rfl⟩, by decide⟩
theorem rX7_fitsOf_4 : vLi mX7_fitsOf 4 3 5 := Or.inl ⟨3, by decide +kernel, rfl, rfl⟩
theorem rX7_fitsOf_5 : vLa mX7_fitsOf 5 0 6 := ⟨0, by decide +kernel, rfl, rfl⟩
theorem rX7_fitsOf_6 : vGf mX7_fitsOf 6 7 1 9 := ⟨19, (RX7, TX7, 10), by decide +kernel, rfl, rfl, by decide, tF214⟩
theorem rX7_fitsOf_9 : vGf mX7_fitsOf 9 6 0 12 := ⟨178, (RX6, TX6, 11), by decide +kernel, rfl, rfl, by decide, tF61⟩
theorem rX7_fitsOf_12 : vIc mX7_fitsOf 12 .ge 43 15 := ⟨31, by decide +kernel, by decide, rfl⟩
theorem rX7_fitsOf_15 : vLa mX7_fitsOf 15 0 16 := ⟨0, by decide +kernel, rfl, rfl⟩
theorem rX7_fitsOf_16 : vGf mX7_fitsOf 16 7 3 19 := ⟨29, (RX7, TX7, 10), by decide +kernel, rfl, rfl, by decide, tF216⟩
theorem rX7_fitsOf_19 : vLa mX7_fitsOf 19 0 20 := ⟨0, by decide +kernel, rfl, rfl⟩
theorem rX7_fitsOf_20 : vGf mX7_fitsOf 20 7 1 23 := ⟨19, (RX7, TX7, 10), by decide +kernel, rfl, rfl, by decide, tF214⟩
theorem rX7_fitsOf_23 : vLi mX7_fitsOf 23 3 24 := Or.inl ⟨3, by decide +kernel, rfl, rfl⟩
theorem rX7_fitsOf_24 : vLi mX7_fitsOf 24 1 25 := Or.inl ⟨1, by decide +kernel, rfl, rfl⟩
theorem rX7_fitsOf_25 : vKv mX7_fitsOf 25 mX1_bearsBell 3 1 28 := ⟨267, (RX1, TX1, 6), by decide +kernel, rfl, kX1_bearsBell, tF403, tF402, tF404, rfl, rfl⟩
theorem rX7_fitsOf_28 : vIf mX7_fitsOf 28 .eq 37 31 := ⟨9, by decide +kernel, by decide, rfl⟩
theorem rX7_fitsOf_31 : vLi mX7_fitsOf 31 2 32 := Or.inl ⟨2, by decide +kernel, rfl, rfl⟩
theorem rX7_fitsOf_32 : vCn mX7_fitsOf 32 (nI 1) 33 := Or.inl ⟨1, by decide +kernel, by decide +kernel, rfl⟩
theorem rX7_fitsOf_33 : vLi mX7_fitsOf 33 3 34 := Or.inl ⟨3, by decide +kernel, rfl, rfl⟩
theorem rX7_fitsOf_34 : vI mX7_fitsOf 34 .ishl 1 35 := ⟨by decide +kernel, rfl⟩
theorem rX7_fitsOf_35 : vI mX7_fitsOf 35 .ior 1 36 := ⟨by decide +kernel, rfl⟩
theorem rX7_fitsOf_36 : vSi mX7_fitsOf 36 2 37 := ⟨Or.inl ⟨2, by decide +kernel, rfl, rfl⟩, by decide⟩
theorem rX7_fitsOf_37 : vIn mX7_fitsOf 37 3 (nI 1) 40 := ⟨1, by decide +kernel, by decide +kernel, by decide, rfl⟩
theorem rX7_fitsOf_40 : vGo mX7_fitsOf 40 4 := ⟨-36, by decide +kernel, by decide⟩
theorem rX7_fitsOf_43 : vLi mX7_fitsOf 43 2 44 := Or.inl ⟨2, by decide +kernel, rfl, rfl⟩
theorem rX7_fitsOf_44 : vI mX7_fitsOf 44 .ireturn 1 45 := ⟨by decide +kernel, rfl⟩
theorem rX7_rings_0 : vCn mX7_rings 0 (nI 0) 1 := Or.inl ⟨0, by decide +kernel, by decide +kernel, rfl⟩
theorem rX7_rings_1 : vSi mX7_rings 1 1 2 := ⟨Or.inl ⟨1, by decide +kernel, rfl, rfl⟩, by decide⟩
theorem rX7_rings_2 : vCn mX7_rings 2 (nI 0) 3 := Or.inl ⟨0, by decide +kernel, by decide +kernel, rfl⟩
theorem rX7_rings_3 : vSi mX7_rings 3 2 4 := ⟨Or.inl ⟨2, by decide +kernel, rfl, rfl⟩, by decide⟩
theorem rX7_rings_4 : vCn mX7_rings 4 (nI 0) 5 := Or.inl ⟨0, by decide +kernel, by decide +kernel, rfl⟩
theorem rX7_rings_5 : vSi mX7_rings 5 3 6 := ⟨Or.inl ⟨3, by decide +kernel, rfl, rfl⟩, by decide⟩
theorem rX7_rings_6 : vLi mX7_rings 6 3 7 := Or.inl ⟨3, by decide +kernel, rfl, rfl⟩
theorem rX7_rings_7 : vLa mX7_rings 7 0 8 := ⟨0, by decide +kernel, rfl, rfl⟩
theorem rX7_rings_8 : vGf mX7_rings 8 7 1 11 := ⟨19, (RX7, TX7, 10), by decide +kernel, rfl, rfl, by decide, tF214⟩
theorem rX7_rings_11 : vGf mX7_rings 11 6 0 14 := ⟨178, (RX6, TX6, 11), by decide +kernel, rfl, rfl, by decide, tF61⟩
theorem rX7_rings_14 : vIc mX7_rings 14 .ge 88 17 := ⟨74, by decide +kernel, by decide, rfl⟩
theorem rX7_rings_17 : vLi mX7_rings 17 1 18 := Or.inl ⟨1, by decide +kernel, rfl, rfl⟩
theorem rX7_rings_18 : vLi mX7_rings 18 3 19 := Or.inl ⟨3, by decide +kernel, rfl, rfl⟩
theorem rX7_rings_19 : vI mX7_rings 19 .ishr 1 20 := ⟨by decide +kernel, rfl⟩
theorem rX7_rings_20 : vCn mX7_rings 20 (nI 1) 21 := Or.inl ⟨1, by decide +kernel, by decide +kernel, rfl⟩
theorem rX7_rings_21 : vI mX7_rings 21 .iand 1 22 := ⟨by decide +kernel, rfl⟩
theorem rX7_rings_22 : vIf mX7_rings 22 .ne 28 25 := ⟨6, by decide +kernel, by decide, rfl⟩
theorem rX7_rings_25 : vIn mX7_rings 25 2 (nI 1) 28 := ⟨1, by decide +kernel, by decide +kernel, by decide, rfl⟩
theorem rX7_rings_28 : vLi mX7_rings 28 3 29 := Or.inl ⟨3, by decide +kernel, rfl, rfl⟩
theorem rX7_rings_29 : vSi mX7_rings 29 4 31 := ⟨Or.inr ⟨by decide +kernel, rfl⟩, by decide⟩
theorem rX7_rings_31 : vCn mX7_rings 31 (nI 0) 32 := Or.inl ⟨0, by decide +kernel, by decide +kernel, rfl⟩
theorem rX7_rings_32 : vSi mX7_rings 32 5 34 := ⟨Or.inr ⟨by decide +kernel, rfl⟩, by decide⟩
theorem rX7_rings_34 : vLi mX7_rings 34 5 36 := Or.inr ⟨by decide +kernel, rfl⟩
theorem rX7_rings_36 : vLa mX7_rings 36 0 37 := ⟨0, by decide +kernel, rfl, rfl⟩
theorem rX7_rings_37 : vGf mX7_rings 37 7 1 40 := ⟨19, (RX7, TX7, 10), by decide +kernel, rfl, rfl, by decide, tF214⟩
theorem rX7_rings_40 : vGf mX7_rings 40 6 0 43 := ⟨178, (RX6, TX6, 11), by decide +kernel, rfl, rfl, by decide, tF61⟩
theorem rX7_rings_43 : vIc mX7_rings 43 .ge 82 46 := ⟨39, by decide +kernel, by decide, rfl⟩
theorem rX7_rings_46 : vLi mX7_rings 46 1 47 := Or.inl ⟨1, by decide +kernel, rfl, rfl⟩
theorem rX7_rings_47 : vLi mX7_rings 47 4 49 := Or.inr ⟨by decide +kernel, rfl⟩
theorem rX7_rings_49 : vI mX7_rings 49 .ishr 1 50 := ⟨by decide +kernel, rfl⟩
theorem rX7_rings_50 : vCn mX7_rings 50 (nI 1) 51 := Or.inl ⟨1, by decide +kernel, by decide +kernel, rfl⟩
theorem rX7_rings_51 : vI mX7_rings 51 .iand 1 52 := ⟨by decide +kernel, rfl⟩
theorem rX7_rings_52 : vIf mX7_rings 52 .ne 82 55 := ⟨30, by decide +kernel, by decide, rfl⟩
theorem rX7_rings_55 : vLi mX7_rings 55 1 56 := Or.inl ⟨1, by decide +kernel, rfl, rfl⟩
theorem rX7_rings_56 : vCn mX7_rings 56 (nI 1) 57 := Or.inl ⟨1, by decide +kernel, by decide +kernel, rfl⟩
theorem rX7_rings_57 : vLi mX7_rings 57 4 59 := Or.inr ⟨by decide +kernel, rfl⟩
theorem rX7_rings_59 : vI mX7_rings 59 .ishl 1 60 := ⟨by decide +kernel, rfl⟩
theorem rX7_rings_60 : vI mX7_rings 60 .ior 1 61 := ⟨by decide +kernel, rfl⟩
theorem rX7_rings_61 : vSi mX7_rings 61 1 62 := ⟨Or.inl ⟨1, by decide +kernel, rfl, rfl⟩, by decide⟩
theorem rX7_rings_62 : vLa mX7_rings 62 0 63 := ⟨0, by decide +kernel, rfl, rfl⟩
theorem rX7_rings_63 : vGf mX7_rings 63 7 3 66 := ⟨29, (RX7, TX7, 10), by decide +kernel, rfl, rfl, by decide, tF216⟩
theorem rX7_rings_66 : vGf mX7_rings 66 1 2 69 := ⟨106, (RX1, TX1, 6), by decide +kernel, rfl, rfl, by decide, tF122⟩
theorem rX7_rings_69 : vLi mX7_rings 69 4 71 := Or.inr ⟨by decide +kernel, rfl⟩
theorem rX7_rings_71 : vKs mX7_rings 71 mX7_at 2 74 := ⟨102, by decide +kernel, rfl, kX7_at, tF286, Or.inl tF376⟩
theorem rX7_rings_74 : vSi mX7_rings 74 4 76 := ⟨Or.inr ⟨by decide +kernel, rfl⟩, by decide⟩
theorem rX7_rings_76 : vIn mX7_rings 76 5 (nI 1) 79 := ⟨1, by decide +kernel, by decide +kernel, by decide, rfl⟩
theorem rX7_rings_79 : vGo mX7_rings 79 34 := ⟨-45, by decide +kernel, by decide⟩
theorem rX7_rings_82 : vIn mX7_rings 82 3 (nI 1) 85 := ⟨1, by decide +kernel, by decide +kernel, by decide, rfl⟩
theorem rX7_rings_85 : vGo mX7_rings 85 6 := ⟨-79, by decide +kernel, by decide⟩
theorem rX7_rings_88 : vLi mX7_rings 88 2 89 := Or.inl ⟨2, by decide +kernel, rfl, rfl⟩
theorem rX7_rings_89 : vI mX7_rings 89 .ireturn 1 90 := ⟨by decide +kernel, rfl⟩
theorem rX7_firstTradeHome_0 : vCn mX7_firstTradeHome 0 (nI 0) 1 := Or.inl ⟨0, by decide +kernel, by decide +kernel, rfl⟩
theorem rX7_firstTradeHome_1 : vSi mX7_firstTradeHome 1 1 2 := ⟨Or.inl ⟨1, by decide +kernel, rfl, rfl⟩, by decide⟩
theorem rX7_firstTradeHome_2 : vLi mX7_firstTradeHome 2 1 3 := Or.inl ⟨1, by decide +kernel, rfl, rfl⟩
theorem rX7_firstTradeHome_3 : vLa mX7_firstTradeHome 3 0 4 := ⟨0, by decide +kernel, rfl, rfl⟩
theorem rX7_firstTradeHome_4 : vGf mX7_firstTradeHome 4 7 1 7 := ⟨19, (RX7, TX7, 10), by decide +kernel, rfl, rfl, by decide, tF214⟩
theorem rX7_firstTradeHome_7 : vGf mX7_firstTradeHome 7 6 0 10 := ⟨178, (RX6, TX6, 11), by decide +kernel, rfl, rfl, by decide, tF61⟩
theorem rX7_firstTradeHome_10 : vIc mX7_firstTradeHome 10 .ge 48 13 := ⟨38, by decide +kernel, by decide, rfl⟩
theorem rX7_firstTradeHome_13 : vLa mX7_firstTradeHome 13 0 14 := ⟨0, by decide +kernel, rfl, rfl⟩
theorem rX7_firstTradeHome_14 : vGf mX7_firstTradeHome 14 7 3 17 := ⟨29, (RX7, TX7, 10), by decide +kernel, rfl, rfl, by decide, tF216⟩
theorem rX7_firstTradeHome_17 : vGf mX7_firstTradeHome 17 1 2 20 := ⟨106, (RX1, TX1, 6), by decide +kernel, rfl, rfl, by decide, tF122⟩
theorem rX7_firstTradeHome_20 : vLi mX7_firstTradeHome 20 1 21 := Or.inl ⟨1, by decide +kernel, rfl, rfl⟩
theorem rX7_firstTradeHome_21 : vKs mX7_firstTradeHome 21 mX7_at 2 24 := ⟨102, by decide +kernel, rfl, kX7_at, tF286, Or.inl tF376⟩
theorem rX7_firstTradeHome_24 : vLi mX7_firstTradeHome 24 1 25 := Or.inl ⟨1, by decide +kernel, rfl, rfl⟩
theorem rX7_firstTradeHome_25 : vIc mX7_firstTradeHome 25 .eq 42 28 := ⟨17, by decide +kernel, by decide, rfl⟩
theorem rX7_firstTradeHome_28 : vCn mX7_firstTradeHome 28 (nI 10) 30 := Or.inr (Or.inl ⟨10, by decide +kernel, by decide +kernel, rfl⟩)
theorem rX7_firstTradeHome_30 : vLi mX7_firstTradeHome 30 1 31 := Or.inl ⟨1, by decide +kernel, rfl, rfl⟩
theorem rX7_firstTradeHome_31 : vI mX7_firstTradeHome 31 .imul 1 32 := ⟨by decide +kernel, rfl⟩
theorem rX7_firstTradeHome_32 : vLa mX7_firstTradeHome 32 0 33 := ⟨0, by decide +kernel, rfl, rfl⟩
theorem rX7_firstTradeHome_33 : vGf mX7_firstTradeHome 33 7 3 36 := ⟨29, (RX7, TX7, 10), by decide +kernel, rfl, rfl, by decide, tF216⟩
theorem rX7_firstTradeHome_36 : vLi mX7_firstTradeHome 36 1 37 := Or.inl ⟨1, by decide +kernel, rfl, rfl⟩
theorem rX7_firstTradeHome_37 : vKv mX7_firstTradeHome 37 mX1_townOf 1 1 40 := ⟨109, (RX1, TX1, 6), by decide +kernel, rfl, kX1_townOf, tF378, tF377, tF379, rfl, rfl⟩
theorem rX7_firstTradeHome_40 : vI mX7_firstTradeHome 40 .iadd 1 41 := ⟨by decide +kernel, rfl⟩
theorem rX7_firstTradeHome_41 : vI mX7_firstTradeHome 41 .ireturn 1 42 := ⟨by decide +kernel, rfl⟩
theorem rX7_firstTradeHome_42 : vIn mX7_firstTradeHome 42 1 (nI 1) 45 := ⟨1, by decide +kernel, by decide +kernel, by decide, rfl⟩
theorem rX7_firstTradeHome_45 : vGo mX7_firstTradeHome 45 2 := ⟨-43, by decide +kernel, by decide⟩
theorem rX7_firstTradeHome_48 : vCn mX7_firstTradeHome 48 (-9) 50 := Or.inr (Or.inl ⟨-9, by decide +kernel, by decide +kernel, rfl⟩)
theorem rX7_firstTradeHome_50 : vI mX7_firstTradeHome 50 .ireturn 1 51 := ⟨by decide +kernel, rfl⟩
theorem rX7_harmlessWays_0 : vCn mX7_harmlessWays 0 (nI 1) 1 := Or.inl ⟨1, by decide +kernel, by decide +kernel, rfl⟩
theorem rX7_harmlessWays_1 : vSi mX7_harmlessWays 1 1 2 := ⟨Or.inl ⟨1, by decide +kernel, rfl, rfl⟩, by decide⟩
theorem rX7_harmlessWays_2 : vCn mX7_harmlessWays 2 (nI 0) 3 := Or.inl ⟨0, by decide +kernel, by decide +kernel, rfl⟩
theorem rX7_harmlessWays_3 : vSi mX7_harmlessWays 3 2 4 := ⟨Or.inl ⟨2, by decide +kernel, rfl, rfl⟩, by decide⟩
theorem rX7_harmlessWays_4 : vLi mX7_harmlessWays 4 2 5 := Or.inl ⟨2, by decide +kernel, rfl, rfl⟩
theorem rX7_harmlessWays_5 : vLa mX7_harmlessWays 5 0 6 := ⟨0, by decide +kernel, rfl, rfl⟩
theorem rX7_harmlessWays_6 : vGf mX7_harmlessWays 6 7 1 9 := ⟨19, (RX7, TX7, 10), by decide +kernel, rfl, rfl, by decide, tF214⟩
theorem rX7_harmlessWays_9 : vGf mX7_harmlessWays 9 6 0 12 := ⟨178, (RX6, TX6, 11), by decide +kernel, rfl, rfl, by decide, tF61⟩
theorem rX7_harmlessWays_12 : vIc mX7_harmlessWays 12 .ge 41 15 := ⟨29, by decide +kernel, by decide, rfl⟩
theorem rX7_harmlessWays_15 : vLi mX7_harmlessWays 15 1 16 := Or.inl ⟨1, by decide +kernel, rfl, rfl⟩
theorem rX7_harmlessWays_16 : vLa mX7_harmlessWays 16 0 17 := ⟨0, by decide +kernel, rfl, rfl⟩
theorem rX7_harmlessWays_17 : vLi mX7_harmlessWays 17 2 18 := Or.inl ⟨2, by decide +kernel, rfl, rfl⟩
theorem rX7_harmlessWays_18 : vKv mX7_harmlessWays 18 mX7_fitsOf 1 7 21 := ⟨122, (RX7, TX7, 10), by decide +kernel, rfl, kX7_fitsOf, tF400, tF398, tS11, rfl, rfl⟩
theorem rX7_harmlessWays_21 : vKs mX7_harmlessWays 21 mJ6_bitCount_0f7a4 1 24 := ⟨271, by decide +kernel, rfl, kJ6_bitCount_0f7a4, tF583, Or.inl tF582⟩
theorem rX7_harmlessWays_24 : vLa mX7_harmlessWays 24 0 25 := ⟨0, by decide +kernel, rfl, rfl⟩
theorem rX7_harmlessWays_25 : vGf mX7_harmlessWays 25 7 1 28 := ⟨19, (RX7, TX7, 10), by decide +kernel, rfl, rfl, by decide, tF214⟩
theorem rX7_harmlessWays_28 : vLi mX7_harmlessWays 28 2 29 := Or.inl ⟨2, by decide +kernel, rfl, rfl⟩
theorem rX7_harmlessWays_29 : vKv mX7_harmlessWays 29 mX6_bellsHungBefore 1 6 32 := ⟨276, (RX6, TX6, 11), by decide +kernel, rfl, kX6_bellsHungBefore, tF589, tF588, tF590, rfl, rfl⟩
theorem rX7_harmlessWays_32 : vI mX7_harmlessWays 32 .isub 1 33 := ⟨by decide +kernel, rfl⟩
theorem rX7_harmlessWays_33 : vI mX7_harmlessWays 33 .imul 1 34 := ⟨by decide +kernel, rfl⟩
theorem rX7_harmlessWays_34 : vSi mX7_harmlessWays 34 1 35 := ⟨Or.inl ⟨1, by decide +kernel, rfl, rfl⟩, by decide⟩
theorem rX7_harmlessWays_35 : vIn mX7_harmlessWays 35 2 (nI 1) 38 := ⟨1, by decide +kernel, by decide +kernel, by decide, rfl⟩
theorem rX7_harmlessWays_38 : vGo mX7_harmlessWays 38 4 := ⟨-34, by decide +kernel, by decide⟩
theorem rX7_harmlessWays_41 : vLi mX7_harmlessWays 41 1 42 := Or.inl ⟨1, by decide +kernel, rfl, rfl⟩
theorem rX7_harmlessWays_42 : vI mX7_harmlessWays 42 .ireturn 1 43 := ⟨by decide +kernel, rfl⟩
theorem rX7_allWays_0 : vCn mX7_allWays 0 (nI 1) 1 := Or.inl ⟨1, by decide +kernel, by decide +kernel, rfl⟩
theorem rX7_allWays_1 : vSi mX7_allWays 1 1 2 := ⟨Or.inl ⟨1, by decide +kernel, rfl, rfl⟩, by decide⟩
theorem rX7_allWays_2 : vCn mX7_allWays 2 (nI 2) 3 := Or.inl ⟨2, by decide +kernel, by decide +kernel, rfl⟩
theorem rX7_allWays_3 : vSi mX7_allWays 3 2 4 := ⟨Or.inl ⟨2, by decide +kernel, rfl, rfl⟩, by decide⟩
theorem rX7_allWays_4 : vLi mX7_allWays 4 2 5 := Or.inl ⟨2, by decide +kernel, rfl, rfl⟩
theorem rX7_allWays_5 : vLa mX7_allWays 5 0 6 := ⟨0, by decide +kernel, rfl, rfl⟩
theorem rX7_allWays_6 : vGf mX7_allWays 6 7 1 9 := ⟨19, (RX7, TX7, 10), by decide +kernel, rfl, rfl, by decide, tF214⟩
theorem rX7_allWays_9 : vGf mX7_allWays 9 6 0 12 := ⟨178, (RX6, TX6, 11), by decide +kernel, rfl, rfl, by decide, tF61⟩
theorem rX7_allWays_12 : vIc mX7_allWays 12 .gt 25 15 := ⟨13, by decide +kernel, by decide, rfl⟩
theorem rX7_allWays_15 : vLi mX7_allWays 15 1 16 := Or.inl ⟨1, by decide +kernel, rfl, rfl⟩
theorem rX7_allWays_16 : vLi mX7_allWays 16 2 17 := Or.inl ⟨2, by decide +kernel, rfl, rfl⟩
theorem rX7_allWays_17 : vI mX7_allWays 17 .imul 1 18 := ⟨by decide +kernel, rfl⟩
theorem rX7_allWays_18 : vSi mX7_allWays 18 1 19 := ⟨Or.inl ⟨1, by decide +kernel, rfl, rfl⟩, by decide⟩
theorem rX7_allWays_19 : vIn mX7_allWays 19 2 (nI 1) 22 := ⟨1, by decide +kernel, by decide +kernel, by decide, rfl⟩
theorem rX7_allWays_22 : vGo mX7_allWays 22 4 := ⟨-18, by decide +kernel, by decide⟩
theorem rX7_allWays_25 : vLi mX7_allWays 25 1 26 := Or.inl ⟨1, by decide +kernel, rfl, rfl⟩
theorem rX7_allWays_26 : vI mX7_allWays 26 .ireturn 1 27 := ⟨by decide +kernel, rfl⟩
theorem rX7_rateBell_0 : vLa mX7_rateBell 0 0 1 := ⟨0, by decide +kernel, rfl, rfl⟩
theorem rX7_rateBell_1 : vI mX7_rateBell 1 .dup 1 2 := ⟨by decide +kernel, rfl⟩
theorem rX7_rateBell_2 : vGf mX7_rateBell 2 7 9 5 := ⟨254, (RX7, TX7, 10), by decide +kernel, rfl, rfl, by decide, tF222⟩
theorem rX7_rateBell_5 : vCl mX7_rateBell 5 (lN 1) 6 := Or.inl ⟨1, by decide +kernel, by decide +kernel, rfl⟩
theorem rX7_rateBell_6 : vI mX7_rateBell 6 .ladd 1 7 := ⟨by decide +kernel, rfl⟩
theorem rX7_rateBell_7 : vPf mX7_rateBell 7 7 9 10 := ⟨254, (RX7, TX7, 10), by decide +kernel, rfl, rfl, by decide, tF222, Or.inl rfl⟩
theorem rX7_rateBell_10 : vLa mX7_rateBell 10 0 11 := ⟨0, by decide +kernel, rfl, rfl⟩
theorem rX7_rateBell_11 : vGf mX7_rateBell 11 7 1 14 := ⟨19, (RX7, TX7, 10), by decide +kernel, rfl, rfl, by decide, tF214⟩
theorem rX7_rateBell_14 : vGf mX7_rateBell 14 6 4 17 := ⟨116, (RX6, TX6, 11), by decide +kernel, rfl, rfl, by decide, tF72⟩
theorem rX7_rateBell_17 : vLi mX7_rateBell 17 1 18 := Or.inl ⟨1, by decide +kernel, rfl, rfl⟩
theorem rX7_rateBell_18 : vKs mX7_rateBell 18 mX7_at 2 21 := ⟨102, by decide +kernel, rfl, kX7_at, tF286, Or.inl tF376⟩
theorem rX7_rateBell_21 : vI mX7_rateBell 21 .ireturn 1 22 := ⟨by decide +kernel, rfl⟩
theorem rX7_rateGreat_0 : vLa mX7_rateGreat 0 0 1 := ⟨0, by decide +kernel, rfl, rfl⟩
theorem rX7_rateGreat_1 : vI mX7_rateGreat 1 .dup 1 2 := ⟨by decide +kernel, rfl⟩
theorem rX7_rateGreat_2 : vGf mX7_rateGreat 2 7 9 5 := ⟨254, (RX7, TX7, 10), by decide +kernel, rfl, rfl, by decide, tF222⟩
theorem rX7_rateGreat_5 : vCl mX7_rateGreat 5 (lN 10) 8 := Or.inr ⟨279, by decide +kernel, tF606, rfl⟩
theorem rX7_rateGreat_8 : vI mX7_rateGreat 8 .ladd 1 9 := ⟨by decide +kernel, rfl⟩
theorem rX7_rateGreat_9 : vPf mX7_rateGreat 9 7 9 12 := ⟨254, (RX7, TX7, 10), by decide +kernel, rfl, rfl, by decide, tF222, Or.inl rfl⟩
theorem rX7_rateGreat_12 : vLa mX7_rateGreat 12 0 13 := ⟨0, by decide +kernel, rfl, rfl⟩
theorem rX7_rateGreat_13 : vLi mX7_rateGreat 13 1 14 := Or.inl ⟨1, by decide +kernel, rfl, rfl⟩
theorem rX7_rateGreat_14 : vKv mX7_rateGreat 14 mX7_rateBell 1 7 17 := ⟨241, (RX7, TX7, 10), by decide +kernel, rfl, kX7_rateBell, tF609, tF607, tS21, rfl, rfl⟩
theorem rX7_rateGreat_17 : vLa mX7_rateGreat 17 0 18 := ⟨0, by decide +kernel, rfl, rfl⟩
theorem rX7_rateGreat_18 : vGf mX7_rateGreat 18 7 1 21 := ⟨19, (RX7, TX7, 10), by decide +kernel, rfl, rfl, by decide, tF214⟩
theorem rX7_rateGreat_21 : vGf mX7_rateGreat 21 6 5 24 := ⟨119, (RX6, TX6, 11), by decide +kernel, rfl, rfl, by decide, tF74⟩
theorem rX7_rateGreat_24 : vLi mX7_rateGreat 24 1 25 := Or.inl ⟨1, by decide +kernel, rfl, rfl⟩
theorem rX7_rateGreat_25 : vKs mX7_rateGreat 25 mX7_at 2 28 := ⟨102, by decide +kernel, rfl, kX7_at, tF286, Or.inl tF376⟩
theorem rX7_rateGreat_28 : vI mX7_rateGreat 28 .iadd 1 29 := ⟨by decide +kernel, rfl⟩
theorem rX7_rateGreat_29 : vI mX7_rateGreat 29 .ireturn 1 30 := ⟨by decide +kernel, rfl⟩
theorem rX7_rateCracked_0 : vLa mX7_rateCracked 0 0 1 := ⟨0, by decide +kernel, rfl, rfl⟩
theorem rX7_rateCracked_1 : vI mX7_rateCracked 1 .dup 1 2 := ⟨by decide +kernel, rfl⟩
theorem rX7_rateCracked_2 : vGf mX7_rateCracked 2 7 9 5 := ⟨254, (RX7, TX7, 10), by decide +kernel, rfl, rfl, by decide, tF222⟩
theorem rX7_rateCracked_5 : vCl mX7_rateCracked 5 (lN 100) 8 := Or.inr ⟨281, by decide +kernel, tF615, rfl⟩
theorem rX7_rateCracked_8 : vI mX7_rateCracked 8 .ladd 1 9 := ⟨by decide +kernel, rfl⟩
theorem rX7_rateCracked_9 : vPf mX7_rateCracked 9 7 9 12 := ⟨254, (RX7, TX7, 10), by decide +kernel, rfl, rfl, by decide, tF222, Or.inl rfl⟩
theorem rX7_rateCracked_12 : vLa mX7_rateCracked 12 0 13 := ⟨0, by decide +kernel, rfl, rfl⟩
theorem rX7_rateCracked_13 : vLi mX7_rateCracked 13 1 14 := Or.inl ⟨1, by decide +kernel, rfl, rfl⟩
theorem rX7_rateCracked_14 : vKv mX7_rateCracked 14 mX7_rateBell 1 7 17 := ⟨241, (RX7, TX7, 10), by decide +kernel, rfl, kX7_rateBell, tF609, tF607, tS21, rfl, rfl⟩
theorem rX7_rateCracked_17 : vLa mX7_rateCracked 17 0 18 := ⟨0, by decide +kernel, rfl, rfl⟩
theorem rX7_rateCracked_18 : vGf mX7_rateCracked 18 7 3 21 := ⟨29, (RX7, TX7, 10), by decide +kernel, rfl, rfl, by decide, tF216⟩
theorem rX7_rateCracked_21 : vGf mX7_rateCracked 21 1 3 24 := ⟨98, (RX1, TX1, 6), by decide +kernel, rfl, rfl, by decide, tF124⟩
theorem rX7_rateCracked_24 : vLa mX7_rateCracked 24 0 25 := ⟨0, by decide +kernel, rfl, rfl⟩
theorem rX7_rateCracked_25 : vGf mX7_rateCracked 25 7 3 28 := ⟨29, (RX7, TX7, 10), by decide +kernel, rfl, rfl, by decide, tF216⟩
theorem rX7_rateCracked_28 : vLi mX7_rateCracked 28 1 29 := Or.inl ⟨1, by decide +kernel, rfl, rfl⟩
theorem rX7_rateCracked_29 : vKv mX7_rateCracked 29 mX1_townOf 1 1 32 := ⟨109, (RX1, TX1, 6), by decide +kernel, rfl, kX1_townOf, tF378, tF377, tF379, rfl, rfl⟩
theorem rX7_rateCracked_32 : vKs mX7_rateCracked 32 mX7_at 2 35 := ⟨102, by decide +kernel, rfl, kX7_at, tF286, Or.inl tF376⟩
theorem rX7_rateCracked_35 : vI mX7_rateCracked 35 .isub 1 36 := ⟨by decide +kernel, rfl⟩
theorem rX7_rateCracked_36 : vI mX7_rateCracked 36 .ireturn 1 37 := ⟨by decide +kernel, rfl⟩
theorem rX7_rateStorm_0 : vLa mX7_rateStorm 0 0 1 := ⟨0, by decide +kernel, rfl, rfl⟩
theorem rX7_rateStorm_1 : vI mX7_rateStorm 1 .dup 1 2 := ⟨by decide +kernel, rfl⟩
theorem rX7_rateStorm_2 : vGf mX7_rateStorm 2 7 9 5 := ⟨254, (RX7, TX7, 10), by decide +kernel, rfl, rfl, by decide, tF222⟩
theorem rX7_rateStorm_5 : vCl mX7_rateStorm 5 (lN 1000) 8 := Or.inr ⟨283, by decide +kernel, tF620, rfl⟩
theorem rX7_rateStorm_8 : vI mX7_rateStorm 8 .ladd 1 9 := ⟨by decide +kernel, rfl⟩
theorem rX7_rateStorm_9 : vPf mX7_rateStorm 9 7 9 12 := ⟨254, (RX7, TX7, 10), by decide +kernel, rfl, rfl, by decide, tF222, Or.inl rfl⟩
theorem rX7_rateStorm_12 : vCn mX7_rateStorm 12 (nI 2) 13 := Or.inl ⟨2, by decide +kernel, by decide +kernel, rfl⟩
theorem rX7_rateStorm_13 : vLa mX7_rateStorm 13 0 14 := ⟨0, by decide +kernel, rfl, rfl⟩
theorem rX7_rateStorm_14 : vLi mX7_rateStorm 14 1 15 := Or.inl ⟨1, by decide +kernel, rfl, rfl⟩
theorem rX7_rateStorm_15 : vKv mX7_rateStorm 15 mX7_rateGreat 1 7 18 := ⟨226, (RX7, TX7, 10), by decide +kernel, rfl, kX7_rateGreat, tF604, tF602, tS20, rfl, rfl⟩
theorem rX7_rateStorm_18 : vI mX7_rateStorm 18 .imul 1 19 := ⟨by decide +kernel, rfl⟩
theorem rX7_rateStorm_19 : vI mX7_rateStorm 19 .ireturn 1 20 := ⟨by decide +kernel, rfl⟩
theorem rX7_rateRiver_0 : vLa mX7_rateRiver 0 0 1 := ⟨0, by decide +kernel, rfl, rfl⟩
theorem rX7_rateRiver_1 : vI mX7_rateRiver 1 .dup 1 2 := ⟨by decide +kernel, rfl⟩
theorem rX7_rateRiver_2 : vGf mX7_rateRiver 2 7 9 5 := ⟨254, (RX7, TX7, 10), by decide +kernel, rfl, rfl, by decide, tF222⟩
theorem rX7_rateRiver_5 : vCl mX7_rateRiver 5 (lN 10000) 8 := Or.inr ⟨285, by decide +kernel, tF625, rfl⟩
theorem rX7_rateRiver_8 : vI mX7_rateRiver 8 .ladd 1 9 := ⟨by decide +kernel, rfl⟩
theorem rX7_rateRiver_9 : vPf mX7_rateRiver 9 7 9 12 := ⟨254, (RX7, TX7, 10), by decide +kernel, rfl, rfl, by decide, tF222, Or.inl rfl⟩
theorem rX7_rateRiver_12 : vLa mX7_rateRiver 12 0 13 := ⟨0, by decide +kernel, rfl, rfl⟩
theorem rX7_rateRiver_13 : vLi mX7_rateRiver 13 1 14 := Or.inl ⟨1, by decide +kernel, rfl, rfl⟩
theorem rX7_rateRiver_14 : vKv mX7_rateRiver 14 mX7_rateCracked 1 7 17 := ⟨229, (RX7, TX7, 10), by decide +kernel, rfl, kX7_rateCracked, tF613, tF611, tS22, rfl, rfl⟩
theorem rX7_rateRiver_17 : vLi mX7_rateRiver 17 1 18 := Or.inl ⟨1, by decide +kernel, rfl, rfl⟩
theorem rX7_rateRiver_18 : vI mX7_rateRiver 18 .iadd 1 19 := ⟨by decide +kernel, rfl⟩
theorem rX7_rateRiver_19 : vI mX7_rateRiver 19 .ireturn 1 20 := ⟨by decide +kernel, rfl⟩
theorem rX7_rateCow_0 : vLa mX7_rateCow 0 0 1 := ⟨0, by decide +kernel, rfl, rfl⟩
theorem rX7_rateCow_1 : vI mX7_rateCow 1 .dup 1 2 := ⟨by decide +kernel, rfl⟩
theorem rX7_rateCow_2 : vGf mX7_rateCow 2 7 9 5 := ⟨254, (RX7, TX7, 10), by decide +kernel, rfl, rfl, by decide, tF222⟩
theorem rX7_rateCow_5 : vCl mX7_rateCow 5 (lN 100000) 8 := Or.inr ⟨287, by decide +kernel, tF630, rfl⟩
theorem rX7_rateCow_8 : vI mX7_rateCow 8 .ladd 1 9 := ⟨by decide +kernel, rfl⟩
theorem rX7_rateCow_9 : vPf mX7_rateCow 9 7 9 12 := ⟨254, (RX7, TX7, 10), by decide +kernel, rfl, rfl, by decide, tF222, Or.inl rfl⟩
theorem rX7_rateCow_12 : vLa mX7_rateCow 12 0 13 := ⟨0, by decide +kernel, rfl, rfl⟩
theorem rX7_rateCow_13 : vLi mX7_rateCow 13 1 14 := Or.inl ⟨1, by decide +kernel, rfl, rfl⟩
theorem rX7_rateCow_14 : vKv mX7_rateCow 14 mX7_rateBell 1 7 17 := ⟨241, (RX7, TX7, 10), by decide +kernel, rfl, kX7_rateBell, tF609, tF607, tS21, rfl, rfl⟩
theorem rX7_rateCow_17 : vLa mX7_rateCow 17 0 18 := ⟨0, by decide +kernel, rfl, rfl⟩
theorem rX7_rateCow_18 : vGf mX7_rateCow 18 7 3 21 := ⟨29, (RX7, TX7, 10), by decide +kernel, rfl, rfl, by decide, tF216⟩
theorem rX7_rateCow_21 : vGf mX7_rateCow 21 1 0 24 := ⟨144, (RX1, TX1, 6), by decide +kernel, rfl, rfl, by decide, tF117⟩
theorem rX7_rateCow_24 : vI mX7_rateCow 24 .iadd 1 25 := ⟨by decide +kernel, rfl⟩
theorem rX7_rateCow_25 : vI mX7_rateCow 25 .ireturn 1 26 := ⟨by decide +kernel, rfl⟩
theorem rX8_init_0 : vLa mX8_init 0 0 1 := ⟨0, by decide +kernel, rfl, rfl⟩
theorem rX8_init_1 : vOi mX8_init 1 4 := ⟨1, by decide +kernel, rfl, tF662, tF20, tF21⟩
theorem rX8_init_4 : vLa mX8_init 4 0 5 := ⟨0, by decide +kernel, rfl, rfl⟩
theorem rX8_init_5 : vCn mX8_init 5 (nI 200) 8 := Or.inr (Or.inr (Or.inl ⟨200, by decide +kernel, by decide +kernel, rfl⟩))
theorem rX8_init_8 : vNi mX8_init 8 .int 10 := ⟨by decide +kernel, rfl, tF51⟩
theorem rX8_init_10 : vPf mX8_init 10 8 2 13 := ⟨7, (RX8, TX8, 29), by decide +kernel, rfl, rfl, by decide, tF665, Or.inr ⟨rfl, rfl, rfl⟩⟩
theorem rX8_init_13 : vLa mX8_init 13 0 14 := ⟨0, by decide +kernel, rfl, rfl⟩
theorem rX8_init_14 : vCn mX8_init 14 (nI 4) 15 := Or.inl ⟨4, by decide +kernel, by decide +kernel, rfl⟩
theorem rX8_init_15 : vNi mX8_init 15 .int 17 := ⟨by decide +kernel, rfl, tF51⟩
theorem rX8_init_17 : vPf mX8_init 17 8 9 20 := ⟨13, (RX8, TX8, 29), by decide +kernel, rfl, rfl, by decide, tF672, Or.inr ⟨rfl, rfl, rfl⟩⟩
theorem rX8_init_20 : vLa mX8_init 20 0 21 := ⟨0, by decide +kernel, rfl, rfl⟩
theorem rX8_init_21 : vCn mX8_init 21 (nI 12) 23 := Or.inr (Or.inl ⟨12, by decide +kernel, by decide +kernel, rfl⟩)
theorem rX8_init_23 : vNi mX8_init 23 .int 25 := ⟨by decide +kernel, rfl, tF51⟩
theorem rX8_init_25 : vPf mX8_init 25 8 10 28 := ⟨16, (RX8, TX8, 29), by decide +kernel, rfl, rfl, by decide, tF673, Or.inr ⟨rfl, rfl, rfl⟩⟩
theorem rX8_init_28 : vLa mX8_init 28 0 29 := ⟨0, by decide +kernel, rfl, rfl⟩
theorem rX8_init_29 : vCn mX8_init 29 (nI 12) 31 := Or.inr (Or.inl ⟨12, by decide +kernel, by decide +kernel, rfl⟩)
theorem rX8_init_31 : vNi mX8_init 31 .int 33 := ⟨by decide +kernel, rfl, tF51⟩
theorem rX8_init_33 : vPf mX8_init 33 8 11 36 := ⟨19, (RX8, TX8, 29), by decide +kernel, rfl, rfl, by decide, tF674, Or.inr ⟨rfl, rfl, rfl⟩⟩
theorem rX8_init_36 : vLa mX8_init 36 0 37 := ⟨0, by decide +kernel, rfl, rfl⟩
theorem rX8_init_37 : vCn mX8_init 37 (nI 12) 39 := Or.inr (Or.inl ⟨12, by decide +kernel, by decide +kernel, rfl⟩)
theorem rX8_init_39 : vNi mX8_init 39 .int 41 := ⟨by decide +kernel, rfl, tF51⟩
theorem rX8_init_41 : vPf mX8_init 41 8 12 44 := ⟨22, (RX8, TX8, 29), by decide +kernel, rfl, rfl, by decide, tF675, Or.inr ⟨rfl, rfl, rfl⟩⟩
theorem rX8_init_44 : vLa mX8_init 44 0 45 := ⟨0, by decide +kernel, rfl, rfl⟩
theorem rX8_init_45 : vCn mX8_init 45 (nI 72) 47 := Or.inr (Or.inl ⟨72, by decide +kernel, by decide +kernel, rfl⟩)
theorem rX8_init_47 : vNi mX8_init 47 .int 49 := ⟨by decide +kernel, rfl, tF51⟩
theorem rX8_init_49 : vPf mX8_init 49 8 13 52 := ⟨25, (RX8, TX8, 29), by decide +kernel, rfl, rfl, by decide, tF676, Or.inr ⟨rfl, rfl, rfl⟩⟩
theorem rX8_init_52 : vLa mX8_init 52 0 53 := ⟨0, by decide +kernel, rfl, rfl⟩
theorem rX8_init_53 : vCn mX8_init 53 (nI 12) 55 := Or.inr (Or.inl ⟨12, by decide +kernel, by decide +kernel, rfl⟩)
theorem rX8_init_55 : vNi mX8_init 55 .int 57 := ⟨by decide +kernel, rfl, tF51⟩
theorem rX8_init_57 : vPf mX8_init 57 8 14 60 := ⟨28, (RX8, TX8, 29), by decide +kernel, rfl, rfl, by decide, tF677, Or.inr ⟨rfl, rfl, rfl⟩⟩
theorem rX8_init_60 : vLa mX8_init 60 0 61 := ⟨0, by decide +kernel, rfl, rfl⟩
theorem rX8_init_61 : vCn mX8_init 61 (nI 12) 63 := Or.inr (Or.inl ⟨12, by decide +kernel, by decide +kernel, rfl⟩)
theorem rX8_init_63 : vNi mX8_init 63 .int 65 := ⟨by decide +kernel, rfl, tF51⟩
theorem rX8_init_65 : vPf mX8_init 65 8 15 68 := ⟨31, (RX8, TX8, 29), by decide +kernel, rfl, rfl, by decide, tF678, Or.inr ⟨rfl, rfl, rfl⟩⟩
theorem rX8_init_68 : vLa mX8_init 68 0 69 := ⟨0, by decide +kernel, rfl, rfl⟩
theorem rX8_init_69 : vCn mX8_init 69 (nI 12) 71 := Or.inr (Or.inl ⟨12, by decide +kernel, by decide +kernel, rfl⟩)
theorem rX8_init_71 : vNi mX8_init 71 .int 73 := ⟨by decide +kernel, rfl, tF51⟩
theorem rX8_init_73 : vPf mX8_init 73 8 16 76 := ⟨34, (RX8, TX8, 29), by decide +kernel, rfl, rfl, by decide, tF679, Or.inr ⟨rfl, rfl, rfl⟩⟩
theorem rX8_init_76 : vLa mX8_init 76 0 77 := ⟨0, by decide +kernel, rfl, rfl⟩
theorem rX8_init_77 : vCn mX8_init 77 (nI 36) 79 := Or.inr (Or.inl ⟨36, by decide +kernel, by decide +kernel, rfl⟩)
theorem rX8_init_79 : vNi mX8_init 79 .int 81 := ⟨by decide +kernel, rfl, tF51⟩
theorem rX8_init_81 : vPf mX8_init 81 8 17 84 := ⟨37, (RX8, TX8, 29), by decide +kernel, rfl, rfl, by decide, tF680, Or.inr ⟨rfl, rfl, rfl⟩⟩
theorem rX8_init_84 : vLa mX8_init 84 0 85 := ⟨0, by decide +kernel, rfl, rfl⟩
theorem rX8_init_85 : vCn mX8_init 85 (nI 56) 87 := Or.inr (Or.inl ⟨56, by decide +kernel, by decide +kernel, rfl⟩)
theorem rX8_init_87 : vNi mX8_init 87 .int 89 := ⟨by decide +kernel, rfl, tF51⟩
theorem rX8_init_89 : vPf mX8_init 89 8 18 92 := ⟨40, (RX8, TX8, 29), by decide +kernel, rfl, rfl, by decide, tF681, Or.inr ⟨rfl, rfl, rfl⟩⟩
theorem rX8_init_92 : vLa mX8_init 92 0 93 := ⟨0, by decide +kernel, rfl, rfl⟩
theorem rX8_init_93 : vCn mX8_init 93 (nI 56) 95 := Or.inr (Or.inl ⟨56, by decide +kernel, by decide +kernel, rfl⟩)
theorem rX8_init_95 : vNi mX8_init 95 .int 97 := ⟨by decide +kernel, rfl, tF51⟩
theorem rX8_init_97 : vPf mX8_init 97 8 19 100 := ⟨43, (RX8, TX8, 29), by decide +kernel, rfl, rfl, by decide, tF682, Or.inr ⟨rfl, rfl, rfl⟩⟩
theorem rX8_init_100 : vLa mX8_init 100 0 101 := ⟨0, by decide +kernel, rfl, rfl⟩
theorem rX8_init_101 : vCn mX8_init 101 (nI 112) 103 := Or.inr (Or.inl ⟨112, by decide +kernel, by decide +kernel, rfl⟩)
theorem rX8_init_103 : vNi mX8_init 103 .int 105 := ⟨by decide +kernel, rfl, tF51⟩
theorem rX8_init_105 : vPf mX8_init 105 8 20 108 := ⟨46, (RX8, TX8, 29), by decide +kernel, rfl, rfl, by decide, tF683, Or.inr ⟨rfl, rfl, rfl⟩⟩
theorem rX8_init_108 : vLa mX8_init 108 0 109 := ⟨0, by decide +kernel, rfl, rfl⟩
theorem rX8_init_109 : vCn mX8_init 109 (nI 2) 110 := Or.inl ⟨2, by decide +kernel, by decide +kernel, rfl⟩
theorem rX8_init_110 : vNi mX8_init 110 .boolean 112 := ⟨by decide +kernel, rfl, tF177⟩
theorem rX8_init_112 : vPf mX8_init 112 8 21 115 := ⟨49, (RX8, TX8, 29), by decide +kernel, rfl, rfl, by decide, tF684, Or.inr ⟨rfl, rfl, rfl⟩⟩
theorem rX8_init_115 : vLa mX8_init 115 0 116 := ⟨0, by decide +kernel, rfl, rfl⟩
theorem rX8_init_116 : vCn mX8_init 116 (nI 560) 119 := Or.inr (Or.inr (Or.inl ⟨560, by decide +kernel, by decide +kernel, rfl⟩))
theorem rX8_init_119 : vNi mX8_init 119 .int 121 := ⟨by decide +kernel, rfl, tF51⟩
theorem rX8_init_121 : vPf mX8_init 121 8 22 124 := ⟨53, (RX8, TX8, 29), by decide +kernel, rfl, rfl, by decide, tF685, Or.inr ⟨rfl, rfl, rfl⟩⟩
theorem rX8_init_124 : vLa mX8_init 124 0 125 := ⟨0, by decide +kernel, rfl, rfl⟩
theorem rX8_init_125 : vCn mX8_init 125 (nI 5) 126 := Or.inl ⟨5, by decide +kernel, by decide +kernel, rfl⟩
theorem rX8_init_126 : vNi mX8_init 126 .int 128 := ⟨by decide +kernel, rfl, tF51⟩
theorem rX8_init_128 : vPf mX8_init 128 8 24 131 := ⟨56, (RX8, TX8, 29), by decide +kernel, rfl, rfl, by decide, tF687, Or.inr ⟨rfl, rfl, rfl⟩⟩
theorem rX8_init_131 : vLa mX8_init 131 0 132 := ⟨0, by decide +kernel, rfl, rfl⟩
theorem rX8_init_132 : vCn mX8_init 132 (nI 5) 133 := Or.inl ⟨5, by decide +kernel, by decide +kernel, rfl⟩
theorem rX8_init_133 : vNi mX8_init 133 .int 135 := ⟨by decide +kernel, rfl, tF51⟩
theorem rX8_init_135 : vPf mX8_init 135 8 25 138 := ⟨59, (RX8, TX8, 29), by decide +kernel, rfl, rfl, by decide, tF688, Or.inr ⟨rfl, rfl, rfl⟩⟩
theorem rX8_init_138 : vLa mX8_init 138 0 139 := ⟨0, by decide +kernel, rfl, rfl⟩
theorem rX8_init_139 : vCn mX8_init 139 (nI 6) 141 := Or.inr (Or.inl ⟨6, by decide +kernel, by decide +kernel, rfl⟩)
theorem rX8_init_141 : vNi mX8_init 141 .int 143 := ⟨by decide +kernel, rfl, tF51⟩
theorem rX8_init_143 : vPf mX8_init 143 8 27 146 := ⟨62, (RX8, TX8, 29), by decide +kernel, rfl, rfl, by decide, tF690, Or.inr ⟨rfl, rfl, rfl⟩⟩
theorem rX8_init_146 : vLa mX8_init 146 0 147 := ⟨0, by decide +kernel, rfl, rfl⟩
theorem rX8_init_147 : vCn mX8_init 147 (nI 6) 149 := Or.inr (Or.inl ⟨6, by decide +kernel, by decide +kernel, rfl⟩)
theorem rX8_init_149 : vNi mX8_init 149 .int 151 := ⟨by decide +kernel, rfl, tF51⟩
theorem rX8_init_151 : vPf mX8_init 151 8 28 154 := ⟨65, (RX8, TX8, 29), by decide +kernel, rfl, rfl, by decide, tF691, Or.inr ⟨rfl, rfl, rfl⟩⟩
theorem rX8_init_154 : vI mX8_init 154 .return_ 1 155 := ⟨by decide +kernel, rfl⟩
theorem rX8_in_0 : vLi mX8_in 0 0 1 := Or.inl ⟨0, by decide +kernel, rfl, rfl⟩
theorem rX8_in_1 : vLi mX8_in 1 1 2 := Or.inl ⟨1, by decide +kernel, rfl, rfl⟩
theorem rX8_in_2 : vIc mX8_in 2 .lt 14 5 := ⟨12, by decide +kernel, by decide, rfl⟩
theorem rX8_in_5 : vLi mX8_in 5 0 6 := Or.inl ⟨0, by decide +kernel, rfl, rfl⟩
theorem rX8_in_6 : vLi mX8_in 6 2 7 := Or.inl ⟨2, by decide +kernel, rfl, rfl⟩
theorem rX8_in_7 : vIc mX8_in 7 .gt 14 10 := ⟨7, by decide +kernel, by decide, rfl⟩
theorem rX8_in_10 : vCn mX8_in 10 (nI 1) 11 := Or.inl ⟨1, by decide +kernel, by decide +kernel, rfl⟩
theorem rX8_in_11 : vGo mX8_in 11 15 := ⟨4, by decide +kernel, by decide⟩
theorem rX8_in_14 : vCn mX8_in 14 (nI 0) 15 := Or.inl ⟨0, by decide +kernel, by decide +kernel, rfl⟩
theorem rX8_in_15 : vI mX8_in 15 .ireturn 1 16 := ⟨by decide +kernel, rfl⟩
theorem rX8_type_0 : vLa mX8_type 0 0 1 := ⟨0, by decide +kernel, rfl, rfl⟩
theorem rX8_type_1 : vCn mX8_type 1 (nI 0) 2 := Or.inl ⟨0, by decide +kernel, by decide +kernel, rfl⟩
theorem rX8_type_2 : vPf mX8_type 2 8 0 5 := ⟨68, (RX8, TX8, 29), by decide +kernel, rfl, rfl, by decide, tF663, Or.inl rfl⟩
theorem rX8_type_5 : vLi mX8_type 5 1 6 := Or.inl ⟨1, by decide +kernel, rfl, rfl⟩
theorem rX8_type_6 : vCn mX8_type 6 (nI 0) 7 := Or.inl ⟨0, by decide +kernel, by decide +kernel, rfl⟩
theorem rX8_type_7 : vCn mX8_type 7 (nI 255) 10 := Or.inr (Or.inr (Or.inl ⟨255, by decide +kernel, by decide +kernel, rfl⟩))
theorem rX8_type_10 : vKs mX8_type 10 mX8_in 3 13 := ⟨72, by decide +kernel, rfl, kX8_in, tF756, Or.inl tF755⟩
theorem rX8_type_13 : vIf mX8_type 13 .ne 18 16 := ⟨5, by decide +kernel, by decide, rfl⟩
theorem rX8_type_16 : vCn mX8_type 16 (-1) 17 := Or.inl ⟨-1, by decide +kernel, by decide +kernel, rfl⟩
theorem rX8_type_17 : vI mX8_type 17 .ireturn 1 18 := ⟨by decide +kernel, rfl⟩
theorem rX8_type_18 : vLa mX8_type 18 0 19 := ⟨0, by decide +kernel, rfl, rfl⟩
theorem rX8_type_19 : vGf mX8_type 19 8 3 22 := ⟨76, (RX8, TX8, 29), by decide +kernel, rfl, rfl, by decide, tF666⟩
theorem rX8_type_22 : vCn mX8_type 22 (nI 200) 25 := Or.inr (Or.inr (Or.inl ⟨200, by decide +kernel, by decide +kernel, rfl⟩))
theorem rX8_type_25 : vIc mX8_type 25 .ne 31 28 := ⟨6, by decide +kernel, by decide, rfl⟩
theorem rX8_type_28 : vCn mX8_type 28 (-3) 30 := Or.inr (Or.inl ⟨-3, by decide +kernel, by decide +kernel, rfl⟩)
theorem rX8_type_30 : vI mX8_type 30 .ireturn 1 31 := ⟨by decide +kernel, rfl⟩
theorem rX8_type_31 : vLa mX8_type 31 0 32 := ⟨0, by decide +kernel, rfl, rfl⟩
theorem rX8_type_32 : vGf mX8_type 32 8 2 35 := ⟨7, (RX8, TX8, 29), by decide +kernel, rfl, rfl, by decide, tF665⟩
theorem rX8_type_35 : vLa mX8_type 35 0 36 := ⟨0, by decide +kernel, rfl, rfl⟩
theorem rX8_type_36 : vGf mX8_type 36 8 3 39 := ⟨76, (RX8, TX8, 29), by decide +kernel, rfl, rfl, by decide, tF666⟩
theorem rX8_type_39 : vLi mX8_type 39 1 40 := Or.inl ⟨1, by decide +kernel, rfl, rfl⟩
theorem rX8_type_40 : vI mX8_type 40 .iastore 1 41 := ⟨by decide +kernel, rfl⟩
theorem rX8_type_41 : vLa mX8_type 41 0 42 := ⟨0, by decide +kernel, rfl, rfl⟩
theorem rX8_type_42 : vI mX8_type 42 .dup 1 43 := ⟨by decide +kernel, rfl⟩
theorem rX8_type_43 : vGf mX8_type 43 8 3 46 := ⟨76, (RX8, TX8, 29), by decide +kernel, rfl, rfl, by decide, tF666⟩
theorem rX8_type_46 : vCn mX8_type 46 (nI 1) 47 := Or.inl ⟨1, by decide +kernel, by decide +kernel, rfl⟩
theorem rX8_type_47 : vI mX8_type 47 .iadd 1 48 := ⟨by decide +kernel, rfl⟩
theorem rX8_type_48 : vPf mX8_type 48 8 3 51 := ⟨76, (RX8, TX8, 29), by decide +kernel, rfl, rfl, by decide, tF666, Or.inl rfl⟩
theorem rX8_type_51 : vLa mX8_type 51 0 52 := ⟨0, by decide +kernel, rfl, rfl⟩
theorem rX8_type_52 : vGf mX8_type 52 8 3 55 := ⟨76, (RX8, TX8, 29), by decide +kernel, rfl, rfl, by decide, tF666⟩
theorem rX8_type_55 : vI mX8_type 55 .ireturn 1 56 := ⟨by decide +kernel, rfl⟩
theorem rX8_clear_0 : vLa mX8_clear 0 0 1 := ⟨0, by decide +kernel, rfl, rfl⟩
theorem rX8_clear_1 : vCn mX8_clear 1 (nI 0) 2 := Or.inl ⟨0, by decide +kernel, by decide +kernel, rfl⟩
theorem rX8_clear_2 : vPf mX8_clear 2 8 0 5 := ⟨68, (RX8, TX8, 29), by decide +kernel, rfl, rfl, by decide, tF663, Or.inl rfl⟩
theorem rX8_clear_5 : vLa mX8_clear 5 0 6 := ⟨0, by decide +kernel, rfl, rfl⟩
theorem rX8_clear_6 : vGf mX8_clear 6 8 3 9 := ⟨76, (RX8, TX8, 29), by decide +kernel, rfl, rfl, by decide, tF666⟩
theorem rX8_clear_9 : vSi mX8_clear 9 1 10 := ⟨Or.inl ⟨1, by decide +kernel, rfl, rfl⟩, by decide⟩
theorem rX8_clear_10 : vLa mX8_clear 10 0 11 := ⟨0, by decide +kernel, rfl, rfl⟩
theorem rX8_clear_11 : vCn mX8_clear 11 (nI 0) 12 := Or.inl ⟨0, by decide +kernel, by decide +kernel, rfl⟩
theorem rX8_clear_12 : vPf mX8_clear 12 8 3 15 := ⟨76, (RX8, TX8, 29), by decide +kernel, rfl, rfl, by decide, tF666, Or.inl rfl⟩
theorem rX8_clear_15 : vLi mX8_clear 15 1 16 := Or.inl ⟨1, by decide +kernel, rfl, rfl⟩
theorem rX8_clear_16 : vI mX8_clear 16 .ireturn 1 17 := ⟨by decide +kernel, rfl⟩
theorem rX8_letterAt_0 : vLi mX8_letterAt 0 1 1 := Or.inl ⟨1, by decide +kernel, rfl, rfl⟩
theorem rX8_letterAt_1 : vLa mX8_letterAt 1 0 2 := ⟨0, by decide +kernel, rfl, rfl⟩
theorem rX8_letterAt_2 : vGf mX8_letterAt 2 8 3 5 := ⟨76, (RX8, TX8, 29), by decide +kernel, rfl, rfl, by decide, tF666⟩
theorem rX8_letterAt_5 : vIc mX8_letterAt 5 .ge 17 8 := ⟨12, by decide +kernel, by decide, rfl⟩
theorem rX8_letterAt_8 : vLa mX8_letterAt 8 0 9 := ⟨0, by decide +kernel, rfl, rfl⟩
theorem rX8_letterAt_9 : vGf mX8_letterAt 9 8 2 12 := ⟨7, (RX8, TX8, 29), by decide +kernel, rfl, rfl, by decide, tF665⟩
theorem rX8_letterAt_12 : vLi mX8_letterAt 12 1 13 := Or.inl ⟨1, by decide +kernel, rfl, rfl⟩
theorem rX8_letterAt_13 : vI mX8_letterAt 13 .iaload 1 14 := ⟨by decide +kernel, rfl⟩
theorem rX8_letterAt_14 : vGo mX8_letterAt 14 18 := ⟨4, by decide +kernel, by decide⟩
theorem rX8_letterAt_17 : vCn mX8_letterAt 17 (-1) 18 := Or.inl ⟨-1, by decide +kernel, by decide +kernel, rfl⟩
theorem rX8_letterAt_18 : vI mX8_letterAt 18 .ireturn 1 19 := ⟨by decide +kernel, rfl⟩
theorem rX8_advances_0 : vLa mX8_advances 0 0 1 := ⟨0, by decide +kernel, rfl, rfl⟩
theorem rX8_advances_1 : vLa mX8_advances 1 0 2 := ⟨0, by decide +kernel, rfl, rfl⟩
theorem rX8_advances_2 : vGf mX8_advances 2 8 4 5 := ⟨79, (RX8, TX8, 29), by decide +kernel, rfl, rfl, by decide, tF667⟩
theorem rX8_advances_5 : vKv mX8_advances 5 mX8_letterAt 1 8 8 := ⟨82, (RX8, TX8, 29), by decide +kernel, rfl, kX8_letterAt, tF772, tF770, tS27, rfl, rfl⟩
theorem rX8_advances_8 : vCn mX8_advances 8 (nI 32) 10 := Or.inr (Or.inl ⟨32, by decide +kernel, by decide +kernel, rfl⟩)
theorem rX8_advances_10 : vIc mX8_advances 10 .ne 26 13 := ⟨16, by decide +kernel, by decide, rfl⟩
theorem rX8_advances_13 : vLa mX8_advances 13 0 14 := ⟨0, by decide +kernel, rfl, rfl⟩
theorem rX8_advances_14 : vI mX8_advances 14 .dup 1 15 := ⟨by decide +kernel, rfl⟩
theorem rX8_advances_15 : vGf mX8_advances 15 8 4 18 := ⟨79, (RX8, TX8, 29), by decide +kernel, rfl, rfl, by decide, tF667⟩
theorem rX8_advances_18 : vCn mX8_advances 18 (nI 1) 19 := Or.inl ⟨1, by decide +kernel, by decide +kernel, rfl⟩
theorem rX8_advances_19 : vI mX8_advances 19 .iadd 1 20 := ⟨by decide +kernel, rfl⟩
theorem rX8_advances_20 : vPf mX8_advances 20 8 4 23 := ⟨79, (RX8, TX8, 29), by decide +kernel, rfl, rfl, by decide, tF667, Or.inl rfl⟩
theorem rX8_advances_23 : vGo mX8_advances 23 0 := ⟨-23, by decide +kernel, by decide⟩
theorem rX8_advances_26 : vLa mX8_advances 26 0 27 := ⟨0, by decide +kernel, rfl, rfl⟩
theorem rX8_advances_27 : vLa mX8_advances 27 0 28 := ⟨0, by decide +kernel, rfl, rfl⟩
theorem rX8_advances_28 : vGf mX8_advances 28 8 4 31 := ⟨79, (RX8, TX8, 29), by decide +kernel, rfl, rfl, by decide, tF667⟩
theorem rX8_advances_31 : vPf mX8_advances 31 8 6 34 := ⟨86, (RX8, TX8, 29), by decide +kernel, rfl, rfl, by decide, tF669, Or.inl rfl⟩
theorem rX8_advances_34 : vLa mX8_advances 34 0 35 := ⟨0, by decide +kernel, rfl, rfl⟩
theorem rX8_advances_35 : vLa mX8_advances 35 0 36 := ⟨0, by decide +kernel, rfl, rfl⟩
theorem rX8_advances_36 : vGf mX8_advances 36 8 4 39 := ⟨79, (RX8, TX8, 29), by decide +kernel, rfl, rfl, by decide, tF667⟩
theorem rX8_advances_39 : vKv mX8_advances 39 mX8_letterAt 1 8 42 := ⟨82, (RX8, TX8, 29), by decide +kernel, rfl, kX8_letterAt, tF772, tF770, tS27, rfl, rfl⟩
theorem rX8_advances_42 : vSi mX8_advances 42 1 43 := ⟨Or.inl ⟨1, by decide +kernel, rfl, rfl⟩, by decide⟩
theorem rX8_advances_43 : vLi mX8_advances 43 1 44 := Or.inl ⟨1, by decide +kernel, rfl, rfl⟩
theorem rX8_advances_44 : vIf mX8_advances 44 .ge 55 47 := ⟨11, by decide +kernel, by decide, rfl⟩
theorem rX8_advances_47 : vLa mX8_advances 47 0 48 := ⟨0, by decide +kernel, rfl, rfl⟩
theorem rX8_advances_48 : vCn mX8_advances 48 (nI 0) 49 := Or.inl ⟨0, by decide +kernel, by decide +kernel, rfl⟩
theorem rX8_advances_49 : vPf mX8_advances 49 8 5 52 := ⟨89, (RX8, TX8, 29), by decide +kernel, rfl, rfl, by decide, tF668, Or.inl rfl⟩
theorem rX8_advances_52 : vGo mX8_advances 52 233 := ⟨181, by decide +kernel, by decide⟩
theorem rX8_advances_55 : vLi mX8_advances 55 1 56 := Or.inl ⟨1, by decide +kernel, rfl, rfl⟩
theorem rX8_advances_56 : vCn mX8_advances 56 (nI 48) 58 := Or.inr (Or.inl ⟨48, by decide +kernel, by decide +kernel, rfl⟩)
theorem rX8_advances_58 : vCn mX8_advances 58 (nI 57) 60 := Or.inr (Or.inl ⟨57, by decide +kernel, by decide +kernel, rfl⟩)
theorem rX8_advances_60 : vKs mX8_advances 60 mX8_in 3 63 := ⟨72, by decide +kernel, rfl, kX8_in, tF756, Or.inl tF755⟩
theorem rX8_advances_63 : vIf mX8_advances 63 .eq 181 66 := ⟨118, by decide +kernel, by decide, rfl⟩
theorem rX8_advances_66 : vLa mX8_advances 66 0 67 := ⟨0, by decide +kernel, rfl, rfl⟩
theorem rX8_advances_67 : vCn mX8_advances 67 (nI 0) 68 := Or.inl ⟨0, by decide +kernel, by decide +kernel, rfl⟩
theorem rX8_advances_68 : vPf mX8_advances 68 8 7 71 := ⟨92, (RX8, TX8, 29), by decide +kernel, rfl, rfl, by decide, tF670, Or.inl rfl⟩
theorem rX8_advances_71 : vLa mX8_advances 71 0 72 := ⟨0, by decide +kernel, rfl, rfl⟩
theorem rX8_advances_72 : vLa mX8_advances 72 0 73 := ⟨0, by decide +kernel, rfl, rfl⟩
theorem rX8_advances_73 : vGf mX8_advances 73 8 4 76 := ⟨79, (RX8, TX8, 29), by decide +kernel, rfl, rfl, by decide, tF667⟩
theorem rX8_advances_76 : vKv mX8_advances 76 mX8_letterAt 1 8 79 := ⟨82, (RX8, TX8, 29), by decide +kernel, rfl, kX8_letterAt, tF772, tF770, tS27, rfl, rfl⟩
theorem rX8_advances_79 : vCn mX8_advances 79 (nI 48) 81 := Or.inr (Or.inl ⟨48, by decide +kernel, by decide +kernel, rfl⟩)
theorem rX8_advances_81 : vCn mX8_advances 81 (nI 57) 83 := Or.inr (Or.inl ⟨57, by decide +kernel, by decide +kernel, rfl⟩)
theorem rX8_advances_83 : vKs mX8_advances 83 mX8_in 3 86 := ⟨72, by decide +kernel, rfl, kX8_in, tF756, Or.inl tF755⟩
theorem rX8_advances_86 : vIf mX8_advances 86 .eq 141 89 := ⟨55, by decide +kernel, by decide, rfl⟩
theorem rX8_advances_89 : vLa mX8_advances 89 0 90 := ⟨0, by decide +kernel, rfl, rfl⟩
theorem rX8_advances_90 : vLa mX8_advances 90 0 91 := ⟨0, by decide +kernel, rfl, rfl⟩
theorem rX8_advances_91 : vGf mX8_advances 91 8 7 94 := ⟨92, (RX8, TX8, 29), by decide +kernel, rfl, rfl, by decide, tF670⟩
theorem rX8_advances_94 : vCn mX8_advances 94 (nI 99) 96 := Or.inr (Or.inl ⟨99, by decide +kernel, by decide +kernel, rfl⟩)
theorem rX8_advances_96 : vIc mX8_advances 96 .le 106 99 := ⟨10, by decide +kernel, by decide, rfl⟩
theorem rX8_advances_99 : vLa mX8_advances 99 0 100 := ⟨0, by decide +kernel, rfl, rfl⟩
theorem rX8_advances_100 : vGf mX8_advances 100 8 7 103 := ⟨92, (RX8, TX8, 29), by decide +kernel, rfl, rfl, by decide, tF670⟩
theorem rX8_advances_103 : vGo mX8_advances 103 125 := ⟨22, by decide +kernel, by decide⟩
theorem rX8_advances_106 : vCn mX8_advances 106 (nI 10) 108 := Or.inr (Or.inl ⟨10, by decide +kernel, by decide +kernel, rfl⟩)
theorem rX8_advances_108 : vLa mX8_advances 108 0 109 := ⟨0, by decide +kernel, rfl, rfl⟩
theorem rX8_advances_109 : vGf mX8_advances 109 8 7 112 := ⟨92, (RX8, TX8, 29), by decide +kernel, rfl, rfl, by decide, tF670⟩
theorem rX8_advances_112 : vI mX8_advances 112 .imul 1 113 := ⟨by decide +kernel, rfl⟩
theorem rX8_advances_113 : vLa mX8_advances 113 0 114 := ⟨0, by decide +kernel, rfl, rfl⟩
theorem rX8_advances_114 : vLa mX8_advances 114 0 115 := ⟨0, by decide +kernel, rfl, rfl⟩
theorem rX8_advances_115 : vGf mX8_advances 115 8 4 118 := ⟨79, (RX8, TX8, 29), by decide +kernel, rfl, rfl, by decide, tF667⟩
theorem rX8_advances_118 : vKv mX8_advances 118 mX8_letterAt 1 8 121 := ⟨82, (RX8, TX8, 29), by decide +kernel, rfl, kX8_letterAt, tF772, tF770, tS27, rfl, rfl⟩
theorem rX8_advances_121 : vI mX8_advances 121 .iadd 1 122 := ⟨by decide +kernel, rfl⟩
theorem rX8_advances_122 : vCn mX8_advances 122 (nI 48) 124 := Or.inr (Or.inl ⟨48, by decide +kernel, by decide +kernel, rfl⟩)
theorem rX8_advances_124 : vI mX8_advances 124 .isub 1 125 := ⟨by decide +kernel, rfl⟩
theorem rX8_advances_125 : vPf mX8_advances 125 8 7 128 := ⟨92, (RX8, TX8, 29), by decide +kernel, rfl, rfl, by decide, tF670, Or.inl rfl⟩
theorem rX8_advances_128 : vLa mX8_advances 128 0 129 := ⟨0, by decide +kernel, rfl, rfl⟩
theorem rX8_advances_129 : vI mX8_advances 129 .dup 1 130 := ⟨by decide +kernel, rfl⟩
theorem rX8_advances_130 : vGf mX8_advances 130 8 4 133 := ⟨79, (RX8, TX8, 29), by decide +kernel, rfl, rfl, by decide, tF667⟩
theorem rX8_advances_133 : vCn mX8_advances 133 (nI 1) 134 := Or.inl ⟨1, by decide +kernel, by decide +kernel, rfl⟩
theorem rX8_advances_134 : vI mX8_advances 134 .iadd 1 135 := ⟨by decide +kernel, rfl⟩
theorem rX8_advances_135 : vPf mX8_advances 135 8 4 138 := ⟨79, (RX8, TX8, 29), by decide +kernel, rfl, rfl, by decide, tF667, Or.inl rfl⟩
theorem rX8_advances_138 : vGo mX8_advances 138 71 := ⟨-67, by decide +kernel, by decide⟩
theorem rX8_advances_141 : vLa mX8_advances 141 0 142 := ⟨0, by decide +kernel, rfl, rfl⟩
theorem rX8_advances_142 : vLa mX8_advances 142 0 143 := ⟨0, by decide +kernel, rfl, rfl⟩
theorem rX8_advances_143 : vGf mX8_advances 143 8 7 146 := ⟨92, (RX8, TX8, 29), by decide +kernel, rfl, rfl, by decide, tF670⟩
theorem rX8_advances_146 : vCn mX8_advances 146 (nI 99) 148 := Or.inr (Or.inl ⟨99, by decide +kernel, by decide +kernel, rfl⟩)
theorem rX8_advances_148 : vIc mX8_advances 148 .gt 170 151 := ⟨22, by decide +kernel, by decide, rfl⟩
theorem rX8_advances_151 : vLi mX8_advances 151 1 152 := Or.inl ⟨1, by decide +kernel, rfl, rfl⟩
theorem rX8_advances_152 : vCn mX8_advances 152 (nI 48) 154 := Or.inr (Or.inl ⟨48, by decide +kernel, by decide +kernel, rfl⟩)
theorem rX8_advances_154 : vIc mX8_advances 154 .ne 174 157 := ⟨20, by decide +kernel, by decide, rfl⟩
theorem rX8_advances_157 : vLa mX8_advances 157 0 158 := ⟨0, by decide +kernel, rfl, rfl⟩
theorem rX8_advances_158 : vGf mX8_advances 158 8 4 161 := ⟨79, (RX8, TX8, 29), by decide +kernel, rfl, rfl, by decide, tF667⟩
theorem rX8_advances_161 : vLa mX8_advances 161 0 162 := ⟨0, by decide +kernel, rfl, rfl⟩
theorem rX8_advances_162 : vGf mX8_advances 162 8 6 165 := ⟨86, (RX8, TX8, 29), by decide +kernel, rfl, rfl, by decide, tF669⟩
theorem rX8_advances_165 : vI mX8_advances 165 .isub 1 166 := ⟨by decide +kernel, rfl⟩
theorem rX8_advances_166 : vCn mX8_advances 166 (nI 1) 167 := Or.inl ⟨1, by decide +kernel, by decide +kernel, rfl⟩
theorem rX8_advances_167 : vIc mX8_advances 167 .le 174 170 := ⟨7, by decide +kernel, by decide, rfl⟩
theorem rX8_advances_170 : vCn mX8_advances 170 (nI 4) 171 := Or.inl ⟨4, by decide +kernel, by decide +kernel, rfl⟩
theorem rX8_advances_171 : vGo mX8_advances 171 175 := ⟨4, by decide +kernel, by decide⟩
theorem rX8_advances_174 : vCn mX8_advances 174 (nI 2) 175 := Or.inl ⟨2, by decide +kernel, by decide +kernel, rfl⟩
theorem rX8_advances_175 : vPf mX8_advances 175 8 5 178 := ⟨89, (RX8, TX8, 29), by decide +kernel, rfl, rfl, by decide, tF668, Or.inl rfl⟩
theorem rX8_advances_178 : vGo mX8_advances 178 233 := ⟨55, by decide +kernel, by decide⟩
theorem rX8_advances_181 : vLa mX8_advances 181 0 182 := ⟨0, by decide +kernel, rfl, rfl⟩
theorem rX8_advances_182 : vI mX8_advances 182 .dup 1 183 := ⟨by decide +kernel, rfl⟩
theorem rX8_advances_183 : vGf mX8_advances 183 8 4 186 := ⟨79, (RX8, TX8, 29), by decide +kernel, rfl, rfl, by decide, tF667⟩
theorem rX8_advances_186 : vCn mX8_advances 186 (nI 1) 187 := Or.inl ⟨1, by decide +kernel, by decide +kernel, rfl⟩
theorem rX8_advances_187 : vI mX8_advances 187 .iadd 1 188 := ⟨by decide +kernel, rfl⟩
theorem rX8_advances_188 : vPf mX8_advances 188 8 4 191 := ⟨79, (RX8, TX8, 29), by decide +kernel, rfl, rfl, by decide, tF667, Or.inl rfl⟩
theorem rX8_advances_191 : vLa mX8_advances 191 0 192 := ⟨0, by decide +kernel, rfl, rfl⟩
theorem rX8_advances_192 : vLi mX8_advances 192 1 193 := Or.inl ⟨1, by decide +kernel, rfl, rfl⟩
theorem rX8_advances_193 : vPf mX8_advances 193 8 7 196 := ⟨92, (RX8, TX8, 29), by decide +kernel, rfl, rfl, by decide, tF670, Or.inl rfl⟩
theorem rX8_advances_196 : vLa mX8_advances 196 0 197 := ⟨0, by decide +kernel, rfl, rfl⟩
theorem rX8_advances_197 : vLi mX8_advances 197 1 198 := Or.inl ⟨1, by decide +kernel, rfl, rfl⟩
theorem rX8_advances_198 : vCn mX8_advances 198 (nI 59) 200 := Or.inr (Or.inl ⟨59, by decide +kernel, by decide +kernel, rfl⟩)
theorem rX8_advances_200 : vIc mX8_advances 200 .ne 207 203 := ⟨7, by decide +kernel, by decide, rfl⟩
theorem rX8_advances_203 : vCn mX8_advances 203 (nI 3) 204 := Or.inl ⟨3, by decide +kernel, by decide +kernel, rfl⟩
theorem rX8_advances_204 : vGo mX8_advances 204 230 := ⟨26, by decide +kernel, by decide⟩
theorem rX8_advances_207 : vLi mX8_advances 207 1 208 := Or.inl ⟨1, by decide +kernel, rfl, rfl⟩
theorem rX8_advances_208 : vCn mX8_advances 208 (nI 116) 210 := Or.inr (Or.inl ⟨116, by decide +kernel, by decide +kernel, rfl⟩)
theorem rX8_advances_210 : vIc mX8_advances 210 .eq 225 213 := ⟨15, by decide +kernel, by decide, rfl⟩
theorem rX8_advances_213 : vLi mX8_advances 213 1 214 := Or.inl ⟨1, by decide +kernel, rfl, rfl⟩
theorem rX8_advances_214 : vCn mX8_advances 214 (nI 100) 216 := Or.inr (Or.inl ⟨100, by decide +kernel, by decide +kernel, rfl⟩)
theorem rX8_advances_216 : vIc mX8_advances 216 .eq 225 219 := ⟨9, by decide +kernel, by decide, rfl⟩
theorem rX8_advances_219 : vLi mX8_advances 219 1 220 := Or.inl ⟨1, by decide +kernel, rfl, rfl⟩
theorem rX8_advances_220 : vCn mX8_advances 220 (nI 111) 222 := Or.inr (Or.inl ⟨111, by decide +kernel, by decide +kernel, rfl⟩)
theorem rX8_advances_222 : vIc mX8_advances 222 .ne 229 225 := ⟨7, by decide +kernel, by decide, rfl⟩
theorem rX8_advances_225 : vCn mX8_advances 225 (nI 1) 226 := Or.inl ⟨1, by decide +kernel, by decide +kernel, rfl⟩
theorem rX8_advances_226 : vGo mX8_advances 226 230 := ⟨4, by decide +kernel, by decide⟩
theorem rX8_advances_229 : vCn mX8_advances 229 (nI 4) 230 := Or.inl ⟨4, by decide +kernel, by decide +kernel, rfl⟩
theorem rX8_advances_230 : vPf mX8_advances 230 8 5 233 := ⟨89, (RX8, TX8, 29), by decide +kernel, rfl, rfl, by decide, tF668, Or.inl rfl⟩
theorem rX8_advances_233 : vI mX8_advances 233 .return_ 1 234 := ⟨by decide +kernel, rfl⟩
theorem rX8_isWell_0 : vLa mX8_isWell 0 0 1 := ⟨0, by decide +kernel, rfl, rfl⟩
theorem rX8_isWell_1 : vGf mX8_isWell 1 8 8 4 := ⟨95, (RX8, TX8, 29), by decide +kernel, rfl, rfl, by decide, tF671⟩
theorem rX8_isWell_4 : vIf mX8_isWell 4 .ge 11 7 := ⟨7, by decide +kernel, by decide, rfl⟩
theorem rX8_isWell_7 : vCn mX8_isWell 7 (nI 1) 8 := Or.inl ⟨1, by decide +kernel, by decide +kernel, rfl⟩
theorem rX8_isWell_8 : vGo mX8_isWell 8 12 := ⟨4, by decide +kernel, by decide⟩
theorem rX8_isWell_11 : vCn mX8_isWell 11 (nI 0) 12 := Or.inl ⟨0, by decide +kernel, by decide +kernel, rfl⟩
theorem rX8_isWell_12 : vI mX8_isWell 12 .ireturn 1 13 := ⟨by decide +kernel, rfl⟩
theorem rX8_takes_0 : vLa mX8_takes 0 0 1 := ⟨0, by decide +kernel, rfl, rfl⟩
theorem rX8_takes_1 : vKv mX8_takes 1 mX8_isWell 0 8 4 := ⟨98, (RX8, TX8, 29), by decide +kernel, rfl, kX8_isWell, tF776, tF774, tS28, rfl, rfl⟩
theorem rX8_takes_4 : vIf mX8_takes 4 .ne 9 7 := ⟨5, by decide +kernel, by decide, rfl⟩
theorem rX8_takes_7 : vCn mX8_takes 7 (nI 0) 8 := Or.inl ⟨0, by decide +kernel, by decide +kernel, rfl⟩
theorem rX8_takes_8 : vI mX8_takes 8 .ireturn 1 9 := ⟨by decide +kernel, rfl⟩
theorem rX8_takes_9 : vLi mX8_takes 9 1 10 := Or.inl ⟨1, by decide +kernel, rfl, rfl⟩
theorem rX8_takes_10 : vIf mX8_takes 10 .ne 23 13 := ⟨13, by decide +kernel, by decide, rfl⟩
theorem rX8_takes_13 : vLa mX8_takes 13 0 14 := ⟨0, by decide +kernel, rfl, rfl⟩
theorem rX8_takes_14 : vLa mX8_takes 14 0 15 := ⟨0, by decide +kernel, rfl, rfl⟩
theorem rX8_takes_15 : vGf mX8_takes 15 8 6 18 := ⟨86, (RX8, TX8, 29), by decide +kernel, rfl, rfl, by decide, tF669⟩
theorem rX8_takes_18 : vPf mX8_takes 18 8 8 21 := ⟨95, (RX8, TX8, 29), by decide +kernel, rfl, rfl, by decide, tF671, Or.inl rfl⟩
theorem rX8_takes_21 : vCn mX8_takes 21 (nI 0) 22 := Or.inl ⟨0, by decide +kernel, by decide +kernel, rfl⟩
theorem rX8_takes_22 : vI mX8_takes 22 .ireturn 1 23 := ⟨by decide +kernel, rfl⟩
theorem rX8_takes_23 : vLa mX8_takes 23 0 24 := ⟨0, by decide +kernel, rfl, rfl⟩
theorem rX8_takes_24 : vGf mX8_takes 24 8 7 27 := ⟨92, (RX8, TX8, 29), by decide +kernel, rfl, rfl, by decide, tF670⟩
theorem rX8_takes_27 : vSi mX8_takes 27 2 28 := ⟨Or.inl ⟨2, by decide +kernel, rfl, rfl⟩, by decide⟩
theorem rX8_takes_28 : vLa mX8_takes 28 0 29 := ⟨0, by decide +kernel, rfl, rfl⟩
theorem rX8_takes_29 : vKv mX8_takes 29 mX8_advances 0 8 32 := ⟨102, (RX8, TX8, 29), by decide +kernel, rfl, kX8_advances, tF768, tF766, tS26, rfl, rfl⟩
theorem rX8_takes_32 : vLi mX8_takes 32 2 33 := Or.inl ⟨2, by decide +kernel, rfl, rfl⟩
theorem rX8_takes_33 : vI mX8_takes 33 .ireturn 1 34 := ⟨by decide +kernel, rfl⟩
theorem rX8_number_0 : vLa mX8_number 0 0 1 := ⟨0, by decide +kernel, rfl, rfl⟩
theorem rX8_number_1 : vLa mX8_number 1 0 2 := ⟨0, by decide +kernel, rfl, rfl⟩
theorem rX8_number_2 : vGf mX8_number 2 8 5 5 := ⟨89, (RX8, TX8, 29), by decide +kernel, rfl, rfl, by decide, tF668⟩
theorem rX8_number_5 : vCn mX8_number 5 (nI 2) 6 := Or.inl ⟨2, by decide +kernel, by decide +kernel, rfl⟩
theorem rX8_number_6 : vIc mX8_number 6 .ne 25 9 := ⟨19, by decide +kernel, by decide, rfl⟩
theorem rX8_number_9 : vLa mX8_number 9 0 10 := ⟨0, by decide +kernel, rfl, rfl⟩
theorem rX8_number_10 : vGf mX8_number 10 8 7 13 := ⟨92, (RX8, TX8, 29), by decide +kernel, rfl, rfl, by decide, tF670⟩
theorem rX8_number_13 : vLi mX8_number 13 1 14 := Or.inl ⟨1, by decide +kernel, rfl, rfl⟩
theorem rX8_number_14 : vLi mX8_number 14 2 15 := Or.inl ⟨2, by decide +kernel, rfl, rfl⟩
theorem rX8_number_15 : vKs mX8_number 15 mX8_in 3 18 := ⟨72, by decide +kernel, rfl, kX8_in, tF756, Or.inl tF755⟩
theorem rX8_number_18 : vIf mX8_number 18 .eq 25 21 := ⟨7, by decide +kernel, by decide, rfl⟩
theorem rX8_number_21 : vCn mX8_number 21 (nI 1) 22 := Or.inl ⟨1, by decide +kernel, by decide +kernel, rfl⟩
theorem rX8_number_22 : vGo mX8_number 22 26 := ⟨4, by decide +kernel, by decide⟩
theorem rX8_number_25 : vCn mX8_number 25 (nI 0) 26 := Or.inl ⟨0, by decide +kernel, by decide +kernel, rfl⟩
theorem rX8_number_26 : vKv mX8_number 26 mX8_takes 1 8 29 := ⟨105, (RX8, TX8, 29), by decide +kernel, rfl, kX8_takes, tF780, tF778, tS29, rfl, rfl⟩
theorem rX8_number_29 : vI mX8_number 29 .ireturn 1 30 := ⟨by decide +kernel, rfl⟩
theorem rX8_readsItem_0 : vLi mX8_readsItem 0 1 1 := Or.inl ⟨1, by decide +kernel, rfl, rfl⟩
theorem rX8_readsItem_1 : vCn mX8_readsItem 1 (nI 116) 3 := Or.inr (Or.inl ⟨116, by decide +kernel, by decide +kernel, rfl⟩)
theorem rX8_readsItem_3 : vIc mX8_readsItem 3 .ne 68 6 := ⟨65, by decide +kernel, by decide, rfl⟩
theorem rX8_readsItem_6 : vCn mX8_readsItem 6 (nI 6) 8 := Or.inr (Or.inl ⟨6, by decide +kernel, by decide +kernel, rfl⟩)
theorem rX8_readsItem_8 : vLa mX8_readsItem 8 0 9 := ⟨0, by decide +kernel, rfl, rfl⟩
theorem rX8_readsItem_9 : vGf mX8_readsItem 9 8 9 12 := ⟨13, (RX8, TX8, 29), by decide +kernel, rfl, rfl, by decide, tF672⟩
theorem rX8_readsItem_12 : vCn mX8_readsItem 12 (nI 2) 13 := Or.inl ⟨2, by decide +kernel, by decide +kernel, rfl⟩
theorem rX8_readsItem_13 : vI mX8_readsItem 13 .iaload 1 14 := ⟨by decide +kernel, rfl⟩
theorem rX8_readsItem_14 : vI mX8_readsItem 14 .iadd 1 15 := ⟨by decide +kernel, rfl⟩
theorem rX8_readsItem_15 : vSi mX8_readsItem 15 2 16 := ⟨Or.inl ⟨2, by decide +kernel, rfl, rfl⟩, by decide⟩
theorem rX8_readsItem_16 : vLa mX8_readsItem 16 0 17 := ⟨0, by decide +kernel, rfl, rfl⟩
theorem rX8_readsItem_17 : vGf mX8_readsItem 17 8 10 20 := ⟨16, (RX8, TX8, 29), by decide +kernel, rfl, rfl, by decide, tF673⟩
theorem rX8_readsItem_20 : vLi mX8_readsItem 20 2 21 := Or.inl ⟨2, by decide +kernel, rfl, rfl⟩
theorem rX8_readsItem_21 : vLa mX8_readsItem 21 0 22 := ⟨0, by decide +kernel, rfl, rfl⟩
theorem rX8_readsItem_22 : vCn mX8_readsItem 22 (nI 1) 23 := Or.inl ⟨1, by decide +kernel, by decide +kernel, rfl⟩
theorem rX8_readsItem_23 : vCn mX8_readsItem 23 (nI 99) 25 := Or.inr (Or.inl ⟨99, by decide +kernel, by decide +kernel, rfl⟩)
theorem rX8_readsItem_25 : vKv mX8_readsItem 25 mX8_number 2 8 28 := ⟨109, (RX8, TX8, 29), by decide +kernel, rfl, kX8_number, tF788, tF786, tS31, rfl, rfl⟩
theorem rX8_readsItem_28 : vI mX8_readsItem 28 .iastore 1 29 := ⟨by decide +kernel, rfl⟩
theorem rX8_readsItem_29 : vLa mX8_readsItem 29 0 30 := ⟨0, by decide +kernel, rfl, rfl⟩
theorem rX8_readsItem_30 : vGf mX8_readsItem 30 8 11 33 := ⟨19, (RX8, TX8, 29), by decide +kernel, rfl, rfl, by decide, tF674⟩
theorem rX8_readsItem_33 : vLi mX8_readsItem 33 2 34 := Or.inl ⟨2, by decide +kernel, rfl, rfl⟩
theorem rX8_readsItem_34 : vLa mX8_readsItem 34 0 35 := ⟨0, by decide +kernel, rfl, rfl⟩
theorem rX8_readsItem_35 : vCn mX8_readsItem 35 (nI 1) 36 := Or.inl ⟨1, by decide +kernel, by decide +kernel, rfl⟩
theorem rX8_readsItem_36 : vCn mX8_readsItem 36 (nI 99) 38 := Or.inr (Or.inl ⟨99, by decide +kernel, by decide +kernel, rfl⟩)
theorem rX8_readsItem_38 : vKv mX8_readsItem 38 mX8_number 2 8 41 := ⟨109, (RX8, TX8, 29), by decide +kernel, rfl, kX8_number, tF788, tF786, tS31, rfl, rfl⟩
theorem rX8_readsItem_41 : vI mX8_readsItem 41 .iastore 1 42 := ⟨by decide +kernel, rfl⟩
theorem rX8_readsItem_42 : vLa mX8_readsItem 42 0 43 := ⟨0, by decide +kernel, rfl, rfl⟩
theorem rX8_readsItem_43 : vGf mX8_readsItem 43 8 12 46 := ⟨22, (RX8, TX8, 29), by decide +kernel, rfl, rfl, by decide, tF675⟩
theorem rX8_readsItem_46 : vLi mX8_readsItem 46 2 47 := Or.inl ⟨2, by decide +kernel, rfl, rfl⟩
theorem rX8_readsItem_47 : vLa mX8_readsItem 47 0 48 := ⟨0, by decide +kernel, rfl, rfl⟩
theorem rX8_readsItem_48 : vCn mX8_readsItem 48 (nI 0) 49 := Or.inl ⟨0, by decide +kernel, by decide +kernel, rfl⟩
theorem rX8_readsItem_49 : vCn mX8_readsItem 49 (nI 6) 51 := Or.inr (Or.inl ⟨6, by decide +kernel, by decide +kernel, rfl⟩)
theorem rX8_readsItem_51 : vKv mX8_readsItem 51 mX8_number 2 8 54 := ⟨109, (RX8, TX8, 29), by decide +kernel, rfl, kX8_number, tF788, tF786, tS31, rfl, rfl⟩
theorem rX8_readsItem_54 : vI mX8_readsItem 54 .iastore 1 55 := ⟨by decide +kernel, rfl⟩
theorem rX8_readsItem_55 : vLa mX8_readsItem 55 0 56 := ⟨0, by decide +kernel, rfl, rfl⟩
theorem rX8_readsItem_56 : vGf mX8_readsItem 56 8 9 59 := ⟨13, (RX8, TX8, 29), by decide +kernel, rfl, rfl, by decide, tF672⟩
theorem rX8_readsItem_59 : vCn mX8_readsItem 59 (nI 2) 60 := Or.inl ⟨2, by decide +kernel, by decide +kernel, rfl⟩
theorem rX8_readsItem_60 : vI mX8_readsItem 60 .dup2 1 61 := ⟨by decide +kernel, rfl⟩
theorem rX8_readsItem_61 : vI mX8_readsItem 61 .iaload 1 62 := ⟨by decide +kernel, rfl⟩
theorem rX8_readsItem_62 : vCn mX8_readsItem 62 (nI 1) 63 := Or.inl ⟨1, by decide +kernel, by decide +kernel, rfl⟩
theorem rX8_readsItem_63 : vI mX8_readsItem 63 .iadd 1 64 := ⟨by decide +kernel, rfl⟩
theorem rX8_readsItem_64 : vI mX8_readsItem 64 .iastore 1 65 := ⟨by decide +kernel, rfl⟩
theorem rX8_readsItem_65 : vGo mX8_readsItem 65 269 := ⟨204, by decide +kernel, by decide⟩
theorem rX8_readsItem_68 : vLi mX8_readsItem 68 1 69 := Or.inl ⟨1, by decide +kernel, rfl, rfl⟩
theorem rX8_readsItem_69 : vCn mX8_readsItem 69 (nI 100) 71 := Or.inr (Or.inl ⟨100, by decide +kernel, by decide +kernel, rfl⟩)
theorem rX8_readsItem_71 : vIc mX8_readsItem 71 .ne 184 74 := ⟨113, by decide +kernel, by decide, rfl⟩
theorem rX8_readsItem_74 : vLa mX8_readsItem 74 0 75 := ⟨0, by decide +kernel, rfl, rfl⟩
theorem rX8_readsItem_75 : vCn mX8_readsItem 75 (nI 0) 76 := Or.inl ⟨0, by decide +kernel, by decide +kernel, rfl⟩
theorem rX8_readsItem_76 : vLa mX8_readsItem 76 0 77 := ⟨0, by decide +kernel, rfl, rfl⟩
theorem rX8_readsItem_77 : vGf mX8_readsItem 77 8 9 80 := ⟨13, (RX8, TX8, 29), by decide +kernel, rfl, rfl, by decide, tF672⟩
theorem rX8_readsItem_80 : vCn mX8_readsItem 80 (nI 2) 81 := Or.inl ⟨2, by decide +kernel, by decide +kernel, rfl⟩
theorem rX8_readsItem_81 : vI mX8_readsItem 81 .iaload 1 82 := ⟨by decide +kernel, rfl⟩
theorem rX8_readsItem_82 : vCn mX8_readsItem 82 (nI 1) 83 := Or.inl ⟨1, by decide +kernel, by decide +kernel, rfl⟩
theorem rX8_readsItem_83 : vI mX8_readsItem 83 .isub 1 84 := ⟨by decide +kernel, rfl⟩
theorem rX8_readsItem_84 : vKv mX8_readsItem 84 mX8_number 2 8 87 := ⟨109, (RX8, TX8, 29), by decide +kernel, rfl, kX8_number, tF788, tF786, tS31, rfl, rfl⟩
theorem rX8_readsItem_87 : vSi mX8_readsItem 87 2 88 := ⟨Or.inl ⟨2, by decide +kernel, rfl, rfl⟩, by decide⟩
theorem rX8_readsItem_88 : vLa mX8_readsItem 88 0 89 := ⟨0, by decide +kernel, rfl, rfl⟩
theorem rX8_readsItem_89 : vLa mX8_readsItem 89 0 90 := ⟨0, by decide +kernel, rfl, rfl⟩
theorem rX8_readsItem_90 : vGf mX8_readsItem 90 8 5 93 := ⟨89, (RX8, TX8, 29), by decide +kernel, rfl, rfl, by decide, tF668⟩
theorem rX8_readsItem_93 : vCn mX8_readsItem 93 (nI 2) 94 := Or.inl ⟨2, by decide +kernel, by decide +kernel, rfl⟩
theorem rX8_readsItem_94 : vIc mX8_readsItem 94 .ne 128 97 := ⟨34, by decide +kernel, by decide, rfl⟩
theorem rX8_readsItem_97 : vLa mX8_readsItem 97 0 98 := ⟨0, by decide +kernel, rfl, rfl⟩
theorem rX8_readsItem_98 : vGf mX8_readsItem 98 8 7 101 := ⟨92, (RX8, TX8, 29), by decide +kernel, rfl, rfl, by decide, tF670⟩
theorem rX8_readsItem_101 : vCn mX8_readsItem 101 (nI 0) 102 := Or.inl ⟨0, by decide +kernel, by decide +kernel, rfl⟩
theorem rX8_readsItem_102 : vLa mX8_readsItem 102 0 103 := ⟨0, by decide +kernel, rfl, rfl⟩
theorem rX8_readsItem_103 : vGf mX8_readsItem 103 8 9 106 := ⟨13, (RX8, TX8, 29), by decide +kernel, rfl, rfl, by decide, tF672⟩
theorem rX8_readsItem_106 : vCn mX8_readsItem 106 (nI 2) 107 := Or.inl ⟨2, by decide +kernel, by decide +kernel, rfl⟩
theorem rX8_readsItem_107 : vI mX8_readsItem 107 .iaload 1 108 := ⟨by decide +kernel, rfl⟩
theorem rX8_readsItem_108 : vCn mX8_readsItem 108 (nI 1) 109 := Or.inl ⟨1, by decide +kernel, by decide +kernel, rfl⟩
theorem rX8_readsItem_109 : vI mX8_readsItem 109 .isub 1 110 := ⟨by decide +kernel, rfl⟩
theorem rX8_readsItem_110 : vKs mX8_readsItem 110 mX8_in 3 113 := ⟨72, by decide +kernel, rfl, kX8_in, tF756, Or.inl tF755⟩
theorem rX8_readsItem_113 : vIf mX8_readsItem 113 .eq 128 116 := ⟨15, by decide +kernel, by decide, rfl⟩
theorem rX8_readsItem_116 : vLa mX8_readsItem 116 0 117 := ⟨0, by decide +kernel, rfl, rfl⟩
theorem rX8_readsItem_117 : vGf mX8_readsItem 117 8 7 120 := ⟨92, (RX8, TX8, 29), by decide +kernel, rfl, rfl, by decide, tF670⟩
theorem rX8_readsItem_120 : vLi mX8_readsItem 120 2 121 := Or.inl ⟨2, by decide +kernel, rfl, rfl⟩
theorem rX8_readsItem_121 : vIc mX8_readsItem 121 .eq 128 124 := ⟨7, by decide +kernel, by decide, rfl⟩
theorem rX8_readsItem_124 : vCn mX8_readsItem 124 (nI 1) 125 := Or.inl ⟨1, by decide +kernel, by decide +kernel, rfl⟩
theorem rX8_readsItem_125 : vGo mX8_readsItem 125 129 := ⟨4, by decide +kernel, by decide⟩
theorem rX8_readsItem_128 : vCn mX8_readsItem 128 (nI 0) 129 := Or.inl ⟨0, by decide +kernel, by decide +kernel, rfl⟩
theorem rX8_readsItem_129 : vKv mX8_readsItem 129 mX8_takes 1 8 132 := ⟨105, (RX8, TX8, 29), by decide +kernel, rfl, kX8_takes, tF780, tF778, tS29, rfl, rfl⟩
theorem rX8_readsItem_132 : vSi mX8_readsItem 132 3 133 := ⟨Or.inl ⟨3, by decide +kernel, rfl, rfl⟩, by decide⟩
theorem rX8_readsItem_133 : vLa mX8_readsItem 133 0 134 := ⟨0, by decide +kernel, rfl, rfl⟩
theorem rX8_readsItem_134 : vCn mX8_readsItem 134 (nI 1) 135 := Or.inl ⟨1, by decide +kernel, by decide +kernel, rfl⟩
theorem rX8_readsItem_135 : vCn mX8_readsItem 135 (nI 9) 137 := Or.inr (Or.inl ⟨9, by decide +kernel, by decide +kernel, rfl⟩)
theorem rX8_readsItem_137 : vKv mX8_readsItem 137 mX8_number 2 8 140 := ⟨109, (RX8, TX8, 29), by decide +kernel, rfl, kX8_number, tF788, tF786, tS31, rfl, rfl⟩
theorem rX8_readsItem_140 : vSi mX8_readsItem 140 4 142 := ⟨Or.inr ⟨by decide +kernel, rfl⟩, by decide⟩
theorem rX8_readsItem_142 : vLa mX8_readsItem 142 0 143 := ⟨0, by decide +kernel, rfl, rfl⟩
theorem rX8_readsItem_143 : vKv mX8_readsItem 143 mX8_isWell 0 8 146 := ⟨98, (RX8, TX8, 29), by decide +kernel, rfl, kX8_isWell, tF776, tF774, tS28, rfl, rfl⟩
theorem rX8_readsItem_146 : vIf mX8_readsItem 146 .eq 181 149 := ⟨35, by decide +kernel, by decide, rfl⟩
theorem rX8_readsItem_149 : vLa mX8_readsItem 149 0 150 := ⟨0, by decide +kernel, rfl, rfl⟩
theorem rX8_readsItem_150 : vGf mX8_readsItem 150 8 13 153 := ⟨25, (RX8, TX8, 29), by decide +kernel, rfl, rfl, by decide, tF676⟩
theorem rX8_readsItem_153 : vCn mX8_readsItem 153 (nI 36) 155 := Or.inr (Or.inl ⟨36, by decide +kernel, by decide +kernel, rfl⟩)
theorem rX8_readsItem_155 : vCn mX8_readsItem 155 (nI 6) 157 := Or.inr (Or.inl ⟨6, by decide +kernel, by decide +kernel, rfl⟩)
theorem rX8_readsItem_157 : vLi mX8_readsItem 157 2 158 := Or.inl ⟨2, by decide +kernel, rfl, rfl⟩
theorem rX8_readsItem_158 : vI mX8_readsItem 158 .imul 1 159 := ⟨by decide +kernel, rfl⟩
theorem rX8_readsItem_159 : vI mX8_readsItem 159 .iadd 1 160 := ⟨by decide +kernel, rfl⟩
theorem rX8_readsItem_160 : vLi mX8_readsItem 160 3 161 := Or.inl ⟨3, by decide +kernel, rfl, rfl⟩
theorem rX8_readsItem_161 : vI mX8_readsItem 161 .iadd 1 162 := ⟨by decide +kernel, rfl⟩
theorem rX8_readsItem_162 : vLi mX8_readsItem 162 4 164 := Or.inr ⟨by decide +kernel, rfl⟩
theorem rX8_readsItem_164 : vI mX8_readsItem 164 .iastore 1 165 := ⟨by decide +kernel, rfl⟩
theorem rX8_readsItem_165 : vLa mX8_readsItem 165 0 166 := ⟨0, by decide +kernel, rfl, rfl⟩
theorem rX8_readsItem_166 : vGf mX8_readsItem 166 8 13 169 := ⟨25, (RX8, TX8, 29), by decide +kernel, rfl, rfl, by decide, tF676⟩
theorem rX8_readsItem_169 : vCn mX8_readsItem 169 (nI 36) 171 := Or.inr (Or.inl ⟨36, by decide +kernel, by decide +kernel, rfl⟩)
theorem rX8_readsItem_171 : vCn mX8_readsItem 171 (nI 6) 173 := Or.inr (Or.inl ⟨6, by decide +kernel, by decide +kernel, rfl⟩)
theorem rX8_readsItem_173 : vLi mX8_readsItem 173 3 174 := Or.inl ⟨3, by decide +kernel, rfl, rfl⟩
theorem rX8_readsItem_174 : vI mX8_readsItem 174 .imul 1 175 := ⟨by decide +kernel, rfl⟩
theorem rX8_readsItem_175 : vI mX8_readsItem 175 .iadd 1 176 := ⟨by decide +kernel, rfl⟩
theorem rX8_readsItem_176 : vLi mX8_readsItem 176 2 177 := Or.inl ⟨2, by decide +kernel, rfl, rfl⟩
theorem rX8_readsItem_177 : vI mX8_readsItem 177 .iadd 1 178 := ⟨by decide +kernel, rfl⟩
theorem rX8_readsItem_178 : vLi mX8_readsItem 178 4 180 := Or.inr ⟨by decide +kernel, rfl⟩
theorem rX8_readsItem_180 : vI mX8_readsItem 180 .iastore 1 181 := ⟨by decide +kernel, rfl⟩
theorem rX8_readsItem_181 : vGo mX8_readsItem 181 269 := ⟨88, by decide +kernel, by decide⟩
theorem rX8_readsItem_184 : vLa mX8_readsItem 184 0 185 := ⟨0, by decide +kernel, rfl, rfl⟩
theorem rX8_readsItem_185 : vGf mX8_readsItem 185 8 14 188 := ⟨28, (RX8, TX8, 29), by decide +kernel, rfl, rfl, by decide, tF677⟩
theorem rX8_readsItem_188 : vCn mX8_readsItem 188 (nI 6) 190 := Or.inr (Or.inl ⟨6, by decide +kernel, by decide +kernel, rfl⟩)
theorem rX8_readsItem_190 : vLa mX8_readsItem 190 0 191 := ⟨0, by decide +kernel, rfl, rfl⟩
theorem rX8_readsItem_191 : vGf mX8_readsItem 191 8 9 194 := ⟨13, (RX8, TX8, 29), by decide +kernel, rfl, rfl, by decide, tF672⟩
theorem rX8_readsItem_194 : vCn mX8_readsItem 194 (nI 3) 195 := Or.inl ⟨3, by decide +kernel, by decide +kernel, rfl⟩
theorem rX8_readsItem_195 : vI mX8_readsItem 195 .iaload 1 196 := ⟨by decide +kernel, rfl⟩
theorem rX8_readsItem_196 : vI mX8_readsItem 196 .iadd 1 197 := ⟨by decide +kernel, rfl⟩
theorem rX8_readsItem_197 : vLa mX8_readsItem 197 0 198 := ⟨0, by decide +kernel, rfl, rfl⟩
theorem rX8_readsItem_198 : vCn mX8_readsItem 198 (nI 0) 199 := Or.inl ⟨0, by decide +kernel, by decide +kernel, rfl⟩
theorem rX8_readsItem_199 : vLa mX8_readsItem 199 0 200 := ⟨0, by decide +kernel, rfl, rfl⟩
theorem rX8_readsItem_200 : vGf mX8_readsItem 200 8 9 203 := ⟨13, (RX8, TX8, 29), by decide +kernel, rfl, rfl, by decide, tF672⟩
theorem rX8_readsItem_203 : vCn mX8_readsItem 203 (nI 2) 204 := Or.inl ⟨2, by decide +kernel, by decide +kernel, rfl⟩
theorem rX8_readsItem_204 : vI mX8_readsItem 204 .iaload 1 205 := ⟨by decide +kernel, rfl⟩
theorem rX8_readsItem_205 : vCn mX8_readsItem 205 (nI 1) 206 := Or.inl ⟨1, by decide +kernel, by decide +kernel, rfl⟩
theorem rX8_readsItem_206 : vI mX8_readsItem 206 .isub 1 207 := ⟨by decide +kernel, rfl⟩
theorem rX8_readsItem_207 : vKv mX8_readsItem 207 mX8_number 2 8 210 := ⟨109, (RX8, TX8, 29), by decide +kernel, rfl, kX8_number, tF788, tF786, tS31, rfl, rfl⟩
theorem rX8_readsItem_210 : vI mX8_readsItem 210 .iastore 1 211 := ⟨by decide +kernel, rfl⟩
theorem rX8_readsItem_211 : vLa mX8_readsItem 211 0 212 := ⟨0, by decide +kernel, rfl, rfl⟩
theorem rX8_readsItem_212 : vGf mX8_readsItem 212 8 15 215 := ⟨31, (RX8, TX8, 29), by decide +kernel, rfl, rfl, by decide, tF678⟩
theorem rX8_readsItem_215 : vCn mX8_readsItem 215 (nI 6) 217 := Or.inr (Or.inl ⟨6, by decide +kernel, by decide +kernel, rfl⟩)
theorem rX8_readsItem_217 : vLa mX8_readsItem 217 0 218 := ⟨0, by decide +kernel, rfl, rfl⟩
theorem rX8_readsItem_218 : vGf mX8_readsItem 218 8 9 221 := ⟨13, (RX8, TX8, 29), by decide +kernel, rfl, rfl, by decide, tF672⟩
theorem rX8_readsItem_221 : vCn mX8_readsItem 221 (nI 3) 222 := Or.inl ⟨3, by decide +kernel, by decide +kernel, rfl⟩
theorem rX8_readsItem_222 : vI mX8_readsItem 222 .iaload 1 223 := ⟨by decide +kernel, rfl⟩
theorem rX8_readsItem_223 : vI mX8_readsItem 223 .iadd 1 224 := ⟨by decide +kernel, rfl⟩
theorem rX8_readsItem_224 : vLa mX8_readsItem 224 0 225 := ⟨0, by decide +kernel, rfl, rfl⟩
theorem rX8_readsItem_225 : vCn mX8_readsItem 225 (nI 0) 226 := Or.inl ⟨0, by decide +kernel, by decide +kernel, rfl⟩
theorem rX8_readsItem_226 : vLa mX8_readsItem 226 0 227 := ⟨0, by decide +kernel, rfl, rfl⟩
theorem rX8_readsItem_227 : vGf mX8_readsItem 227 8 9 230 := ⟨13, (RX8, TX8, 29), by decide +kernel, rfl, rfl, by decide, tF672⟩
theorem rX8_readsItem_230 : vCn mX8_readsItem 230 (nI 2) 231 := Or.inl ⟨2, by decide +kernel, by decide +kernel, rfl⟩
theorem rX8_readsItem_231 : vI mX8_readsItem 231 .iaload 1 232 := ⟨by decide +kernel, rfl⟩
theorem rX8_readsItem_232 : vCn mX8_readsItem 232 (nI 1) 233 := Or.inl ⟨1, by decide +kernel, by decide +kernel, rfl⟩
theorem rX8_readsItem_233 : vI mX8_readsItem 233 .isub 1 234 := ⟨by decide +kernel, rfl⟩
theorem rX8_readsItem_234 : vKv mX8_readsItem 234 mX8_number 2 8 237 := ⟨109, (RX8, TX8, 29), by decide +kernel, rfl, kX8_number, tF788, tF786, tS31, rfl, rfl⟩
theorem rX8_readsItem_237 : vI mX8_readsItem 237 .iastore 1 238 := ⟨by decide +kernel, rfl⟩
theorem rX8_readsItem_238 : vLa mX8_readsItem 238 0 239 := ⟨0, by decide +kernel, rfl, rfl⟩
theorem rX8_readsItem_239 : vGf mX8_readsItem 239 8 16 242 := ⟨34, (RX8, TX8, 29), by decide +kernel, rfl, rfl, by decide, tF679⟩
theorem rX8_readsItem_242 : vCn mX8_readsItem 242 (nI 6) 244 := Or.inr (Or.inl ⟨6, by decide +kernel, by decide +kernel, rfl⟩)
theorem rX8_readsItem_244 : vLa mX8_readsItem 244 0 245 := ⟨0, by decide +kernel, rfl, rfl⟩
theorem rX8_readsItem_245 : vGf mX8_readsItem 245 8 9 248 := ⟨13, (RX8, TX8, 29), by decide +kernel, rfl, rfl, by decide, tF672⟩
theorem rX8_readsItem_248 : vCn mX8_readsItem 248 (nI 3) 249 := Or.inl ⟨3, by decide +kernel, by decide +kernel, rfl⟩
theorem rX8_readsItem_249 : vI mX8_readsItem 249 .iaload 1 250 := ⟨by decide +kernel, rfl⟩
theorem rX8_readsItem_250 : vI mX8_readsItem 250 .iadd 1 251 := ⟨by decide +kernel, rfl⟩
theorem rX8_readsItem_251 : vLa mX8_readsItem 251 0 252 := ⟨0, by decide +kernel, rfl, rfl⟩
theorem rX8_readsItem_252 : vCn mX8_readsItem 252 (nI 0) 253 := Or.inl ⟨0, by decide +kernel, by decide +kernel, rfl⟩
theorem rX8_readsItem_253 : vCn mX8_readsItem 253 (nI 60) 255 := Or.inr (Or.inl ⟨60, by decide +kernel, by decide +kernel, rfl⟩)
theorem rX8_readsItem_255 : vKv mX8_readsItem 255 mX8_number 2 8 258 := ⟨109, (RX8, TX8, 29), by decide +kernel, rfl, kX8_number, tF788, tF786, tS31, rfl, rfl⟩
theorem rX8_readsItem_258 : vI mX8_readsItem 258 .iastore 1 259 := ⟨by decide +kernel, rfl⟩
theorem rX8_readsItem_259 : vLa mX8_readsItem 259 0 260 := ⟨0, by decide +kernel, rfl, rfl⟩
theorem rX8_readsItem_260 : vGf mX8_readsItem 260 8 9 263 := ⟨13, (RX8, TX8, 29), by decide +kernel, rfl, rfl, by decide, tF672⟩
theorem rX8_readsItem_263 : vCn mX8_readsItem 263 (nI 3) 264 := Or.inl ⟨3, by decide +kernel, by decide +kernel, rfl⟩
theorem rX8_readsItem_264 : vI mX8_readsItem 264 .dup2 1 265 := ⟨by decide +kernel, rfl⟩
theorem rX8_readsItem_265 : vI mX8_readsItem 265 .iaload 1 266 := ⟨by decide +kernel, rfl⟩
theorem rX8_readsItem_266 : vCn mX8_readsItem 266 (nI 1) 267 := Or.inl ⟨1, by decide +kernel, by decide +kernel, rfl⟩
theorem rX8_readsItem_267 : vI mX8_readsItem 267 .iadd 1 268 := ⟨by decide +kernel, rfl⟩
theorem rX8_readsItem_268 : vI mX8_readsItem 268 .iastore 1 269 := ⟨by decide +kernel, rfl⟩
theorem rX8_readsItem_269 : vI mX8_readsItem 269 .return_ 1 270 := ⟨by decide +kernel, rfl⟩
theorem rX8_plain_0 : vLa mX8_plain 0 0 1 := ⟨0, by decide +kernel, rfl, rfl⟩
theorem rX8_plain_1 : vCn mX8_plain 1 (nI 0) 2 := Or.inl ⟨0, by decide +kernel, by decide +kernel, rfl⟩
theorem rX8_plain_2 : vPf mX8_plain 2 8 0 5 := ⟨68, (RX8, TX8, 29), by decide +kernel, rfl, rfl, by decide, tF663, Or.inl rfl⟩
theorem rX8_plain_5 : vLa mX8_plain 5 0 6 := ⟨0, by decide +kernel, rfl, rfl⟩
theorem rX8_plain_6 : vCn mX8_plain 6 (-1) 7 := Or.inl ⟨-1, by decide +kernel, by decide +kernel, rfl⟩
theorem rX8_plain_7 : vPf mX8_plain 7 8 8 10 := ⟨95, (RX8, TX8, 29), by decide +kernel, rfl, rfl, by decide, tF671, Or.inl rfl⟩
theorem rX8_plain_10 : vLa mX8_plain 10 0 11 := ⟨0, by decide +kernel, rfl, rfl⟩
theorem rX8_plain_11 : vCn mX8_plain 11 (nI 0) 12 := Or.inl ⟨0, by decide +kernel, by decide +kernel, rfl⟩
theorem rX8_plain_12 : vPf mX8_plain 12 8 4 15 := ⟨79, (RX8, TX8, 29), by decide +kernel, rfl, rfl, by decide, tF667, Or.inl rfl⟩
theorem rX8_plain_15 : vCn mX8_plain 15 (nI 0) 16 := Or.inl ⟨0, by decide +kernel, by decide +kernel, rfl⟩
theorem rX8_plain_16 : vSi mX8_plain 16 1 17 := ⟨Or.inl ⟨1, by decide +kernel, rfl, rfl⟩, by decide⟩
theorem rX8_plain_17 : vLa mX8_plain 17 0 18 := ⟨0, by decide +kernel, rfl, rfl⟩
theorem rX8_plain_18 : vGf mX8_plain 18 8 9 21 := ⟨13, (RX8, TX8, 29), by decide +kernel, rfl, rfl, by decide, tF672⟩
theorem rX8_plain_21 : vCn mX8_plain 21 (nI 2) 22 := Or.inl ⟨2, by decide +kernel, by decide +kernel, rfl⟩
theorem rX8_plain_22 : vCn mX8_plain 22 (nI 0) 23 := Or.inl ⟨0, by decide +kernel, by decide +kernel, rfl⟩
theorem rX8_plain_23 : vI mX8_plain 23 .iastore 1 24 := ⟨by decide +kernel, rfl⟩
theorem rX8_plain_24 : vLa mX8_plain 24 0 25 := ⟨0, by decide +kernel, rfl, rfl⟩
theorem rX8_plain_25 : vGf mX8_plain 25 8 9 28 := ⟨13, (RX8, TX8, 29), by decide +kernel, rfl, rfl, by decide, tF672⟩
theorem rX8_plain_28 : vCn mX8_plain 28 (nI 3) 29 := Or.inl ⟨3, by decide +kernel, by decide +kernel, rfl⟩
theorem rX8_plain_29 : vCn mX8_plain 29 (nI 0) 30 := Or.inl ⟨0, by decide +kernel, by decide +kernel, rfl⟩
theorem rX8_plain_30 : vI mX8_plain 30 .iastore 1 31 := ⟨by decide +kernel, rfl⟩
theorem rX8_plain_31 : vCn mX8_plain 31 (nI 36) 33 := Or.inr (Or.inl ⟨36, by decide +kernel, by decide +kernel, rfl⟩)
theorem rX8_plain_33 : vSi mX8_plain 33 2 34 := ⟨Or.inl ⟨2, by decide +kernel, rfl, rfl⟩, by decide⟩
theorem rX8_plain_34 : vLi mX8_plain 34 2 35 := Or.inl ⟨2, by decide +kernel, rfl, rfl⟩
theorem rX8_plain_35 : vCn mX8_plain 35 (nI 72) 37 := Or.inr (Or.inl ⟨72, by decide +kernel, by decide +kernel, rfl⟩)
theorem rX8_plain_37 : vIc mX8_plain 37 .ge 53 40 := ⟨16, by decide +kernel, by decide, rfl⟩
theorem rX8_plain_40 : vLa mX8_plain 40 0 41 := ⟨0, by decide +kernel, rfl, rfl⟩
theorem rX8_plain_41 : vGf mX8_plain 41 8 13 44 := ⟨25, (RX8, TX8, 29), by decide +kernel, rfl, rfl, by decide, tF676⟩
theorem rX8_plain_44 : vLi mX8_plain 44 2 45 := Or.inl ⟨2, by decide +kernel, rfl, rfl⟩
theorem rX8_plain_45 : vCn mX8_plain 45 (nI 0) 46 := Or.inl ⟨0, by decide +kernel, by decide +kernel, rfl⟩
theorem rX8_plain_46 : vI mX8_plain 46 .iastore 1 47 := ⟨by decide +kernel, rfl⟩
theorem rX8_plain_47 : vIn mX8_plain 47 2 (nI 1) 50 := ⟨1, by decide +kernel, by decide +kernel, by decide, rfl⟩
theorem rX8_plain_50 : vGo mX8_plain 50 34 := ⟨-16, by decide +kernel, by decide⟩
theorem rX8_plain_53 : vLa mX8_plain 53 0 54 := ⟨0, by decide +kernel, rfl, rfl⟩
theorem rX8_plain_54 : vKv mX8_plain 54 mX8_advances 0 8 57 := ⟨102, (RX8, TX8, 29), by decide +kernel, rfl, kX8_advances, tF768, tF766, tS26, rfl, rfl⟩
theorem rX8_plain_57 : vLa mX8_plain 57 0 58 := ⟨0, by decide +kernel, rfl, rfl⟩
theorem rX8_plain_58 : vKv mX8_plain 58 mX8_isWell 0 8 61 := ⟨98, (RX8, TX8, 29), by decide +kernel, rfl, kX8_isWell, tF776, tF774, tS28, rfl, rfl⟩
theorem rX8_plain_61 : vIf mX8_plain 61 .eq 168 64 := ⟨107, by decide +kernel, by decide, rfl⟩
theorem rX8_plain_64 : vLa mX8_plain 64 0 65 := ⟨0, by decide +kernel, rfl, rfl⟩
theorem rX8_plain_65 : vGf mX8_plain 65 8 5 68 := ⟨89, (RX8, TX8, 29), by decide +kernel, rfl, rfl, by decide, tF668⟩
theorem rX8_plain_68 : vIf mX8_plain 68 .eq 168 71 := ⟨100, by decide +kernel, by decide, rfl⟩
theorem rX8_plain_71 : vLa mX8_plain 71 0 72 := ⟨0, by decide +kernel, rfl, rfl⟩
theorem rX8_plain_72 : vLa mX8_plain 72 0 73 := ⟨0, by decide +kernel, rfl, rfl⟩
theorem rX8_plain_73 : vGf mX8_plain 73 8 5 76 := ⟨89, (RX8, TX8, 29), by decide +kernel, rfl, rfl, by decide, tF668⟩
theorem rX8_plain_76 : vCn mX8_plain 76 (nI 1) 77 := Or.inl ⟨1, by decide +kernel, by decide +kernel, rfl⟩
theorem rX8_plain_77 : vIc mX8_plain 77 .ne 127 80 := ⟨50, by decide +kernel, by decide, rfl⟩
theorem rX8_plain_80 : vLa mX8_plain 80 0 81 := ⟨0, by decide +kernel, rfl, rfl⟩
theorem rX8_plain_81 : vGf mX8_plain 81 8 7 84 := ⟨92, (RX8, TX8, 29), by decide +kernel, rfl, rfl, by decide, tF670⟩
theorem rX8_plain_84 : vCn mX8_plain 84 (nI 116) 86 := Or.inr (Or.inl ⟨116, by decide +kernel, by decide +kernel, rfl⟩)
theorem rX8_plain_86 : vIc mX8_plain 86 .ne 103 89 := ⟨17, by decide +kernel, by decide, rfl⟩
theorem rX8_plain_89 : vLa mX8_plain 89 0 90 := ⟨0, by decide +kernel, rfl, rfl⟩
theorem rX8_plain_90 : vGf mX8_plain 90 8 9 93 := ⟨13, (RX8, TX8, 29), by decide +kernel, rfl, rfl, by decide, tF672⟩
theorem rX8_plain_93 : vCn mX8_plain 93 (nI 2) 94 := Or.inl ⟨2, by decide +kernel, by decide +kernel, rfl⟩
theorem rX8_plain_94 : vI mX8_plain 94 .iaload 1 95 := ⟨by decide +kernel, rfl⟩
theorem rX8_plain_95 : vCn mX8_plain 95 (nI 6) 97 := Or.inr (Or.inl ⟨6, by decide +kernel, by decide +kernel, rfl⟩)
theorem rX8_plain_97 : vIc mX8_plain 97 .ge 127 100 := ⟨30, by decide +kernel, by decide, rfl⟩
theorem rX8_plain_100 : vGo mX8_plain 100 123 := ⟨23, by decide +kernel, by decide⟩
theorem rX8_plain_103 : vLa mX8_plain 103 0 104 := ⟨0, by decide +kernel, rfl, rfl⟩
theorem rX8_plain_104 : vGf mX8_plain 104 8 7 107 := ⟨92, (RX8, TX8, 29), by decide +kernel, rfl, rfl, by decide, tF670⟩
theorem rX8_plain_107 : vCn mX8_plain 107 (nI 100) 109 := Or.inr (Or.inl ⟨100, by decide +kernel, by decide +kernel, rfl⟩)
theorem rX8_plain_109 : vIc mX8_plain 109 .eq 123 112 := ⟨14, by decide +kernel, by decide, rfl⟩
theorem rX8_plain_112 : vLa mX8_plain 112 0 113 := ⟨0, by decide +kernel, rfl, rfl⟩
theorem rX8_plain_113 : vGf mX8_plain 113 8 9 116 := ⟨13, (RX8, TX8, 29), by decide +kernel, rfl, rfl, by decide, tF672⟩
theorem rX8_plain_116 : vCn mX8_plain 116 (nI 3) 117 := Or.inl ⟨3, by decide +kernel, by decide +kernel, rfl⟩
theorem rX8_plain_117 : vI mX8_plain 117 .iaload 1 118 := ⟨by decide +kernel, rfl⟩
theorem rX8_plain_118 : vCn mX8_plain 118 (nI 6) 120 := Or.inr (Or.inl ⟨6, by decide +kernel, by decide +kernel, rfl⟩)
theorem rX8_plain_120 : vIc mX8_plain 120 .ge 127 123 := ⟨7, by decide +kernel, by decide, rfl⟩
theorem rX8_plain_123 : vCn mX8_plain 123 (nI 1) 124 := Or.inl ⟨1, by decide +kernel, by decide +kernel, rfl⟩
theorem rX8_plain_124 : vGo mX8_plain 124 128 := ⟨4, by decide +kernel, by decide⟩
theorem rX8_plain_127 : vCn mX8_plain 127 (nI 0) 128 := Or.inl ⟨0, by decide +kernel, by decide +kernel, rfl⟩
theorem rX8_plain_128 : vKv mX8_plain 128 mX8_takes 1 8 131 := ⟨105, (RX8, TX8, 29), by decide +kernel, rfl, kX8_takes, tF780, tF778, tS29, rfl, rfl⟩
theorem rX8_plain_131 : vSi mX8_plain 131 2 132 := ⟨Or.inl ⟨2, by decide +kernel, rfl, rfl⟩, by decide⟩
theorem rX8_plain_132 : vLa mX8_plain 132 0 133 := ⟨0, by decide +kernel, rfl, rfl⟩
theorem rX8_plain_133 : vKv mX8_plain 133 mX8_isWell 0 8 136 := ⟨98, (RX8, TX8, 29), by decide +kernel, rfl, kX8_isWell, tF776, tF774, tS28, rfl, rfl⟩
theorem rX8_plain_136 : vIf mX8_plain 136 .eq 144 139 := ⟨8, by decide +kernel, by decide, rfl⟩
theorem rX8_plain_139 : vLa mX8_plain 139 0 140 := ⟨0, by decide +kernel, rfl, rfl⟩
theorem rX8_plain_140 : vLi mX8_plain 140 2 141 := Or.inl ⟨2, by decide +kernel, rfl, rfl⟩
theorem rX8_plain_141 : vKv mX8_plain 141 mX8_readsItem 1 8 144 := ⟨113, (RX8, TX8, 29), by decide +kernel, rfl, kX8_readsItem, tF784, tF782, tS30, rfl, rfl⟩
theorem rX8_plain_144 : vLa mX8_plain 144 0 145 := ⟨0, by decide +kernel, rfl, rfl⟩
theorem rX8_plain_145 : vLa mX8_plain 145 0 146 := ⟨0, by decide +kernel, rfl, rfl⟩
theorem rX8_plain_146 : vGf mX8_plain 146 8 5 149 := ⟨89, (RX8, TX8, 29), by decide +kernel, rfl, rfl, by decide, tF668⟩
theorem rX8_plain_149 : vCn mX8_plain 149 (nI 3) 150 := Or.inl ⟨3, by decide +kernel, by decide +kernel, rfl⟩
theorem rX8_plain_150 : vIc mX8_plain 150 .ne 157 153 := ⟨7, by decide +kernel, by decide, rfl⟩
theorem rX8_plain_153 : vCn mX8_plain 153 (nI 1) 154 := Or.inl ⟨1, by decide +kernel, by decide +kernel, rfl⟩
theorem rX8_plain_154 : vGo mX8_plain 154 158 := ⟨4, by decide +kernel, by decide⟩
theorem rX8_plain_157 : vCn mX8_plain 157 (nI 0) 158 := Or.inl ⟨0, by decide +kernel, by decide +kernel, rfl⟩
theorem rX8_plain_158 : vKv mX8_plain 158 mX8_takes 1 8 161 := ⟨105, (RX8, TX8, 29), by decide +kernel, rfl, kX8_takes, tF780, tF778, tS29, rfl, rfl⟩
theorem rX8_plain_161 : vI mX8_plain 161 .pop 1 162 := ⟨by decide +kernel, rfl⟩
theorem rX8_plain_162 : vIn mX8_plain 162 1 (nI 1) 165 := ⟨1, by decide +kernel, by decide +kernel, by decide, rfl⟩
theorem rX8_plain_165 : vGo mX8_plain 165 57 := ⟨-108, by decide +kernel, by decide⟩
theorem rX8_plain_168 : vLa mX8_plain 168 0 169 := ⟨0, by decide +kernel, rfl, rfl⟩
theorem rX8_plain_169 : vKv mX8_plain 169 mX8_isWell 0 8 172 := ⟨98, (RX8, TX8, 29), by decide +kernel, rfl, kX8_isWell, tF776, tF774, tS28, rfl, rfl⟩
theorem rX8_plain_172 : vIf mX8_plain 172 .ne 183 175 := ⟨11, by decide +kernel, by decide, rfl⟩
theorem rX8_plain_175 : vCn mX8_plain 175 (-10) 177 := Or.inr (Or.inl ⟨-10, by decide +kernel, by decide +kernel, rfl⟩)
theorem rX8_plain_177 : vLa mX8_plain 177 0 178 := ⟨0, by decide +kernel, rfl, rfl⟩
theorem rX8_plain_178 : vGf mX8_plain 178 8 8 181 := ⟨95, (RX8, TX8, 29), by decide +kernel, rfl, rfl, by decide, tF671⟩
theorem rX8_plain_181 : vI mX8_plain 181 .isub 1 182 := ⟨by decide +kernel, rfl⟩
theorem rX8_plain_182 : vI mX8_plain 182 .ireturn 1 183 := ⟨by decide +kernel, rfl⟩
theorem rX8_plain_183 : vLa mX8_plain 183 0 184 := ⟨0, by decide +kernel, rfl, rfl⟩
theorem rX8_plain_184 : vKv mX8_plain 184 mX8_settles 0 8 187 := ⟨117, (RX8, TX8, 29), by decide +kernel, rfl, kX8_settles, tF792, tF790, tS32, rfl, rfl⟩
theorem rX8_plain_187 : vLi mX8_plain 187 1 188 := Or.inl ⟨1, by decide +kernel, rfl, rfl⟩
theorem rX8_plain_188 : vI mX8_plain 188 .ireturn 1 189 := ⟨by decide +kernel, rfl⟩
theorem rX8_settles_0 : vLa mX8_settles 0 0 1 := ⟨0, by decide +kernel, rfl, rfl⟩
theorem rX8_settles_1 : vGf mX8_settles 1 8 9 4 := ⟨13, (RX8, TX8, 29), by decide +kernel, rfl, rfl, by decide, tF672⟩
theorem rX8_settles_4 : vCn mX8_settles 4 (nI 0) 5 := Or.inl ⟨0, by decide +kernel, by decide +kernel, rfl⟩
theorem rX8_settles_5 : vLa mX8_settles 5 0 6 := ⟨0, by decide +kernel, rfl, rfl⟩
theorem rX8_settles_6 : vGf mX8_settles 6 8 9 9 := ⟨13, (RX8, TX8, 29), by decide +kernel, rfl, rfl, by decide, tF672⟩
theorem rX8_settles_9 : vCn mX8_settles 9 (nI 2) 10 := Or.inl ⟨2, by decide +kernel, by decide +kernel, rfl⟩
theorem rX8_settles_10 : vI mX8_settles 10 .iaload 1 11 := ⟨by decide +kernel, rfl⟩
theorem rX8_settles_11 : vI mX8_settles 11 .iastore 1 12 := ⟨by decide +kernel, rfl⟩
theorem rX8_settles_12 : vLa mX8_settles 12 0 13 := ⟨0, by decide +kernel, rfl, rfl⟩
theorem rX8_settles_13 : vGf mX8_settles 13 8 9 16 := ⟨13, (RX8, TX8, 29), by decide +kernel, rfl, rfl, by decide, tF672⟩
theorem rX8_settles_16 : vCn mX8_settles 16 (nI 1) 17 := Or.inl ⟨1, by decide +kernel, by decide +kernel, rfl⟩
theorem rX8_settles_17 : vLa mX8_settles 17 0 18 := ⟨0, by decide +kernel, rfl, rfl⟩
theorem rX8_settles_18 : vGf mX8_settles 18 8 9 21 := ⟨13, (RX8, TX8, 29), by decide +kernel, rfl, rfl, by decide, tF672⟩
theorem rX8_settles_21 : vCn mX8_settles 21 (nI 3) 22 := Or.inl ⟨3, by decide +kernel, by decide +kernel, rfl⟩
theorem rX8_settles_22 : vI mX8_settles 22 .iaload 1 23 := ⟨by decide +kernel, rfl⟩
theorem rX8_settles_23 : vI mX8_settles 23 .iastore 1 24 := ⟨by decide +kernel, rfl⟩
theorem rX8_settles_24 : vCn mX8_settles 24 (nI 0) 25 := Or.inl ⟨0, by decide +kernel, by decide +kernel, rfl⟩
theorem rX8_settles_25 : vSi mX8_settles 25 1 26 := ⟨Or.inl ⟨1, by decide +kernel, rfl, rfl⟩, by decide⟩
theorem rX8_settles_26 : vLi mX8_settles 26 1 27 := Or.inl ⟨1, by decide +kernel, rfl, rfl⟩
theorem rX8_settles_27 : vCn mX8_settles 27 (nI 56) 29 := Or.inr (Or.inl ⟨56, by decide +kernel, by decide +kernel, rfl⟩)
theorem rX8_settles_29 : vIc mX8_settles 29 .ge 45 32 := ⟨16, by decide +kernel, by decide, rfl⟩
theorem rX8_settles_32 : vLa mX8_settles 32 0 33 := ⟨0, by decide +kernel, rfl, rfl⟩
theorem rX8_settles_33 : vGf mX8_settles 33 8 18 36 := ⟨40, (RX8, TX8, 29), by decide +kernel, rfl, rfl, by decide, tF681⟩
theorem rX8_settles_36 : vLi mX8_settles 36 1 37 := Or.inl ⟨1, by decide +kernel, rfl, rfl⟩
theorem rX8_settles_37 : vCn mX8_settles 37 (nI 0) 38 := Or.inl ⟨0, by decide +kernel, by decide +kernel, rfl⟩
theorem rX8_settles_38 : vI mX8_settles 38 .iastore 1 39 := ⟨by decide +kernel, rfl⟩
theorem rX8_settles_39 : vIn mX8_settles 39 1 (nI 1) 42 := ⟨1, by decide +kernel, by decide +kernel, by decide, rfl⟩
theorem rX8_settles_42 : vGo mX8_settles 42 26 := ⟨-16, by decide +kernel, by decide⟩
theorem rX8_settles_45 : vCn mX8_settles 45 (nI 0) 46 := Or.inl ⟨0, by decide +kernel, by decide +kernel, rfl⟩
theorem rX8_settles_46 : vSi mX8_settles 46 1 47 := ⟨Or.inl ⟨1, by decide +kernel, rfl, rfl⟩, by decide⟩
theorem rX8_settles_47 : vLi mX8_settles 47 1 48 := Or.inl ⟨1, by decide +kernel, rfl, rfl⟩
theorem rX8_settles_48 : vCn mX8_settles 48 (nI 6) 50 := Or.inr (Or.inl ⟨6, by decide +kernel, by decide +kernel, rfl⟩)
theorem rX8_settles_50 : vIc mX8_settles 50 .ge 188 53 := ⟨138, by decide +kernel, by decide, rfl⟩
theorem rX8_settles_53 : vLa mX8_settles 53 0 54 := ⟨0, by decide +kernel, rfl, rfl⟩
theorem rX8_settles_54 : vGf mX8_settles 54 8 11 57 := ⟨19, (RX8, TX8, 29), by decide +kernel, rfl, rfl, by decide, tF674⟩
theorem rX8_settles_57 : vLi mX8_settles 57 1 58 := Or.inl ⟨1, by decide +kernel, rfl, rfl⟩
theorem rX8_settles_58 : vLa mX8_settles 58 0 59 := ⟨0, by decide +kernel, rfl, rfl⟩
theorem rX8_settles_59 : vGf mX8_settles 59 8 11 62 := ⟨19, (RX8, TX8, 29), by decide +kernel, rfl, rfl, by decide, tF674⟩
theorem rX8_settles_62 : vCn mX8_settles 62 (nI 6) 64 := Or.inr (Or.inl ⟨6, by decide +kernel, by decide +kernel, rfl⟩)
theorem rX8_settles_64 : vLi mX8_settles 64 1 65 := Or.inl ⟨1, by decide +kernel, rfl, rfl⟩
theorem rX8_settles_65 : vI mX8_settles 65 .iadd 1 66 := ⟨by decide +kernel, rfl⟩
theorem rX8_settles_66 : vI mX8_settles 66 .iaload 1 67 := ⟨by decide +kernel, rfl⟩
theorem rX8_settles_67 : vI mX8_settles 67 .iastore 1 68 := ⟨by decide +kernel, rfl⟩
theorem rX8_settles_68 : vLa mX8_settles 68 0 69 := ⟨0, by decide +kernel, rfl, rfl⟩
theorem rX8_settles_69 : vGf mX8_settles 69 8 12 72 := ⟨22, (RX8, TX8, 29), by decide +kernel, rfl, rfl, by decide, tF675⟩
theorem rX8_settles_72 : vLi mX8_settles 72 1 73 := Or.inl ⟨1, by decide +kernel, rfl, rfl⟩
theorem rX8_settles_73 : vLa mX8_settles 73 0 74 := ⟨0, by decide +kernel, rfl, rfl⟩
theorem rX8_settles_74 : vGf mX8_settles 74 8 12 77 := ⟨22, (RX8, TX8, 29), by decide +kernel, rfl, rfl, by decide, tF675⟩
theorem rX8_settles_77 : vCn mX8_settles 77 (nI 6) 79 := Or.inr (Or.inl ⟨6, by decide +kernel, by decide +kernel, rfl⟩)
theorem rX8_settles_79 : vLi mX8_settles 79 1 80 := Or.inl ⟨1, by decide +kernel, rfl, rfl⟩
theorem rX8_settles_80 : vI mX8_settles 80 .iadd 1 81 := ⟨by decide +kernel, rfl⟩
theorem rX8_settles_81 : vI mX8_settles 81 .iaload 1 82 := ⟨by decide +kernel, rfl⟩
theorem rX8_settles_82 : vI mX8_settles 82 .iastore 1 83 := ⟨by decide +kernel, rfl⟩
theorem rX8_settles_83 : vLa mX8_settles 83 0 84 := ⟨0, by decide +kernel, rfl, rfl⟩
theorem rX8_settles_84 : vGf mX8_settles 84 8 14 87 := ⟨28, (RX8, TX8, 29), by decide +kernel, rfl, rfl, by decide, tF677⟩
theorem rX8_settles_87 : vLi mX8_settles 87 1 88 := Or.inl ⟨1, by decide +kernel, rfl, rfl⟩
theorem rX8_settles_88 : vLa mX8_settles 88 0 89 := ⟨0, by decide +kernel, rfl, rfl⟩
theorem rX8_settles_89 : vGf mX8_settles 89 8 14 92 := ⟨28, (RX8, TX8, 29), by decide +kernel, rfl, rfl, by decide, tF677⟩
theorem rX8_settles_92 : vCn mX8_settles 92 (nI 6) 94 := Or.inr (Or.inl ⟨6, by decide +kernel, by decide +kernel, rfl⟩)
theorem rX8_settles_94 : vLi mX8_settles 94 1 95 := Or.inl ⟨1, by decide +kernel, rfl, rfl⟩
theorem rX8_settles_95 : vI mX8_settles 95 .iadd 1 96 := ⟨by decide +kernel, rfl⟩
theorem rX8_settles_96 : vI mX8_settles 96 .iaload 1 97 := ⟨by decide +kernel, rfl⟩
theorem rX8_settles_97 : vI mX8_settles 97 .iastore 1 98 := ⟨by decide +kernel, rfl⟩
theorem rX8_settles_98 : vLa mX8_settles 98 0 99 := ⟨0, by decide +kernel, rfl, rfl⟩
theorem rX8_settles_99 : vGf mX8_settles 99 8 15 102 := ⟨31, (RX8, TX8, 29), by decide +kernel, rfl, rfl, by decide, tF678⟩
theorem rX8_settles_102 : vLi mX8_settles 102 1 103 := Or.inl ⟨1, by decide +kernel, rfl, rfl⟩
theorem rX8_settles_103 : vLa mX8_settles 103 0 104 := ⟨0, by decide +kernel, rfl, rfl⟩
theorem rX8_settles_104 : vGf mX8_settles 104 8 15 107 := ⟨31, (RX8, TX8, 29), by decide +kernel, rfl, rfl, by decide, tF678⟩
theorem rX8_settles_107 : vCn mX8_settles 107 (nI 6) 109 := Or.inr (Or.inl ⟨6, by decide +kernel, by decide +kernel, rfl⟩)
theorem rX8_settles_109 : vLi mX8_settles 109 1 110 := Or.inl ⟨1, by decide +kernel, rfl, rfl⟩
theorem rX8_settles_110 : vI mX8_settles 110 .iadd 1 111 := ⟨by decide +kernel, rfl⟩
theorem rX8_settles_111 : vI mX8_settles 111 .iaload 1 112 := ⟨by decide +kernel, rfl⟩
theorem rX8_settles_112 : vI mX8_settles 112 .iastore 1 113 := ⟨by decide +kernel, rfl⟩
theorem rX8_settles_113 : vLa mX8_settles 113 0 114 := ⟨0, by decide +kernel, rfl, rfl⟩
theorem rX8_settles_114 : vGf mX8_settles 114 8 16 117 := ⟨34, (RX8, TX8, 29), by decide +kernel, rfl, rfl, by decide, tF679⟩
theorem rX8_settles_117 : vLi mX8_settles 117 1 118 := Or.inl ⟨1, by decide +kernel, rfl, rfl⟩
theorem rX8_settles_118 : vLa mX8_settles 118 0 119 := ⟨0, by decide +kernel, rfl, rfl⟩
theorem rX8_settles_119 : vGf mX8_settles 119 8 16 122 := ⟨34, (RX8, TX8, 29), by decide +kernel, rfl, rfl, by decide, tF679⟩
theorem rX8_settles_122 : vCn mX8_settles 122 (nI 6) 124 := Or.inr (Or.inl ⟨6, by decide +kernel, by decide +kernel, rfl⟩)
theorem rX8_settles_124 : vLi mX8_settles 124 1 125 := Or.inl ⟨1, by decide +kernel, rfl, rfl⟩
theorem rX8_settles_125 : vI mX8_settles 125 .iadd 1 126 := ⟨by decide +kernel, rfl⟩
theorem rX8_settles_126 : vI mX8_settles 126 .iaload 1 127 := ⟨by decide +kernel, rfl⟩
theorem rX8_settles_127 : vI mX8_settles 127 .iastore 1 128 := ⟨by decide +kernel, rfl⟩
theorem rX8_settles_128 : vLa mX8_settles 128 0 129 := ⟨0, by decide +kernel, rfl, rfl⟩
theorem rX8_settles_129 : vGf mX8_settles 129 8 18 132 := ⟨40, (RX8, TX8, 29), by decide +kernel, rfl, rfl, by decide, tF681⟩
theorem rX8_settles_132 : vCn mX8_settles 132 (nI 2) 133 := Or.inl ⟨2, by decide +kernel, by decide +kernel, rfl⟩
theorem rX8_settles_133 : vLi mX8_settles 133 1 134 := Or.inl ⟨1, by decide +kernel, rfl, rfl⟩
theorem rX8_settles_134 : vI mX8_settles 134 .iadd 1 135 := ⟨by decide +kernel, rfl⟩
theorem rX8_settles_135 : vLi mX8_settles 135 1 136 := Or.inl ⟨1, by decide +kernel, rfl, rfl⟩
theorem rX8_settles_136 : vI mX8_settles 136 .iastore 1 137 := ⟨by decide +kernel, rfl⟩
theorem rX8_settles_137 : vLa mX8_settles 137 0 138 := ⟨0, by decide +kernel, rfl, rfl⟩
theorem rX8_settles_138 : vGf mX8_settles 138 8 18 141 := ⟨40, (RX8, TX8, 29), by decide +kernel, rfl, rfl, by decide, tF681⟩
theorem rX8_settles_141 : vCn mX8_settles 141 (nI 8) 143 := Or.inr (Or.inl ⟨8, by decide +kernel, by decide +kernel, rfl⟩)
theorem rX8_settles_143 : vLi mX8_settles 143 1 144 := Or.inl ⟨1, by decide +kernel, rfl, rfl⟩
theorem rX8_settles_144 : vI mX8_settles 144 .iadd 1 145 := ⟨by decide +kernel, rfl⟩
theorem rX8_settles_145 : vLa mX8_settles 145 0 146 := ⟨0, by decide +kernel, rfl, rfl⟩
theorem rX8_settles_146 : vGf mX8_settles 146 8 10 149 := ⟨16, (RX8, TX8, 29), by decide +kernel, rfl, rfl, by decide, tF673⟩
theorem rX8_settles_149 : vCn mX8_settles 149 (nI 6) 151 := Or.inr (Or.inl ⟨6, by decide +kernel, by decide +kernel, rfl⟩)
theorem rX8_settles_151 : vLi mX8_settles 151 1 152 := Or.inl ⟨1, by decide +kernel, rfl, rfl⟩
theorem rX8_settles_152 : vI mX8_settles 152 .iadd 1 153 := ⟨by decide +kernel, rfl⟩
theorem rX8_settles_153 : vI mX8_settles 153 .iaload 1 154 := ⟨by decide +kernel, rfl⟩
theorem rX8_settles_154 : vLa mX8_settles 154 0 155 := ⟨0, by decide +kernel, rfl, rfl⟩
theorem rX8_settles_155 : vGf mX8_settles 155 8 11 158 := ⟨19, (RX8, TX8, 29), by decide +kernel, rfl, rfl, by decide, tF674⟩
theorem rX8_settles_158 : vLi mX8_settles 158 1 159 := Or.inl ⟨1, by decide +kernel, rfl, rfl⟩
theorem rX8_settles_159 : vI mX8_settles 159 .iaload 1 160 := ⟨by decide +kernel, rfl⟩
theorem rX8_settles_160 : vIc mX8_settles 160 .ge 172 163 := ⟨12, by decide +kernel, by decide, rfl⟩
theorem rX8_settles_163 : vLa mX8_settles 163 0 164 := ⟨0, by decide +kernel, rfl, rfl⟩
theorem rX8_settles_164 : vGf mX8_settles 164 8 11 167 := ⟨19, (RX8, TX8, 29), by decide +kernel, rfl, rfl, by decide, tF674⟩
theorem rX8_settles_167 : vLi mX8_settles 167 1 168 := Or.inl ⟨1, by decide +kernel, rfl, rfl⟩
theorem rX8_settles_168 : vI mX8_settles 168 .iaload 1 169 := ⟨by decide +kernel, rfl⟩
theorem rX8_settles_169 : vGo mX8_settles 169 181 := ⟨12, by decide +kernel, by decide⟩
theorem rX8_settles_172 : vLa mX8_settles 172 0 173 := ⟨0, by decide +kernel, rfl, rfl⟩
theorem rX8_settles_173 : vGf mX8_settles 173 8 10 176 := ⟨16, (RX8, TX8, 29), by decide +kernel, rfl, rfl, by decide, tF673⟩
theorem rX8_settles_176 : vCn mX8_settles 176 (nI 6) 178 := Or.inr (Or.inl ⟨6, by decide +kernel, by decide +kernel, rfl⟩)
theorem rX8_settles_178 : vLi mX8_settles 178 1 179 := Or.inl ⟨1, by decide +kernel, rfl, rfl⟩
theorem rX8_settles_179 : vI mX8_settles 179 .iadd 1 180 := ⟨by decide +kernel, rfl⟩
theorem rX8_settles_180 : vI mX8_settles 180 .iaload 1 181 := ⟨by decide +kernel, rfl⟩
theorem rX8_settles_181 : vI mX8_settles 181 .iastore 1 182 := ⟨by decide +kernel, rfl⟩
theorem rX8_settles_182 : vIn mX8_settles 182 1 (nI 1) 185 := ⟨1, by decide +kernel, by decide +kernel, by decide, rfl⟩
theorem rX8_settles_185 : vGo mX8_settles 185 47 := ⟨-138, by decide +kernel, by decide⟩
theorem rX8_settles_188 : vCn mX8_settles 188 (nI 0) 189 := Or.inl ⟨0, by decide +kernel, by decide +kernel, rfl⟩
theorem rX8_settles_189 : vSi mX8_settles 189 1 190 := ⟨Or.inl ⟨1, by decide +kernel, rfl, rfl⟩, by decide⟩
theorem rX8_settles_190 : vLi mX8_settles 190 1 191 := Or.inl ⟨1, by decide +kernel, rfl, rfl⟩
theorem rX8_settles_191 : vCn mX8_settles 191 (nI 36) 193 := Or.inr (Or.inl ⟨36, by decide +kernel, by decide +kernel, rfl⟩)
theorem rX8_settles_193 : vIc mX8_settles 193 .ge 258 196 := ⟨65, by decide +kernel, by decide, rfl⟩
theorem rX8_settles_196 : vLa mX8_settles 196 0 197 := ⟨0, by decide +kernel, rfl, rfl⟩
theorem rX8_settles_197 : vGf mX8_settles 197 8 13 200 := ⟨25, (RX8, TX8, 29), by decide +kernel, rfl, rfl, by decide, tF676⟩
theorem rX8_settles_200 : vLi mX8_settles 200 1 201 := Or.inl ⟨1, by decide +kernel, rfl, rfl⟩
theorem rX8_settles_201 : vLa mX8_settles 201 0 202 := ⟨0, by decide +kernel, rfl, rfl⟩
theorem rX8_settles_202 : vGf mX8_settles 202 8 13 205 := ⟨25, (RX8, TX8, 29), by decide +kernel, rfl, rfl, by decide, tF676⟩
theorem rX8_settles_205 : vCn mX8_settles 205 (nI 36) 207 := Or.inr (Or.inl ⟨36, by decide +kernel, by decide +kernel, rfl⟩)
theorem rX8_settles_207 : vLi mX8_settles 207 1 208 := Or.inl ⟨1, by decide +kernel, rfl, rfl⟩
theorem rX8_settles_208 : vI mX8_settles 208 .iadd 1 209 := ⟨by decide +kernel, rfl⟩
theorem rX8_settles_209 : vI mX8_settles 209 .iaload 1 210 := ⟨by decide +kernel, rfl⟩
theorem rX8_settles_210 : vI mX8_settles 210 .iastore 1 211 := ⟨by decide +kernel, rfl⟩
theorem rX8_settles_211 : vLa mX8_settles 211 0 212 := ⟨0, by decide +kernel, rfl, rfl⟩
theorem rX8_settles_212 : vGf mX8_settles 212 8 17 215 := ⟨37, (RX8, TX8, 29), by decide +kernel, rfl, rfl, by decide, tF680⟩
theorem rX8_settles_215 : vLi mX8_settles 215 1 216 := Or.inl ⟨1, by decide +kernel, rfl, rfl⟩
theorem rX8_settles_216 : vLi mX8_settles 216 1 217 := Or.inl ⟨1, by decide +kernel, rfl, rfl⟩
theorem rX8_settles_217 : vCn mX8_settles 217 (nI 6) 219 := Or.inr (Or.inl ⟨6, by decide +kernel, by decide +kernel, rfl⟩)
theorem rX8_settles_219 : vI mX8_settles 219 .idiv 1 220 := ⟨by decide +kernel, rfl⟩
theorem rX8_settles_220 : vLi mX8_settles 220 1 221 := Or.inl ⟨1, by decide +kernel, rfl, rfl⟩
theorem rX8_settles_221 : vCn mX8_settles 221 (nI 6) 223 := Or.inr (Or.inl ⟨6, by decide +kernel, by decide +kernel, rfl⟩)
theorem rX8_settles_223 : vI mX8_settles 223 .irem 1 224 := ⟨by decide +kernel, rfl⟩
theorem rX8_settles_224 : vIc mX8_settles 224 .ne 231 227 := ⟨7, by decide +kernel, by decide, rfl⟩
theorem rX8_settles_227 : vCn mX8_settles 227 (nI 0) 228 := Or.inl ⟨0, by decide +kernel, by decide +kernel, rfl⟩
theorem rX8_settles_228 : vGo mX8_settles 228 251 := ⟨23, by decide +kernel, by decide⟩
theorem rX8_settles_231 : vLa mX8_settles 231 0 232 := ⟨0, by decide +kernel, rfl, rfl⟩
theorem rX8_settles_232 : vGf mX8_settles 232 8 13 235 := ⟨25, (RX8, TX8, 29), by decide +kernel, rfl, rfl, by decide, tF676⟩
theorem rX8_settles_235 : vLi mX8_settles 235 1 236 := Or.inl ⟨1, by decide +kernel, rfl, rfl⟩
theorem rX8_settles_236 : vI mX8_settles 236 .iaload 1 237 := ⟨by decide +kernel, rfl⟩
theorem rX8_settles_237 : vIf mX8_settles 237 .le 249 240 := ⟨12, by decide +kernel, by decide, rfl⟩
theorem rX8_settles_240 : vLa mX8_settles 240 0 241 := ⟨0, by decide +kernel, rfl, rfl⟩
theorem rX8_settles_241 : vGf mX8_settles 241 8 13 244 := ⟨25, (RX8, TX8, 29), by decide +kernel, rfl, rfl, by decide, tF676⟩
theorem rX8_settles_244 : vLi mX8_settles 244 1 245 := Or.inl ⟨1, by decide +kernel, rfl, rfl⟩
theorem rX8_settles_245 : vI mX8_settles 245 .iaload 1 246 := ⟨by decide +kernel, rfl⟩
theorem rX8_settles_246 : vGo mX8_settles 246 251 := ⟨5, by decide +kernel, by decide⟩
theorem rX8_settles_249 : vCn mX8_settles 249 (nI 1000000) 251 := Or.inr (Or.inr (Or.inr (Or.inl ⟨120, by decide +kernel, tF794, rfl⟩)))
theorem rX8_settles_251 : vI mX8_settles 251 .iastore 1 252 := ⟨by decide +kernel, rfl⟩
theorem rX8_settles_252 : vIn mX8_settles 252 1 (nI 1) 255 := ⟨1, by decide +kernel, by decide +kernel, by decide, rfl⟩
theorem rX8_settles_255 : vGo mX8_settles 255 190 := ⟨-65, by decide +kernel, by decide⟩
theorem rX8_settles_258 : vCn mX8_settles 258 (nI 0) 259 := Or.inl ⟨0, by decide +kernel, by decide +kernel, rfl⟩
theorem rX8_settles_259 : vSi mX8_settles 259 1 260 := ⟨Or.inl ⟨1, by decide +kernel, rfl, rfl⟩, by decide⟩
theorem rX8_settles_260 : vLi mX8_settles 260 1 261 := Or.inl ⟨1, by decide +kernel, rfl, rfl⟩
theorem rX8_settles_261 : vLa mX8_settles 261 0 262 := ⟨0, by decide +kernel, rfl, rfl⟩
theorem rX8_settles_262 : vGf mX8_settles 262 8 9 265 := ⟨13, (RX8, TX8, 29), by decide +kernel, rfl, rfl, by decide, tF672⟩
theorem rX8_settles_265 : vCn mX8_settles 265 (nI 0) 266 := Or.inl ⟨0, by decide +kernel, by decide +kernel, rfl⟩
theorem rX8_settles_266 : vI mX8_settles 266 .iaload 1 267 := ⟨by decide +kernel, rfl⟩
theorem rX8_settles_267 : vIc mX8_settles 267 .ge 346 270 := ⟨79, by decide +kernel, by decide, rfl⟩
theorem rX8_settles_270 : vCn mX8_settles 270 (nI 0) 271 := Or.inl ⟨0, by decide +kernel, by decide +kernel, rfl⟩
theorem rX8_settles_271 : vSi mX8_settles 271 2 272 := ⟨Or.inl ⟨2, by decide +kernel, rfl, rfl⟩, by decide⟩
theorem rX8_settles_272 : vLi mX8_settles 272 2 273 := Or.inl ⟨2, by decide +kernel, rfl, rfl⟩
theorem rX8_settles_273 : vCn mX8_settles 273 (nI 36) 275 := Or.inr (Or.inl ⟨36, by decide +kernel, by decide +kernel, rfl⟩)
theorem rX8_settles_275 : vIc mX8_settles 275 .ge 340 278 := ⟨65, by decide +kernel, by decide, rfl⟩
theorem rX8_settles_278 : vLa mX8_settles 278 0 279 := ⟨0, by decide +kernel, rfl, rfl⟩
theorem rX8_settles_279 : vGf mX8_settles 279 8 17 282 := ⟨37, (RX8, TX8, 29), by decide +kernel, rfl, rfl, by decide, tF680⟩
theorem rX8_settles_282 : vLi mX8_settles 282 2 283 := Or.inl ⟨2, by decide +kernel, rfl, rfl⟩
theorem rX8_settles_283 : vCn mX8_settles 283 (nI 6) 285 := Or.inr (Or.inl ⟨6, by decide +kernel, by decide +kernel, rfl⟩)
theorem rX8_settles_285 : vI mX8_settles 285 .idiv 1 286 := ⟨by decide +kernel, rfl⟩
theorem rX8_settles_286 : vCn mX8_settles 286 (nI 6) 288 := Or.inr (Or.inl ⟨6, by decide +kernel, by decide +kernel, rfl⟩)
theorem rX8_settles_288 : vI mX8_settles 288 .imul 1 289 := ⟨by decide +kernel, rfl⟩
theorem rX8_settles_289 : vLi mX8_settles 289 1 290 := Or.inl ⟨1, by decide +kernel, rfl, rfl⟩
theorem rX8_settles_290 : vI mX8_settles 290 .iadd 1 291 := ⟨by decide +kernel, rfl⟩
theorem rX8_settles_291 : vI mX8_settles 291 .iaload 1 292 := ⟨by decide +kernel, rfl⟩
theorem rX8_settles_292 : vLa mX8_settles 292 0 293 := ⟨0, by decide +kernel, rfl, rfl⟩
theorem rX8_settles_293 : vGf mX8_settles 293 8 17 296 := ⟨37, (RX8, TX8, 29), by decide +kernel, rfl, rfl, by decide, tF680⟩
theorem rX8_settles_296 : vCn mX8_settles 296 (nI 6) 298 := Or.inr (Or.inl ⟨6, by decide +kernel, by decide +kernel, rfl⟩)
theorem rX8_settles_298 : vLi mX8_settles 298 1 299 := Or.inl ⟨1, by decide +kernel, rfl, rfl⟩
theorem rX8_settles_299 : vI mX8_settles 299 .imul 1 300 := ⟨by decide +kernel, rfl⟩
theorem rX8_settles_300 : vLi mX8_settles 300 2 301 := Or.inl ⟨2, by decide +kernel, rfl, rfl⟩
theorem rX8_settles_301 : vCn mX8_settles 301 (nI 6) 303 := Or.inr (Or.inl ⟨6, by decide +kernel, by decide +kernel, rfl⟩)
theorem rX8_settles_303 : vI mX8_settles 303 .irem 1 304 := ⟨by decide +kernel, rfl⟩
theorem rX8_settles_304 : vI mX8_settles 304 .iadd 1 305 := ⟨by decide +kernel, rfl⟩
theorem rX8_settles_305 : vI mX8_settles 305 .iaload 1 306 := ⟨by decide +kernel, rfl⟩
theorem rX8_settles_306 : vI mX8_settles 306 .iadd 1 307 := ⟨by decide +kernel, rfl⟩
theorem rX8_settles_307 : vSi mX8_settles 307 3 308 := ⟨Or.inl ⟨3, by decide +kernel, rfl, rfl⟩, by decide⟩
theorem rX8_settles_308 : vLa mX8_settles 308 0 309 := ⟨0, by decide +kernel, rfl, rfl⟩
theorem rX8_settles_309 : vGf mX8_settles 309 8 17 312 := ⟨37, (RX8, TX8, 29), by decide +kernel, rfl, rfl, by decide, tF680⟩
theorem rX8_settles_312 : vLi mX8_settles 312 2 313 := Or.inl ⟨2, by decide +kernel, rfl, rfl⟩
theorem rX8_settles_313 : vLi mX8_settles 313 3 314 := Or.inl ⟨3, by decide +kernel, rfl, rfl⟩
theorem rX8_settles_314 : vLa mX8_settles 314 0 315 := ⟨0, by decide +kernel, rfl, rfl⟩
theorem rX8_settles_315 : vGf mX8_settles 315 8 17 318 := ⟨37, (RX8, TX8, 29), by decide +kernel, rfl, rfl, by decide, tF680⟩
theorem rX8_settles_318 : vLi mX8_settles 318 2 319 := Or.inl ⟨2, by decide +kernel, rfl, rfl⟩
theorem rX8_settles_319 : vI mX8_settles 319 .iaload 1 320 := ⟨by decide +kernel, rfl⟩
theorem rX8_settles_320 : vIc mX8_settles 320 .ge 327 323 := ⟨7, by decide +kernel, by decide, rfl⟩
theorem rX8_settles_323 : vLi mX8_settles 323 3 324 := Or.inl ⟨3, by decide +kernel, rfl, rfl⟩
theorem rX8_settles_324 : vGo mX8_settles 324 333 := ⟨9, by decide +kernel, by decide⟩
theorem rX8_settles_327 : vLa mX8_settles 327 0 328 := ⟨0, by decide +kernel, rfl, rfl⟩
theorem rX8_settles_328 : vGf mX8_settles 328 8 17 331 := ⟨37, (RX8, TX8, 29), by decide +kernel, rfl, rfl, by decide, tF680⟩
theorem rX8_settles_331 : vLi mX8_settles 331 2 332 := Or.inl ⟨2, by decide +kernel, rfl, rfl⟩
theorem rX8_settles_332 : vI mX8_settles 332 .iaload 1 333 := ⟨by decide +kernel, rfl⟩
theorem rX8_settles_333 : vI mX8_settles 333 .iastore 1 334 := ⟨by decide +kernel, rfl⟩
theorem rX8_settles_334 : vIn mX8_settles 334 2 (nI 1) 337 := ⟨1, by decide +kernel, by decide +kernel, by decide, rfl⟩
theorem rX8_settles_337 : vGo mX8_settles 337 272 := ⟨-65, by decide +kernel, by decide⟩
theorem rX8_settles_340 : vIn mX8_settles 340 1 (nI 1) 343 := ⟨1, by decide +kernel, by decide +kernel, by decide, rfl⟩
theorem rX8_settles_343 : vGo mX8_settles 343 260 := ⟨-83, by decide +kernel, by decide⟩
theorem rX8_settles_346 : vLa mX8_settles 346 0 347 := ⟨0, by decide +kernel, rfl, rfl⟩
theorem rX8_settles_347 : vCn mX8_settles 347 (nI 0) 348 := Or.inl ⟨0, by decide +kernel, by decide +kernel, rfl⟩
theorem rX8_settles_348 : vPf mX8_settles 348 8 3 351 := ⟨76, (RX8, TX8, 29), by decide +kernel, rfl, rfl, by decide, tF666, Or.inl rfl⟩
theorem rX8_settles_351 : vLa mX8_settles 351 0 352 := ⟨0, by decide +kernel, rfl, rfl⟩
theorem rX8_settles_352 : vCn mX8_settles 352 (nI 0) 353 := Or.inl ⟨0, by decide +kernel, by decide +kernel, rfl⟩
theorem rX8_settles_353 : vPf mX8_settles 353 8 26 356 := ⟨121, (RX8, TX8, 29), by decide +kernel, rfl, rfl, by decide, tF689, Or.inl rfl⟩
theorem rX8_settles_356 : vLa mX8_settles 356 0 357 := ⟨0, by decide +kernel, rfl, rfl⟩
theorem rX8_settles_357 : vCn mX8_settles 357 (nI 0) 358 := Or.inl ⟨0, by decide +kernel, by decide +kernel, rfl⟩
theorem rX8_settles_358 : vPf mX8_settles 358 8 23 361 := ⟨124, (RX8, TX8, 29), by decide +kernel, rfl, rfl, by decide, tF686, Or.inl rfl⟩
theorem rX8_settles_361 : vLa mX8_settles 361 0 362 := ⟨0, by decide +kernel, rfl, rfl⟩
theorem rX8_settles_362 : vGf mX8_settles 362 8 21 365 := ⟨49, (RX8, TX8, 29), by decide +kernel, rfl, rfl, by decide, tF684⟩
theorem rX8_settles_365 : vCn mX8_settles 365 (nI 0) 366 := Or.inl ⟨0, by decide +kernel, by decide +kernel, rfl⟩
theorem rX8_settles_366 : vCn mX8_settles 366 (nI 0) 367 := Or.inl ⟨0, by decide +kernel, by decide +kernel, rfl⟩
theorem rX8_settles_367 : vI mX8_settles 367 .bastore 1 368 := ⟨by decide +kernel, rfl⟩
theorem rX8_settles_368 : vLa mX8_settles 368 0 369 := ⟨0, by decide +kernel, rfl, rfl⟩
theorem rX8_settles_369 : vGf mX8_settles 369 8 21 372 := ⟨49, (RX8, TX8, 29), by decide +kernel, rfl, rfl, by decide, tF684⟩
theorem rX8_settles_372 : vCn mX8_settles 372 (nI 1) 373 := Or.inl ⟨1, by decide +kernel, by decide +kernel, rfl⟩
theorem rX8_settles_373 : vCn mX8_settles 373 (nI 0) 374 := Or.inl ⟨0, by decide +kernel, by decide +kernel, rfl⟩
theorem rX8_settles_374 : vI mX8_settles 374 .bastore 1 375 := ⟨by decide +kernel, rfl⟩
theorem rX8_settles_375 : vI mX8_settles 375 .return_ 1 376 := ⟨by decide +kernel, rfl⟩
theorem rX8_isTown_0 : vLi mX8_isTown 0 1 1 := Or.inl ⟨1, by decide +kernel, rfl, rfl⟩
theorem rX8_isTown_1 : vCn mX8_isTown 1 (nI 0) 2 := Or.inl ⟨0, by decide +kernel, by decide +kernel, rfl⟩
theorem rX8_isTown_2 : vLa mX8_isTown 2 0 3 := ⟨0, by decide +kernel, rfl, rfl⟩
theorem rX8_isTown_3 : vGf mX8_isTown 3 8 9 6 := ⟨13, (RX8, TX8, 29), by decide +kernel, rfl, rfl, by decide, tF672⟩
theorem rX8_isTown_6 : vCn mX8_isTown 6 (nI 0) 7 := Or.inl ⟨0, by decide +kernel, by decide +kernel, rfl⟩
theorem rX8_isTown_7 : vI mX8_isTown 7 .iaload 1 8 := ⟨by decide +kernel, rfl⟩
theorem rX8_isTown_8 : vCn mX8_isTown 8 (nI 1) 9 := Or.inl ⟨1, by decide +kernel, by decide +kernel, rfl⟩
theorem rX8_isTown_9 : vI mX8_isTown 9 .isub 1 10 := ⟨by decide +kernel, rfl⟩
theorem rX8_isTown_10 : vKs mX8_isTown 10 mX8_in 3 13 := ⟨72, by decide +kernel, rfl, kX8_in, tF756, Or.inl tF755⟩
theorem rX8_isTown_13 : vI mX8_isTown 13 .ireturn 1 14 := ⟨by decide +kernel, rfl⟩
theorem rX8_hangs_0 : vCn mX8_hangs 0 (nI 0) 1 := Or.inl ⟨0, by decide +kernel, by decide +kernel, rfl⟩
theorem rX8_hangs_1 : vSi mX8_hangs 1 2 2 := ⟨Or.inl ⟨2, by decide +kernel, rfl, rfl⟩, by decide⟩
theorem rX8_hangs_2 : vLa mX8_hangs 2 0 3 := ⟨0, by decide +kernel, rfl, rfl⟩
theorem rX8_hangs_3 : vCn mX8_hangs 3 (nI 2) 4 := Or.inl ⟨2, by decide +kernel, by decide +kernel, rfl⟩
theorem rX8_hangs_4 : vLi mX8_hangs 4 2 5 := Or.inl ⟨2, by decide +kernel, rfl, rfl⟩
theorem rX8_hangs_5 : vI mX8_hangs 5 .iadd 1 6 := ⟨by decide +kernel, rfl⟩
theorem rX8_hangs_6 : vI mX8_hangs 6 .iaload 1 7 := ⟨by decide +kernel, rfl⟩
theorem rX8_hangs_7 : vLi mX8_hangs 7 1 8 := Or.inl ⟨1, by decide +kernel, rfl, rfl⟩
theorem rX8_hangs_8 : vIc mX8_hangs 8 .eq 17 11 := ⟨9, by decide +kernel, by decide, rfl⟩
theorem rX8_hangs_11 : vIn mX8_hangs 11 2 (nI 1) 14 := ⟨1, by decide +kernel, by decide +kernel, by decide, rfl⟩
theorem rX8_hangs_14 : vGo mX8_hangs 14 2 := ⟨-12, by decide +kernel, by decide⟩
theorem rX8_hangs_17 : vLi mX8_hangs 17 2 18 := Or.inl ⟨2, by decide +kernel, rfl, rfl⟩
theorem rX8_hangs_18 : vI mX8_hangs 18 .ireturn 1 19 := ⟨by decide +kernel, rfl⟩
theorem rX8_isDumb_0 : vCn mX8_isDumb 0 (nI 0) 1 := Or.inl ⟨0, by decide +kernel, by decide +kernel, rfl⟩
theorem rX8_isDumb_1 : vSi mX8_isDumb 1 2 2 := ⟨Or.inl ⟨2, by decide +kernel, rfl, rfl⟩, by decide⟩
theorem rX8_isDumb_2 : vCn mX8_isDumb 2 (nI 0) 3 := Or.inl ⟨0, by decide +kernel, by decide +kernel, rfl⟩
theorem rX8_isDumb_3 : vSi mX8_isDumb 3 3 4 := ⟨Or.inl ⟨3, by decide +kernel, rfl, rfl⟩, by decide⟩
theorem rX8_isDumb_4 : vLi mX8_isDumb 4 3 5 := Or.inl ⟨3, by decide +kernel, rfl, rfl⟩
theorem rX8_isDumb_5 : vLa mX8_isDumb 5 0 6 := ⟨0, by decide +kernel, rfl, rfl⟩
theorem rX8_isDumb_6 : vGf mX8_isDumb 6 8 9 9 := ⟨13, (RX8, TX8, 29), by decide +kernel, rfl, rfl, by decide, tF672⟩
theorem rX8_isDumb_9 : vCn mX8_isDumb 9 (nI 0) 10 := Or.inl ⟨0, by decide +kernel, by decide +kernel, rfl⟩
theorem rX8_isDumb_10 : vI mX8_isDumb 10 .iaload 1 11 := ⟨by decide +kernel, rfl⟩
theorem rX8_isDumb_11 : vIc mX8_isDumb 11 .ge 73 14 := ⟨62, by decide +kernel, by decide, rfl⟩
theorem rX8_isDumb_14 : vLi mX8_isDumb 14 2 15 := Or.inl ⟨2, by decide +kernel, rfl, rfl⟩
theorem rX8_isDumb_15 : vIf mX8_isDumb 15 .ne 61 18 := ⟨46, by decide +kernel, by decide, rfl⟩
theorem rX8_isDumb_18 : vLa mX8_isDumb 18 0 19 := ⟨0, by decide +kernel, rfl, rfl⟩
theorem rX8_isDumb_19 : vGf mX8_isDumb 19 8 13 22 := ⟨25, (RX8, TX8, 29), by decide +kernel, rfl, rfl, by decide, tF676⟩
theorem rX8_isDumb_22 : vCn mX8_isDumb 22 (nI 6) 24 := Or.inr (Or.inl ⟨6, by decide +kernel, by decide +kernel, rfl⟩)
theorem rX8_isDumb_24 : vLi mX8_isDumb 24 1 25 := Or.inl ⟨1, by decide +kernel, rfl, rfl⟩
theorem rX8_isDumb_25 : vI mX8_isDumb 25 .imul 1 26 := ⟨by decide +kernel, rfl⟩
theorem rX8_isDumb_26 : vLi mX8_isDumb 26 3 27 := Or.inl ⟨3, by decide +kernel, rfl, rfl⟩
theorem rX8_isDumb_27 : vI mX8_isDumb 27 .iadd 1 28 := ⟨by decide +kernel, rfl⟩
theorem rX8_isDumb_28 : vI mX8_isDumb 28 .iaload 1 29 := ⟨by decide +kernel, rfl⟩
theorem rX8_isDumb_29 : vIf mX8_isDumb 29 .le 65 32 := ⟨36, by decide +kernel, by decide, rfl⟩
theorem rX8_isDumb_32 : vLa mX8_isDumb 32 0 33 := ⟨0, by decide +kernel, rfl, rfl⟩
theorem rX8_isDumb_33 : vGf mX8_isDumb 33 8 12 36 := ⟨22, (RX8, TX8, 29), by decide +kernel, rfl, rfl, by decide, tF675⟩
theorem rX8_isDumb_36 : vLa mX8_isDumb 36 0 37 := ⟨0, by decide +kernel, rfl, rfl⟩
theorem rX8_isDumb_37 : vGf mX8_isDumb 37 8 18 40 := ⟨40, (RX8, TX8, 29), by decide +kernel, rfl, rfl, by decide, tF681⟩
theorem rX8_isDumb_40 : vCn mX8_isDumb 40 (nI 2) 41 := Or.inl ⟨2, by decide +kernel, by decide +kernel, rfl⟩
theorem rX8_isDumb_41 : vLi mX8_isDumb 41 3 42 := Or.inl ⟨3, by decide +kernel, rfl, rfl⟩
theorem rX8_isDumb_42 : vI mX8_isDumb 42 .iadd 1 43 := ⟨by decide +kernel, rfl⟩
theorem rX8_isDumb_43 : vI mX8_isDumb 43 .iaload 1 44 := ⟨by decide +kernel, rfl⟩
theorem rX8_isDumb_44 : vI mX8_isDumb 44 .iaload 1 45 := ⟨by decide +kernel, rfl⟩
theorem rX8_isDumb_45 : vLa mX8_isDumb 45 0 46 := ⟨0, by decide +kernel, rfl, rfl⟩
theorem rX8_isDumb_46 : vGf mX8_isDumb 46 8 12 49 := ⟨22, (RX8, TX8, 29), by decide +kernel, rfl, rfl, by decide, tF675⟩
theorem rX8_isDumb_49 : vLa mX8_isDumb 49 0 50 := ⟨0, by decide +kernel, rfl, rfl⟩
theorem rX8_isDumb_50 : vGf mX8_isDumb 50 8 18 53 := ⟨40, (RX8, TX8, 29), by decide +kernel, rfl, rfl, by decide, tF681⟩
theorem rX8_isDumb_53 : vCn mX8_isDumb 53 (nI 2) 54 := Or.inl ⟨2, by decide +kernel, by decide +kernel, rfl⟩
theorem rX8_isDumb_54 : vLi mX8_isDumb 54 1 55 := Or.inl ⟨1, by decide +kernel, rfl, rfl⟩
theorem rX8_isDumb_55 : vI mX8_isDumb 55 .iadd 1 56 := ⟨by decide +kernel, rfl⟩
theorem rX8_isDumb_56 : vI mX8_isDumb 56 .iaload 1 57 := ⟨by decide +kernel, rfl⟩
theorem rX8_isDumb_57 : vI mX8_isDumb 57 .iaload 1 58 := ⟨by decide +kernel, rfl⟩
theorem rX8_isDumb_58 : vIc mX8_isDumb 58 .ne 65 61 := ⟨7, by decide +kernel, by decide, rfl⟩
theorem rX8_isDumb_61 : vCn mX8_isDumb 61 (nI 1) 62 := Or.inl ⟨1, by decide +kernel, by decide +kernel, rfl⟩
theorem rX8_isDumb_62 : vGo mX8_isDumb 62 66 := ⟨4, by decide +kernel, by decide⟩
theorem rX8_isDumb_65 : vCn mX8_isDumb 65 (nI 0) 66 := Or.inl ⟨0, by decide +kernel, by decide +kernel, rfl⟩
theorem rX8_isDumb_66 : vSi mX8_isDumb 66 2 67 := ⟨Or.inl ⟨2, by decide +kernel, rfl, rfl⟩, by decide⟩
theorem rX8_isDumb_67 : vIn mX8_isDumb 67 3 (nI 1) 70 := ⟨1, by decide +kernel, by decide +kernel, by decide, rfl⟩
theorem rX8_isDumb_70 : vGo mX8_isDumb 70 4 := ⟨-66, by decide +kernel, by decide⟩
theorem rX8_isDumb_73 : vLi mX8_isDumb 73 2 74 := Or.inl ⟨2, by decide +kernel, rfl, rfl⟩
theorem rX8_isDumb_74 : vI mX8_isDumb 74 .ireturn 1 75 := ⟨by decide +kernel, rfl⟩
theorem rX8_town_0 : vLa mX8_town 0 0 1 := ⟨0, by decide +kernel, rfl, rfl⟩
theorem rX8_town_1 : vCn mX8_town 1 (nI 0) 2 := Or.inl ⟨0, by decide +kernel, by decide +kernel, rfl⟩
theorem rX8_town_2 : vPf mX8_town 2 8 0 5 := ⟨68, (RX8, TX8, 29), by decide +kernel, rfl, rfl, by decide, tF663, Or.inl rfl⟩
theorem rX8_town_5 : vLa mX8_town 5 0 6 := ⟨0, by decide +kernel, rfl, rfl⟩
theorem rX8_town_6 : vLi mX8_town 6 1 7 := Or.inl ⟨1, by decide +kernel, rfl, rfl⟩
theorem rX8_town_7 : vKv mX8_town 7 mX8_isTown 1 8 10 := ⟨127, (RX8, TX8, 29), by decide +kernel, rfl, kX8_isTown, tF801, tF799, tS33, rfl, rfl⟩
theorem rX8_town_10 : vIf mX8_town 10 .eq 22 13 := ⟨12, by decide +kernel, by decide, rfl⟩
theorem rX8_town_13 : vLi mX8_town 13 2 14 := Or.inl ⟨2, by decide +kernel, rfl, rfl⟩
theorem rX8_town_14 : vCn mX8_town 14 (nI 0) 15 := Or.inl ⟨0, by decide +kernel, by decide +kernel, rfl⟩
theorem rX8_town_15 : vCn mX8_town 15 (nI 3) 16 := Or.inl ⟨3, by decide +kernel, by decide +kernel, rfl⟩
theorem rX8_town_16 : vKs mX8_town 16 mX8_in 3 19 := ⟨72, by decide +kernel, rfl, kX8_in, tF756, Or.inl tF755⟩
theorem rX8_town_19 : vIf mX8_town 19 .ne 24 22 := ⟨5, by decide +kernel, by decide, rfl⟩
theorem rX8_town_22 : vCn mX8_town 22 (-1) 23 := Or.inl ⟨-1, by decide +kernel, by decide +kernel, rfl⟩
theorem rX8_town_23 : vI mX8_town 23 .ireturn 1 24 := ⟨by decide +kernel, rfl⟩
theorem rX8_town_24 : vLi mX8_town 24 2 25 := Or.inl ⟨2, by decide +kernel, rfl, rfl⟩
theorem rX8_town_25 : vIf mX8_town 25 .ne 40 28 := ⟨15, by decide +kernel, by decide, rfl⟩
theorem rX8_town_28 : vLa mX8_town 28 0 29 := ⟨0, by decide +kernel, rfl, rfl⟩
theorem rX8_town_29 : vGf mX8_town 29 8 18 32 := ⟨40, (RX8, TX8, 29), by decide +kernel, rfl, rfl, by decide, tF681⟩
theorem rX8_town_32 : vCn mX8_town 32 (nI 8) 34 := Or.inr (Or.inl ⟨8, by decide +kernel, by decide +kernel, rfl⟩)
theorem rX8_town_34 : vLi mX8_town 34 1 35 := Or.inl ⟨1, by decide +kernel, rfl, rfl⟩
theorem rX8_town_35 : vI mX8_town 35 .iadd 1 36 := ⟨by decide +kernel, rfl⟩
theorem rX8_town_36 : vI mX8_town 36 .iaload 1 37 := ⟨by decide +kernel, rfl⟩
theorem rX8_town_37 : vGo mX8_town 37 85 := ⟨48, by decide +kernel, by decide⟩
theorem rX8_town_40 : vLi mX8_town 40 2 41 := Or.inl ⟨2, by decide +kernel, rfl, rfl⟩
theorem rX8_town_41 : vCn mX8_town 41 (nI 1) 42 := Or.inl ⟨1, by decide +kernel, by decide +kernel, rfl⟩
theorem rX8_town_42 : vIc mX8_town 42 .ne 56 45 := ⟨14, by decide +kernel, by decide, rfl⟩
theorem rX8_town_45 : vLa mX8_town 45 0 46 := ⟨0, by decide +kernel, rfl, rfl⟩
theorem rX8_town_46 : vGf mX8_town 46 8 18 49 := ⟨40, (RX8, TX8, 29), by decide +kernel, rfl, rfl, by decide, tF681⟩
theorem rX8_town_49 : vCn mX8_town 49 (nI 2) 50 := Or.inl ⟨2, by decide +kernel, by decide +kernel, rfl⟩
theorem rX8_town_50 : vLi mX8_town 50 1 51 := Or.inl ⟨1, by decide +kernel, rfl, rfl⟩
theorem rX8_town_51 : vI mX8_town 51 .iadd 1 52 := ⟨by decide +kernel, rfl⟩
theorem rX8_town_52 : vI mX8_town 52 .iaload 1 53 := ⟨by decide +kernel, rfl⟩
theorem rX8_town_53 : vGo mX8_town 53 85 := ⟨32, by decide +kernel, by decide⟩
theorem rX8_town_56 : vLi mX8_town 56 2 57 := Or.inl ⟨2, by decide +kernel, rfl, rfl⟩
theorem rX8_town_57 : vCn mX8_town 57 (nI 2) 58 := Or.inl ⟨2, by decide +kernel, by decide +kernel, rfl⟩
theorem rX8_town_58 : vIc mX8_town 58 .ne 72 61 := ⟨14, by decide +kernel, by decide, rfl⟩
theorem rX8_town_61 : vLa mX8_town 61 0 62 := ⟨0, by decide +kernel, rfl, rfl⟩
theorem rX8_town_62 : vGf mX8_town 62 8 18 65 := ⟨40, (RX8, TX8, 29), by decide +kernel, rfl, rfl, by decide, tF681⟩
theorem rX8_town_65 : vLi mX8_town 65 1 66 := Or.inl ⟨1, by decide +kernel, rfl, rfl⟩
theorem rX8_town_66 : vKs mX8_town 66 mX8_hangs 2 69 := ⟨131, by decide +kernel, rfl, kX8_hangs, tF804, Or.inl tF803⟩
theorem rX8_town_69 : vGo mX8_town 69 85 := ⟨16, by decide +kernel, by decide⟩
theorem rX8_town_72 : vLa mX8_town 72 0 73 := ⟨0, by decide +kernel, rfl, rfl⟩
theorem rX8_town_73 : vLi mX8_town 73 1 74 := Or.inl ⟨1, by decide +kernel, rfl, rfl⟩
theorem rX8_town_74 : vKv mX8_town 74 mX8_isDumb 1 8 77 := ⟨135, (RX8, TX8, 29), by decide +kernel, rfl, kX8_isDumb, tF808, tF806, tS34, rfl, rfl⟩
theorem rX8_town_77 : vIf mX8_town 77 .eq 84 80 := ⟨7, by decide +kernel, by decide, rfl⟩
theorem rX8_town_80 : vCn mX8_town 80 (nI 1) 81 := Or.inl ⟨1, by decide +kernel, by decide +kernel, rfl⟩
theorem rX8_town_81 : vGo mX8_town 81 85 := ⟨4, by decide +kernel, by decide⟩
theorem rX8_town_84 : vCn mX8_town 84 (nI 0) 85 := Or.inl ⟨0, by decide +kernel, by decide +kernel, rfl⟩
theorem rX8_town_85 : vI mX8_town 85 .ireturn 1 86 := ⟨by decide +kernel, rfl⟩
theorem rX8_fits_0 : vCn mX8_fits 0 (nI 0) 1 := Or.inl ⟨0, by decide +kernel, by decide +kernel, rfl⟩
theorem rX8_fits_1 : vSi mX8_fits 1 2 2 := ⟨Or.inl ⟨2, by decide +kernel, rfl, rfl⟩, by decide⟩
theorem rX8_fits_2 : vCn mX8_fits 2 (nI 0) 3 := Or.inl ⟨0, by decide +kernel, by decide +kernel, rfl⟩
theorem rX8_fits_3 : vSi mX8_fits 3 3 4 := ⟨Or.inl ⟨3, by decide +kernel, rfl, rfl⟩, by decide⟩
theorem rX8_fits_4 : vLi mX8_fits 4 3 5 := Or.inl ⟨3, by decide +kernel, rfl, rfl⟩
theorem rX8_fits_5 : vLa mX8_fits 5 0 6 := ⟨0, by decide +kernel, rfl, rfl⟩
theorem rX8_fits_6 : vGf mX8_fits 6 8 9 9 := ⟨13, (RX8, TX8, 29), by decide +kernel, rfl, rfl, by decide, tF672⟩
theorem rX8_fits_9 : vCn mX8_fits 9 (nI 0) 10 := Or.inl ⟨0, by decide +kernel, by decide +kernel, rfl⟩
theorem rX8_fits_10 : vI mX8_fits 10 .iaload 1 11 := ⟨by decide +kernel, rfl⟩
theorem rX8_fits_11 : vIc mX8_fits 11 .ge 48 14 := ⟨37, by decide +kernel, by decide, rfl⟩
theorem rX8_fits_14 : vLi mX8_fits 14 2 15 := Or.inl ⟨2, by decide +kernel, rfl, rfl⟩
theorem rX8_fits_15 : vLa mX8_fits 15 0 16 := ⟨0, by decide +kernel, rfl, rfl⟩
theorem rX8_fits_16 : vGf mX8_fits 16 8 18 19 := ⟨40, (RX8, TX8, 29), by decide +kernel, rfl, rfl, by decide, tF681⟩
theorem rX8_fits_19 : vCn mX8_fits 19 (nI 8) 21 := Or.inr (Or.inl ⟨8, by decide +kernel, by decide +kernel, rfl⟩)
theorem rX8_fits_21 : vLi mX8_fits 21 3 22 := Or.inl ⟨3, by decide +kernel, rfl, rfl⟩
theorem rX8_fits_22 : vI mX8_fits 22 .iadd 1 23 := ⟨by decide +kernel, rfl⟩
theorem rX8_fits_23 : vI mX8_fits 23 .iaload 1 24 := ⟨by decide +kernel, rfl⟩
theorem rX8_fits_24 : vLa mX8_fits 24 0 25 := ⟨0, by decide +kernel, rfl, rfl⟩
theorem rX8_fits_25 : vGf mX8_fits 25 8 11 28 := ⟨19, (RX8, TX8, 29), by decide +kernel, rfl, rfl, by decide, tF674⟩
theorem rX8_fits_28 : vLi mX8_fits 28 1 29 := Or.inl ⟨1, by decide +kernel, rfl, rfl⟩
theorem rX8_fits_29 : vI mX8_fits 29 .iaload 1 30 := ⟨by decide +kernel, rfl⟩
theorem rX8_fits_30 : vIc mX8_fits 30 .lt 39 33 := ⟨9, by decide +kernel, by decide, rfl⟩
theorem rX8_fits_33 : vCn mX8_fits 33 (nI 1) 34 := Or.inl ⟨1, by decide +kernel, by decide +kernel, rfl⟩
theorem rX8_fits_34 : vLi mX8_fits 34 3 35 := Or.inl ⟨3, by decide +kernel, rfl, rfl⟩
theorem rX8_fits_35 : vI mX8_fits 35 .ishl 1 36 := ⟨by decide +kernel, rfl⟩
theorem rX8_fits_36 : vGo mX8_fits 36 40 := ⟨4, by decide +kernel, by decide⟩
theorem rX8_fits_39 : vCn mX8_fits 39 (nI 0) 40 := Or.inl ⟨0, by decide +kernel, by decide +kernel, rfl⟩
theorem rX8_fits_40 : vI mX8_fits 40 .ior 1 41 := ⟨by decide +kernel, rfl⟩
theorem rX8_fits_41 : vSi mX8_fits 41 2 42 := ⟨Or.inl ⟨2, by decide +kernel, rfl, rfl⟩, by decide⟩
theorem rX8_fits_42 : vIn mX8_fits 42 3 (nI 1) 45 := ⟨1, by decide +kernel, by decide +kernel, by decide, rfl⟩
theorem rX8_fits_45 : vGo mX8_fits 45 4 := ⟨-41, by decide +kernel, by decide⟩
theorem rX8_fits_48 : vLi mX8_fits 48 2 49 := Or.inl ⟨2, by decide +kernel, rfl, rfl⟩
theorem rX8_fits_49 : vI mX8_fits 49 .ireturn 1 50 := ⟨by decide +kernel, rfl⟩
theorem rX8_bell_0 : vLa mX8_bell 0 0 1 := ⟨0, by decide +kernel, rfl, rfl⟩
theorem rX8_bell_1 : vCn mX8_bell 1 (nI 0) 2 := Or.inl ⟨0, by decide +kernel, by decide +kernel, rfl⟩
theorem rX8_bell_2 : vPf mX8_bell 2 8 0 5 := ⟨68, (RX8, TX8, 29), by decide +kernel, rfl, rfl, by decide, tF663, Or.inl rfl⟩
theorem rX8_bell_5 : vLa mX8_bell 5 0 6 := ⟨0, by decide +kernel, rfl, rfl⟩
theorem rX8_bell_6 : vLi mX8_bell 6 1 7 := Or.inl ⟨1, by decide +kernel, rfl, rfl⟩
theorem rX8_bell_7 : vKv mX8_bell 7 mX8_isTown 1 8 10 := ⟨127, (RX8, TX8, 29), by decide +kernel, rfl, kX8_isTown, tF801, tF799, tS33, rfl, rfl⟩
theorem rX8_bell_10 : vIf mX8_bell 10 .eq 22 13 := ⟨12, by decide +kernel, by decide, rfl⟩
theorem rX8_bell_13 : vLi mX8_bell 13 2 14 := Or.inl ⟨2, by decide +kernel, rfl, rfl⟩
theorem rX8_bell_14 : vCn mX8_bell 14 (nI 0) 15 := Or.inl ⟨0, by decide +kernel, by decide +kernel, rfl⟩
theorem rX8_bell_15 : vCn mX8_bell 15 (nI 3) 16 := Or.inl ⟨3, by decide +kernel, by decide +kernel, rfl⟩
theorem rX8_bell_16 : vKs mX8_bell 16 mX8_in 3 19 := ⟨72, by decide +kernel, rfl, kX8_in, tF756, Or.inl tF755⟩
theorem rX8_bell_19 : vIf mX8_bell 19 .ne 24 22 := ⟨5, by decide +kernel, by decide, rfl⟩
theorem rX8_bell_22 : vCn mX8_bell 22 (-1) 23 := Or.inl ⟨-1, by decide +kernel, by decide +kernel, rfl⟩
theorem rX8_bell_23 : vI mX8_bell 23 .ireturn 1 24 := ⟨by decide +kernel, rfl⟩
theorem rX8_bell_24 : vLi mX8_bell 24 2 25 := Or.inl ⟨2, by decide +kernel, rfl, rfl⟩
theorem rX8_bell_25 : vIf mX8_bell 25 .ne 37 28 := ⟨12, by decide +kernel, by decide, rfl⟩
theorem rX8_bell_28 : vLa mX8_bell 28 0 29 := ⟨0, by decide +kernel, rfl, rfl⟩
theorem rX8_bell_29 : vGf mX8_bell 29 8 11 32 := ⟨19, (RX8, TX8, 29), by decide +kernel, rfl, rfl, by decide, tF674⟩
theorem rX8_bell_32 : vLi mX8_bell 32 1 33 := Or.inl ⟨1, by decide +kernel, rfl, rfl⟩
theorem rX8_bell_33 : vI mX8_bell 33 .iaload 1 34 := ⟨by decide +kernel, rfl⟩
theorem rX8_bell_34 : vGo mX8_bell 34 72 := ⟨38, by decide +kernel, by decide⟩
theorem rX8_bell_37 : vLi mX8_bell 37 2 38 := Or.inl ⟨2, by decide +kernel, rfl, rfl⟩
theorem rX8_bell_38 : vCn mX8_bell 38 (nI 1) 39 := Or.inl ⟨1, by decide +kernel, by decide +kernel, rfl⟩
theorem rX8_bell_39 : vIc mX8_bell 39 .ne 51 42 := ⟨12, by decide +kernel, by decide, rfl⟩
theorem rX8_bell_42 : vLa mX8_bell 42 0 43 := ⟨0, by decide +kernel, rfl, rfl⟩
theorem rX8_bell_43 : vGf mX8_bell 43 8 12 46 := ⟨22, (RX8, TX8, 29), by decide +kernel, rfl, rfl, by decide, tF675⟩
theorem rX8_bell_46 : vLi mX8_bell 46 1 47 := Or.inl ⟨1, by decide +kernel, rfl, rfl⟩
theorem rX8_bell_47 : vI mX8_bell 47 .iaload 1 48 := ⟨by decide +kernel, rfl⟩
theorem rX8_bell_48 : vGo mX8_bell 48 72 := ⟨24, by decide +kernel, by decide⟩
theorem rX8_bell_51 : vLi mX8_bell 51 2 52 := Or.inl ⟨2, by decide +kernel, rfl, rfl⟩
theorem rX8_bell_52 : vCn mX8_bell 52 (nI 2) 53 := Or.inl ⟨2, by decide +kernel, by decide +kernel, rfl⟩
theorem rX8_bell_53 : vIc mX8_bell 53 .ne 67 56 := ⟨14, by decide +kernel, by decide, rfl⟩
theorem rX8_bell_56 : vLa mX8_bell 56 0 57 := ⟨0, by decide +kernel, rfl, rfl⟩
theorem rX8_bell_57 : vGf mX8_bell 57 8 18 60 := ⟨40, (RX8, TX8, 29), by decide +kernel, rfl, rfl, by decide, tF681⟩
theorem rX8_bell_60 : vLi mX8_bell 60 1 61 := Or.inl ⟨1, by decide +kernel, rfl, rfl⟩
theorem rX8_bell_61 : vKs mX8_bell 61 mX8_hangs 2 64 := ⟨131, by decide +kernel, rfl, kX8_hangs, tF804, Or.inl tF803⟩
theorem rX8_bell_64 : vGo mX8_bell 64 72 := ⟨8, by decide +kernel, by decide⟩
theorem rX8_bell_67 : vLa mX8_bell 67 0 68 := ⟨0, by decide +kernel, rfl, rfl⟩
theorem rX8_bell_68 : vLi mX8_bell 68 1 69 := Or.inl ⟨1, by decide +kernel, rfl, rfl⟩
theorem rX8_bell_69 : vKv mX8_bell 69 mX8_fits 1 8 72 := ⟨138, (RX8, TX8, 29), by decide +kernel, rfl, kX8_fits, tF816, tF814, tS35, rfl, rfl⟩
theorem rX8_bell_72 : vI mX8_bell 72 .ireturn 1 73 := ⟨by decide +kernel, rfl⟩
theorem rX8_far_0 : vLa mX8_far 0 0 1 := ⟨0, by decide +kernel, rfl, rfl⟩
theorem rX8_far_1 : vCn mX8_far 1 (nI 0) 2 := Or.inl ⟨0, by decide +kernel, by decide +kernel, rfl⟩
theorem rX8_far_2 : vPf mX8_far 2 8 0 5 := ⟨68, (RX8, TX8, 29), by decide +kernel, rfl, rfl, by decide, tF663, Or.inl rfl⟩
theorem rX8_far_5 : vLa mX8_far 5 0 6 := ⟨0, by decide +kernel, rfl, rfl⟩
theorem rX8_far_6 : vLi mX8_far 6 1 7 := Or.inl ⟨1, by decide +kernel, rfl, rfl⟩
theorem rX8_far_7 : vKv mX8_far 7 mX8_isTown 1 8 10 := ⟨127, (RX8, TX8, 29), by decide +kernel, rfl, kX8_isTown, tF801, tF799, tS33, rfl, rfl⟩
theorem rX8_far_10 : vIf mX8_far 10 .eq 21 13 := ⟨11, by decide +kernel, by decide, rfl⟩
theorem rX8_far_13 : vLa mX8_far 13 0 14 := ⟨0, by decide +kernel, rfl, rfl⟩
theorem rX8_far_14 : vLi mX8_far 14 2 15 := Or.inl ⟨2, by decide +kernel, rfl, rfl⟩
theorem rX8_far_15 : vKv mX8_far 15 mX8_isTown 1 8 18 := ⟨127, (RX8, TX8, 29), by decide +kernel, rfl, kX8_isTown, tF801, tF799, tS33, rfl, rfl⟩
theorem rX8_far_18 : vIf mX8_far 18 .ne 23 21 := ⟨5, by decide +kernel, by decide, rfl⟩
theorem rX8_far_21 : vCn mX8_far 21 (-1) 22 := Or.inl ⟨-1, by decide +kernel, by decide +kernel, rfl⟩
theorem rX8_far_22 : vI mX8_far 22 .ireturn 1 23 := ⟨by decide +kernel, rfl⟩
theorem rX8_far_23 : vLa mX8_far 23 0 24 := ⟨0, by decide +kernel, rfl, rfl⟩
theorem rX8_far_24 : vGf mX8_far 24 8 17 27 := ⟨37, (RX8, TX8, 29), by decide +kernel, rfl, rfl, by decide, tF680⟩
theorem rX8_far_27 : vCn mX8_far 27 (nI 6) 29 := Or.inr (Or.inl ⟨6, by decide +kernel, by decide +kernel, rfl⟩)
theorem rX8_far_29 : vLi mX8_far 29 1 30 := Or.inl ⟨1, by decide +kernel, rfl, rfl⟩
theorem rX8_far_30 : vI mX8_far 30 .imul 1 31 := ⟨by decide +kernel, rfl⟩
theorem rX8_far_31 : vLi mX8_far 31 2 32 := Or.inl ⟨2, by decide +kernel, rfl, rfl⟩
theorem rX8_far_32 : vI mX8_far 32 .iadd 1 33 := ⟨by decide +kernel, rfl⟩
theorem rX8_far_33 : vI mX8_far 33 .iaload 1 34 := ⟨by decide +kernel, rfl⟩
theorem rX8_far_34 : vCn mX8_far 34 (nI 1000000) 36 := Or.inr (Or.inr (Or.inr (Or.inl ⟨120, by decide +kernel, tF794, rfl⟩)))
theorem rX8_far_36 : vIc mX8_far 36 .lt 44 39 := ⟨8, by decide +kernel, by decide, rfl⟩
theorem rX8_far_39 : vCn mX8_far 39 (-9) 41 := Or.inr (Or.inl ⟨-9, by decide +kernel, by decide +kernel, rfl⟩)
theorem rX8_far_41 : vGo mX8_far 41 55 := ⟨14, by decide +kernel, by decide⟩
theorem rX8_far_44 : vLa mX8_far 44 0 45 := ⟨0, by decide +kernel, rfl, rfl⟩
theorem rX8_far_45 : vGf mX8_far 45 8 17 48 := ⟨37, (RX8, TX8, 29), by decide +kernel, rfl, rfl, by decide, tF680⟩
theorem rX8_far_48 : vCn mX8_far 48 (nI 6) 50 := Or.inr (Or.inl ⟨6, by decide +kernel, by decide +kernel, rfl⟩)
theorem rX8_far_50 : vLi mX8_far 50 1 51 := Or.inl ⟨1, by decide +kernel, rfl, rfl⟩
theorem rX8_far_51 : vI mX8_far 51 .imul 1 52 := ⟨by decide +kernel, rfl⟩
theorem rX8_far_52 : vLi mX8_far 52 2 53 := Or.inl ⟨2, by decide +kernel, rfl, rfl⟩
theorem rX8_far_53 : vI mX8_far 53 .iadd 1 54 := ⟨by decide +kernel, rfl⟩
theorem rX8_far_54 : vI mX8_far 54 .iaload 1 55 := ⟨by decide +kernel, rfl⟩
theorem rX8_far_55 : vI mX8_far 55 .ireturn 1 56 := ⟨by decide +kernel, rfl⟩
theorem rX8_oath_0 : vLa mX8_oath 0 0 1 := ⟨0, by decide +kernel, rfl, rfl⟩
theorem rX8_oath_1 : vCn mX8_oath 1 (nI 0) 2 := Or.inl ⟨0, by decide +kernel, by decide +kernel, rfl⟩
theorem rX8_oath_2 : vPf mX8_oath 2 8 0 5 := ⟨68, (RX8, TX8, 29), by decide +kernel, rfl, rfl, by decide, tF663, Or.inl rfl⟩
theorem rX8_oath_5 : vLi mX8_oath 5 1 6 := Or.inl ⟨1, by decide +kernel, rfl, rfl⟩
theorem rX8_oath_6 : vCn mX8_oath 6 (nI 0) 7 := Or.inl ⟨0, by decide +kernel, by decide +kernel, rfl⟩
theorem rX8_oath_7 : vLa mX8_oath 7 0 8 := ⟨0, by decide +kernel, rfl, rfl⟩
theorem rX8_oath_8 : vGf mX8_oath 8 8 9 11 := ⟨13, (RX8, TX8, 29), by decide +kernel, rfl, rfl, by decide, tF672⟩
theorem rX8_oath_11 : vCn mX8_oath 11 (nI 1) 12 := Or.inl ⟨1, by decide +kernel, by decide +kernel, rfl⟩
theorem rX8_oath_12 : vI mX8_oath 12 .iaload 1 13 := ⟨by decide +kernel, rfl⟩
theorem rX8_oath_13 : vCn mX8_oath 13 (nI 1) 14 := Or.inl ⟨1, by decide +kernel, by decide +kernel, rfl⟩
theorem rX8_oath_14 : vI mX8_oath 14 .isub 1 15 := ⟨by decide +kernel, rfl⟩
theorem rX8_oath_15 : vKs mX8_oath 15 mX8_in 3 18 := ⟨72, by decide +kernel, rfl, kX8_in, tF756, Or.inl tF755⟩
theorem rX8_oath_18 : vIf mX8_oath 18 .eq 30 21 := ⟨12, by decide +kernel, by decide, rfl⟩
theorem rX8_oath_21 : vLi mX8_oath 21 2 22 := Or.inl ⟨2, by decide +kernel, rfl, rfl⟩
theorem rX8_oath_22 : vCn mX8_oath 22 (nI 0) 23 := Or.inl ⟨0, by decide +kernel, by decide +kernel, rfl⟩
theorem rX8_oath_23 : vCn mX8_oath 23 (nI 3) 24 := Or.inl ⟨3, by decide +kernel, by decide +kernel, rfl⟩
theorem rX8_oath_24 : vKs mX8_oath 24 mX8_in 3 27 := ⟨72, by decide +kernel, rfl, kX8_in, tF756, Or.inl tF755⟩
theorem rX8_oath_27 : vIf mX8_oath 27 .ne 32 30 := ⟨5, by decide +kernel, by decide, rfl⟩
theorem rX8_oath_30 : vCn mX8_oath 30 (-1) 31 := Or.inl ⟨-1, by decide +kernel, by decide +kernel, rfl⟩
theorem rX8_oath_31 : vI mX8_oath 31 .ireturn 1 32 := ⟨by decide +kernel, rfl⟩
theorem rX8_oath_32 : vLi mX8_oath 32 2 33 := Or.inl ⟨2, by decide +kernel, rfl, rfl⟩
theorem rX8_oath_33 : vIf mX8_oath 33 .ne 45 36 := ⟨12, by decide +kernel, by decide, rfl⟩
theorem rX8_oath_36 : vLa mX8_oath 36 0 37 := ⟨0, by decide +kernel, rfl, rfl⟩
theorem rX8_oath_37 : vGf mX8_oath 37 8 14 40 := ⟨28, (RX8, TX8, 29), by decide +kernel, rfl, rfl, by decide, tF677⟩
theorem rX8_oath_40 : vLi mX8_oath 40 1 41 := Or.inl ⟨1, by decide +kernel, rfl, rfl⟩
theorem rX8_oath_41 : vI mX8_oath 41 .iaload 1 42 := ⟨by decide +kernel, rfl⟩
theorem rX8_oath_42 : vGo mX8_oath 42 82 := ⟨40, by decide +kernel, by decide⟩
theorem rX8_oath_45 : vLi mX8_oath 45 2 46 := Or.inl ⟨2, by decide +kernel, rfl, rfl⟩
theorem rX8_oath_46 : vCn mX8_oath 46 (nI 1) 47 := Or.inl ⟨1, by decide +kernel, by decide +kernel, rfl⟩
theorem rX8_oath_47 : vIc mX8_oath 47 .ne 59 50 := ⟨12, by decide +kernel, by decide, rfl⟩
theorem rX8_oath_50 : vLa mX8_oath 50 0 51 := ⟨0, by decide +kernel, rfl, rfl⟩
theorem rX8_oath_51 : vGf mX8_oath 51 8 15 54 := ⟨31, (RX8, TX8, 29), by decide +kernel, rfl, rfl, by decide, tF678⟩
theorem rX8_oath_54 : vLi mX8_oath 54 1 55 := Or.inl ⟨1, by decide +kernel, rfl, rfl⟩
theorem rX8_oath_55 : vI mX8_oath 55 .iaload 1 56 := ⟨by decide +kernel, rfl⟩
theorem rX8_oath_56 : vGo mX8_oath 56 82 := ⟨26, by decide +kernel, by decide⟩
theorem rX8_oath_59 : vLi mX8_oath 59 2 60 := Or.inl ⟨2, by decide +kernel, rfl, rfl⟩
theorem rX8_oath_60 : vCn mX8_oath 60 (nI 2) 61 := Or.inl ⟨2, by decide +kernel, by decide +kernel, rfl⟩
theorem rX8_oath_61 : vIc mX8_oath 61 .ne 73 64 := ⟨12, by decide +kernel, by decide, rfl⟩
theorem rX8_oath_64 : vLa mX8_oath 64 0 65 := ⟨0, by decide +kernel, rfl, rfl⟩
theorem rX8_oath_65 : vGf mX8_oath 65 8 16 68 := ⟨34, (RX8, TX8, 29), by decide +kernel, rfl, rfl, by decide, tF679⟩
theorem rX8_oath_68 : vLi mX8_oath 68 1 69 := Or.inl ⟨1, by decide +kernel, rfl, rfl⟩
theorem rX8_oath_69 : vI mX8_oath 69 .iaload 1 70 := ⟨by decide +kernel, rfl⟩
theorem rX8_oath_70 : vGo mX8_oath 70 82 := ⟨12, by decide +kernel, by decide⟩
theorem rX8_oath_73 : vLa mX8_oath 73 0 74 := ⟨0, by decide +kernel, rfl, rfl⟩
theorem rX8_oath_74 : vGf mX8_oath 74 8 18 77 := ⟨40, (RX8, TX8, 29), by decide +kernel, rfl, rfl, by decide, tF681⟩
theorem rX8_oath_77 : vCn mX8_oath 77 (nI 14) 79 := Or.inr (Or.inl ⟨14, by decide +kernel, by decide +kernel, rfl⟩)
theorem rX8_oath_79 : vLi mX8_oath 79 1 80 := Or.inl ⟨1, by decide +kernel, rfl, rfl⟩
theorem rX8_oath_80 : vI mX8_oath 80 .iadd 1 81 := ⟨by decide +kernel, rfl⟩
theorem rX8_oath_81 : vI mX8_oath 81 .iaload 1 82 := ⟨by decide +kernel, rfl⟩
theorem rX8_oath_82 : vI mX8_oath 82 .ireturn 1 83 := ⟨by decide +kernel, rfl⟩
theorem rX8_now_0 : vLa mX8_now 0 0 1 := ⟨0, by decide +kernel, rfl, rfl⟩
theorem rX8_now_1 : vCn mX8_now 1 (nI 0) 2 := Or.inl ⟨0, by decide +kernel, by decide +kernel, rfl⟩
theorem rX8_now_2 : vPf mX8_now 2 8 0 5 := ⟨68, (RX8, TX8, 29), by decide +kernel, rfl, rfl, by decide, tF663, Or.inl rfl⟩
theorem rX8_now_5 : vLi mX8_now 5 1 6 := Or.inl ⟨1, by decide +kernel, rfl, rfl⟩
theorem rX8_now_6 : vCn mX8_now 6 (nI 0) 7 := Or.inl ⟨0, by decide +kernel, by decide +kernel, rfl⟩
theorem rX8_now_7 : vCn mX8_now 7 (nI 4) 8 := Or.inl ⟨4, by decide +kernel, by decide +kernel, rfl⟩
theorem rX8_now_8 : vKs mX8_now 8 mX8_in 3 11 := ⟨72, by decide +kernel, rfl, kX8_in, tF756, Or.inl tF755⟩
theorem rX8_now_11 : vIf mX8_now 11 .ne 16 14 := ⟨5, by decide +kernel, by decide, rfl⟩
theorem rX8_now_14 : vCn mX8_now 14 (-1) 15 := Or.inl ⟨-1, by decide +kernel, by decide +kernel, rfl⟩
theorem rX8_now_15 : vI mX8_now 15 .ireturn 1 16 := ⟨by decide +kernel, rfl⟩
theorem rX8_now_16 : vCn mX8_now 16 (nI 0) 17 := Or.inl ⟨0, by decide +kernel, by decide +kernel, rfl⟩
theorem rX8_now_17 : vSi mX8_now 17 2 18 := ⟨Or.inl ⟨2, by decide +kernel, rfl, rfl⟩, by decide⟩
theorem rX8_now_18 : vCn mX8_now 18 (nI 0) 19 := Or.inl ⟨0, by decide +kernel, by decide +kernel, rfl⟩
theorem rX8_now_19 : vSi mX8_now 19 3 20 := ⟨Or.inl ⟨3, by decide +kernel, rfl, rfl⟩, by decide⟩
theorem rX8_now_20 : vCn mX8_now 20 (nI 0) 21 := Or.inl ⟨0, by decide +kernel, by decide +kernel, rfl⟩
theorem rX8_now_21 : vSi mX8_now 21 4 23 := ⟨Or.inr ⟨by decide +kernel, rfl⟩, by decide⟩
theorem rX8_now_23 : vLi mX8_now 23 4 25 := Or.inr ⟨by decide +kernel, rfl⟩
theorem rX8_now_25 : vLa mX8_now 25 0 26 := ⟨0, by decide +kernel, rfl, rfl⟩
theorem rX8_now_26 : vGf mX8_now 26 8 9 29 := ⟨13, (RX8, TX8, 29), by decide +kernel, rfl, rfl, by decide, tF672⟩
theorem rX8_now_29 : vCn mX8_now 29 (nI 0) 30 := Or.inl ⟨0, by decide +kernel, by decide +kernel, rfl⟩
theorem rX8_now_30 : vI mX8_now 30 .iaload 1 31 := ⟨by decide +kernel, rfl⟩
theorem rX8_now_31 : vIc mX8_now 31 .ge 85 34 := ⟨54, by decide +kernel, by decide, rfl⟩
theorem rX8_now_34 : vLi mX8_now 34 2 35 := Or.inl ⟨2, by decide +kernel, rfl, rfl⟩
theorem rX8_now_35 : vLa mX8_now 35 0 36 := ⟨0, by decide +kernel, rfl, rfl⟩
theorem rX8_now_36 : vGf mX8_now 36 8 18 39 := ⟨40, (RX8, TX8, 29), by decide +kernel, rfl, rfl, by decide, tF681⟩
theorem rX8_now_39 : vCn mX8_now 39 (nI 2) 40 := Or.inl ⟨2, by decide +kernel, by decide +kernel, rfl⟩
theorem rX8_now_40 : vLi mX8_now 40 4 42 := Or.inr ⟨by decide +kernel, rfl⟩
theorem rX8_now_42 : vI mX8_now 42 .iadd 1 43 := ⟨by decide +kernel, rfl⟩
theorem rX8_now_43 : vI mX8_now 43 .iaload 1 44 := ⟨by decide +kernel, rfl⟩
theorem rX8_now_44 : vLi mX8_now 44 4 46 := Or.inr ⟨by decide +kernel, rfl⟩
theorem rX8_now_46 : vIc mX8_now 46 .ne 56 49 := ⟨10, by decide +kernel, by decide, rfl⟩
theorem rX8_now_49 : vCn mX8_now 49 (nI 1) 50 := Or.inl ⟨1, by decide +kernel, by decide +kernel, rfl⟩
theorem rX8_now_50 : vLi mX8_now 50 4 52 := Or.inr ⟨by decide +kernel, rfl⟩
theorem rX8_now_52 : vI mX8_now 52 .ishl 1 53 := ⟨by decide +kernel, rfl⟩
theorem rX8_now_53 : vGo mX8_now 53 57 := ⟨4, by decide +kernel, by decide⟩
theorem rX8_now_56 : vCn mX8_now 56 (nI 0) 57 := Or.inl ⟨0, by decide +kernel, by decide +kernel, rfl⟩
theorem rX8_now_57 : vI mX8_now 57 .ior 1 58 := ⟨by decide +kernel, rfl⟩
theorem rX8_now_58 : vSi mX8_now 58 2 59 := ⟨Or.inl ⟨2, by decide +kernel, rfl, rfl⟩, by decide⟩
theorem rX8_now_59 : vLi mX8_now 59 3 60 := Or.inl ⟨3, by decide +kernel, rfl, rfl⟩
theorem rX8_now_60 : vLa mX8_now 60 0 61 := ⟨0, by decide +kernel, rfl, rfl⟩
theorem rX8_now_61 : vLi mX8_now 61 4 63 := Or.inr ⟨by decide +kernel, rfl⟩
theorem rX8_now_63 : vKv mX8_now 63 mX8_isDumb 1 8 66 := ⟨135, (RX8, TX8, 29), by decide +kernel, rfl, kX8_isDumb, tF808, tF806, tS34, rfl, rfl⟩
theorem rX8_now_66 : vIf mX8_now 66 .eq 76 69 := ⟨10, by decide +kernel, by decide, rfl⟩
theorem rX8_now_69 : vCn mX8_now 69 (nI 1) 70 := Or.inl ⟨1, by decide +kernel, by decide +kernel, rfl⟩
theorem rX8_now_70 : vLi mX8_now 70 4 72 := Or.inr ⟨by decide +kernel, rfl⟩
theorem rX8_now_72 : vI mX8_now 72 .ishl 1 73 := ⟨by decide +kernel, rfl⟩
theorem rX8_now_73 : vGo mX8_now 73 77 := ⟨4, by decide +kernel, by decide⟩
theorem rX8_now_76 : vCn mX8_now 76 (nI 0) 77 := Or.inl ⟨0, by decide +kernel, by decide +kernel, rfl⟩
theorem rX8_now_77 : vI mX8_now 77 .ior 1 78 := ⟨by decide +kernel, rfl⟩
theorem rX8_now_78 : vSi mX8_now 78 3 79 := ⟨Or.inl ⟨3, by decide +kernel, rfl, rfl⟩, by decide⟩
theorem rX8_now_79 : vIn mX8_now 79 4 (nI 1) 82 := ⟨1, by decide +kernel, by decide +kernel, by decide, rfl⟩
theorem rX8_now_82 : vGo mX8_now 82 23 := ⟨-59, by decide +kernel, by decide⟩
theorem rX8_now_85 : vLi mX8_now 85 1 86 := Or.inl ⟨1, by decide +kernel, rfl, rfl⟩
theorem rX8_now_86 : vCn mX8_now 86 (nI 2) 87 := Or.inl ⟨2, by decide +kernel, by decide +kernel, rfl⟩
theorem rX8_now_87 : vIc mX8_now 87 .ge 99 90 := ⟨12, by decide +kernel, by decide, rfl⟩
theorem rX8_now_90 : vLa mX8_now 90 0 91 := ⟨0, by decide +kernel, rfl, rfl⟩
theorem rX8_now_91 : vGf mX8_now 91 8 18 94 := ⟨40, (RX8, TX8, 29), by decide +kernel, rfl, rfl, by decide, tF681⟩
theorem rX8_now_94 : vLi mX8_now 94 1 95 := Or.inl ⟨1, by decide +kernel, rfl, rfl⟩
theorem rX8_now_95 : vI mX8_now 95 .iaload 1 96 := ⟨by decide +kernel, rfl⟩
theorem rX8_now_96 : vGo mX8_now 96 121 := ⟨25, by decide +kernel, by decide⟩
theorem rX8_now_99 : vLi mX8_now 99 1 100 := Or.inl ⟨1, by decide +kernel, rfl, rfl⟩
theorem rX8_now_100 : vCn mX8_now 100 (nI 2) 101 := Or.inl ⟨2, by decide +kernel, by decide +kernel, rfl⟩
theorem rX8_now_101 : vIc mX8_now 101 .ne 108 104 := ⟨7, by decide +kernel, by decide, rfl⟩
theorem rX8_now_104 : vLi mX8_now 104 2 105 := Or.inl ⟨2, by decide +kernel, rfl, rfl⟩
theorem rX8_now_105 : vGo mX8_now 105 121 := ⟨16, by decide +kernel, by decide⟩
theorem rX8_now_108 : vLi mX8_now 108 1 109 := Or.inl ⟨1, by decide +kernel, rfl, rfl⟩
theorem rX8_now_109 : vCn mX8_now 109 (nI 3) 110 := Or.inl ⟨3, by decide +kernel, by decide +kernel, rfl⟩
theorem rX8_now_110 : vIc mX8_now 110 .ne 117 113 := ⟨7, by decide +kernel, by decide, rfl⟩
theorem rX8_now_113 : vLi mX8_now 113 3 114 := Or.inl ⟨3, by decide +kernel, rfl, rfl⟩
theorem rX8_now_114 : vGo mX8_now 114 121 := ⟨7, by decide +kernel, by decide⟩
theorem rX8_now_117 : vLa mX8_now 117 0 118 := ⟨0, by decide +kernel, rfl, rfl⟩
theorem rX8_now_118 : vGf mX8_now 118 8 23 121 := ⟨124, (RX8, TX8, 29), by decide +kernel, rfl, rfl, by decide, tF686⟩
theorem rX8_now_121 : vI mX8_now 121 .ireturn 1 122 := ⟨by decide +kernel, rfl⟩
theorem rX8_notes_0 : vLa mX8_notes 0 0 1 := ⟨0, by decide +kernel, rfl, rfl⟩
theorem rX8_notes_1 : vGf mX8_notes 1 8 23 4 := ⟨124, (RX8, TX8, 29), by decide +kernel, rfl, rfl, by decide, tF686⟩
theorem rX8_notes_4 : vCn mX8_notes 4 (nI 10) 6 := Or.inr (Or.inl ⟨10, by decide +kernel, by decide +kernel, rfl⟩)
theorem rX8_notes_6 : vIc mX8_notes 6 .ne 45 9 := ⟨39, by decide +kernel, by decide, rfl⟩
theorem rX8_notes_9 : vCn mX8_notes 9 (nI 0) 10 := Or.inl ⟨0, by decide +kernel, by decide +kernel, rfl⟩
theorem rX8_notes_10 : vSi mX8_notes 10 1 11 := ⟨Or.inl ⟨1, by decide +kernel, rfl, rfl⟩, by decide⟩
theorem rX8_notes_11 : vLi mX8_notes 11 1 12 := Or.inl ⟨1, by decide +kernel, rfl, rfl⟩
theorem rX8_notes_12 : vCn mX8_notes 12 (nI 504) 15 := Or.inr (Or.inr (Or.inl ⟨504, by decide +kernel, by decide +kernel, rfl⟩))
theorem rX8_notes_15 : vIc mX8_notes 15 .ge 39 18 := ⟨24, by decide +kernel, by decide, rfl⟩
theorem rX8_notes_18 : vLa mX8_notes 18 0 19 := ⟨0, by decide +kernel, rfl, rfl⟩
theorem rX8_notes_19 : vGf mX8_notes 19 8 22 22 := ⟨53, (RX8, TX8, 29), by decide +kernel, rfl, rfl, by decide, tF685⟩
theorem rX8_notes_22 : vLi mX8_notes 22 1 23 := Or.inl ⟨1, by decide +kernel, rfl, rfl⟩
theorem rX8_notes_23 : vLa mX8_notes 23 0 24 := ⟨0, by decide +kernel, rfl, rfl⟩
theorem rX8_notes_24 : vGf mX8_notes 24 8 22 27 := ⟨53, (RX8, TX8, 29), by decide +kernel, rfl, rfl, by decide, tF685⟩
theorem rX8_notes_27 : vLi mX8_notes 27 1 28 := Or.inl ⟨1, by decide +kernel, rfl, rfl⟩
theorem rX8_notes_28 : vCn mX8_notes 28 (nI 56) 30 := Or.inr (Or.inl ⟨56, by decide +kernel, by decide +kernel, rfl⟩)
theorem rX8_notes_30 : vI mX8_notes 30 .iadd 1 31 := ⟨by decide +kernel, rfl⟩
theorem rX8_notes_31 : vI mX8_notes 31 .iaload 1 32 := ⟨by decide +kernel, rfl⟩
theorem rX8_notes_32 : vI mX8_notes 32 .iastore 1 33 := ⟨by decide +kernel, rfl⟩
theorem rX8_notes_33 : vIn mX8_notes 33 1 (nI 1) 36 := ⟨1, by decide +kernel, by decide +kernel, by decide, rfl⟩
theorem rX8_notes_36 : vGo mX8_notes 36 11 := ⟨-25, by decide +kernel, by decide⟩
theorem rX8_notes_39 : vLa mX8_notes 39 0 40 := ⟨0, by decide +kernel, rfl, rfl⟩
theorem rX8_notes_40 : vCn mX8_notes 40 (nI 9) 42 := Or.inr (Or.inl ⟨9, by decide +kernel, by decide +kernel, rfl⟩)
theorem rX8_notes_42 : vPf mX8_notes 42 8 23 45 := ⟨124, (RX8, TX8, 29), by decide +kernel, rfl, rfl, by decide, tF686, Or.inl rfl⟩
theorem rX8_notes_45 : vCn mX8_notes 45 (nI 0) 46 := Or.inl ⟨0, by decide +kernel, by decide +kernel, rfl⟩
theorem rX8_notes_46 : vSi mX8_notes 46 1 47 := ⟨Or.inl ⟨1, by decide +kernel, rfl, rfl⟩, by decide⟩
theorem rX8_notes_47 : vLi mX8_notes 47 1 48 := Or.inl ⟨1, by decide +kernel, rfl, rfl⟩
theorem rX8_notes_48 : vCn mX8_notes 48 (nI 56) 50 := Or.inr (Or.inl ⟨56, by decide +kernel, by decide +kernel, rfl⟩)
theorem rX8_notes_50 : vIc mX8_notes 50 .ge 79 53 := ⟨29, by decide +kernel, by decide, rfl⟩
theorem rX8_notes_53 : vLa mX8_notes 53 0 54 := ⟨0, by decide +kernel, rfl, rfl⟩
theorem rX8_notes_54 : vGf mX8_notes 54 8 22 57 := ⟨53, (RX8, TX8, 29), by decide +kernel, rfl, rfl, by decide, tF685⟩
theorem rX8_notes_57 : vCn mX8_notes 57 (nI 56) 59 := Or.inr (Or.inl ⟨56, by decide +kernel, by decide +kernel, rfl⟩)
theorem rX8_notes_59 : vLa mX8_notes 59 0 60 := ⟨0, by decide +kernel, rfl, rfl⟩
theorem rX8_notes_60 : vGf mX8_notes 60 8 23 63 := ⟨124, (RX8, TX8, 29), by decide +kernel, rfl, rfl, by decide, tF686⟩
theorem rX8_notes_63 : vI mX8_notes 63 .imul 1 64 := ⟨by decide +kernel, rfl⟩
theorem rX8_notes_64 : vLi mX8_notes 64 1 65 := Or.inl ⟨1, by decide +kernel, rfl, rfl⟩
theorem rX8_notes_65 : vI mX8_notes 65 .iadd 1 66 := ⟨by decide +kernel, rfl⟩
theorem rX8_notes_66 : vLa mX8_notes 66 0 67 := ⟨0, by decide +kernel, rfl, rfl⟩
theorem rX8_notes_67 : vGf mX8_notes 67 8 18 70 := ⟨40, (RX8, TX8, 29), by decide +kernel, rfl, rfl, by decide, tF681⟩
theorem rX8_notes_70 : vLi mX8_notes 70 1 71 := Or.inl ⟨1, by decide +kernel, rfl, rfl⟩
theorem rX8_notes_71 : vI mX8_notes 71 .iaload 1 72 := ⟨by decide +kernel, rfl⟩
theorem rX8_notes_72 : vI mX8_notes 72 .iastore 1 73 := ⟨by decide +kernel, rfl⟩
theorem rX8_notes_73 : vIn mX8_notes 73 1 (nI 1) 76 := ⟨1, by decide +kernel, by decide +kernel, by decide, rfl⟩
theorem rX8_notes_76 : vGo mX8_notes 76 47 := ⟨-29, by decide +kernel, by decide⟩
theorem rX8_notes_79 : vLa mX8_notes 79 0 80 := ⟨0, by decide +kernel, rfl, rfl⟩
theorem rX8_notes_80 : vI mX8_notes 80 .dup 1 81 := ⟨by decide +kernel, rfl⟩
theorem rX8_notes_81 : vGf mX8_notes 81 8 23 84 := ⟨124, (RX8, TX8, 29), by decide +kernel, rfl, rfl, by decide, tF686⟩
theorem rX8_notes_84 : vCn mX8_notes 84 (nI 1) 85 := Or.inl ⟨1, by decide +kernel, by decide +kernel, rfl⟩
theorem rX8_notes_85 : vI mX8_notes 85 .iadd 1 86 := ⟨by decide +kernel, rfl⟩
theorem rX8_notes_86 : vPf mX8_notes 86 8 23 89 := ⟨124, (RX8, TX8, 29), by decide +kernel, rfl, rfl, by decide, tF686, Or.inl rfl⟩
theorem rX8_notes_89 : vI mX8_notes 89 .return_ 1 90 := ⟨by decide +kernel, rfl⟩
theorem rX8_draws_0 : vCn mX8_draws 0 (nI 0) 1 := Or.inl ⟨0, by decide +kernel, by decide +kernel, rfl⟩
theorem rX8_draws_1 : vSi mX8_draws 1 2 2 := ⟨Or.inl ⟨2, by decide +kernel, rfl, rfl⟩, by decide⟩
theorem rX8_draws_2 : vCn mX8_draws 2 (nI 0) 3 := Or.inl ⟨0, by decide +kernel, by decide +kernel, rfl⟩
theorem rX8_draws_3 : vSi mX8_draws 3 3 4 := ⟨Or.inl ⟨3, by decide +kernel, rfl, rfl⟩, by decide⟩
theorem rX8_draws_4 : vLi mX8_draws 4 3 5 := Or.inl ⟨3, by decide +kernel, rfl, rfl⟩
theorem rX8_draws_5 : vLa mX8_draws 5 0 6 := ⟨0, by decide +kernel, rfl, rfl⟩
theorem rX8_draws_6 : vGf mX8_draws 6 8 9 9 := ⟨13, (RX8, TX8, 29), by decide +kernel, rfl, rfl, by decide, tF672⟩
theorem rX8_draws_9 : vCn mX8_draws 9 (nI 0) 10 := Or.inl ⟨0, by decide +kernel, by decide +kernel, rfl⟩
theorem rX8_draws_10 : vI mX8_draws 10 .iaload 1 11 := ⟨by decide +kernel, rfl⟩
theorem rX8_draws_11 : vIc mX8_draws 11 .ge 122 14 := ⟨111, by decide +kernel, by decide, rfl⟩
theorem rX8_draws_14 : vCl mX8_draws 14 (lN 7919) 17 := Or.inr ⟨141, by decide +kernel, tF846, rfl⟩
theorem rX8_draws_17 : vLi mX8_draws 17 1 18 := Or.inl ⟨1, by decide +kernel, rfl, rfl⟩
theorem rX8_draws_18 : vI mX8_draws 18 .i2l 1 19 := ⟨by decide +kernel, rfl⟩
theorem rX8_draws_19 : vI mX8_draws 19 .lmul 1 20 := ⟨by decide +kernel, rfl⟩
theorem rX8_draws_20 : vCl mX8_draws 20 (lN 6151) 23 := Or.inr ⟨143, by decide +kernel, tF847, rfl⟩
theorem rX8_draws_23 : vLi mX8_draws 23 3 24 := Or.inl ⟨3, by decide +kernel, rfl, rfl⟩
theorem rX8_draws_24 : vI mX8_draws 24 .i2l 1 25 := ⟨by decide +kernel, rfl⟩
theorem rX8_draws_25 : vI mX8_draws 25 .lmul 1 26 := ⟨by decide +kernel, rfl⟩
theorem rX8_draws_26 : vI mX8_draws 26 .ladd 1 27 := ⟨by decide +kernel, rfl⟩
theorem rX8_draws_27 : vCl mX8_draws 27 (lN 1) 28 := Or.inl ⟨1, by decide +kernel, by decide +kernel, rfl⟩
theorem rX8_draws_28 : vI mX8_draws 28 .ladd 1 29 := ⟨by decide +kernel, rfl⟩
theorem rX8_draws_29 : vSl mX8_draws 29 4 31 := ⟨Or.inr ⟨by decide +kernel, rfl⟩, by decide⟩
theorem rX8_draws_31 : vLl mX8_draws 31 4 33 := Or.inr ⟨by decide +kernel, rfl⟩
theorem rX8_draws_33 : vLl mX8_draws 33 4 35 := Or.inr ⟨by decide +kernel, rfl⟩
theorem rX8_draws_35 : vI mX8_draws 35 .lmul 1 36 := ⟨by decide +kernel, rfl⟩
theorem rX8_draws_36 : vCl mX8_draws 36 (lN 65521) 39 := Or.inr ⟨145, by decide +kernel, tF848, rfl⟩
theorem rX8_draws_39 : vI mX8_draws 39 .lrem 1 40 := ⟨by decide +kernel, rfl⟩
theorem rX8_draws_40 : vCl mX8_draws 40 (lN 16) 43 := Or.inr ⟨147, by decide +kernel, tF849, rfl⟩
theorem rX8_draws_43 : vI mX8_draws 43 .ldiv 1 44 := ⟨by decide +kernel, rfl⟩
theorem rX8_draws_44 : vLa mX8_draws 44 0 45 := ⟨0, by decide +kernel, rfl, rfl⟩
theorem rX8_draws_45 : vGf mX8_draws 45 8 9 48 := ⟨13, (RX8, TX8, 29), by decide +kernel, rfl, rfl, by decide, tF672⟩
theorem rX8_draws_48 : vCn mX8_draws 48 (nI 0) 49 := Or.inl ⟨0, by decide +kernel, by decide +kernel, rfl⟩
theorem rX8_draws_49 : vI mX8_draws 49 .iaload 1 50 := ⟨by decide +kernel, rfl⟩
theorem rX8_draws_50 : vLi mX8_draws 50 3 51 := Or.inl ⟨3, by decide +kernel, rfl, rfl⟩
theorem rX8_draws_51 : vI mX8_draws 51 .isub 1 52 := ⟨by decide +kernel, rfl⟩
theorem rX8_draws_52 : vI mX8_draws 52 .i2l 1 53 := ⟨by decide +kernel, rfl⟩
theorem rX8_draws_53 : vI mX8_draws 53 .lrem 1 54 := ⟨by decide +kernel, rfl⟩
theorem rX8_draws_54 : vI mX8_draws 54 .l2i 1 55 := ⟨by decide +kernel, rfl⟩
theorem rX8_draws_55 : vSi mX8_draws 55 6 57 := ⟨Or.inr ⟨by decide +kernel, rfl⟩, by decide⟩
theorem rX8_draws_57 : vCn mX8_draws 57 (nI 0) 58 := Or.inl ⟨0, by decide +kernel, by decide +kernel, rfl⟩
theorem rX8_draws_58 : vSi mX8_draws 58 7 60 := ⟨Or.inr ⟨by decide +kernel, rfl⟩, by decide⟩
theorem rX8_draws_60 : vLi mX8_draws 60 2 61 := Or.inl ⟨2, by decide +kernel, rfl, rfl⟩
theorem rX8_draws_61 : vLi mX8_draws 61 7 63 := Or.inr ⟨by decide +kernel, rfl⟩
theorem rX8_draws_63 : vI mX8_draws 63 .ishr 1 64 := ⟨by decide +kernel, rfl⟩
theorem rX8_draws_64 : vCn mX8_draws 64 (nI 1) 65 := Or.inl ⟨1, by decide +kernel, by decide +kernel, rfl⟩
theorem rX8_draws_65 : vI mX8_draws 65 .iand 1 66 := ⟨by decide +kernel, rfl⟩
theorem rX8_draws_66 : vCn mX8_draws 66 (nI 1) 67 := Or.inl ⟨1, by decide +kernel, by decide +kernel, rfl⟩
theorem rX8_draws_67 : vIc mX8_draws 67 .eq 75 70 := ⟨8, by decide +kernel, by decide, rfl⟩
theorem rX8_draws_70 : vLi mX8_draws 70 6 72 := Or.inr ⟨by decide +kernel, rfl⟩
theorem rX8_draws_72 : vIf mX8_draws 72 .le 101 75 := ⟨29, by decide +kernel, by decide, rfl⟩
theorem rX8_draws_75 : vLi mX8_draws 75 6 77 := Or.inr ⟨by decide +kernel, rfl⟩
theorem rX8_draws_77 : vLi mX8_draws 77 2 78 := Or.inl ⟨2, by decide +kernel, rfl, rfl⟩
theorem rX8_draws_78 : vLi mX8_draws 78 7 80 := Or.inr ⟨by decide +kernel, rfl⟩
theorem rX8_draws_80 : vI mX8_draws 80 .ishr 1 81 := ⟨by decide +kernel, rfl⟩
theorem rX8_draws_81 : vCn mX8_draws 81 (nI 1) 82 := Or.inl ⟨1, by decide +kernel, by decide +kernel, rfl⟩
theorem rX8_draws_82 : vI mX8_draws 82 .iand 1 83 := ⟨by decide +kernel, rfl⟩
theorem rX8_draws_83 : vCn mX8_draws 83 (nI 1) 84 := Or.inl ⟨1, by decide +kernel, by decide +kernel, rfl⟩
theorem rX8_draws_84 : vIc mX8_draws 84 .ne 91 87 := ⟨7, by decide +kernel, by decide, rfl⟩
theorem rX8_draws_87 : vCn mX8_draws 87 (nI 0) 88 := Or.inl ⟨0, by decide +kernel, by decide +kernel, rfl⟩
theorem rX8_draws_88 : vGo mX8_draws 88 92 := ⟨4, by decide +kernel, by decide⟩
theorem rX8_draws_91 : vCn mX8_draws 91 (nI 1) 92 := Or.inl ⟨1, by decide +kernel, by decide +kernel, rfl⟩
theorem rX8_draws_92 : vI mX8_draws 92 .isub 1 93 := ⟨by decide +kernel, rfl⟩
theorem rX8_draws_93 : vSi mX8_draws 93 6 95 := ⟨Or.inr ⟨by decide +kernel, rfl⟩, by decide⟩
theorem rX8_draws_95 : vIn mX8_draws 95 7 (nI 1) 98 := ⟨1, by decide +kernel, by decide +kernel, by decide, rfl⟩
theorem rX8_draws_98 : vGo mX8_draws 98 60 := ⟨-38, by decide +kernel, by decide⟩
theorem rX8_draws_101 : vLa mX8_draws 101 0 102 := ⟨0, by decide +kernel, rfl, rfl⟩
theorem rX8_draws_102 : vGf mX8_draws 102 8 27 105 := ⟨62, (RX8, TX8, 29), by decide +kernel, rfl, rfl, by decide, tF690⟩
theorem rX8_draws_105 : vLi mX8_draws 105 3 106 := Or.inl ⟨3, by decide +kernel, rfl, rfl⟩
theorem rX8_draws_106 : vLi mX8_draws 106 7 108 := Or.inr ⟨by decide +kernel, rfl⟩
theorem rX8_draws_108 : vI mX8_draws 108 .iastore 1 109 := ⟨by decide +kernel, rfl⟩
theorem rX8_draws_109 : vLi mX8_draws 109 2 110 := Or.inl ⟨2, by decide +kernel, rfl, rfl⟩
theorem rX8_draws_110 : vCn mX8_draws 110 (nI 1) 111 := Or.inl ⟨1, by decide +kernel, by decide +kernel, rfl⟩
theorem rX8_draws_111 : vLi mX8_draws 111 7 113 := Or.inr ⟨by decide +kernel, rfl⟩
theorem rX8_draws_113 : vI mX8_draws 113 .ishl 1 114 := ⟨by decide +kernel, rfl⟩
theorem rX8_draws_114 : vI mX8_draws 114 .ior 1 115 := ⟨by decide +kernel, rfl⟩
theorem rX8_draws_115 : vSi mX8_draws 115 2 116 := ⟨Or.inl ⟨2, by decide +kernel, rfl, rfl⟩, by decide⟩
theorem rX8_draws_116 : vIn mX8_draws 116 3 (nI 1) 119 := ⟨1, by decide +kernel, by decide +kernel, by decide, rfl⟩
theorem rX8_draws_119 : vGo mX8_draws 119 4 := ⟨-115, by decide +kernel, by decide⟩
theorem rX8_draws_122 : vI mX8_draws 122 .return_ 1 123 := ⟨by decide +kernel, rfl⟩
theorem rX8_cuts_0 : vCn mX8_cuts 0 (nI 0) 1 := Or.inl ⟨0, by decide +kernel, by decide +kernel, rfl⟩
theorem rX8_cuts_1 : vSi mX8_cuts 1 2 2 := ⟨Or.inl ⟨2, by decide +kernel, rfl, rfl⟩, by decide⟩
theorem rX8_cuts_2 : vCn mX8_cuts 2 (nI 0) 3 := Or.inl ⟨0, by decide +kernel, by decide +kernel, rfl⟩
theorem rX8_cuts_3 : vSi mX8_cuts 3 3 4 := ⟨Or.inl ⟨3, by decide +kernel, rfl, rfl⟩, by decide⟩
theorem rX8_cuts_4 : vLi mX8_cuts 4 3 5 := Or.inl ⟨3, by decide +kernel, rfl, rfl⟩
theorem rX8_cuts_5 : vLa mX8_cuts 5 0 6 := ⟨0, by decide +kernel, rfl, rfl⟩
theorem rX8_cuts_6 : vGf mX8_cuts 6 8 9 9 := ⟨13, (RX8, TX8, 29), by decide +kernel, rfl, rfl, by decide, tF672⟩
theorem rX8_cuts_9 : vCn mX8_cuts 9 (nI 0) 10 := Or.inl ⟨0, by decide +kernel, by decide +kernel, rfl⟩
theorem rX8_cuts_10 : vI mX8_cuts 10 .iaload 1 11 := ⟨by decide +kernel, rfl⟩
theorem rX8_cuts_11 : vIc mX8_cuts 11 .ge 58 14 := ⟨47, by decide +kernel, by decide, rfl⟩
theorem rX8_cuts_14 : vLa mX8_cuts 14 1 15 := ⟨1, by decide +kernel, rfl, rfl⟩
theorem rX8_cuts_15 : vCn mX8_cuts 15 (nI 8) 17 := Or.inr (Or.inl ⟨8, by decide +kernel, by decide +kernel, rfl⟩)
theorem rX8_cuts_17 : vLi mX8_cuts 17 3 18 := Or.inl ⟨3, by decide +kernel, rfl, rfl⟩
theorem rX8_cuts_18 : vI mX8_cuts 18 .iadd 1 19 := ⟨by decide +kernel, rfl⟩
theorem rX8_cuts_19 : vI mX8_cuts 19 .iaload 1 20 := ⟨by decide +kernel, rfl⟩
theorem rX8_cuts_20 : vLa mX8_cuts 20 0 21 := ⟨0, by decide +kernel, rfl, rfl⟩
theorem rX8_cuts_21 : vGf mX8_cuts 21 8 11 24 := ⟨19, (RX8, TX8, 29), by decide +kernel, rfl, rfl, by decide, tF674⟩
theorem rX8_cuts_24 : vLa mX8_cuts 24 1 25 := ⟨1, by decide +kernel, rfl, rfl⟩
theorem rX8_cuts_25 : vCn mX8_cuts 25 (nI 2) 26 := Or.inl ⟨2, by decide +kernel, by decide +kernel, rfl⟩
theorem rX8_cuts_26 : vLi mX8_cuts 26 3 27 := Or.inl ⟨3, by decide +kernel, rfl, rfl⟩
theorem rX8_cuts_27 : vI mX8_cuts 27 .iadd 1 28 := ⟨by decide +kernel, rfl⟩
theorem rX8_cuts_28 : vI mX8_cuts 28 .iaload 1 29 := ⟨by decide +kernel, rfl⟩
theorem rX8_cuts_29 : vI mX8_cuts 29 .iaload 1 30 := ⟨by decide +kernel, rfl⟩
theorem rX8_cuts_30 : vIc mX8_cuts 30 .ge 52 33 := ⟨22, by decide +kernel, by decide, rfl⟩
theorem rX8_cuts_33 : vLa mX8_cuts 33 1 34 := ⟨1, by decide +kernel, rfl, rfl⟩
theorem rX8_cuts_34 : vCn mX8_cuts 34 (nI 8) 36 := Or.inr (Or.inl ⟨8, by decide +kernel, by decide +kernel, rfl⟩)
theorem rX8_cuts_36 : vLi mX8_cuts 36 3 37 := Or.inl ⟨3, by decide +kernel, rfl, rfl⟩
theorem rX8_cuts_37 : vI mX8_cuts 37 .iadd 1 38 := ⟨by decide +kernel, rfl⟩
theorem rX8_cuts_38 : vLa mX8_cuts 38 0 39 := ⟨0, by decide +kernel, rfl, rfl⟩
theorem rX8_cuts_39 : vGf mX8_cuts 39 8 11 42 := ⟨19, (RX8, TX8, 29), by decide +kernel, rfl, rfl, by decide, tF674⟩
theorem rX8_cuts_42 : vLa mX8_cuts 42 1 43 := ⟨1, by decide +kernel, rfl, rfl⟩
theorem rX8_cuts_43 : vCn mX8_cuts 43 (nI 2) 44 := Or.inl ⟨2, by decide +kernel, by decide +kernel, rfl⟩
theorem rX8_cuts_44 : vLi mX8_cuts 44 3 45 := Or.inl ⟨3, by decide +kernel, rfl, rfl⟩
theorem rX8_cuts_45 : vI mX8_cuts 45 .iadd 1 46 := ⟨by decide +kernel, rfl⟩
theorem rX8_cuts_46 : vI mX8_cuts 46 .iaload 1 47 := ⟨by decide +kernel, rfl⟩
theorem rX8_cuts_47 : vI mX8_cuts 47 .iaload 1 48 := ⟨by decide +kernel, rfl⟩
theorem rX8_cuts_48 : vI mX8_cuts 48 .iastore 1 49 := ⟨by decide +kernel, rfl⟩
theorem rX8_cuts_49 : vIn mX8_cuts 49 2 (nI 1) 52 := ⟨1, by decide +kernel, by decide +kernel, by decide, rfl⟩
theorem rX8_cuts_52 : vIn mX8_cuts 52 3 (nI 1) 55 := ⟨1, by decide +kernel, by decide +kernel, by decide, rfl⟩
theorem rX8_cuts_55 : vGo mX8_cuts 55 4 := ⟨-51, by decide +kernel, by decide⟩
theorem rX8_cuts_58 : vLa mX8_cuts 58 1 59 := ⟨1, by decide +kernel, rfl, rfl⟩
theorem rX8_cuts_59 : vCn mX8_cuts 59 (nI 1) 60 := Or.inl ⟨1, by decide +kernel, by decide +kernel, rfl⟩
theorem rX8_cuts_60 : vI mX8_cuts 60 .dup2 1 61 := ⟨by decide +kernel, rfl⟩
theorem rX8_cuts_61 : vI mX8_cuts 61 .iaload 1 62 := ⟨by decide +kernel, rfl⟩
theorem rX8_cuts_62 : vLi mX8_cuts 62 2 63 := Or.inl ⟨2, by decide +kernel, rfl, rfl⟩
theorem rX8_cuts_63 : vI mX8_cuts 63 .iadd 1 64 := ⟨by decide +kernel, rfl⟩
theorem rX8_cuts_64 : vI mX8_cuts 64 .iastore 1 65 := ⟨by decide +kernel, rfl⟩
theorem rX8_cuts_65 : vLi mX8_cuts 65 2 66 := Or.inl ⟨2, by decide +kernel, rfl, rfl⟩
theorem rX8_cuts_66 : vI mX8_cuts 66 .ireturn 1 67 := ⟨by decide +kernel, rfl⟩
theorem rX8_drawn_0 : vCn mX8_drawn 0 (nI 0) 1 := Or.inl ⟨0, by decide +kernel, by decide +kernel, rfl⟩
theorem rX8_drawn_1 : vSi mX8_drawn 1 3 2 := ⟨Or.inl ⟨3, by decide +kernel, rfl, rfl⟩, by decide⟩
theorem rX8_drawn_2 : vLi mX8_drawn 2 3 3 := Or.inl ⟨3, by decide +kernel, rfl, rfl⟩
theorem rX8_drawn_3 : vLa mX8_drawn 3 0 4 := ⟨0, by decide +kernel, rfl, rfl⟩
theorem rX8_drawn_4 : vGf mX8_drawn 4 8 9 7 := ⟨13, (RX8, TX8, 29), by decide +kernel, rfl, rfl, by decide, tF672⟩
theorem rX8_drawn_7 : vCn mX8_drawn 7 (nI 1) 8 := Or.inl ⟨1, by decide +kernel, by decide +kernel, rfl⟩
theorem rX8_drawn_8 : vI mX8_drawn 8 .iaload 1 9 := ⟨by decide +kernel, rfl⟩
theorem rX8_drawn_9 : vIc mX8_drawn 9 .ge 69 12 := ⟨60, by decide +kernel, by decide, rfl⟩
theorem rX8_drawn_12 : vLa mX8_drawn 12 0 13 := ⟨0, by decide +kernel, rfl, rfl⟩
theorem rX8_drawn_13 : vGf mX8_drawn 13 8 16 16 := ⟨34, (RX8, TX8, 29), by decide +kernel, rfl, rfl, by decide, tF679⟩
theorem rX8_drawn_16 : vLi mX8_drawn 16 3 17 := Or.inl ⟨3, by decide +kernel, rfl, rfl⟩
theorem rX8_drawn_17 : vI mX8_drawn 17 .iaload 1 18 := ⟨by decide +kernel, rfl⟩
theorem rX8_drawn_18 : vLa mX8_drawn 18 1 19 := ⟨1, by decide +kernel, rfl, rfl⟩
theorem rX8_drawn_19 : vCn mX8_drawn 19 (nI 0) 20 := Or.inl ⟨0, by decide +kernel, by decide +kernel, rfl⟩
theorem rX8_drawn_20 : vI mX8_drawn 20 .iaload 1 21 := ⟨by decide +kernel, rfl⟩
theorem rX8_drawn_21 : vIc mX8_drawn 21 .ne 63 24 := ⟨42, by decide +kernel, by decide, rfl⟩
theorem rX8_drawn_24 : vLa mX8_drawn 24 1 25 := ⟨1, by decide +kernel, rfl, rfl⟩
theorem rX8_drawn_25 : vCn mX8_drawn 25 (nI 14) 27 := Or.inr (Or.inl ⟨14, by decide +kernel, by decide +kernel, rfl⟩)
theorem rX8_drawn_27 : vLi mX8_drawn 27 3 28 := Or.inl ⟨3, by decide +kernel, rfl, rfl⟩
theorem rX8_drawn_28 : vI mX8_drawn 28 .iadd 1 29 := ⟨by decide +kernel, rfl⟩
theorem rX8_drawn_29 : vI mX8_drawn 29 .iaload 1 30 := ⟨by decide +kernel, rfl⟩
theorem rX8_drawn_30 : vIf mX8_drawn 30 .ne 63 33 := ⟨33, by decide +kernel, by decide, rfl⟩
theorem rX8_drawn_33 : vLa mX8_drawn 33 1 34 := ⟨1, by decide +kernel, rfl, rfl⟩
theorem rX8_drawn_34 : vCn mX8_drawn 34 (nI 14) 36 := Or.inr (Or.inl ⟨14, by decide +kernel, by decide +kernel, rfl⟩)
theorem rX8_drawn_36 : vLi mX8_drawn 36 3 37 := Or.inl ⟨3, by decide +kernel, rfl, rfl⟩
theorem rX8_drawn_37 : vI mX8_drawn 37 .iadd 1 38 := ⟨by decide +kernel, rfl⟩
theorem rX8_drawn_38 : vLa mX8_drawn 38 1 39 := ⟨1, by decide +kernel, rfl, rfl⟩
theorem rX8_drawn_39 : vCn mX8_drawn 39 (nI 2) 40 := Or.inl ⟨2, by decide +kernel, by decide +kernel, rfl⟩
theorem rX8_drawn_40 : vLa mX8_drawn 40 0 41 := ⟨0, by decide +kernel, rfl, rfl⟩
theorem rX8_drawn_41 : vGf mX8_drawn 41 8 15 44 := ⟨31, (RX8, TX8, 29), by decide +kernel, rfl, rfl, by decide, tF678⟩
theorem rX8_drawn_44 : vLi mX8_drawn 44 3 45 := Or.inl ⟨3, by decide +kernel, rfl, rfl⟩
theorem rX8_drawn_45 : vI mX8_drawn 45 .iaload 1 46 := ⟨by decide +kernel, rfl⟩
theorem rX8_drawn_46 : vI mX8_drawn 46 .iadd 1 47 := ⟨by decide +kernel, rfl⟩
theorem rX8_drawn_47 : vI mX8_drawn 47 .iaload 1 48 := ⟨by decide +kernel, rfl⟩
theorem rX8_drawn_48 : vLa mX8_drawn 48 0 49 := ⟨0, by decide +kernel, rfl, rfl⟩
theorem rX8_drawn_49 : vGf mX8_drawn 49 8 14 52 := ⟨28, (RX8, TX8, 29), by decide +kernel, rfl, rfl, by decide, tF677⟩
theorem rX8_drawn_52 : vLi mX8_drawn 52 3 53 := Or.inl ⟨3, by decide +kernel, rfl, rfl⟩
theorem rX8_drawn_53 : vI mX8_drawn 53 .iaload 1 54 := ⟨by decide +kernel, rfl⟩
theorem rX8_drawn_54 : vIc mX8_drawn 54 .ne 61 57 := ⟨7, by decide +kernel, by decide, rfl⟩
theorem rX8_drawn_57 : vCn mX8_drawn 57 (nI 1) 58 := Or.inl ⟨1, by decide +kernel, by decide +kernel, rfl⟩
theorem rX8_drawn_58 : vGo mX8_drawn 58 62 := ⟨4, by decide +kernel, by decide⟩
theorem rX8_drawn_61 : vCn mX8_drawn 61 (nI 2) 62 := Or.inl ⟨2, by decide +kernel, by decide +kernel, rfl⟩
theorem rX8_drawn_62 : vI mX8_drawn 62 .iastore 1 63 := ⟨by decide +kernel, rfl⟩
theorem rX8_drawn_63 : vIn mX8_drawn 63 3 (nI 1) 66 := ⟨1, by decide +kernel, by decide +kernel, by decide, rfl⟩
theorem rX8_drawn_66 : vGo mX8_drawn 66 2 := ⟨-64, by decide +kernel, by decide⟩
theorem rX8_drawn_69 : vLa mX8_drawn 69 0 70 := ⟨0, by decide +kernel, rfl, rfl⟩
theorem rX8_drawn_70 : vLi mX8_drawn 70 2 71 := Or.inl ⟨2, by decide +kernel, rfl, rfl⟩
theorem rX8_drawn_71 : vKv mX8_drawn 71 mX8_draws 1 8 74 := ⟨149, (RX8, TX8, 29), by decide +kernel, rfl, kX8_draws, tF844, tF842, tS38, rfl, rfl⟩
theorem rX8_drawn_74 : vCn mX8_drawn 74 (nI 0) 75 := Or.inl ⟨0, by decide +kernel, by decide +kernel, rfl⟩
theorem rX8_drawn_75 : vSi mX8_drawn 75 3 76 := ⟨Or.inl ⟨3, by decide +kernel, rfl, rfl⟩, by decide⟩
theorem rX8_drawn_76 : vLi mX8_drawn 76 3 77 := Or.inl ⟨3, by decide +kernel, rfl, rfl⟩
theorem rX8_drawn_77 : vLa mX8_drawn 77 0 78 := ⟨0, by decide +kernel, rfl, rfl⟩
theorem rX8_drawn_78 : vGf mX8_drawn 78 8 9 81 := ⟨13, (RX8, TX8, 29), by decide +kernel, rfl, rfl, by decide, tF672⟩
theorem rX8_drawn_81 : vCn mX8_drawn 81 (nI 0) 82 := Or.inl ⟨0, by decide +kernel, by decide +kernel, rfl⟩
theorem rX8_drawn_82 : vI mX8_drawn 82 .iaload 1 83 := ⟨by decide +kernel, rfl⟩
theorem rX8_drawn_83 : vIc mX8_drawn 83 .ge 127 86 := ⟨44, by decide +kernel, by decide, rfl⟩
theorem rX8_drawn_86 : vLa mX8_drawn 86 1 87 := ⟨1, by decide +kernel, rfl, rfl⟩
theorem rX8_drawn_87 : vCn mX8_drawn 87 (nI 20) 89 := Or.inr (Or.inl ⟨20, by decide +kernel, by decide +kernel, rfl⟩)
theorem rX8_drawn_89 : vCn mX8_drawn 89 (nI 6) 91 := Or.inr (Or.inl ⟨6, by decide +kernel, by decide +kernel, rfl⟩)
theorem rX8_drawn_91 : vLa mX8_drawn 91 1 92 := ⟨1, by decide +kernel, rfl, rfl⟩
theorem rX8_drawn_92 : vCn mX8_drawn 92 (nI 2) 93 := Or.inl ⟨2, by decide +kernel, by decide +kernel, rfl⟩
theorem rX8_drawn_93 : vLi mX8_drawn 93 3 94 := Or.inl ⟨3, by decide +kernel, rfl, rfl⟩
theorem rX8_drawn_94 : vI mX8_drawn 94 .iadd 1 95 := ⟨by decide +kernel, rfl⟩
theorem rX8_drawn_95 : vI mX8_drawn 95 .iaload 1 96 := ⟨by decide +kernel, rfl⟩
theorem rX8_drawn_96 : vI mX8_drawn 96 .imul 1 97 := ⟨by decide +kernel, rfl⟩
theorem rX8_drawn_97 : vI mX8_drawn 97 .iadd 1 98 := ⟨by decide +kernel, rfl⟩
theorem rX8_drawn_98 : vLi mX8_drawn 98 3 99 := Or.inl ⟨3, by decide +kernel, rfl, rfl⟩
theorem rX8_drawn_99 : vI mX8_drawn 99 .iadd 1 100 := ⟨by decide +kernel, rfl⟩
theorem rX8_drawn_100 : vI mX8_drawn 100 .dup2 1 101 := ⟨by decide +kernel, rfl⟩
theorem rX8_drawn_101 : vI mX8_drawn 101 .iaload 1 102 := ⟨by decide +kernel, rfl⟩
theorem rX8_drawn_102 : vCn mX8_drawn 102 (nI 1) 103 := Or.inl ⟨1, by decide +kernel, by decide +kernel, rfl⟩
theorem rX8_drawn_103 : vI mX8_drawn 103 .iadd 1 104 := ⟨by decide +kernel, rfl⟩
theorem rX8_drawn_104 : vI mX8_drawn 104 .iastore 1 105 := ⟨by decide +kernel, rfl⟩
theorem rX8_drawn_105 : vLa mX8_drawn 105 0 106 := ⟨0, by decide +kernel, rfl, rfl⟩
theorem rX8_drawn_106 : vGf mX8_drawn 106 8 28 109 := ⟨65, (RX8, TX8, 29), by decide +kernel, rfl, rfl, by decide, tF691⟩
theorem rX8_drawn_109 : vLi mX8_drawn 109 3 110 := Or.inl ⟨3, by decide +kernel, rfl, rfl⟩
theorem rX8_drawn_110 : vLa mX8_drawn 110 1 111 := ⟨1, by decide +kernel, rfl, rfl⟩
theorem rX8_drawn_111 : vCn mX8_drawn 111 (nI 2) 112 := Or.inl ⟨2, by decide +kernel, by decide +kernel, rfl⟩
theorem rX8_drawn_112 : vLa mX8_drawn 112 0 113 := ⟨0, by decide +kernel, rfl, rfl⟩
theorem rX8_drawn_113 : vGf mX8_drawn 113 8 27 116 := ⟨62, (RX8, TX8, 29), by decide +kernel, rfl, rfl, by decide, tF690⟩
theorem rX8_drawn_116 : vLi mX8_drawn 116 3 117 := Or.inl ⟨3, by decide +kernel, rfl, rfl⟩
theorem rX8_drawn_117 : vI mX8_drawn 117 .iaload 1 118 := ⟨by decide +kernel, rfl⟩
theorem rX8_drawn_118 : vI mX8_drawn 118 .iadd 1 119 := ⟨by decide +kernel, rfl⟩
theorem rX8_drawn_119 : vI mX8_drawn 119 .iaload 1 120 := ⟨by decide +kernel, rfl⟩
theorem rX8_drawn_120 : vI mX8_drawn 120 .iastore 1 121 := ⟨by decide +kernel, rfl⟩
theorem rX8_drawn_121 : vIn mX8_drawn 121 3 (nI 1) 124 := ⟨1, by decide +kernel, by decide +kernel, by decide, rfl⟩
theorem rX8_drawn_124 : vGo mX8_drawn 124 76 := ⟨-48, by decide +kernel, by decide⟩
theorem rX8_drawn_127 : vCn mX8_drawn 127 (nI 0) 128 := Or.inl ⟨0, by decide +kernel, by decide +kernel, rfl⟩
theorem rX8_drawn_128 : vSi mX8_drawn 128 3 129 := ⟨Or.inl ⟨3, by decide +kernel, rfl, rfl⟩, by decide⟩
theorem rX8_drawn_129 : vLi mX8_drawn 129 3 130 := Or.inl ⟨3, by decide +kernel, rfl, rfl⟩
theorem rX8_drawn_130 : vLa mX8_drawn 130 0 131 := ⟨0, by decide +kernel, rfl, rfl⟩
theorem rX8_drawn_131 : vGf mX8_drawn 131 8 9 134 := ⟨13, (RX8, TX8, 29), by decide +kernel, rfl, rfl, by decide, tF672⟩
theorem rX8_drawn_134 : vCn mX8_drawn 134 (nI 0) 135 := Or.inl ⟨0, by decide +kernel, by decide +kernel, rfl⟩
theorem rX8_drawn_135 : vI mX8_drawn 135 .iaload 1 136 := ⟨by decide +kernel, rfl⟩
theorem rX8_drawn_136 : vIc mX8_drawn 136 .ge 156 139 := ⟨20, by decide +kernel, by decide, rfl⟩
theorem rX8_drawn_139 : vLa mX8_drawn 139 1 140 := ⟨1, by decide +kernel, rfl, rfl⟩
theorem rX8_drawn_140 : vCn mX8_drawn 140 (nI 2) 141 := Or.inl ⟨2, by decide +kernel, by decide +kernel, rfl⟩
theorem rX8_drawn_141 : vLi mX8_drawn 141 3 142 := Or.inl ⟨3, by decide +kernel, rfl, rfl⟩
theorem rX8_drawn_142 : vI mX8_drawn 142 .iadd 1 143 := ⟨by decide +kernel, rfl⟩
theorem rX8_drawn_143 : vLa mX8_drawn 143 0 144 := ⟨0, by decide +kernel, rfl, rfl⟩
theorem rX8_drawn_144 : vGf mX8_drawn 144 8 28 147 := ⟨65, (RX8, TX8, 29), by decide +kernel, rfl, rfl, by decide, tF691⟩
theorem rX8_drawn_147 : vLi mX8_drawn 147 3 148 := Or.inl ⟨3, by decide +kernel, rfl, rfl⟩
theorem rX8_drawn_148 : vI mX8_drawn 148 .iaload 1 149 := ⟨by decide +kernel, rfl⟩
theorem rX8_drawn_149 : vI mX8_drawn 149 .iastore 1 150 := ⟨by decide +kernel, rfl⟩
theorem rX8_drawn_150 : vIn mX8_drawn 150 3 (nI 1) 153 := ⟨1, by decide +kernel, by decide +kernel, by decide, rfl⟩
theorem rX8_drawn_153 : vGo mX8_drawn 153 129 := ⟨-24, by decide +kernel, by decide⟩
theorem rX8_drawn_156 : vLa mX8_drawn 156 1 157 := ⟨1, by decide +kernel, rfl, rfl⟩
theorem rX8_drawn_157 : vCn mX8_drawn 157 (nI 0) 158 := Or.inl ⟨0, by decide +kernel, by decide +kernel, rfl⟩
theorem rX8_drawn_158 : vI mX8_drawn 158 .dup2 1 159 := ⟨by decide +kernel, rfl⟩
theorem rX8_drawn_159 : vI mX8_drawn 159 .iaload 1 160 := ⟨by decide +kernel, rfl⟩
theorem rX8_drawn_160 : vCn mX8_drawn 160 (nI 1) 161 := Or.inl ⟨1, by decide +kernel, by decide +kernel, rfl⟩
theorem rX8_drawn_161 : vI mX8_drawn 161 .iadd 1 162 := ⟨by decide +kernel, rfl⟩
theorem rX8_drawn_162 : vI mX8_drawn 162 .iastore 1 163 := ⟨by decide +kernel, rfl⟩
theorem rX8_drawn_163 : vLa mX8_drawn 163 0 164 := ⟨0, by decide +kernel, rfl, rfl⟩
theorem rX8_drawn_164 : vLa mX8_drawn 164 1 165 := ⟨1, by decide +kernel, rfl, rfl⟩
theorem rX8_drawn_165 : vKv mX8_drawn 165 mX8_cuts 1 8 168 := ⟨152, (RX8, TX8, 29), by decide +kernel, rfl, kX8_cuts, tF852, tF850, tS39, rfl, rfl⟩
theorem rX8_drawn_168 : vI mX8_drawn 168 .ireturn 1 169 := ⟨by decide +kernel, rfl⟩
theorem rX8_lots_0 : vLa mX8_lots 0 0 1 := ⟨0, by decide +kernel, rfl, rfl⟩
theorem rX8_lots_1 : vCn mX8_lots 1 (nI 0) 2 := Or.inl ⟨0, by decide +kernel, by decide +kernel, rfl⟩
theorem rX8_lots_2 : vPf mX8_lots 2 8 0 5 := ⟨68, (RX8, TX8, 29), by decide +kernel, rfl, rfl, by decide, tF663, Or.inl rfl⟩
theorem rX8_lots_5 : vLi mX8_lots 5 1 6 := Or.inl ⟨1, by decide +kernel, rfl, rfl⟩
theorem rX8_lots_6 : vCn mX8_lots 6 (nI 0) 7 := Or.inl ⟨0, by decide +kernel, by decide +kernel, rfl⟩
theorem rX8_lots_7 : vCn mX8_lots 7 (nI 9999) 10 := Or.inr (Or.inr (Or.inl ⟨9999, by decide +kernel, by decide +kernel, rfl⟩))
theorem rX8_lots_10 : vKs mX8_lots 10 mX8_in 3 13 := ⟨72, by decide +kernel, rfl, kX8_in, tF756, Or.inl tF755⟩
theorem rX8_lots_13 : vIf mX8_lots 13 .ne 18 16 := ⟨5, by decide +kernel, by decide, rfl⟩
theorem rX8_lots_16 : vCn mX8_lots 16 (-1) 17 := Or.inl ⟨-1, by decide +kernel, by decide +kernel, rfl⟩
theorem rX8_lots_17 : vI mX8_lots 17 .ireturn 1 18 := ⟨by decide +kernel, rfl⟩
theorem rX8_lots_18 : vLa mX8_lots 18 0 19 := ⟨0, by decide +kernel, rfl, rfl⟩
theorem rX8_lots_19 : vGf mX8_lots 19 8 18 22 := ⟨40, (RX8, TX8, 29), by decide +kernel, rfl, rfl, by decide, tF681⟩
theorem rX8_lots_22 : vCn mX8_lots 22 (nI 0) 23 := Or.inl ⟨0, by decide +kernel, by decide +kernel, rfl⟩
theorem rX8_lots_23 : vI mX8_lots 23 .iaload 1 24 := ⟨by decide +kernel, rfl⟩
theorem rX8_lots_24 : vCn mX8_lots 24 (nI 60) 26 := Or.inr (Or.inl ⟨60, by decide +kernel, by decide +kernel, rfl⟩)
theorem rX8_lots_26 : vIc mX8_lots 26 .ne 32 29 := ⟨6, by decide +kernel, by decide, rfl⟩
theorem rX8_lots_29 : vCn mX8_lots 29 (-2) 31 := Or.inr (Or.inl ⟨-2, by decide +kernel, by decide +kernel, rfl⟩)
theorem rX8_lots_31 : vI mX8_lots 31 .ireturn 1 32 := ⟨by decide +kernel, rfl⟩
theorem rX8_lots_32 : vLa mX8_lots 32 0 33 := ⟨0, by decide +kernel, rfl, rfl⟩
theorem rX8_lots_33 : vKv mX8_lots 33 mX8_notes 0 8 36 := ⟨156, (RX8, TX8, 29), by decide +kernel, rfl, kX8_notes, tF836, tF834, tS36, rfl, rfl⟩
theorem rX8_lots_36 : vLa mX8_lots 36 0 37 := ⟨0, by decide +kernel, rfl, rfl⟩
theorem rX8_lots_37 : vLa mX8_lots 37 0 38 := ⟨0, by decide +kernel, rfl, rfl⟩
theorem rX8_lots_38 : vGf mX8_lots 38 8 18 41 := ⟨40, (RX8, TX8, 29), by decide +kernel, rfl, rfl, by decide, tF681⟩
theorem rX8_lots_41 : vLi mX8_lots 41 1 42 := Or.inl ⟨1, by decide +kernel, rfl, rfl⟩
theorem rX8_lots_42 : vKv mX8_lots 42 mX8_drawn 2 8 45 := ⟨159, (RX8, TX8, 29), by decide +kernel, rfl, kX8_drawn, tF840, tF838, tS37, rfl, rfl⟩
theorem rX8_lots_45 : vI mX8_lots 45 .ireturn 1 46 := ⟨by decide +kernel, rfl⟩
theorem rX8_trades_0 : vLa mX8_trades 0 0 1 := ⟨0, by decide +kernel, rfl, rfl⟩
theorem rX8_trades_1 : vCn mX8_trades 1 (nI 0) 2 := Or.inl ⟨0, by decide +kernel, by decide +kernel, rfl⟩
theorem rX8_trades_2 : vPf mX8_trades 2 8 0 5 := ⟨68, (RX8, TX8, 29), by decide +kernel, rfl, rfl, by decide, tF663, Or.inl rfl⟩
theorem rX8_trades_5 : vLa mX8_trades 5 0 6 := ⟨0, by decide +kernel, rfl, rfl⟩
theorem rX8_trades_6 : vLi mX8_trades 6 1 7 := Or.inl ⟨1, by decide +kernel, rfl, rfl⟩
theorem rX8_trades_7 : vKv mX8_trades 7 mX8_isTown 1 8 10 := ⟨127, (RX8, TX8, 29), by decide +kernel, rfl, kX8_isTown, tF801, tF799, tS33, rfl, rfl⟩
theorem rX8_trades_10 : vIf mX8_trades 10 .eq 26 13 := ⟨16, by decide +kernel, by decide, rfl⟩
theorem rX8_trades_13 : vLa mX8_trades 13 0 14 := ⟨0, by decide +kernel, rfl, rfl⟩
theorem rX8_trades_14 : vLi mX8_trades 14 2 15 := Or.inl ⟨2, by decide +kernel, rfl, rfl⟩
theorem rX8_trades_15 : vKv mX8_trades 15 mX8_isTown 1 8 18 := ⟨127, (RX8, TX8, 29), by decide +kernel, rfl, kX8_isTown, tF801, tF799, tS33, rfl, rfl⟩
theorem rX8_trades_18 : vIf mX8_trades 18 .eq 26 21 := ⟨8, by decide +kernel, by decide, rfl⟩
theorem rX8_trades_21 : vLi mX8_trades 21 1 22 := Or.inl ⟨1, by decide +kernel, rfl, rfl⟩
theorem rX8_trades_22 : vLi mX8_trades 22 2 23 := Or.inl ⟨2, by decide +kernel, rfl, rfl⟩
theorem rX8_trades_23 : vIc mX8_trades 23 .ne 28 26 := ⟨5, by decide +kernel, by decide, rfl⟩
theorem rX8_trades_26 : vCn mX8_trades 26 (-1) 27 := Or.inl ⟨-1, by decide +kernel, by decide +kernel, rfl⟩
theorem rX8_trades_27 : vI mX8_trades 27 .ireturn 1 28 := ⟨by decide +kernel, rfl⟩
theorem rX8_trades_28 : vLa mX8_trades 28 0 29 := ⟨0, by decide +kernel, rfl, rfl⟩
theorem rX8_trades_29 : vKv mX8_trades 29 mX8_notes 0 8 32 := ⟨156, (RX8, TX8, 29), by decide +kernel, rfl, kX8_notes, tF836, tF834, tS36, rfl, rfl⟩
theorem rX8_trades_32 : vLa mX8_trades 32 0 33 := ⟨0, by decide +kernel, rfl, rfl⟩
theorem rX8_trades_33 : vGf mX8_trades 33 8 18 36 := ⟨40, (RX8, TX8, 29), by decide +kernel, rfl, rfl, by decide, tF681⟩
theorem rX8_trades_36 : vCn mX8_trades 36 (nI 2) 37 := Or.inl ⟨2, by decide +kernel, by decide +kernel, rfl⟩
theorem rX8_trades_37 : vLi mX8_trades 37 1 38 := Or.inl ⟨1, by decide +kernel, rfl, rfl⟩
theorem rX8_trades_38 : vI mX8_trades 38 .iadd 1 39 := ⟨by decide +kernel, rfl⟩
theorem rX8_trades_39 : vI mX8_trades 39 .iaload 1 40 := ⟨by decide +kernel, rfl⟩
theorem rX8_trades_40 : vSi mX8_trades 40 3 41 := ⟨Or.inl ⟨3, by decide +kernel, rfl, rfl⟩, by decide⟩
theorem rX8_trades_41 : vLa mX8_trades 41 0 42 := ⟨0, by decide +kernel, rfl, rfl⟩
theorem rX8_trades_42 : vGf mX8_trades 42 8 18 45 := ⟨40, (RX8, TX8, 29), by decide +kernel, rfl, rfl, by decide, tF681⟩
theorem rX8_trades_45 : vCn mX8_trades 45 (nI 2) 46 := Or.inl ⟨2, by decide +kernel, by decide +kernel, rfl⟩
theorem rX8_trades_46 : vLi mX8_trades 46 1 47 := Or.inl ⟨1, by decide +kernel, rfl, rfl⟩
theorem rX8_trades_47 : vI mX8_trades 47 .iadd 1 48 := ⟨by decide +kernel, rfl⟩
theorem rX8_trades_48 : vLa mX8_trades 48 0 49 := ⟨0, by decide +kernel, rfl, rfl⟩
theorem rX8_trades_49 : vGf mX8_trades 49 8 18 52 := ⟨40, (RX8, TX8, 29), by decide +kernel, rfl, rfl, by decide, tF681⟩
theorem rX8_trades_52 : vCn mX8_trades 52 (nI 2) 53 := Or.inl ⟨2, by decide +kernel, by decide +kernel, rfl⟩
theorem rX8_trades_53 : vLi mX8_trades 53 2 54 := Or.inl ⟨2, by decide +kernel, rfl, rfl⟩
theorem rX8_trades_54 : vI mX8_trades 54 .iadd 1 55 := ⟨by decide +kernel, rfl⟩
theorem rX8_trades_55 : vI mX8_trades 55 .iaload 1 56 := ⟨by decide +kernel, rfl⟩
theorem rX8_trades_56 : vI mX8_trades 56 .iastore 1 57 := ⟨by decide +kernel, rfl⟩
theorem rX8_trades_57 : vLa mX8_trades 57 0 58 := ⟨0, by decide +kernel, rfl, rfl⟩
theorem rX8_trades_58 : vGf mX8_trades 58 8 18 61 := ⟨40, (RX8, TX8, 29), by decide +kernel, rfl, rfl, by decide, tF681⟩
theorem rX8_trades_61 : vCn mX8_trades 61 (nI 2) 62 := Or.inl ⟨2, by decide +kernel, by decide +kernel, rfl⟩
theorem rX8_trades_62 : vLi mX8_trades 62 2 63 := Or.inl ⟨2, by decide +kernel, rfl, rfl⟩
theorem rX8_trades_63 : vI mX8_trades 63 .iadd 1 64 := ⟨by decide +kernel, rfl⟩
theorem rX8_trades_64 : vLi mX8_trades 64 3 65 := Or.inl ⟨3, by decide +kernel, rfl, rfl⟩
theorem rX8_trades_65 : vI mX8_trades 65 .iastore 1 66 := ⟨by decide +kernel, rfl⟩
theorem rX8_trades_66 : vLa mX8_trades 66 0 67 := ⟨0, by decide +kernel, rfl, rfl⟩
theorem rX8_trades_67 : vLa mX8_trades 67 0 68 := ⟨0, by decide +kernel, rfl, rfl⟩
theorem rX8_trades_68 : vGf mX8_trades 68 8 18 71 := ⟨40, (RX8, TX8, 29), by decide +kernel, rfl, rfl, by decide, tF681⟩
theorem rX8_trades_71 : vKv mX8_trades 71 mX8_cuts 1 8 74 := ⟨152, (RX8, TX8, 29), by decide +kernel, rfl, kX8_cuts, tF852, tF850, tS39, rfl, rfl⟩
theorem rX8_trades_74 : vI mX8_trades 74 .ireturn 1 75 := ⟨by decide +kernel, rfl⟩
theorem rX8_widens_0 : vLa mX8_widens 0 0 1 := ⟨0, by decide +kernel, rfl, rfl⟩
theorem rX8_widens_1 : vCn mX8_widens 1 (nI 0) 2 := Or.inl ⟨0, by decide +kernel, by decide +kernel, rfl⟩
theorem rX8_widens_2 : vPf mX8_widens 2 8 0 5 := ⟨68, (RX8, TX8, 29), by decide +kernel, rfl, rfl, by decide, tF663, Or.inl rfl⟩
theorem rX8_widens_5 : vLa mX8_widens 5 0 6 := ⟨0, by decide +kernel, rfl, rfl⟩
theorem rX8_widens_6 : vLi mX8_widens 6 1 7 := Or.inl ⟨1, by decide +kernel, rfl, rfl⟩
theorem rX8_widens_7 : vKv mX8_widens 7 mX8_isTown 1 8 10 := ⟨127, (RX8, TX8, 29), by decide +kernel, rfl, kX8_isTown, tF801, tF799, tS33, rfl, rfl⟩
theorem rX8_widens_10 : vIf mX8_widens 10 .eq 23 13 := ⟨13, by decide +kernel, by decide, rfl⟩
theorem rX8_widens_13 : vLi mX8_widens 13 2 14 := Or.inl ⟨2, by decide +kernel, rfl, rfl⟩
theorem rX8_widens_14 : vCn mX8_widens 14 (nI 1) 15 := Or.inl ⟨1, by decide +kernel, by decide +kernel, rfl⟩
theorem rX8_widens_15 : vCn mX8_widens 15 (nI 99) 17 := Or.inr (Or.inl ⟨99, by decide +kernel, by decide +kernel, rfl⟩)
theorem rX8_widens_17 : vKs mX8_widens 17 mX8_in 3 20 := ⟨72, by decide +kernel, rfl, kX8_in, tF756, Or.inl tF755⟩
theorem rX8_widens_20 : vIf mX8_widens 20 .ne 25 23 := ⟨5, by decide +kernel, by decide, rfl⟩
theorem rX8_widens_23 : vCn mX8_widens 23 (-1) 24 := Or.inl ⟨-1, by decide +kernel, by decide +kernel, rfl⟩
theorem rX8_widens_24 : vI mX8_widens 24 .ireturn 1 25 := ⟨by decide +kernel, rfl⟩
theorem rX8_widens_25 : vLa mX8_widens 25 0 26 := ⟨0, by decide +kernel, rfl, rfl⟩
theorem rX8_widens_26 : vGf mX8_widens 26 8 11 29 := ⟨19, (RX8, TX8, 29), by decide +kernel, rfl, rfl, by decide, tF674⟩
theorem rX8_widens_29 : vLa mX8_widens 29 0 30 := ⟨0, by decide +kernel, rfl, rfl⟩
theorem rX8_widens_30 : vGf mX8_widens 30 8 18 33 := ⟨40, (RX8, TX8, 29), by decide +kernel, rfl, rfl, by decide, tF681⟩
theorem rX8_widens_33 : vCn mX8_widens 33 (nI 2) 34 := Or.inl ⟨2, by decide +kernel, by decide +kernel, rfl⟩
theorem rX8_widens_34 : vLi mX8_widens 34 1 35 := Or.inl ⟨1, by decide +kernel, rfl, rfl⟩
theorem rX8_widens_35 : vI mX8_widens 35 .iadd 1 36 := ⟨by decide +kernel, rfl⟩
theorem rX8_widens_36 : vI mX8_widens 36 .iaload 1 37 := ⟨by decide +kernel, rfl⟩
theorem rX8_widens_37 : vI mX8_widens 37 .iaload 1 38 := ⟨by decide +kernel, rfl⟩
theorem rX8_widens_38 : vLi mX8_widens 38 2 39 := Or.inl ⟨2, by decide +kernel, rfl, rfl⟩
theorem rX8_widens_39 : vIc mX8_widens 39 .le 45 42 := ⟨6, by decide +kernel, by decide, rfl⟩
theorem rX8_widens_42 : vCn mX8_widens 42 (-2) 44 := Or.inr (Or.inl ⟨-2, by decide +kernel, by decide +kernel, rfl⟩)
theorem rX8_widens_44 : vI mX8_widens 44 .ireturn 1 45 := ⟨by decide +kernel, rfl⟩
theorem rX8_widens_45 : vLa mX8_widens 45 0 46 := ⟨0, by decide +kernel, rfl, rfl⟩
theorem rX8_widens_46 : vKv mX8_widens 46 mX8_notes 0 8 49 := ⟨156, (RX8, TX8, 29), by decide +kernel, rfl, kX8_notes, tF836, tF834, tS36, rfl, rfl⟩
theorem rX8_widens_49 : vLa mX8_widens 49 0 50 := ⟨0, by decide +kernel, rfl, rfl⟩
theorem rX8_widens_50 : vGf mX8_widens 50 8 18 53 := ⟨40, (RX8, TX8, 29), by decide +kernel, rfl, rfl, by decide, tF681⟩
theorem rX8_widens_53 : vCn mX8_widens 53 (nI 8) 55 := Or.inr (Or.inl ⟨8, by decide +kernel, by decide +kernel, rfl⟩)
theorem rX8_widens_55 : vLi mX8_widens 55 1 56 := Or.inl ⟨1, by decide +kernel, rfl, rfl⟩
theorem rX8_widens_56 : vI mX8_widens 56 .iadd 1 57 := ⟨by decide +kernel, rfl⟩
theorem rX8_widens_57 : vI mX8_widens 57 .iaload 1 58 := ⟨by decide +kernel, rfl⟩
theorem rX8_widens_58 : vSi mX8_widens 58 3 59 := ⟨Or.inl ⟨3, by decide +kernel, rfl, rfl⟩, by decide⟩
theorem rX8_widens_59 : vLa mX8_widens 59 0 60 := ⟨0, by decide +kernel, rfl, rfl⟩
theorem rX8_widens_60 : vGf mX8_widens 60 8 18 63 := ⟨40, (RX8, TX8, 29), by decide +kernel, rfl, rfl, by decide, tF681⟩
theorem rX8_widens_63 : vCn mX8_widens 63 (nI 8) 65 := Or.inr (Or.inl ⟨8, by decide +kernel, by decide +kernel, rfl⟩)
theorem rX8_widens_65 : vLi mX8_widens 65 1 66 := Or.inl ⟨1, by decide +kernel, rfl, rfl⟩
theorem rX8_widens_66 : vI mX8_widens 66 .iadd 1 67 := ⟨by decide +kernel, rfl⟩
theorem rX8_widens_67 : vLi mX8_widens 67 2 68 := Or.inl ⟨2, by decide +kernel, rfl, rfl⟩
theorem rX8_widens_68 : vI mX8_widens 68 .iastore 1 69 := ⟨by decide +kernel, rfl⟩
theorem rX8_widens_69 : vLi mX8_widens 69 3 70 := Or.inl ⟨3, by decide +kernel, rfl, rfl⟩
theorem rX8_widens_70 : vI mX8_widens 70 .ireturn 1 71 := ⟨by decide +kernel, rfl⟩
theorem rX8_undo_0 : vLa mX8_undo 0 0 1 := ⟨0, by decide +kernel, rfl, rfl⟩
theorem rX8_undo_1 : vCn mX8_undo 1 (nI 0) 2 := Or.inl ⟨0, by decide +kernel, by decide +kernel, rfl⟩
theorem rX8_undo_2 : vPf mX8_undo 2 8 0 5 := ⟨68, (RX8, TX8, 29), by decide +kernel, rfl, rfl, by decide, tF663, Or.inl rfl⟩
theorem rX8_undo_5 : vLa mX8_undo 5 0 6 := ⟨0, by decide +kernel, rfl, rfl⟩
theorem rX8_undo_6 : vGf mX8_undo 6 8 23 9 := ⟨124, (RX8, TX8, 29), by decide +kernel, rfl, rfl, by decide, tF686⟩
theorem rX8_undo_9 : vIf mX8_undo 9 .ne 15 12 := ⟨6, by decide +kernel, by decide, rfl⟩
theorem rX8_undo_12 : vCn mX8_undo 12 (-2) 14 := Or.inr (Or.inl ⟨-2, by decide +kernel, by decide +kernel, rfl⟩)
theorem rX8_undo_14 : vI mX8_undo 14 .ireturn 1 15 := ⟨by decide +kernel, rfl⟩
theorem rX8_undo_15 : vLa mX8_undo 15 0 16 := ⟨0, by decide +kernel, rfl, rfl⟩
theorem rX8_undo_16 : vI mX8_undo 16 .dup 1 17 := ⟨by decide +kernel, rfl⟩
theorem rX8_undo_17 : vGf mX8_undo 17 8 23 20 := ⟨124, (RX8, TX8, 29), by decide +kernel, rfl, rfl, by decide, tF686⟩
theorem rX8_undo_20 : vCn mX8_undo 20 (nI 1) 21 := Or.inl ⟨1, by decide +kernel, by decide +kernel, rfl⟩
theorem rX8_undo_21 : vI mX8_undo 21 .isub 1 22 := ⟨by decide +kernel, rfl⟩
theorem rX8_undo_22 : vPf mX8_undo 22 8 23 25 := ⟨124, (RX8, TX8, 29), by decide +kernel, rfl, rfl, by decide, tF686, Or.inl rfl⟩
theorem rX8_undo_25 : vCn mX8_undo 25 (nI 0) 26 := Or.inl ⟨0, by decide +kernel, by decide +kernel, rfl⟩
theorem rX8_undo_26 : vSi mX8_undo 26 1 27 := ⟨Or.inl ⟨1, by decide +kernel, rfl, rfl⟩, by decide⟩
theorem rX8_undo_27 : vLi mX8_undo 27 1 28 := Or.inl ⟨1, by decide +kernel, rfl, rfl⟩
theorem rX8_undo_28 : vCn mX8_undo 28 (nI 56) 30 := Or.inr (Or.inl ⟨56, by decide +kernel, by decide +kernel, rfl⟩)
theorem rX8_undo_30 : vIc mX8_undo 30 .ge 59 33 := ⟨29, by decide +kernel, by decide, rfl⟩
theorem rX8_undo_33 : vLa mX8_undo 33 0 34 := ⟨0, by decide +kernel, rfl, rfl⟩
theorem rX8_undo_34 : vGf mX8_undo 34 8 18 37 := ⟨40, (RX8, TX8, 29), by decide +kernel, rfl, rfl, by decide, tF681⟩
theorem rX8_undo_37 : vLi mX8_undo 37 1 38 := Or.inl ⟨1, by decide +kernel, rfl, rfl⟩
theorem rX8_undo_38 : vLa mX8_undo 38 0 39 := ⟨0, by decide +kernel, rfl, rfl⟩
theorem rX8_undo_39 : vGf mX8_undo 39 8 22 42 := ⟨53, (RX8, TX8, 29), by decide +kernel, rfl, rfl, by decide, tF685⟩
theorem rX8_undo_42 : vCn mX8_undo 42 (nI 56) 44 := Or.inr (Or.inl ⟨56, by decide +kernel, by decide +kernel, rfl⟩)
theorem rX8_undo_44 : vLa mX8_undo 44 0 45 := ⟨0, by decide +kernel, rfl, rfl⟩
theorem rX8_undo_45 : vGf mX8_undo 45 8 23 48 := ⟨124, (RX8, TX8, 29), by decide +kernel, rfl, rfl, by decide, tF686⟩
theorem rX8_undo_48 : vI mX8_undo 48 .imul 1 49 := ⟨by decide +kernel, rfl⟩
theorem rX8_undo_49 : vLi mX8_undo 49 1 50 := Or.inl ⟨1, by decide +kernel, rfl, rfl⟩
theorem rX8_undo_50 : vI mX8_undo 50 .iadd 1 51 := ⟨by decide +kernel, rfl⟩
theorem rX8_undo_51 : vI mX8_undo 51 .iaload 1 52 := ⟨by decide +kernel, rfl⟩
theorem rX8_undo_52 : vI mX8_undo 52 .iastore 1 53 := ⟨by decide +kernel, rfl⟩
theorem rX8_undo_53 : vIn mX8_undo 53 1 (nI 1) 56 := ⟨1, by decide +kernel, by decide +kernel, by decide, rfl⟩
theorem rX8_undo_56 : vGo mX8_undo 56 27 := ⟨-29, by decide +kernel, by decide⟩
theorem rX8_undo_59 : vLa mX8_undo 59 0 60 := ⟨0, by decide +kernel, rfl, rfl⟩
theorem rX8_undo_60 : vGf mX8_undo 60 8 23 63 := ⟨124, (RX8, TX8, 29), by decide +kernel, rfl, rfl, by decide, tF686⟩
theorem rX8_undo_63 : vI mX8_undo 63 .ireturn 1 64 := ⟨by decide +kernel, rfl⟩
theorem rX8_asNow_0 : vCn mX8_asNow 0 (nI 0) 1 := Or.inl ⟨0, by decide +kernel, by decide +kernel, rfl⟩
theorem rX8_asNow_1 : vSi mX8_asNow 1 1 2 := ⟨Or.inl ⟨1, by decide +kernel, rfl, rfl⟩, by decide⟩
theorem rX8_asNow_2 : vLi mX8_asNow 2 1 3 := Or.inl ⟨1, by decide +kernel, rfl, rfl⟩
theorem rX8_asNow_3 : vCn mX8_asNow 3 (nI 56) 5 := Or.inr (Or.inl ⟨56, by decide +kernel, by decide +kernel, rfl⟩)
theorem rX8_asNow_5 : vIc mX8_asNow 5 .ge 26 8 := ⟨21, by decide +kernel, by decide, rfl⟩
theorem rX8_asNow_8 : vLa mX8_asNow 8 0 9 := ⟨0, by decide +kernel, rfl, rfl⟩
theorem rX8_asNow_9 : vGf mX8_asNow 9 8 19 12 := ⟨43, (RX8, TX8, 29), by decide +kernel, rfl, rfl, by decide, tF682⟩
theorem rX8_asNow_12 : vLi mX8_asNow 12 1 13 := Or.inl ⟨1, by decide +kernel, rfl, rfl⟩
theorem rX8_asNow_13 : vLa mX8_asNow 13 0 14 := ⟨0, by decide +kernel, rfl, rfl⟩
theorem rX8_asNow_14 : vGf mX8_asNow 14 8 18 17 := ⟨40, (RX8, TX8, 29), by decide +kernel, rfl, rfl, by decide, tF681⟩
theorem rX8_asNow_17 : vLi mX8_asNow 17 1 18 := Or.inl ⟨1, by decide +kernel, rfl, rfl⟩
theorem rX8_asNow_18 : vI mX8_asNow 18 .iaload 1 19 := ⟨by decide +kernel, rfl⟩
theorem rX8_asNow_19 : vI mX8_asNow 19 .iastore 1 20 := ⟨by decide +kernel, rfl⟩
theorem rX8_asNow_20 : vIn mX8_asNow 20 1 (nI 1) 23 := ⟨1, by decide +kernel, by decide +kernel, by decide, rfl⟩
theorem rX8_asNow_23 : vGo mX8_asNow 23 2 := ⟨-21, by decide +kernel, by decide⟩
theorem rX8_asNow_26 : vI mX8_asNow 26 .return_ 1 27 := ⟨by decide +kernel, rfl⟩
theorem rX8_inLots_0 : vLa mX8_inLots 0 0 1 := ⟨0, by decide +kernel, rfl, rfl⟩
theorem rX8_inLots_1 : vCn mX8_inLots 1 (nI 0) 2 := Or.inl ⟨0, by decide +kernel, by decide +kernel, rfl⟩
theorem rX8_inLots_2 : vPf mX8_inLots 2 8 0 5 := ⟨68, (RX8, TX8, 29), by decide +kernel, rfl, rfl, by decide, tF663, Or.inl rfl⟩
theorem rX8_inLots_5 : vLi mX8_inLots 5 1 6 := Or.inl ⟨1, by decide +kernel, rfl, rfl⟩
theorem rX8_inLots_6 : vCn mX8_inLots 6 (nI 0) 7 := Or.inl ⟨0, by decide +kernel, by decide +kernel, rfl⟩
theorem rX8_inLots_7 : vCn mX8_inLots 7 (nI 9999) 10 := Or.inr (Or.inr (Or.inl ⟨9999, by decide +kernel, by decide +kernel, rfl⟩))
theorem rX8_inLots_10 : vKs mX8_inLots 10 mX8_in 3 13 := ⟨72, by decide +kernel, rfl, kX8_in, tF756, Or.inl tF755⟩
theorem rX8_inLots_13 : vIf mX8_inLots 13 .eq 39 16 := ⟨26, by decide +kernel, by decide, rfl⟩
theorem rX8_inLots_16 : vLi mX8_inLots 16 2 17 := Or.inl ⟨2, by decide +kernel, rfl, rfl⟩
theorem rX8_inLots_17 : vCn mX8_inLots 17 (nI 0) 18 := Or.inl ⟨0, by decide +kernel, by decide +kernel, rfl⟩
theorem rX8_inLots_18 : vCn mX8_inLots 18 (nI 20) 20 := Or.inr (Or.inl ⟨20, by decide +kernel, by decide +kernel, rfl⟩)
theorem rX8_inLots_20 : vKs mX8_inLots 20 mX8_in 3 23 := ⟨72, by decide +kernel, rfl, kX8_in, tF756, Or.inl tF755⟩
theorem rX8_inLots_23 : vIf mX8_inLots 23 .eq 39 26 := ⟨16, by decide +kernel, by decide, rfl⟩
theorem rX8_inLots_26 : vLi mX8_inLots 26 3 27 := Or.inl ⟨3, by decide +kernel, rfl, rfl⟩
theorem rX8_inLots_27 : vCn mX8_inLots 27 (-1) 28 := Or.inl ⟨-1, by decide +kernel, by decide +kernel, rfl⟩
theorem rX8_inLots_28 : vIc mX8_inLots 28 .eq 41 31 := ⟨13, by decide +kernel, by decide, rfl⟩
theorem rX8_inLots_31 : vLa mX8_inLots 31 0 32 := ⟨0, by decide +kernel, rfl, rfl⟩
theorem rX8_inLots_32 : vLi mX8_inLots 32 3 33 := Or.inl ⟨3, by decide +kernel, rfl, rfl⟩
theorem rX8_inLots_33 : vKv mX8_inLots 33 mX8_isTown 1 8 36 := ⟨127, (RX8, TX8, 29), by decide +kernel, rfl, kX8_isTown, tF801, tF799, tS33, rfl, rfl⟩
theorem rX8_inLots_36 : vIf mX8_inLots 36 .ne 41 39 := ⟨5, by decide +kernel, by decide, rfl⟩
theorem rX8_inLots_39 : vCn mX8_inLots 39 (-1) 40 := Or.inl ⟨-1, by decide +kernel, by decide +kernel, rfl⟩
theorem rX8_inLots_40 : vI mX8_inLots 40 .ireturn 1 41 := ⟨by decide +kernel, rfl⟩
theorem rX8_inLots_41 : vLa mX8_inLots 41 0 42 := ⟨0, by decide +kernel, rfl, rfl⟩
theorem rX8_inLots_42 : vKv mX8_inLots 42 mX8_asNow 0 8 45 := ⟨162, (RX8, TX8, 29), by decide +kernel, rfl, kX8_asNow, tF872, tF870, tS40, rfl, rfl⟩
theorem rX8_inLots_45 : vCn mX8_inLots 45 (nI 0) 46 := Or.inl ⟨0, by decide +kernel, by decide +kernel, rfl⟩
theorem rX8_inLots_46 : vSi mX8_inLots 46 4 48 := ⟨Or.inr ⟨by decide +kernel, rfl⟩, by decide⟩
theorem rX8_inLots_48 : vCn mX8_inLots 48 (nI 0) 49 := Or.inl ⟨0, by decide +kernel, by decide +kernel, rfl⟩
theorem rX8_inLots_49 : vSi mX8_inLots 49 5 51 := ⟨Or.inr ⟨by decide +kernel, rfl⟩, by decide⟩
theorem rX8_inLots_51 : vLi mX8_inLots 51 5 53 := Or.inr ⟨by decide +kernel, rfl⟩
theorem rX8_inLots_53 : vLi mX8_inLots 53 2 54 := Or.inl ⟨2, by decide +kernel, rfl, rfl⟩
theorem rX8_inLots_54 : vIc mX8_inLots 54 .ge 84 57 := ⟨30, by decide +kernel, by decide, rfl⟩
theorem rX8_inLots_57 : vLi mX8_inLots 57 4 59 := Or.inr ⟨by decide +kernel, rfl⟩
theorem rX8_inLots_59 : vLa mX8_inLots 59 0 60 := ⟨0, by decide +kernel, rfl, rfl⟩
theorem rX8_inLots_60 : vLa mX8_inLots 60 0 61 := ⟨0, by decide +kernel, rfl, rfl⟩
theorem rX8_inLots_61 : vGf mX8_inLots 61 8 19 64 := ⟨43, (RX8, TX8, 29), by decide +kernel, rfl, rfl, by decide, tF682⟩
theorem rX8_inLots_64 : vLi mX8_inLots 64 1 65 := Or.inl ⟨1, by decide +kernel, rfl, rfl⟩
theorem rX8_inLots_65 : vLi mX8_inLots 65 5 67 := Or.inr ⟨by decide +kernel, rfl⟩
theorem rX8_inLots_67 : vI mX8_inLots 67 .iadd 1 68 := ⟨by decide +kernel, rfl⟩
theorem rX8_inLots_68 : vCn mX8_inLots 68 (nI 10000) 71 := Or.inr (Or.inr (Or.inl ⟨10000, by decide +kernel, by decide +kernel, rfl⟩))
theorem rX8_inLots_71 : vI mX8_inLots 71 .irem 1 72 := ⟨by decide +kernel, rfl⟩
theorem rX8_inLots_72 : vKv mX8_inLots 72 mX8_drawn 2 8 75 := ⟨159, (RX8, TX8, 29), by decide +kernel, rfl, kX8_drawn, tF840, tF838, tS37, rfl, rfl⟩
theorem rX8_inLots_75 : vI mX8_inLots 75 .iadd 1 76 := ⟨by decide +kernel, rfl⟩
theorem rX8_inLots_76 : vSi mX8_inLots 76 4 78 := ⟨Or.inr ⟨by decide +kernel, rfl⟩, by decide⟩
theorem rX8_inLots_78 : vIn mX8_inLots 78 5 (nI 1) 81 := ⟨1, by decide +kernel, by decide +kernel, by decide, rfl⟩
theorem rX8_inLots_81 : vGo mX8_inLots 81 51 := ⟨-30, by decide +kernel, by decide⟩
theorem rX8_inLots_84 : vLi mX8_inLots 84 3 85 := Or.inl ⟨3, by decide +kernel, rfl, rfl⟩
theorem rX8_inLots_85 : vCn mX8_inLots 85 (-1) 86 := Or.inl ⟨-1, by decide +kernel, by decide +kernel, rfl⟩
theorem rX8_inLots_86 : vIc mX8_inLots 86 .ne 94 89 := ⟨8, by decide +kernel, by decide, rfl⟩
theorem rX8_inLots_89 : vLi mX8_inLots 89 4 91 := Or.inr ⟨by decide +kernel, rfl⟩
theorem rX8_inLots_91 : vGo mX8_inLots 91 102 := ⟨11, by decide +kernel, by decide⟩
theorem rX8_inLots_94 : vLa mX8_inLots 94 0 95 := ⟨0, by decide +kernel, rfl, rfl⟩
theorem rX8_inLots_95 : vGf mX8_inLots 95 8 19 98 := ⟨43, (RX8, TX8, 29), by decide +kernel, rfl, rfl, by decide, tF682⟩
theorem rX8_inLots_98 : vCn mX8_inLots 98 (nI 2) 99 := Or.inl ⟨2, by decide +kernel, by decide +kernel, rfl⟩
theorem rX8_inLots_99 : vLi mX8_inLots 99 3 100 := Or.inl ⟨3, by decide +kernel, rfl, rfl⟩
theorem rX8_inLots_100 : vI mX8_inLots 100 .iadd 1 101 := ⟨by decide +kernel, rfl⟩
theorem rX8_inLots_101 : vI mX8_inLots 101 .iaload 1 102 := ⟨by decide +kernel, rfl⟩
theorem rX8_inLots_102 : vI mX8_inLots 102 .ireturn 1 103 := ⟨by decide +kernel, rfl⟩
theorem rX8_cost_0 : vLa mX8_cost 0 0 1 := ⟨0, by decide +kernel, rfl, rfl⟩
theorem rX8_cost_1 : vCn mX8_cost 1 (nI 0) 2 := Or.inl ⟨0, by decide +kernel, by decide +kernel, rfl⟩
theorem rX8_cost_2 : vPf mX8_cost 2 8 0 5 := ⟨68, (RX8, TX8, 29), by decide +kernel, rfl, rfl, by decide, tF663, Or.inl rfl⟩
theorem rX8_cost_5 : vLi mX8_cost 5 1 6 := Or.inl ⟨1, by decide +kernel, rfl, rfl⟩
theorem rX8_cost_6 : vCn mX8_cost 6 (nI 0) 7 := Or.inl ⟨0, by decide +kernel, by decide +kernel, rfl⟩
theorem rX8_cost_7 : vCn mX8_cost 7 (nI 9999) 10 := Or.inr (Or.inr (Or.inl ⟨9999, by decide +kernel, by decide +kernel, rfl⟩))
theorem rX8_cost_10 : vKs mX8_cost 10 mX8_in 3 13 := ⟨72, by decide +kernel, rfl, kX8_in, tF756, Or.inl tF755⟩
theorem rX8_cost_13 : vIf mX8_cost 13 .ne 18 16 := ⟨5, by decide +kernel, by decide, rfl⟩
theorem rX8_cost_16 : vCn mX8_cost 16 (-1) 17 := Or.inl ⟨-1, by decide +kernel, by decide +kernel, rfl⟩
theorem rX8_cost_17 : vI mX8_cost 17 .ireturn 1 18 := ⟨by decide +kernel, rfl⟩
theorem rX8_cost_18 : vLa mX8_cost 18 0 19 := ⟨0, by decide +kernel, rfl, rfl⟩
theorem rX8_cost_19 : vLi mX8_cost 19 1 20 := Or.inl ⟨1, by decide +kernel, rfl, rfl⟩
theorem rX8_cost_20 : vKv mX8_cost 20 mX8_draws 1 8 23 := ⟨149, (RX8, TX8, 29), by decide +kernel, rfl, kX8_draws, tF844, tF842, tS38, rfl, rfl⟩
theorem rX8_cost_23 : vCn mX8_cost 23 (nI 0) 24 := Or.inl ⟨0, by decide +kernel, by decide +kernel, rfl⟩
theorem rX8_cost_24 : vSi mX8_cost 24 2 25 := ⟨Or.inl ⟨2, by decide +kernel, rfl, rfl⟩, by decide⟩
theorem rX8_cost_25 : vCn mX8_cost 25 (nI 0) 26 := Or.inl ⟨0, by decide +kernel, by decide +kernel, rfl⟩
theorem rX8_cost_26 : vSi mX8_cost 26 3 27 := ⟨Or.inl ⟨3, by decide +kernel, rfl, rfl⟩, by decide⟩
theorem rX8_cost_27 : vLi mX8_cost 27 3 28 := Or.inl ⟨3, by decide +kernel, rfl, rfl⟩
theorem rX8_cost_28 : vLa mX8_cost 28 0 29 := ⟨0, by decide +kernel, rfl, rfl⟩
theorem rX8_cost_29 : vGf mX8_cost 29 8 9 32 := ⟨13, (RX8, TX8, 29), by decide +kernel, rfl, rfl, by decide, tF672⟩
theorem rX8_cost_32 : vCn mX8_cost 32 (nI 0) 33 := Or.inl ⟨0, by decide +kernel, by decide +kernel, rfl⟩
theorem rX8_cost_33 : vI mX8_cost 33 .iaload 1 34 := ⟨by decide +kernel, rfl⟩
theorem rX8_cost_34 : vIc mX8_cost 34 .ge 103 37 := ⟨69, by decide +kernel, by decide, rfl⟩
theorem rX8_cost_37 : vLa mX8_cost 37 0 38 := ⟨0, by decide +kernel, rfl, rfl⟩
theorem rX8_cost_38 : vGf mX8_cost 38 8 17 41 := ⟨37, (RX8, TX8, 29), by decide +kernel, rfl, rfl, by decide, tF680⟩
theorem rX8_cost_41 : vCn mX8_cost 41 (nI 6) 43 := Or.inr (Or.inl ⟨6, by decide +kernel, by decide +kernel, rfl⟩)
theorem rX8_cost_43 : vLa mX8_cost 43 0 44 := ⟨0, by decide +kernel, rfl, rfl⟩
theorem rX8_cost_44 : vGf mX8_cost 44 8 27 47 := ⟨62, (RX8, TX8, 29), by decide +kernel, rfl, rfl, by decide, tF690⟩
theorem rX8_cost_47 : vLi mX8_cost 47 3 48 := Or.inl ⟨3, by decide +kernel, rfl, rfl⟩
theorem rX8_cost_48 : vI mX8_cost 48 .iaload 1 49 := ⟨by decide +kernel, rfl⟩
theorem rX8_cost_49 : vI mX8_cost 49 .imul 1 50 := ⟨by decide +kernel, rfl⟩
theorem rX8_cost_50 : vLi mX8_cost 50 3 51 := Or.inl ⟨3, by decide +kernel, rfl, rfl⟩
theorem rX8_cost_51 : vI mX8_cost 51 .iadd 1 52 := ⟨by decide +kernel, rfl⟩
theorem rX8_cost_52 : vI mX8_cost 52 .iaload 1 53 := ⟨by decide +kernel, rfl⟩
theorem rX8_cost_53 : vSi mX8_cost 53 4 55 := ⟨Or.inr ⟨by decide +kernel, rfl⟩, by decide⟩
theorem rX8_cost_55 : vLi mX8_cost 55 4 57 := Or.inr ⟨by decide +kernel, rfl⟩
theorem rX8_cost_57 : vCn mX8_cost 57 (nI 1000000) 59 := Or.inr (Or.inr (Or.inr (Or.inl ⟨120, by decide +kernel, tF794, rfl⟩)))
theorem rX8_cost_59 : vIc mX8_cost 59 .ge 68 62 := ⟨9, by decide +kernel, by decide, rfl⟩
theorem rX8_cost_62 : vLi mX8_cost 62 2 63 := Or.inl ⟨2, by decide +kernel, rfl, rfl⟩
theorem rX8_cost_63 : vCn mX8_cost 63 (nI 1000000) 65 := Or.inr (Or.inr (Or.inr (Or.inl ⟨120, by decide +kernel, tF794, rfl⟩)))
theorem rX8_cost_65 : vIc mX8_cost 65 .lt 73 68 := ⟨8, by decide +kernel, by decide, rfl⟩
theorem rX8_cost_68 : vCn mX8_cost 68 (nI 1000000) 70 := Or.inr (Or.inr (Or.inr (Or.inl ⟨120, by decide +kernel, tF794, rfl⟩)))
theorem rX8_cost_70 : vGo mX8_cost 70 96 := ⟨26, by decide +kernel, by decide⟩
theorem rX8_cost_73 : vLi mX8_cost 73 2 74 := Or.inl ⟨2, by decide +kernel, rfl, rfl⟩
theorem rX8_cost_74 : vLa mX8_cost 74 0 75 := ⟨0, by decide +kernel, rfl, rfl⟩
theorem rX8_cost_75 : vGf mX8_cost 75 8 11 78 := ⟨19, (RX8, TX8, 29), by decide +kernel, rfl, rfl, by decide, tF674⟩
theorem rX8_cost_78 : vLa mX8_cost 78 0 79 := ⟨0, by decide +kernel, rfl, rfl⟩
theorem rX8_cost_79 : vGf mX8_cost 79 8 18 82 := ⟨40, (RX8, TX8, 29), by decide +kernel, rfl, rfl, by decide, tF681⟩
theorem rX8_cost_82 : vCn mX8_cost 82 (nI 2) 83 := Or.inl ⟨2, by decide +kernel, by decide +kernel, rfl⟩
theorem rX8_cost_83 : vLa mX8_cost 83 0 84 := ⟨0, by decide +kernel, rfl, rfl⟩
theorem rX8_cost_84 : vGf mX8_cost 84 8 27 87 := ⟨62, (RX8, TX8, 29), by decide +kernel, rfl, rfl, by decide, tF690⟩
theorem rX8_cost_87 : vLi mX8_cost 87 3 88 := Or.inl ⟨3, by decide +kernel, rfl, rfl⟩
theorem rX8_cost_88 : vI mX8_cost 88 .iaload 1 89 := ⟨by decide +kernel, rfl⟩
theorem rX8_cost_89 : vI mX8_cost 89 .iadd 1 90 := ⟨by decide +kernel, rfl⟩
theorem rX8_cost_90 : vI mX8_cost 90 .iaload 1 91 := ⟨by decide +kernel, rfl⟩
theorem rX8_cost_91 : vI mX8_cost 91 .iaload 1 92 := ⟨by decide +kernel, rfl⟩
theorem rX8_cost_92 : vLi mX8_cost 92 4 94 := Or.inr ⟨by decide +kernel, rfl⟩
theorem rX8_cost_94 : vI mX8_cost 94 .imul 1 95 := ⟨by decide +kernel, rfl⟩
theorem rX8_cost_95 : vI mX8_cost 95 .iadd 1 96 := ⟨by decide +kernel, rfl⟩
theorem rX8_cost_96 : vSi mX8_cost 96 2 97 := ⟨Or.inl ⟨2, by decide +kernel, rfl, rfl⟩, by decide⟩
theorem rX8_cost_97 : vIn mX8_cost 97 3 (nI 1) 100 := ⟨1, by decide +kernel, by decide +kernel, by decide, rfl⟩
theorem rX8_cost_100 : vGo mX8_cost 100 27 := ⟨-73, by decide +kernel, by decide⟩
theorem rX8_cost_103 : vLi mX8_cost 103 2 104 := Or.inl ⟨2, by decide +kernel, rfl, rfl⟩
theorem rX8_cost_104 : vCn mX8_cost 104 (nI 1000000) 106 := Or.inr (Or.inr (Or.inr (Or.inl ⟨120, by decide +kernel, tF794, rfl⟩)))
theorem rX8_cost_106 : vIc mX8_cost 106 .lt 114 109 := ⟨8, by decide +kernel, by decide, rfl⟩
theorem rX8_cost_109 : vCn mX8_cost 109 (-9) 111 := Or.inr (Or.inl ⟨-9, by decide +kernel, by decide +kernel, rfl⟩)
theorem rX8_cost_111 : vGo mX8_cost 111 115 := ⟨4, by decide +kernel, by decide⟩
theorem rX8_cost_114 : vLi mX8_cost 114 2 115 := Or.inl ⟨2, by decide +kernel, rfl, rfl⟩
theorem rX8_cost_115 : vI mX8_cost 115 .ireturn 1 116 := ⟨by decide +kernel, rfl⟩
theorem rX8_home_0 : vLa mX8_home 0 0 1 := ⟨0, by decide +kernel, rfl, rfl⟩
theorem rX8_home_1 : vCn mX8_home 1 (nI 0) 2 := Or.inl ⟨0, by decide +kernel, by decide +kernel, rfl⟩
theorem rX8_home_2 : vPf mX8_home 2 8 0 5 := ⟨68, (RX8, TX8, 29), by decide +kernel, rfl, rfl, by decide, tF663, Or.inl rfl⟩
theorem rX8_home_5 : vLi mX8_home 5 1 6 := Or.inl ⟨1, by decide +kernel, rfl, rfl⟩
theorem rX8_home_6 : vCn mX8_home 6 (nI 0) 7 := Or.inl ⟨0, by decide +kernel, by decide +kernel, rfl⟩
theorem rX8_home_7 : vCn mX8_home 7 (nI 1) 8 := Or.inl ⟨1, by decide +kernel, by decide +kernel, rfl⟩
end
section
theorem rX8_home_8 : vKs mX8_home 8 mX8_in 3 11 := ⟨72, by decide +kernel, rfl, kX8_in, tF756, Or.inl tF755⟩
theorem rX8_home_11 : vIf mX8_home 11 .ne 16 14 := ⟨5, by decide +kernel, by decide, rfl⟩
theorem rX8_home_14 : vCn mX8_home 14 (-1) 15 := Or.inl ⟨-1, by decide +kernel, by decide +kernel, rfl⟩
theorem rX8_home_15 : vI mX8_home 15 .ireturn 1 16 := ⟨by decide +kernel, rfl⟩
theorem rX8_home_16 : vCn mX8_home 16 (nI 0) 17 := Or.inl ⟨0, by decide +kernel, by decide +kernel, rfl⟩
theorem rX8_home_17 : vSi mX8_home 17 2 18 := ⟨Or.inl ⟨2, by decide +kernel, rfl, rfl⟩, by decide⟩
theorem rX8_home_18 : vCn mX8_home 18 (nI 0) 19 := Or.inl ⟨0, by decide +kernel, by decide +kernel, rfl⟩
theorem rX8_home_19 : vSi mX8_home 19 3 20 := ⟨Or.inl ⟨3, by decide +kernel, rfl, rfl⟩, by decide⟩
theorem rX8_home_20 : vCn mX8_home 20 (-9) 22 := Or.inr (Or.inl ⟨-9, by decide +kernel, by decide +kernel, rfl⟩)
theorem rX8_home_22 : vSi mX8_home 22 4 24 := ⟨Or.inr ⟨by decide +kernel, rfl⟩, by decide⟩
theorem rX8_home_24 : vCn mX8_home 24 (nI 0) 25 := Or.inl ⟨0, by decide +kernel, by decide +kernel, rfl⟩
theorem rX8_home_25 : vSi mX8_home 25 5 27 := ⟨Or.inr ⟨by decide +kernel, rfl⟩, by decide⟩
theorem rX8_home_27 : vLi mX8_home 27 5 29 := Or.inr ⟨by decide +kernel, rfl⟩
theorem rX8_home_29 : vLa mX8_home 29 0 30 := ⟨0, by decide +kernel, rfl, rfl⟩
theorem rX8_home_30 : vGf mX8_home 30 8 9 33 := ⟨13, (RX8, TX8, 29), by decide +kernel, rfl, rfl, by decide, tF672⟩
theorem rX8_home_33 : vCn mX8_home 33 (nI 0) 34 := Or.inl ⟨0, by decide +kernel, by decide +kernel, rfl⟩
theorem rX8_home_34 : vI mX8_home 34 .iaload 1 35 := ⟨by decide +kernel, rfl⟩
theorem rX8_home_35 : vIc mX8_home 35 .ge 138 38 := ⟨103, by decide +kernel, by decide, rfl⟩
theorem rX8_home_38 : vLi mX8_home 38 4 40 := Or.inr ⟨by decide +kernel, rfl⟩
theorem rX8_home_40 : vCn mX8_home 40 (-9) 42 := Or.inr (Or.inl ⟨-9, by decide +kernel, by decide +kernel, rfl⟩)
theorem rX8_home_42 : vIc mX8_home 42 .ne 77 45 := ⟨35, by decide +kernel, by decide, rfl⟩
theorem rX8_home_45 : vLa mX8_home 45 0 46 := ⟨0, by decide +kernel, rfl, rfl⟩
theorem rX8_home_46 : vGf mX8_home 46 8 18 49 := ⟨40, (RX8, TX8, 29), by decide +kernel, rfl, rfl, by decide, tF681⟩
theorem rX8_home_49 : vCn mX8_home 49 (nI 2) 50 := Or.inl ⟨2, by decide +kernel, by decide +kernel, rfl⟩
theorem rX8_home_50 : vLi mX8_home 50 5 52 := Or.inr ⟨by decide +kernel, rfl⟩
theorem rX8_home_52 : vI mX8_home 52 .iadd 1 53 := ⟨by decide +kernel, rfl⟩
theorem rX8_home_53 : vI mX8_home 53 .iaload 1 54 := ⟨by decide +kernel, rfl⟩
theorem rX8_home_54 : vLi mX8_home 54 5 56 := Or.inr ⟨by decide +kernel, rfl⟩
theorem rX8_home_56 : vIc mX8_home 56 .eq 77 59 := ⟨21, by decide +kernel, by decide, rfl⟩
theorem rX8_home_59 : vCn mX8_home 59 (nI 10) 61 := Or.inr (Or.inl ⟨10, by decide +kernel, by decide +kernel, rfl⟩)
theorem rX8_home_61 : vLi mX8_home 61 5 63 := Or.inr ⟨by decide +kernel, rfl⟩
theorem rX8_home_63 : vI mX8_home 63 .imul 1 64 := ⟨by decide +kernel, rfl⟩
theorem rX8_home_64 : vLa mX8_home 64 0 65 := ⟨0, by decide +kernel, rfl, rfl⟩
theorem rX8_home_65 : vGf mX8_home 65 8 18 68 := ⟨40, (RX8, TX8, 29), by decide +kernel, rfl, rfl, by decide, tF681⟩
theorem rX8_home_68 : vLi mX8_home 68 5 70 := Or.inr ⟨by decide +kernel, rfl⟩
theorem rX8_home_70 : vKs mX8_home 70 mX8_hangs 2 73 := ⟨131, by decide +kernel, rfl, kX8_hangs, tF804, Or.inl tF803⟩
theorem rX8_home_73 : vI mX8_home 73 .iadd 1 74 := ⟨by decide +kernel, rfl⟩
theorem rX8_home_74 : vGo mX8_home 74 79 := ⟨5, by decide +kernel, by decide⟩
theorem rX8_home_77 : vLi mX8_home 77 4 79 := Or.inr ⟨by decide +kernel, rfl⟩
theorem rX8_home_79 : vSi mX8_home 79 4 81 := ⟨Or.inr ⟨by decide +kernel, rfl⟩, by decide⟩
theorem rX8_home_81 : vLi mX8_home 81 3 82 := Or.inl ⟨3, by decide +kernel, rfl, rfl⟩
theorem rX8_home_82 : vLi mX8_home 82 2 83 := Or.inl ⟨2, by decide +kernel, rfl, rfl⟩
theorem rX8_home_83 : vLi mX8_home 83 5 85 := Or.inr ⟨by decide +kernel, rfl⟩
theorem rX8_home_85 : vI mX8_home 85 .ishr 1 86 := ⟨by decide +kernel, rfl⟩
theorem rX8_home_86 : vCn mX8_home 86 (nI 1) 87 := Or.inl ⟨1, by decide +kernel, by decide +kernel, rfl⟩
theorem rX8_home_87 : vI mX8_home 87 .iand 1 88 := ⟨by decide +kernel, rfl⟩
theorem rX8_home_88 : vIf mX8_home 88 .ne 95 91 := ⟨7, by decide +kernel, by decide, rfl⟩
theorem rX8_home_91 : vCn mX8_home 91 (nI 0) 92 := Or.inl ⟨0, by decide +kernel, by decide +kernel, rfl⟩
theorem rX8_home_92 : vGo mX8_home 92 96 := ⟨4, by decide +kernel, by decide⟩
theorem rX8_home_95 : vCn mX8_home 95 (nI 1) 96 := Or.inl ⟨1, by decide +kernel, by decide +kernel, rfl⟩
theorem rX8_home_96 : vI mX8_home 96 .iadd 1 97 := ⟨by decide +kernel, rfl⟩
theorem rX8_home_97 : vSi mX8_home 97 3 98 := ⟨Or.inl ⟨3, by decide +kernel, rfl, rfl⟩, by decide⟩
theorem rX8_home_98 : vLi mX8_home 98 5 100 := Or.inr ⟨by decide +kernel, rfl⟩
theorem rX8_home_100 : vSi mX8_home 100 6 102 := ⟨Or.inr ⟨by decide +kernel, rfl⟩, by decide⟩
theorem rX8_home_102 : vLi mX8_home 102 2 103 := Or.inl ⟨2, by decide +kernel, rfl, rfl⟩
theorem rX8_home_103 : vLi mX8_home 103 6 105 := Or.inr ⟨by decide +kernel, rfl⟩
theorem rX8_home_105 : vI mX8_home 105 .ishr 1 106 := ⟨by decide +kernel, rfl⟩
theorem rX8_home_106 : vCn mX8_home 106 (nI 1) 107 := Or.inl ⟨1, by decide +kernel, by decide +kernel, rfl⟩
theorem rX8_home_107 : vI mX8_home 107 .iand 1 108 := ⟨by decide +kernel, rfl⟩
theorem rX8_home_108 : vIf mX8_home 108 .ne 132 111 := ⟨24, by decide +kernel, by decide, rfl⟩
theorem rX8_home_111 : vLi mX8_home 111 2 112 := Or.inl ⟨2, by decide +kernel, rfl, rfl⟩
theorem rX8_home_112 : vCn mX8_home 112 (nI 1) 113 := Or.inl ⟨1, by decide +kernel, by decide +kernel, rfl⟩
theorem rX8_home_113 : vLi mX8_home 113 6 115 := Or.inr ⟨by decide +kernel, rfl⟩
theorem rX8_home_115 : vI mX8_home 115 .ishl 1 116 := ⟨by decide +kernel, rfl⟩
theorem rX8_home_116 : vI mX8_home 116 .ior 1 117 := ⟨by decide +kernel, rfl⟩
theorem rX8_home_117 : vSi mX8_home 117 2 118 := ⟨Or.inl ⟨2, by decide +kernel, rfl, rfl⟩, by decide⟩
theorem rX8_home_118 : vLa mX8_home 118 0 119 := ⟨0, by decide +kernel, rfl, rfl⟩
theorem rX8_home_119 : vGf mX8_home 119 8 18 122 := ⟨40, (RX8, TX8, 29), by decide +kernel, rfl, rfl, by decide, tF681⟩
theorem rX8_home_122 : vCn mX8_home 122 (nI 2) 123 := Or.inl ⟨2, by decide +kernel, by decide +kernel, rfl⟩
theorem rX8_home_123 : vLi mX8_home 123 6 125 := Or.inr ⟨by decide +kernel, rfl⟩
theorem rX8_home_125 : vI mX8_home 125 .iadd 1 126 := ⟨by decide +kernel, rfl⟩
theorem rX8_home_126 : vI mX8_home 126 .iaload 1 127 := ⟨by decide +kernel, rfl⟩
theorem rX8_home_127 : vSi mX8_home 127 6 129 := ⟨Or.inr ⟨by decide +kernel, rfl⟩, by decide⟩
theorem rX8_home_129 : vGo mX8_home 129 102 := ⟨-27, by decide +kernel, by decide⟩
theorem rX8_home_132 : vIn mX8_home 132 5 (nI 1) 135 := ⟨1, by decide +kernel, by decide +kernel, by decide, rfl⟩
theorem rX8_home_135 : vGo mX8_home 135 27 := ⟨-108, by decide +kernel, by decide⟩
theorem rX8_home_138 : vLi mX8_home 138 1 139 := Or.inl ⟨1, by decide +kernel, rfl, rfl⟩
theorem rX8_home_139 : vIf mX8_home 139 .ne 146 142 := ⟨7, by decide +kernel, by decide, rfl⟩
theorem rX8_home_142 : vLi mX8_home 142 3 143 := Or.inl ⟨3, by decide +kernel, rfl, rfl⟩
theorem rX8_home_143 : vGo mX8_home 143 148 := ⟨5, by decide +kernel, by decide⟩
theorem rX8_home_146 : vLi mX8_home 146 4 148 := Or.inr ⟨by decide +kernel, rfl⟩
theorem rX8_home_148 : vI mX8_home 148 .ireturn 1 149 := ⟨by decide +kernel, rfl⟩
theorem rX8_isRow_0 : vLi mX8_isRow 0 1 1 := Or.inl ⟨1, by decide +kernel, rfl, rfl⟩
theorem rX8_isRow_1 : vSi mX8_isRow 1 2 2 := ⟨Or.inl ⟨2, by decide +kernel, rfl, rfl⟩, by decide⟩
theorem rX8_isRow_2 : vCn mX8_isRow 2 (nI 0) 3 := Or.inl ⟨0, by decide +kernel, by decide +kernel, rfl⟩
theorem rX8_isRow_3 : vSi mX8_isRow 3 3 4 := ⟨Or.inl ⟨3, by decide +kernel, rfl, rfl⟩, by decide⟩
theorem rX8_isRow_4 : vCn mX8_isRow 4 (nI 1) 5 := Or.inl ⟨1, by decide +kernel, by decide +kernel, rfl⟩
theorem rX8_isRow_5 : vSi mX8_isRow 5 4 7 := ⟨Or.inr ⟨by decide +kernel, rfl⟩, by decide⟩
theorem rX8_isRow_7 : vLa mX8_isRow 7 0 8 := ⟨0, by decide +kernel, rfl, rfl⟩
theorem rX8_isRow_8 : vGf mX8_isRow 8 8 9 11 := ⟨13, (RX8, TX8, 29), by decide +kernel, rfl, rfl, by decide, tF672⟩
theorem rX8_isRow_11 : vCn mX8_isRow 11 (nI 0) 12 := Or.inl ⟨0, by decide +kernel, by decide +kernel, rfl⟩
theorem rX8_isRow_12 : vI mX8_isRow 12 .iaload 1 13 := ⟨by decide +kernel, rfl⟩
theorem rX8_isRow_13 : vCn mX8_isRow 13 (nI 1) 14 := Or.inl ⟨1, by decide +kernel, by decide +kernel, rfl⟩
theorem rX8_isRow_14 : vI mX8_isRow 14 .isub 1 15 := ⟨by decide +kernel, rfl⟩
theorem rX8_isRow_15 : vSi mX8_isRow 15 5 17 := ⟨Or.inr ⟨by decide +kernel, rfl⟩, by decide⟩
theorem rX8_isRow_17 : vLi mX8_isRow 17 5 19 := Or.inr ⟨by decide +kernel, rfl⟩
theorem rX8_isRow_19 : vIf mX8_isRow 19 .lt 90 22 := ⟨71, by decide +kernel, by decide, rfl⟩
theorem rX8_isRow_22 : vLa mX8_isRow 22 0 23 := ⟨0, by decide +kernel, rfl, rfl⟩
theorem rX8_isRow_23 : vGf mX8_isRow 23 8 27 26 := ⟨62, (RX8, TX8, 29), by decide +kernel, rfl, rfl, by decide, tF690⟩
theorem rX8_isRow_26 : vLi mX8_isRow 26 5 28 := Or.inr ⟨by decide +kernel, rfl⟩
theorem rX8_isRow_28 : vLi mX8_isRow 28 2 29 := Or.inl ⟨2, by decide +kernel, rfl, rfl⟩
theorem rX8_isRow_29 : vLa mX8_isRow 29 0 30 := ⟨0, by decide +kernel, rfl, rfl⟩
theorem rX8_isRow_30 : vGf mX8_isRow 30 8 9 33 := ⟨13, (RX8, TX8, 29), by decide +kernel, rfl, rfl, by decide, tF672⟩
theorem rX8_isRow_33 : vCn mX8_isRow 33 (nI 0) 34 := Or.inl ⟨0, by decide +kernel, by decide +kernel, rfl⟩
theorem rX8_isRow_34 : vI mX8_isRow 34 .iaload 1 35 := ⟨by decide +kernel, rfl⟩
theorem rX8_isRow_35 : vI mX8_isRow 35 .irem 1 36 := ⟨by decide +kernel, rfl⟩
theorem rX8_isRow_36 : vI mX8_isRow 36 .iastore 1 37 := ⟨by decide +kernel, rfl⟩
theorem rX8_isRow_37 : vLi mX8_isRow 37 2 38 := Or.inl ⟨2, by decide +kernel, rfl, rfl⟩
theorem rX8_isRow_38 : vLa mX8_isRow 38 0 39 := ⟨0, by decide +kernel, rfl, rfl⟩
theorem rX8_isRow_39 : vGf mX8_isRow 39 8 9 42 := ⟨13, (RX8, TX8, 29), by decide +kernel, rfl, rfl, by decide, tF672⟩
theorem rX8_isRow_42 : vCn mX8_isRow 42 (nI 0) 43 := Or.inl ⟨0, by decide +kernel, by decide +kernel, rfl⟩
theorem rX8_isRow_43 : vI mX8_isRow 43 .iaload 1 44 := ⟨by decide +kernel, rfl⟩
theorem rX8_isRow_44 : vI mX8_isRow 44 .idiv 1 45 := ⟨by decide +kernel, rfl⟩
theorem rX8_isRow_45 : vSi mX8_isRow 45 2 46 := ⟨Or.inl ⟨2, by decide +kernel, rfl, rfl⟩, by decide⟩
theorem rX8_isRow_46 : vLi mX8_isRow 46 4 48 := Or.inr ⟨by decide +kernel, rfl⟩
theorem rX8_isRow_48 : vIf mX8_isRow 48 .eq 69 51 := ⟨21, by decide +kernel, by decide, rfl⟩
theorem rX8_isRow_51 : vLi mX8_isRow 51 3 52 := Or.inl ⟨3, by decide +kernel, rfl, rfl⟩
theorem rX8_isRow_52 : vLa mX8_isRow 52 0 53 := ⟨0, by decide +kernel, rfl, rfl⟩
theorem rX8_isRow_53 : vGf mX8_isRow 53 8 27 56 := ⟨62, (RX8, TX8, 29), by decide +kernel, rfl, rfl, by decide, tF690⟩
theorem rX8_isRow_56 : vLi mX8_isRow 56 5 58 := Or.inr ⟨by decide +kernel, rfl⟩
theorem rX8_isRow_58 : vI mX8_isRow 58 .iaload 1 59 := ⟨by decide +kernel, rfl⟩
theorem rX8_isRow_59 : vI mX8_isRow 59 .ishr 1 60 := ⟨by decide +kernel, rfl⟩
theorem rX8_isRow_60 : vCn mX8_isRow 60 (nI 1) 61 := Or.inl ⟨1, by decide +kernel, by decide +kernel, rfl⟩
theorem rX8_isRow_61 : vI mX8_isRow 61 .iand 1 62 := ⟨by decide +kernel, rfl⟩
theorem rX8_isRow_62 : vIf mX8_isRow 62 .ne 69 65 := ⟨7, by decide +kernel, by decide, rfl⟩
theorem rX8_isRow_65 : vCn mX8_isRow 65 (nI 1) 66 := Or.inl ⟨1, by decide +kernel, by decide +kernel, rfl⟩
theorem rX8_isRow_66 : vGo mX8_isRow 66 70 := ⟨4, by decide +kernel, by decide⟩
theorem rX8_isRow_69 : vCn mX8_isRow 69 (nI 0) 70 := Or.inl ⟨0, by decide +kernel, by decide +kernel, rfl⟩
theorem rX8_isRow_70 : vSi mX8_isRow 70 4 72 := ⟨Or.inr ⟨by decide +kernel, rfl⟩, by decide⟩
theorem rX8_isRow_72 : vLi mX8_isRow 72 3 73 := Or.inl ⟨3, by decide +kernel, rfl, rfl⟩
theorem rX8_isRow_73 : vCn mX8_isRow 73 (nI 1) 74 := Or.inl ⟨1, by decide +kernel, by decide +kernel, rfl⟩
theorem rX8_isRow_74 : vLa mX8_isRow 74 0 75 := ⟨0, by decide +kernel, rfl, rfl⟩
theorem rX8_isRow_75 : vGf mX8_isRow 75 8 27 78 := ⟨62, (RX8, TX8, 29), by decide +kernel, rfl, rfl, by decide, tF690⟩
theorem rX8_isRow_78 : vLi mX8_isRow 78 5 80 := Or.inr ⟨by decide +kernel, rfl⟩
theorem rX8_isRow_80 : vI mX8_isRow 80 .iaload 1 81 := ⟨by decide +kernel, rfl⟩
theorem rX8_isRow_81 : vI mX8_isRow 81 .ishl 1 82 := ⟨by decide +kernel, rfl⟩
theorem rX8_isRow_82 : vI mX8_isRow 82 .ior 1 83 := ⟨by decide +kernel, rfl⟩
theorem rX8_isRow_83 : vSi mX8_isRow 83 3 84 := ⟨Or.inl ⟨3, by decide +kernel, rfl, rfl⟩, by decide⟩
theorem rX8_isRow_84 : vIn mX8_isRow 84 5 (-1) 87 := ⟨-1, by decide +kernel, by decide +kernel, by decide, rfl⟩
theorem rX8_isRow_87 : vGo mX8_isRow 87 17 := ⟨-70, by decide +kernel, by decide⟩
theorem rX8_isRow_90 : vLi mX8_isRow 90 4 92 := Or.inr ⟨by decide +kernel, rfl⟩
theorem rX8_isRow_92 : vI mX8_isRow 92 .ireturn 1 93 := ⟨by decide +kernel, rfl⟩
theorem rX8_rows_0 : vCn mX8_rows 0 (nI 1) 1 := Or.inl ⟨1, by decide +kernel, by decide +kernel, rfl⟩
theorem rX8_rows_1 : vSi mX8_rows 1 1 2 := ⟨Or.inl ⟨1, by decide +kernel, rfl, rfl⟩, by decide⟩
theorem rX8_rows_2 : vCn mX8_rows 2 (nI 0) 3 := Or.inl ⟨0, by decide +kernel, by decide +kernel, rfl⟩
theorem rX8_rows_3 : vSi mX8_rows 3 2 4 := ⟨Or.inl ⟨2, by decide +kernel, rfl, rfl⟩, by decide⟩
theorem rX8_rows_4 : vLi mX8_rows 4 2 5 := Or.inl ⟨2, by decide +kernel, rfl, rfl⟩
theorem rX8_rows_5 : vLa mX8_rows 5 0 6 := ⟨0, by decide +kernel, rfl, rfl⟩
theorem rX8_rows_6 : vGf mX8_rows 6 8 9 9 := ⟨13, (RX8, TX8, 29), by decide +kernel, rfl, rfl, by decide, tF672⟩
theorem rX8_rows_9 : vCn mX8_rows 9 (nI 0) 10 := Or.inl ⟨0, by decide +kernel, by decide +kernel, rfl⟩
theorem rX8_rows_10 : vI mX8_rows 10 .iaload 1 11 := ⟨by decide +kernel, rfl⟩
theorem rX8_rows_11 : vIc mX8_rows 11 .ge 29 14 := ⟨18, by decide +kernel, by decide, rfl⟩
theorem rX8_rows_14 : vLi mX8_rows 14 1 15 := Or.inl ⟨1, by decide +kernel, rfl, rfl⟩
theorem rX8_rows_15 : vLa mX8_rows 15 0 16 := ⟨0, by decide +kernel, rfl, rfl⟩
theorem rX8_rows_16 : vGf mX8_rows 16 8 9 19 := ⟨13, (RX8, TX8, 29), by decide +kernel, rfl, rfl, by decide, tF672⟩
theorem rX8_rows_19 : vCn mX8_rows 19 (nI 0) 20 := Or.inl ⟨0, by decide +kernel, by decide +kernel, rfl⟩
theorem rX8_rows_20 : vI mX8_rows 20 .iaload 1 21 := ⟨by decide +kernel, rfl⟩
theorem rX8_rows_21 : vI mX8_rows 21 .imul 1 22 := ⟨by decide +kernel, rfl⟩
theorem rX8_rows_22 : vSi mX8_rows 22 1 23 := ⟨Or.inl ⟨1, by decide +kernel, rfl, rfl⟩, by decide⟩
theorem rX8_rows_23 : vIn mX8_rows 23 2 (nI 1) 26 := ⟨1, by decide +kernel, by decide +kernel, by decide, rfl⟩
theorem rX8_rows_26 : vGo mX8_rows 26 4 := ⟨-22, by decide +kernel, by decide⟩
theorem rX8_rows_29 : vLi mX8_rows 29 1 30 := Or.inl ⟨1, by decide +kernel, rfl, rfl⟩
theorem rX8_rows_30 : vI mX8_rows 30 .ireturn 1 31 := ⟨by decide +kernel, rfl⟩
theorem rX8_isBorne_0 : vCn mX8_isBorne 0 (nI 1) 1 := Or.inl ⟨1, by decide +kernel, by decide +kernel, rfl⟩
theorem rX8_isBorne_1 : vSi mX8_isBorne 1 1 2 := ⟨Or.inl ⟨1, by decide +kernel, rfl, rfl⟩, by decide⟩
theorem rX8_isBorne_2 : vCn mX8_isBorne 2 (nI 0) 3 := Or.inl ⟨0, by decide +kernel, by decide +kernel, rfl⟩
theorem rX8_isBorne_3 : vSi mX8_isBorne 3 2 4 := ⟨Or.inl ⟨2, by decide +kernel, rfl, rfl⟩, by decide⟩
theorem rX8_isBorne_4 : vLi mX8_isBorne 4 2 5 := Or.inl ⟨2, by decide +kernel, rfl, rfl⟩
theorem rX8_isBorne_5 : vLa mX8_isBorne 5 0 6 := ⟨0, by decide +kernel, rfl, rfl⟩
theorem rX8_isBorne_6 : vGf mX8_isBorne 6 8 9 9 := ⟨13, (RX8, TX8, 29), by decide +kernel, rfl, rfl, by decide, tF672⟩
theorem rX8_isBorne_9 : vCn mX8_isBorne 9 (nI 0) 10 := Or.inl ⟨0, by decide +kernel, by decide +kernel, rfl⟩
theorem rX8_isBorne_10 : vI mX8_isBorne 10 .iaload 1 11 := ⟨by decide +kernel, rfl⟩
theorem rX8_isBorne_11 : vIc mX8_isBorne 11 .ge 53 14 := ⟨42, by decide +kernel, by decide, rfl⟩
theorem rX8_isBorne_14 : vLi mX8_isBorne 14 1 15 := Or.inl ⟨1, by decide +kernel, rfl, rfl⟩
theorem rX8_isBorne_15 : vIf mX8_isBorne 15 .eq 45 18 := ⟨30, by decide +kernel, by decide, rfl⟩
theorem rX8_isBorne_18 : vLa mX8_isBorne 18 0 19 := ⟨0, by decide +kernel, rfl, rfl⟩
theorem rX8_isBorne_19 : vGf mX8_isBorne 19 8 18 22 := ⟨40, (RX8, TX8, 29), by decide +kernel, rfl, rfl, by decide, tF681⟩
theorem rX8_isBorne_22 : vCn mX8_isBorne 22 (nI 8) 24 := Or.inr (Or.inl ⟨8, by decide +kernel, by decide +kernel, rfl⟩)
theorem rX8_isBorne_24 : vLi mX8_isBorne 24 2 25 := Or.inl ⟨2, by decide +kernel, rfl, rfl⟩
theorem rX8_isBorne_25 : vI mX8_isBorne 25 .iadd 1 26 := ⟨by decide +kernel, rfl⟩
theorem rX8_isBorne_26 : vI mX8_isBorne 26 .iaload 1 27 := ⟨by decide +kernel, rfl⟩
theorem rX8_isBorne_27 : vLa mX8_isBorne 27 0 28 := ⟨0, by decide +kernel, rfl, rfl⟩
theorem rX8_isBorne_28 : vGf mX8_isBorne 28 8 11 31 := ⟨19, (RX8, TX8, 29), by decide +kernel, rfl, rfl, by decide, tF674⟩
theorem rX8_isBorne_31 : vLa mX8_isBorne 31 0 32 := ⟨0, by decide +kernel, rfl, rfl⟩
theorem rX8_isBorne_32 : vGf mX8_isBorne 32 8 27 35 := ⟨62, (RX8, TX8, 29), by decide +kernel, rfl, rfl, by decide, tF690⟩
theorem rX8_isBorne_35 : vLi mX8_isBorne 35 2 36 := Or.inl ⟨2, by decide +kernel, rfl, rfl⟩
theorem rX8_isBorne_36 : vI mX8_isBorne 36 .iaload 1 37 := ⟨by decide +kernel, rfl⟩
theorem rX8_isBorne_37 : vI mX8_isBorne 37 .iaload 1 38 := ⟨by decide +kernel, rfl⟩
theorem rX8_isBorne_38 : vIc mX8_isBorne 38 .lt 45 41 := ⟨7, by decide +kernel, by decide, rfl⟩
theorem rX8_isBorne_41 : vCn mX8_isBorne 41 (nI 1) 42 := Or.inl ⟨1, by decide +kernel, by decide +kernel, rfl⟩
theorem rX8_isBorne_42 : vGo mX8_isBorne 42 46 := ⟨4, by decide +kernel, by decide⟩
theorem rX8_isBorne_45 : vCn mX8_isBorne 45 (nI 0) 46 := Or.inl ⟨0, by decide +kernel, by decide +kernel, rfl⟩
theorem rX8_isBorne_46 : vSi mX8_isBorne 46 1 47 := ⟨Or.inl ⟨1, by decide +kernel, rfl, rfl⟩, by decide⟩
theorem rX8_isBorne_47 : vIn mX8_isBorne 47 2 (nI 1) 50 := ⟨1, by decide +kernel, by decide +kernel, by decide, rfl⟩
theorem rX8_isBorne_50 : vGo mX8_isBorne 50 4 := ⟨-46, by decide +kernel, by decide⟩
theorem rX8_isBorne_53 : vLi mX8_isBorne 53 1 54 := Or.inl ⟨1, by decide +kernel, rfl, rfl⟩
theorem rX8_isBorne_54 : vI mX8_isBorne 54 .ireturn 1 55 := ⟨by decide +kernel, rfl⟩
theorem rX8_costOfRow_0 : vCn mX8_costOfRow 0 (nI 0) 1 := Or.inl ⟨0, by decide +kernel, by decide +kernel, rfl⟩
theorem rX8_costOfRow_1 : vSi mX8_costOfRow 1 1 2 := ⟨Or.inl ⟨1, by decide +kernel, rfl, rfl⟩, by decide⟩
theorem rX8_costOfRow_2 : vCn mX8_costOfRow 2 (nI 0) 3 := Or.inl ⟨0, by decide +kernel, by decide +kernel, rfl⟩
theorem rX8_costOfRow_3 : vSi mX8_costOfRow 3 2 4 := ⟨Or.inl ⟨2, by decide +kernel, rfl, rfl⟩, by decide⟩
theorem rX8_costOfRow_4 : vLi mX8_costOfRow 4 2 5 := Or.inl ⟨2, by decide +kernel, rfl, rfl⟩
theorem rX8_costOfRow_5 : vLa mX8_costOfRow 5 0 6 := ⟨0, by decide +kernel, rfl, rfl⟩
theorem rX8_costOfRow_6 : vGf mX8_costOfRow 6 8 9 9 := ⟨13, (RX8, TX8, 29), by decide +kernel, rfl, rfl, by decide, tF672⟩
theorem rX8_costOfRow_9 : vCn mX8_costOfRow 9 (nI 0) 10 := Or.inl ⟨0, by decide +kernel, by decide +kernel, rfl⟩
theorem rX8_costOfRow_10 : vI mX8_costOfRow 10 .iaload 1 11 := ⟨by decide +kernel, rfl⟩
theorem rX8_costOfRow_11 : vIc mX8_costOfRow 11 .ge 77 14 := ⟨66, by decide +kernel, by decide, rfl⟩
theorem rX8_costOfRow_14 : vLa mX8_costOfRow 14 0 15 := ⟨0, by decide +kernel, rfl, rfl⟩
theorem rX8_costOfRow_15 : vGf mX8_costOfRow 15 8 17 18 := ⟨37, (RX8, TX8, 29), by decide +kernel, rfl, rfl, by decide, tF680⟩
theorem rX8_costOfRow_18 : vCn mX8_costOfRow 18 (nI 6) 20 := Or.inr (Or.inl ⟨6, by decide +kernel, by decide +kernel, rfl⟩)
theorem rX8_costOfRow_20 : vLa mX8_costOfRow 20 0 21 := ⟨0, by decide +kernel, rfl, rfl⟩
theorem rX8_costOfRow_21 : vGf mX8_costOfRow 21 8 18 24 := ⟨40, (RX8, TX8, 29), by decide +kernel, rfl, rfl, by decide, tF681⟩
theorem rX8_costOfRow_24 : vLa mX8_costOfRow 24 0 25 := ⟨0, by decide +kernel, rfl, rfl⟩
theorem rX8_costOfRow_25 : vGf mX8_costOfRow 25 8 27 28 := ⟨62, (RX8, TX8, 29), by decide +kernel, rfl, rfl, by decide, tF690⟩
theorem rX8_costOfRow_28 : vLi mX8_costOfRow 28 2 29 := Or.inl ⟨2, by decide +kernel, rfl, rfl⟩
theorem rX8_costOfRow_29 : vI mX8_costOfRow 29 .iaload 1 30 := ⟨by decide +kernel, rfl⟩
theorem rX8_costOfRow_30 : vKs mX8_costOfRow 30 mX8_hangs 2 33 := ⟨131, by decide +kernel, rfl, kX8_hangs, tF804, Or.inl tF803⟩
theorem rX8_costOfRow_33 : vI mX8_costOfRow 33 .imul 1 34 := ⟨by decide +kernel, rfl⟩
theorem rX8_costOfRow_34 : vLi mX8_costOfRow 34 2 35 := Or.inl ⟨2, by decide +kernel, rfl, rfl⟩
theorem rX8_costOfRow_35 : vI mX8_costOfRow 35 .iadd 1 36 := ⟨by decide +kernel, rfl⟩
theorem rX8_costOfRow_36 : vI mX8_costOfRow 36 .iaload 1 37 := ⟨by decide +kernel, rfl⟩
theorem rX8_costOfRow_37 : vSi mX8_costOfRow 37 3 38 := ⟨Or.inl ⟨3, by decide +kernel, rfl, rfl⟩, by decide⟩
theorem rX8_costOfRow_38 : vLi mX8_costOfRow 38 3 39 := Or.inl ⟨3, by decide +kernel, rfl, rfl⟩
theorem rX8_costOfRow_39 : vCn mX8_costOfRow 39 (nI 1000000) 41 := Or.inr (Or.inr (Or.inr (Or.inl ⟨120, by decide +kernel, tF794, rfl⟩)))
theorem rX8_costOfRow_41 : vIc mX8_costOfRow 41 .ge 50 44 := ⟨9, by decide +kernel, by decide, rfl⟩
theorem rX8_costOfRow_44 : vLi mX8_costOfRow 44 1 45 := Or.inl ⟨1, by decide +kernel, rfl, rfl⟩
theorem rX8_costOfRow_45 : vCn mX8_costOfRow 45 (nI 1000000) 47 := Or.inr (Or.inr (Or.inr (Or.inl ⟨120, by decide +kernel, tF794, rfl⟩)))
theorem rX8_costOfRow_47 : vIc mX8_costOfRow 47 .lt 55 50 := ⟨8, by decide +kernel, by decide, rfl⟩
theorem rX8_costOfRow_50 : vCn mX8_costOfRow 50 (nI 1000000) 52 := Or.inr (Or.inr (Or.inr (Or.inl ⟨120, by decide +kernel, tF794, rfl⟩)))
theorem rX8_costOfRow_52 : vGo mX8_costOfRow 52 70 := ⟨18, by decide +kernel, by decide⟩
theorem rX8_costOfRow_55 : vLi mX8_costOfRow 55 1 56 := Or.inl ⟨1, by decide +kernel, rfl, rfl⟩
theorem rX8_costOfRow_56 : vLa mX8_costOfRow 56 0 57 := ⟨0, by decide +kernel, rfl, rfl⟩
theorem rX8_costOfRow_57 : vGf mX8_costOfRow 57 8 11 60 := ⟨19, (RX8, TX8, 29), by decide +kernel, rfl, rfl, by decide, tF674⟩
theorem rX8_costOfRow_60 : vLa mX8_costOfRow 60 0 61 := ⟨0, by decide +kernel, rfl, rfl⟩
theorem rX8_costOfRow_61 : vGf mX8_costOfRow 61 8 27 64 := ⟨62, (RX8, TX8, 29), by decide +kernel, rfl, rfl, by decide, tF690⟩
theorem rX8_costOfRow_64 : vLi mX8_costOfRow 64 2 65 := Or.inl ⟨2, by decide +kernel, rfl, rfl⟩
theorem rX8_costOfRow_65 : vI mX8_costOfRow 65 .iaload 1 66 := ⟨by decide +kernel, rfl⟩
theorem rX8_costOfRow_66 : vI mX8_costOfRow 66 .iaload 1 67 := ⟨by decide +kernel, rfl⟩
theorem rX8_costOfRow_67 : vLi mX8_costOfRow 67 3 68 := Or.inl ⟨3, by decide +kernel, rfl, rfl⟩
theorem rX8_costOfRow_68 : vI mX8_costOfRow 68 .imul 1 69 := ⟨by decide +kernel, rfl⟩
theorem rX8_costOfRow_69 : vI mX8_costOfRow 69 .iadd 1 70 := ⟨by decide +kernel, rfl⟩
theorem rX8_costOfRow_70 : vSi mX8_costOfRow 70 1 71 := ⟨Or.inl ⟨1, by decide +kernel, rfl, rfl⟩, by decide⟩
theorem rX8_costOfRow_71 : vIn mX8_costOfRow 71 2 (nI 1) 74 := ⟨1, by decide +kernel, by decide +kernel, by decide, rfl⟩
theorem rX8_costOfRow_74 : vGo mX8_costOfRow 74 4 := ⟨-70, by decide +kernel, by decide⟩
theorem rX8_costOfRow_77 : vLi mX8_costOfRow 77 1 78 := Or.inl ⟨1, by decide +kernel, rfl, rfl⟩
theorem rX8_costOfRow_78 : vI mX8_costOfRow 78 .ireturn 1 79 := ⟨by decide +kernel, rfl⟩
theorem rX8_hang_0 : vLa mX8_hang 0 0 1 := ⟨0, by decide +kernel, rfl, rfl⟩
theorem rX8_hang_1 : vCn mX8_hang 1 (nI 0) 2 := Or.inl ⟨0, by decide +kernel, by decide +kernel, rfl⟩
theorem rX8_hang_2 : vPf mX8_hang 2 8 0 5 := ⟨68, (RX8, TX8, 29), by decide +kernel, rfl, rfl, by decide, tF663, Or.inl rfl⟩
theorem rX8_hang_5 : vLi mX8_hang 5 1 6 := Or.inl ⟨1, by decide +kernel, rfl, rfl⟩
theorem rX8_hang_6 : vCn mX8_hang 6 (-1) 7 := Or.inl ⟨-1, by decide +kernel, by decide +kernel, rfl⟩
theorem rX8_hang_7 : vIc mX8_hang 7 .eq 20 10 := ⟨13, by decide +kernel, by decide, rfl⟩
theorem rX8_hang_10 : vLa mX8_hang 10 0 11 := ⟨0, by decide +kernel, rfl, rfl⟩
theorem rX8_hang_11 : vLi mX8_hang 11 1 12 := Or.inl ⟨1, by decide +kernel, rfl, rfl⟩
theorem rX8_hang_12 : vKv mX8_hang 12 mX8_isTown 1 8 15 := ⟨127, (RX8, TX8, 29), by decide +kernel, rfl, kX8_isTown, tF801, tF799, tS33, rfl, rfl⟩
theorem rX8_hang_15 : vIf mX8_hang 15 .ne 20 18 := ⟨5, by decide +kernel, by decide, rfl⟩
theorem rX8_hang_18 : vCn mX8_hang 18 (-1) 19 := Or.inl ⟨-1, by decide +kernel, by decide +kernel, rfl⟩
theorem rX8_hang_19 : vI mX8_hang 19 .ireturn 1 20 := ⟨by decide +kernel, rfl⟩
theorem rX8_hang_20 : vCn mX8_hang 20 (nI 1000000) 22 := Or.inr (Or.inr (Or.inr (Or.inl ⟨120, by decide +kernel, tF794, rfl⟩)))
theorem rX8_hang_22 : vSi mX8_hang 22 2 23 := ⟨Or.inl ⟨2, by decide +kernel, rfl, rfl⟩, by decide⟩
theorem rX8_hang_23 : vCn mX8_hang 23 (nI 0) 24 := Or.inl ⟨0, by decide +kernel, by decide +kernel, rfl⟩
theorem rX8_hang_24 : vSi mX8_hang 24 3 25 := ⟨Or.inl ⟨3, by decide +kernel, rfl, rfl⟩, by decide⟩
theorem rX8_hang_25 : vLi mX8_hang 25 3 26 := Or.inl ⟨3, by decide +kernel, rfl, rfl⟩
theorem rX8_hang_26 : vLa mX8_hang 26 0 27 := ⟨0, by decide +kernel, rfl, rfl⟩
theorem rX8_hang_27 : vKv mX8_hang 27 mX8_rows 0 8 30 := ⟨165, (RX8, TX8, 29), by decide +kernel, rfl, kX8_rows, tF888, tF886, tS41, rfl, rfl⟩
theorem rX8_hang_30 : vIc mX8_hang 30 .ge 101 33 := ⟨71, by decide +kernel, by decide, rfl⟩
theorem rX8_hang_33 : vLa mX8_hang 33 0 34 := ⟨0, by decide +kernel, rfl, rfl⟩
theorem rX8_hang_34 : vLi mX8_hang 34 3 35 := Or.inl ⟨3, by decide +kernel, rfl, rfl⟩
theorem rX8_hang_35 : vKv mX8_hang 35 mX8_isRow 1 8 38 := ⟨169, (RX8, TX8, 29), by decide +kernel, rfl, kX8_isRow, tF892, tF890, tS42, rfl, rfl⟩
theorem rX8_hang_38 : vIf mX8_hang 38 .eq 95 41 := ⟨57, by decide +kernel, by decide, rfl⟩
theorem rX8_hang_41 : vLa mX8_hang 41 0 42 := ⟨0, by decide +kernel, rfl, rfl⟩
theorem rX8_hang_42 : vKv mX8_hang 42 mX8_isBorne 0 8 45 := ⟨172, (RX8, TX8, 29), by decide +kernel, rfl, kX8_isBorne, tF896, tF894, tS43, rfl, rfl⟩
theorem rX8_hang_45 : vIf mX8_hang 45 .eq 95 48 := ⟨50, by decide +kernel, by decide, rfl⟩
theorem rX8_hang_48 : vLa mX8_hang 48 0 49 := ⟨0, by decide +kernel, rfl, rfl⟩
theorem rX8_hang_49 : vKv mX8_hang 49 mX8_costOfRow 0 8 52 := ⟨175, (RX8, TX8, 29), by decide +kernel, rfl, kX8_costOfRow, tF900, tF898, tS44, rfl, rfl⟩
theorem rX8_hang_52 : vLi mX8_hang 52 2 53 := Or.inl ⟨2, by decide +kernel, rfl, rfl⟩
theorem rX8_hang_53 : vIc mX8_hang 53 .ge 95 56 := ⟨42, by decide +kernel, by decide, rfl⟩
theorem rX8_hang_56 : vLa mX8_hang 56 0 57 := ⟨0, by decide +kernel, rfl, rfl⟩
theorem rX8_hang_57 : vKv mX8_hang 57 mX8_costOfRow 0 8 60 := ⟨175, (RX8, TX8, 29), by decide +kernel, rfl, kX8_costOfRow, tF900, tF898, tS44, rfl, rfl⟩
theorem rX8_hang_60 : vSi mX8_hang 60 2 61 := ⟨Or.inl ⟨2, by decide +kernel, rfl, rfl⟩, by decide⟩
theorem rX8_hang_61 : vCn mX8_hang 61 (nI 0) 62 := Or.inl ⟨0, by decide +kernel, by decide +kernel, rfl⟩
theorem rX8_hang_62 : vSi mX8_hang 62 4 64 := ⟨Or.inr ⟨by decide +kernel, rfl⟩, by decide⟩
theorem rX8_hang_64 : vLi mX8_hang 64 4 66 := Or.inr ⟨by decide +kernel, rfl⟩
theorem rX8_hang_66 : vLa mX8_hang 66 0 67 := ⟨0, by decide +kernel, rfl, rfl⟩
theorem rX8_hang_67 : vGf mX8_hang 67 8 9 70 := ⟨13, (RX8, TX8, 29), by decide +kernel, rfl, rfl, by decide, tF672⟩
theorem rX8_hang_70 : vCn mX8_hang 70 (nI 0) 71 := Or.inl ⟨0, by decide +kernel, by decide +kernel, rfl⟩
theorem rX8_hang_71 : vI mX8_hang 71 .iaload 1 72 := ⟨by decide +kernel, rfl⟩
theorem rX8_hang_72 : vIc mX8_hang 72 .ge 95 75 := ⟨23, by decide +kernel, by decide, rfl⟩
theorem rX8_hang_75 : vLa mX8_hang 75 0 76 := ⟨0, by decide +kernel, rfl, rfl⟩
theorem rX8_hang_76 : vGf mX8_hang 76 8 28 79 := ⟨65, (RX8, TX8, 29), by decide +kernel, rfl, rfl, by decide, tF691⟩
theorem rX8_hang_79 : vLi mX8_hang 79 4 81 := Or.inr ⟨by decide +kernel, rfl⟩
theorem rX8_hang_81 : vLa mX8_hang 81 0 82 := ⟨0, by decide +kernel, rfl, rfl⟩
theorem rX8_hang_82 : vGf mX8_hang 82 8 27 85 := ⟨62, (RX8, TX8, 29), by decide +kernel, rfl, rfl, by decide, tF690⟩
theorem rX8_hang_85 : vLi mX8_hang 85 4 87 := Or.inr ⟨by decide +kernel, rfl⟩
theorem rX8_hang_87 : vI mX8_hang 87 .iaload 1 88 := ⟨by decide +kernel, rfl⟩
theorem rX8_hang_88 : vI mX8_hang 88 .iastore 1 89 := ⟨by decide +kernel, rfl⟩
theorem rX8_hang_89 : vIn mX8_hang 89 4 (nI 1) 92 := ⟨1, by decide +kernel, by decide +kernel, by decide, rfl⟩
theorem rX8_hang_92 : vGo mX8_hang 92 64 := ⟨-28, by decide +kernel, by decide⟩
theorem rX8_hang_95 : vIn mX8_hang 95 3 (nI 1) 98 := ⟨1, by decide +kernel, by decide +kernel, by decide, rfl⟩
theorem rX8_hang_98 : vGo mX8_hang 98 25 := ⟨-73, by decide +kernel, by decide⟩
theorem rX8_hang_101 : vLi mX8_hang 101 2 102 := Or.inl ⟨2, by decide +kernel, rfl, rfl⟩
theorem rX8_hang_102 : vCn mX8_hang 102 (nI 1000000) 104 := Or.inr (Or.inr (Or.inr (Or.inl ⟨120, by decide +kernel, tF794, rfl⟩)))
theorem rX8_hang_104 : vIc mX8_hang 104 .ne 112 107 := ⟨8, by decide +kernel, by decide, rfl⟩
theorem rX8_hang_107 : vCn mX8_hang 107 (-9) 109 := Or.inr (Or.inl ⟨-9, by decide +kernel, by decide +kernel, rfl⟩)
theorem rX8_hang_109 : vGo mX8_hang 109 127 := ⟨18, by decide +kernel, by decide⟩
theorem rX8_hang_112 : vLi mX8_hang 112 1 113 := Or.inl ⟨1, by decide +kernel, rfl, rfl⟩
theorem rX8_hang_113 : vCn mX8_hang 113 (-1) 114 := Or.inl ⟨-1, by decide +kernel, by decide +kernel, rfl⟩
theorem rX8_hang_114 : vIc mX8_hang 114 .ne 121 117 := ⟨7, by decide +kernel, by decide, rfl⟩
theorem rX8_hang_117 : vLi mX8_hang 117 2 118 := Or.inl ⟨2, by decide +kernel, rfl, rfl⟩
theorem rX8_hang_118 : vGo mX8_hang 118 127 := ⟨9, by decide +kernel, by decide⟩
theorem rX8_hang_121 : vLa mX8_hang 121 0 122 := ⟨0, by decide +kernel, rfl, rfl⟩
theorem rX8_hang_122 : vGf mX8_hang 122 8 28 125 := ⟨65, (RX8, TX8, 29), by decide +kernel, rfl, rfl, by decide, tF691⟩
theorem rX8_hang_125 : vLi mX8_hang 125 1 126 := Or.inl ⟨1, by decide +kernel, rfl, rfl⟩
theorem rX8_hang_126 : vI mX8_hang 126 .iaload 1 127 := ⟨by decide +kernel, rfl⟩
theorem rX8_hang_127 : vI mX8_hang 127 .ireturn 1 128 := ⟨by decide +kernel, rfl⟩
theorem rX8_round_0 : vLa mX8_round 0 0 1 := ⟨0, by decide +kernel, rfl, rfl⟩
theorem rX8_round_1 : vCn mX8_round 1 (nI 0) 2 := Or.inl ⟨0, by decide +kernel, by decide +kernel, rfl⟩
theorem rX8_round_2 : vPf mX8_round 2 8 0 5 := ⟨68, (RX8, TX8, 29), by decide +kernel, rfl, rfl, by decide, tF663, Or.inl rfl⟩
theorem rX8_round_5 : vLi mX8_round 5 1 6 := Or.inl ⟨1, by decide +kernel, rfl, rfl⟩
theorem rX8_round_6 : vCn mX8_round 6 (nI 0) 7 := Or.inl ⟨0, by decide +kernel, by decide +kernel, rfl⟩
theorem rX8_round_7 : vCn mX8_round 7 (nI 9999) 10 := Or.inr (Or.inr (Or.inl ⟨9999, by decide +kernel, by decide +kernel, rfl⟩))
theorem rX8_round_10 : vKs mX8_round 10 mX8_in 3 13 := ⟨72, by decide +kernel, rfl, kX8_in, tF756, Or.inl tF755⟩
theorem rX8_round_13 : vIf mX8_round 13 .ne 18 16 := ⟨5, by decide +kernel, by decide, rfl⟩
theorem rX8_round_16 : vCn mX8_round 16 (-1) 17 := Or.inl ⟨-1, by decide +kernel, by decide +kernel, rfl⟩
theorem rX8_round_17 : vI mX8_round 17 .ireturn 1 18 := ⟨by decide +kernel, rfl⟩
theorem rX8_round_18 : vLa mX8_round 18 0 19 := ⟨0, by decide +kernel, rfl, rfl⟩
theorem rX8_round_19 : vLi mX8_round 19 1 20 := Or.inl ⟨1, by decide +kernel, rfl, rfl⟩
theorem rX8_round_20 : vKv mX8_round 20 mX8_draws 1 8 23 := ⟨149, (RX8, TX8, 29), by decide +kernel, rfl, kX8_draws, tF844, tF842, tS38, rfl, rfl⟩
theorem rX8_round_23 : vCn mX8_round 23 (nI 0) 24 := Or.inl ⟨0, by decide +kernel, by decide +kernel, rfl⟩
theorem rX8_round_24 : vSi mX8_round 24 2 25 := ⟨Or.inl ⟨2, by decide +kernel, rfl, rfl⟩, by decide⟩
theorem rX8_round_25 : vCn mX8_round 25 (nI 1) 26 := Or.inl ⟨1, by decide +kernel, by decide +kernel, rfl⟩
theorem rX8_round_26 : vSi mX8_round 26 3 27 := ⟨Or.inl ⟨3, by decide +kernel, rfl, rfl⟩, by decide⟩
theorem rX8_round_27 : vCn mX8_round 27 (nI 0) 28 := Or.inl ⟨0, by decide +kernel, by decide +kernel, rfl⟩
theorem rX8_round_28 : vSi mX8_round 28 4 30 := ⟨Or.inr ⟨by decide +kernel, rfl⟩, by decide⟩
theorem rX8_round_30 : vLi mX8_round 30 4 32 := Or.inr ⟨by decide +kernel, rfl⟩
theorem rX8_round_32 : vLa mX8_round 32 0 33 := ⟨0, by decide +kernel, rfl, rfl⟩
theorem rX8_round_33 : vGf mX8_round 33 8 9 36 := ⟨13, (RX8, TX8, 29), by decide +kernel, rfl, rfl, by decide, tF672⟩
theorem rX8_round_36 : vCn mX8_round 36 (nI 0) 37 := Or.inl ⟨0, by decide +kernel, by decide +kernel, rfl⟩
theorem rX8_round_37 : vI mX8_round 37 .iaload 1 38 := ⟨by decide +kernel, rfl⟩
theorem rX8_round_38 : vIc mX8_round 38 .ge 56 41 := ⟨18, by decide +kernel, by decide, rfl⟩
theorem rX8_round_41 : vLa mX8_round 41 0 42 := ⟨0, by decide +kernel, rfl, rfl⟩
theorem rX8_round_42 : vGf mX8_round 42 8 28 45 := ⟨65, (RX8, TX8, 29), by decide +kernel, rfl, rfl, by decide, tF691⟩
theorem rX8_round_45 : vLi mX8_round 45 4 47 := Or.inr ⟨by decide +kernel, rfl⟩
theorem rX8_round_47 : vLi mX8_round 47 4 49 := Or.inr ⟨by decide +kernel, rfl⟩
theorem rX8_round_49 : vI mX8_round 49 .iastore 1 50 := ⟨by decide +kernel, rfl⟩
theorem rX8_round_50 : vIn mX8_round 50 4 (nI 1) 53 := ⟨1, by decide +kernel, by decide +kernel, by decide, rfl⟩
theorem rX8_round_53 : vGo mX8_round 53 30 := ⟨-23, by decide +kernel, by decide⟩
theorem rX8_round_56 : vLi mX8_round 56 3 57 := Or.inl ⟨3, by decide +kernel, rfl, rfl⟩
theorem rX8_round_57 : vIf mX8_round 57 .eq 129 60 := ⟨72, by decide +kernel, by decide, rfl⟩
theorem rX8_round_60 : vIn mX8_round 60 2 (nI 1) 63 := ⟨1, by decide +kernel, by decide +kernel, by decide, rfl⟩
theorem rX8_round_63 : vCn mX8_round 63 (nI 0) 64 := Or.inl ⟨0, by decide +kernel, by decide +kernel, rfl⟩
theorem rX8_round_64 : vSi mX8_round 64 3 65 := ⟨Or.inl ⟨3, by decide +kernel, rfl, rfl⟩, by decide⟩
theorem rX8_round_65 : vCn mX8_round 65 (nI 0) 66 := Or.inl ⟨0, by decide +kernel, by decide +kernel, rfl⟩
theorem rX8_round_66 : vSi mX8_round 66 4 68 := ⟨Or.inr ⟨by decide +kernel, rfl⟩, by decide⟩
theorem rX8_round_68 : vLi mX8_round 68 4 70 := Or.inr ⟨by decide +kernel, rfl⟩
theorem rX8_round_70 : vLa mX8_round 70 0 71 := ⟨0, by decide +kernel, rfl, rfl⟩
theorem rX8_round_71 : vGf mX8_round 71 8 9 74 := ⟨13, (RX8, TX8, 29), by decide +kernel, rfl, rfl, by decide, tF672⟩
theorem rX8_round_74 : vCn mX8_round 74 (nI 0) 75 := Or.inl ⟨0, by decide +kernel, by decide +kernel, rfl⟩
theorem rX8_round_75 : vI mX8_round 75 .iaload 1 76 := ⟨by decide +kernel, rfl⟩
theorem rX8_round_76 : vIc mX8_round 76 .ge 126 79 := ⟨50, by decide +kernel, by decide, rfl⟩
theorem rX8_round_79 : vLa mX8_round 79 0 80 := ⟨0, by decide +kernel, rfl, rfl⟩
theorem rX8_round_80 : vGf mX8_round 80 8 28 83 := ⟨65, (RX8, TX8, 29), by decide +kernel, rfl, rfl, by decide, tF691⟩
theorem rX8_round_83 : vLi mX8_round 83 4 85 := Or.inr ⟨by decide +kernel, rfl⟩
theorem rX8_round_85 : vLa mX8_round 85 0 86 := ⟨0, by decide +kernel, rfl, rfl⟩
theorem rX8_round_86 : vGf mX8_round 86 8 27 89 := ⟨62, (RX8, TX8, 29), by decide +kernel, rfl, rfl, by decide, tF690⟩
theorem rX8_round_89 : vLa mX8_round 89 0 90 := ⟨0, by decide +kernel, rfl, rfl⟩
theorem rX8_round_90 : vGf mX8_round 90 8 28 93 := ⟨65, (RX8, TX8, 29), by decide +kernel, rfl, rfl, by decide, tF691⟩
theorem rX8_round_93 : vLi mX8_round 93 4 95 := Or.inr ⟨by decide +kernel, rfl⟩
theorem rX8_round_95 : vI mX8_round 95 .iaload 1 96 := ⟨by decide +kernel, rfl⟩
theorem rX8_round_96 : vI mX8_round 96 .iaload 1 97 := ⟨by decide +kernel, rfl⟩
theorem rX8_round_97 : vI mX8_round 97 .iastore 1 98 := ⟨by decide +kernel, rfl⟩
theorem rX8_round_98 : vLi mX8_round 98 3 99 := Or.inl ⟨3, by decide +kernel, rfl, rfl⟩
theorem rX8_round_99 : vIf mX8_round 99 .ne 114 102 := ⟨15, by decide +kernel, by decide, rfl⟩
theorem rX8_round_102 : vLa mX8_round 102 0 103 := ⟨0, by decide +kernel, rfl, rfl⟩
theorem rX8_round_103 : vGf mX8_round 103 8 28 106 := ⟨65, (RX8, TX8, 29), by decide +kernel, rfl, rfl, by decide, tF691⟩
theorem rX8_round_106 : vLi mX8_round 106 4 108 := Or.inr ⟨by decide +kernel, rfl⟩
theorem rX8_round_108 : vI mX8_round 108 .iaload 1 109 := ⟨by decide +kernel, rfl⟩
theorem rX8_round_109 : vLi mX8_round 109 4 111 := Or.inr ⟨by decide +kernel, rfl⟩
theorem rX8_round_111 : vIc mX8_round 111 .eq 118 114 := ⟨7, by decide +kernel, by decide, rfl⟩
theorem rX8_round_114 : vCn mX8_round 114 (nI 1) 115 := Or.inl ⟨1, by decide +kernel, by decide +kernel, rfl⟩
theorem rX8_round_115 : vGo mX8_round 115 119 := ⟨4, by decide +kernel, by decide⟩
theorem rX8_round_118 : vCn mX8_round 118 (nI 0) 119 := Or.inl ⟨0, by decide +kernel, by decide +kernel, rfl⟩
theorem rX8_round_119 : vSi mX8_round 119 3 120 := ⟨Or.inl ⟨3, by decide +kernel, rfl, rfl⟩, by decide⟩
theorem rX8_round_120 : vIn mX8_round 120 4 (nI 1) 123 := ⟨1, by decide +kernel, by decide +kernel, by decide, rfl⟩
theorem rX8_round_123 : vGo mX8_round 123 68 := ⟨-55, by decide +kernel, by decide⟩
theorem rX8_round_126 : vGo mX8_round 126 56 := ⟨-70, by decide +kernel, by decide⟩
theorem rX8_round_129 : vLi mX8_round 129 2 130 := Or.inl ⟨2, by decide +kernel, rfl, rfl⟩
theorem rX8_round_130 : vI mX8_round 130 .ireturn 1 131 := ⟨by decide +kernel, rfl⟩
theorem rX8_crossed_0 : vLa mX8_crossed 0 0 1 := ⟨0, by decide +kernel, rfl, rfl⟩
theorem rX8_crossed_1 : vCn mX8_crossed 1 (nI 0) 2 := Or.inl ⟨0, by decide +kernel, by decide +kernel, rfl⟩
theorem rX8_crossed_2 : vPf mX8_crossed 2 8 0 5 := ⟨68, (RX8, TX8, 29), by decide +kernel, rfl, rfl, by decide, tF663, Or.inl rfl⟩
theorem rX8_crossed_5 : vCn mX8_crossed 5 (nI 0) 6 := Or.inl ⟨0, by decide +kernel, by decide +kernel, rfl⟩
theorem rX8_crossed_6 : vSi mX8_crossed 6 1 7 := ⟨Or.inl ⟨1, by decide +kernel, rfl, rfl⟩, by decide⟩
theorem rX8_crossed_7 : vLi mX8_crossed 7 1 8 := Or.inl ⟨1, by decide +kernel, rfl, rfl⟩
theorem rX8_crossed_8 : vLa mX8_crossed 8 0 9 := ⟨0, by decide +kernel, rfl, rfl⟩
theorem rX8_crossed_9 : vGf mX8_crossed 9 8 9 12 := ⟨13, (RX8, TX8, 29), by decide +kernel, rfl, rfl, by decide, tF672⟩
theorem rX8_crossed_12 : vCn mX8_crossed 12 (nI 1) 13 := Or.inl ⟨1, by decide +kernel, by decide +kernel, rfl⟩
theorem rX8_crossed_13 : vI mX8_crossed 13 .iaload 1 14 := ⟨by decide +kernel, rfl⟩
theorem rX8_crossed_14 : vIc mX8_crossed 14 .ge 114 17 := ⟨100, by decide +kernel, by decide, rfl⟩
theorem rX8_crossed_17 : vLi mX8_crossed 17 1 18 := Or.inl ⟨1, by decide +kernel, rfl, rfl⟩
theorem rX8_crossed_18 : vCn mX8_crossed 18 (nI 1) 19 := Or.inl ⟨1, by decide +kernel, by decide +kernel, rfl⟩
theorem rX8_crossed_19 : vI mX8_crossed 19 .iadd 1 20 := ⟨by decide +kernel, rfl⟩
theorem rX8_crossed_20 : vSi mX8_crossed 20 2 21 := ⟨Or.inl ⟨2, by decide +kernel, rfl, rfl⟩, by decide⟩
theorem rX8_crossed_21 : vLi mX8_crossed 21 2 22 := Or.inl ⟨2, by decide +kernel, rfl, rfl⟩
theorem rX8_crossed_22 : vLa mX8_crossed 22 0 23 := ⟨0, by decide +kernel, rfl, rfl⟩
theorem rX8_crossed_23 : vGf mX8_crossed 23 8 9 26 := ⟨13, (RX8, TX8, 29), by decide +kernel, rfl, rfl, by decide, tF672⟩
theorem rX8_crossed_26 : vCn mX8_crossed 26 (nI 1) 27 := Or.inl ⟨1, by decide +kernel, by decide +kernel, rfl⟩
theorem rX8_crossed_27 : vI mX8_crossed 27 .iaload 1 28 := ⟨by decide +kernel, rfl⟩
theorem rX8_crossed_28 : vIc mX8_crossed 28 .ge 108 31 := ⟨80, by decide +kernel, by decide, rfl⟩
theorem rX8_crossed_31 : vLa mX8_crossed 31 0 32 := ⟨0, by decide +kernel, rfl, rfl⟩
theorem rX8_crossed_32 : vGf mX8_crossed 32 8 14 35 := ⟨28, (RX8, TX8, 29), by decide +kernel, rfl, rfl, by decide, tF677⟩
theorem rX8_crossed_35 : vLi mX8_crossed 35 1 36 := Or.inl ⟨1, by decide +kernel, rfl, rfl⟩
theorem rX8_crossed_36 : vI mX8_crossed 36 .iaload 1 37 := ⟨by decide +kernel, rfl⟩
theorem rX8_crossed_37 : vLa mX8_crossed 37 0 38 := ⟨0, by decide +kernel, rfl, rfl⟩
theorem rX8_crossed_38 : vGf mX8_crossed 38 8 14 41 := ⟨28, (RX8, TX8, 29), by decide +kernel, rfl, rfl, by decide, tF677⟩
theorem rX8_crossed_41 : vLi mX8_crossed 41 2 42 := Or.inl ⟨2, by decide +kernel, rfl, rfl⟩
theorem rX8_crossed_42 : vI mX8_crossed 42 .iaload 1 43 := ⟨by decide +kernel, rfl⟩
theorem rX8_crossed_43 : vIc mX8_crossed 43 .ne 50 46 := ⟨7, by decide +kernel, by decide, rfl⟩
theorem rX8_crossed_46 : vCn mX8_crossed 46 (nI 1) 47 := Or.inl ⟨1, by decide +kernel, by decide +kernel, rfl⟩
theorem rX8_crossed_47 : vGo mX8_crossed 47 51 := ⟨4, by decide +kernel, by decide⟩
theorem rX8_crossed_50 : vCn mX8_crossed 50 (nI 0) 51 := Or.inl ⟨0, by decide +kernel, by decide +kernel, rfl⟩
theorem rX8_crossed_51 : vSi mX8_crossed 51 3 52 := ⟨Or.inl ⟨3, by decide +kernel, rfl, rfl⟩, by decide⟩
theorem rX8_crossed_52 : vLa mX8_crossed 52 0 53 := ⟨0, by decide +kernel, rfl, rfl⟩
theorem rX8_crossed_53 : vGf mX8_crossed 53 8 15 56 := ⟨31, (RX8, TX8, 29), by decide +kernel, rfl, rfl, by decide, tF678⟩
theorem rX8_crossed_56 : vLi mX8_crossed 56 1 57 := Or.inl ⟨1, by decide +kernel, rfl, rfl⟩
theorem rX8_crossed_57 : vI mX8_crossed 57 .iaload 1 58 := ⟨by decide +kernel, rfl⟩
theorem rX8_crossed_58 : vLa mX8_crossed 58 0 59 := ⟨0, by decide +kernel, rfl, rfl⟩
theorem rX8_crossed_59 : vGf mX8_crossed 59 8 15 62 := ⟨31, (RX8, TX8, 29), by decide +kernel, rfl, rfl, by decide, tF678⟩
theorem rX8_crossed_62 : vLi mX8_crossed 62 2 63 := Or.inl ⟨2, by decide +kernel, rfl, rfl⟩
theorem rX8_crossed_63 : vI mX8_crossed 63 .iaload 1 64 := ⟨by decide +kernel, rfl⟩
theorem rX8_crossed_64 : vIc mX8_crossed 64 .ne 71 67 := ⟨7, by decide +kernel, by decide, rfl⟩
theorem rX8_crossed_67 : vCn mX8_crossed 67 (nI 1) 68 := Or.inl ⟨1, by decide +kernel, by decide +kernel, rfl⟩
theorem rX8_crossed_68 : vGo mX8_crossed 68 72 := ⟨4, by decide +kernel, by decide⟩
theorem rX8_crossed_71 : vCn mX8_crossed 71 (nI 0) 72 := Or.inl ⟨0, by decide +kernel, by decide +kernel, rfl⟩
theorem rX8_crossed_72 : vSi mX8_crossed 72 4 74 := ⟨Or.inr ⟨by decide +kernel, rfl⟩, by decide⟩
theorem rX8_crossed_74 : vLa mX8_crossed 74 0 75 := ⟨0, by decide +kernel, rfl, rfl⟩
theorem rX8_crossed_75 : vGf mX8_crossed 75 8 16 78 := ⟨34, (RX8, TX8, 29), by decide +kernel, rfl, rfl, by decide, tF679⟩
theorem rX8_crossed_78 : vLi mX8_crossed 78 1 79 := Or.inl ⟨1, by decide +kernel, rfl, rfl⟩
theorem rX8_crossed_79 : vI mX8_crossed 79 .iaload 1 80 := ⟨by decide +kernel, rfl⟩
theorem rX8_crossed_80 : vLa mX8_crossed 80 0 81 := ⟨0, by decide +kernel, rfl, rfl⟩
theorem rX8_crossed_81 : vGf mX8_crossed 81 8 16 84 := ⟨34, (RX8, TX8, 29), by decide +kernel, rfl, rfl, by decide, tF679⟩
theorem rX8_crossed_84 : vLi mX8_crossed 84 2 85 := Or.inl ⟨2, by decide +kernel, rfl, rfl⟩
theorem rX8_crossed_85 : vI mX8_crossed 85 .iaload 1 86 := ⟨by decide +kernel, rfl⟩
theorem rX8_crossed_86 : vIc mX8_crossed 86 .ne 102 89 := ⟨16, by decide +kernel, by decide, rfl⟩
theorem rX8_crossed_89 : vLi mX8_crossed 89 3 90 := Or.inl ⟨3, by decide +kernel, rfl, rfl⟩
theorem rX8_crossed_90 : vLi mX8_crossed 90 4 92 := Or.inr ⟨by decide +kernel, rfl⟩
theorem rX8_crossed_92 : vIc mX8_crossed 92 .eq 102 95 := ⟨10, by decide +kernel, by decide, rfl⟩
theorem rX8_crossed_95 : vCn mX8_crossed 95 (nI 10) 97 := Or.inr (Or.inl ⟨10, by decide +kernel, by decide +kernel, rfl⟩)
theorem rX8_crossed_97 : vLi mX8_crossed 97 1 98 := Or.inl ⟨1, by decide +kernel, rfl, rfl⟩
theorem rX8_crossed_98 : vI mX8_crossed 98 .imul 1 99 := ⟨by decide +kernel, rfl⟩
theorem rX8_crossed_99 : vLi mX8_crossed 99 2 100 := Or.inl ⟨2, by decide +kernel, rfl, rfl⟩
theorem rX8_crossed_100 : vI mX8_crossed 100 .iadd 1 101 := ⟨by decide +kernel, rfl⟩
theorem rX8_crossed_101 : vI mX8_crossed 101 .ireturn 1 102 := ⟨by decide +kernel, rfl⟩
theorem rX8_crossed_102 : vIn mX8_crossed 102 2 (nI 1) 105 := ⟨1, by decide +kernel, by decide +kernel, by decide, rfl⟩
theorem rX8_crossed_105 : vGo mX8_crossed 105 21 := ⟨-84, by decide +kernel, by decide⟩
theorem rX8_crossed_108 : vIn mX8_crossed 108 1 (nI 1) 111 := ⟨1, by decide +kernel, by decide +kernel, by decide, rfl⟩
theorem rX8_crossed_111 : vGo mX8_crossed 111 7 := ⟨-104, by decide +kernel, by decide⟩
theorem rX8_crossed_114 : vCn mX8_crossed 114 (-9) 116 := Or.inr (Or.inl ⟨-9, by decide +kernel, by decide +kernel, rfl⟩)
theorem rX8_crossed_116 : vI mX8_crossed 116 .ireturn 1 117 := ⟨by decide +kernel, rfl⟩
theorem rX8_oaths_0 : vLa mX8_oaths 0 0 1 := ⟨0, by decide +kernel, rfl, rfl⟩
theorem rX8_oaths_1 : vCn mX8_oaths 1 (nI 0) 2 := Or.inl ⟨0, by decide +kernel, by decide +kernel, rfl⟩
theorem rX8_oaths_2 : vPf mX8_oaths 2 8 0 5 := ⟨68, (RX8, TX8, 29), by decide +kernel, rfl, rfl, by decide, tF663, Or.inl rfl⟩
theorem rX8_oaths_5 : vLi mX8_oaths 5 1 6 := Or.inl ⟨1, by decide +kernel, rfl, rfl⟩
theorem rX8_oaths_6 : vCn mX8_oaths 6 (nI 0) 7 := Or.inl ⟨0, by decide +kernel, by decide +kernel, rfl⟩
theorem rX8_oaths_7 : vCn mX8_oaths 7 (nI 2) 8 := Or.inl ⟨2, by decide +kernel, by decide +kernel, rfl⟩
theorem rX8_oaths_8 : vKs mX8_oaths 8 mX8_in 3 11 := ⟨72, by decide +kernel, rfl, kX8_in, tF756, Or.inl tF755⟩
theorem rX8_oaths_11 : vIf mX8_oaths 11 .ne 16 14 := ⟨5, by decide +kernel, by decide, rfl⟩
theorem rX8_oaths_14 : vCn mX8_oaths 14 (-1) 15 := Or.inl ⟨-1, by decide +kernel, by decide +kernel, rfl⟩
theorem rX8_oaths_15 : vI mX8_oaths 15 .ireturn 1 16 := ⟨by decide +kernel, rfl⟩
theorem rX8_oaths_16 : vCn mX8_oaths 16 (nI 0) 17 := Or.inl ⟨0, by decide +kernel, by decide +kernel, rfl⟩
theorem rX8_oaths_17 : vSi mX8_oaths 17 2 18 := ⟨Or.inl ⟨2, by decide +kernel, rfl, rfl⟩, by decide⟩
theorem rX8_oaths_18 : vCn mX8_oaths 18 (nI 0) 19 := Or.inl ⟨0, by decide +kernel, by decide +kernel, rfl⟩
theorem rX8_oaths_19 : vSi mX8_oaths 19 3 20 := ⟨Or.inl ⟨3, by decide +kernel, rfl, rfl⟩, by decide⟩
theorem rX8_oaths_20 : vLi mX8_oaths 20 3 21 := Or.inl ⟨3, by decide +kernel, rfl, rfl⟩
theorem rX8_oaths_21 : vLa mX8_oaths 21 0 22 := ⟨0, by decide +kernel, rfl, rfl⟩
theorem rX8_oaths_22 : vGf mX8_oaths 22 8 9 25 := ⟨13, (RX8, TX8, 29), by decide +kernel, rfl, rfl, by decide, tF672⟩
theorem rX8_oaths_25 : vCn mX8_oaths 25 (nI 1) 26 := Or.inl ⟨1, by decide +kernel, by decide +kernel, rfl⟩
theorem rX8_oaths_26 : vI mX8_oaths 26 .iaload 1 27 := ⟨by decide +kernel, rfl⟩
theorem rX8_oaths_27 : vIc mX8_oaths 27 .ge 57 30 := ⟨30, by decide +kernel, by decide, rfl⟩
theorem rX8_oaths_30 : vLi mX8_oaths 30 2 31 := Or.inl ⟨2, by decide +kernel, rfl, rfl⟩
theorem rX8_oaths_31 : vLa mX8_oaths 31 0 32 := ⟨0, by decide +kernel, rfl, rfl⟩
theorem rX8_oaths_32 : vGf mX8_oaths 32 8 18 35 := ⟨40, (RX8, TX8, 29), by decide +kernel, rfl, rfl, by decide, tF681⟩
theorem rX8_oaths_35 : vCn mX8_oaths 35 (nI 14) 37 := Or.inr (Or.inl ⟨14, by decide +kernel, by decide +kernel, rfl⟩)
theorem rX8_oaths_37 : vLi mX8_oaths 37 3 38 := Or.inl ⟨3, by decide +kernel, rfl, rfl⟩
theorem rX8_oaths_38 : vI mX8_oaths 38 .iadd 1 39 := ⟨by decide +kernel, rfl⟩
theorem rX8_oaths_39 : vI mX8_oaths 39 .iaload 1 40 := ⟨by decide +kernel, rfl⟩
theorem rX8_oaths_40 : vLi mX8_oaths 40 1 41 := Or.inl ⟨1, by decide +kernel, rfl, rfl⟩
theorem rX8_oaths_41 : vIc mX8_oaths 41 .ne 48 44 := ⟨7, by decide +kernel, by decide, rfl⟩
theorem rX8_oaths_44 : vCn mX8_oaths 44 (nI 1) 45 := Or.inl ⟨1, by decide +kernel, by decide +kernel, rfl⟩
theorem rX8_oaths_45 : vGo mX8_oaths 45 49 := ⟨4, by decide +kernel, by decide⟩
theorem rX8_oaths_48 : vCn mX8_oaths 48 (nI 0) 49 := Or.inl ⟨0, by decide +kernel, by decide +kernel, rfl⟩
theorem rX8_oaths_49 : vI mX8_oaths 49 .iadd 1 50 := ⟨by decide +kernel, rfl⟩
theorem rX8_oaths_50 : vSi mX8_oaths 50 2 51 := ⟨Or.inl ⟨2, by decide +kernel, rfl, rfl⟩, by decide⟩
theorem rX8_oaths_51 : vIn mX8_oaths 51 3 (nI 1) 54 := ⟨1, by decide +kernel, by decide +kernel, by decide, rfl⟩
theorem rX8_oaths_54 : vGo mX8_oaths 54 20 := ⟨-34, by decide +kernel, by decide⟩
theorem rX8_oaths_57 : vLi mX8_oaths 57 2 58 := Or.inl ⟨2, by decide +kernel, rfl, rfl⟩
theorem rX8_oaths_58 : vI mX8_oaths 58 .ireturn 1 59 := ⟨by decide +kernel, rfl⟩
theorem rX8_strokes_0 : vLa mX8_strokes 0 0 1 := ⟨0, by decide +kernel, rfl, rfl⟩
theorem rX8_strokes_1 : vCn mX8_strokes 1 (nI 0) 2 := Or.inl ⟨0, by decide +kernel, by decide +kernel, rfl⟩
theorem rX8_strokes_2 : vPf mX8_strokes 2 8 0 5 := ⟨68, (RX8, TX8, 29), by decide +kernel, rfl, rfl, by decide, tF663, Or.inl rfl⟩
theorem rX8_strokes_5 : vLa mX8_strokes 5 0 6 := ⟨0, by decide +kernel, rfl, rfl⟩
theorem rX8_strokes_6 : vLi mX8_strokes 6 1 7 := Or.inl ⟨1, by decide +kernel, rfl, rfl⟩
theorem rX8_strokes_7 : vKv mX8_strokes 7 mX8_isTown 1 8 10 := ⟨127, (RX8, TX8, 29), by decide +kernel, rfl, kX8_isTown, tF801, tF799, tS33, rfl, rfl⟩
theorem rX8_strokes_10 : vIf mX8_strokes 10 .eq 38 13 := ⟨28, by decide +kernel, by decide, rfl⟩
theorem rX8_strokes_13 : vLa mX8_strokes 13 0 14 := ⟨0, by decide +kernel, rfl, rfl⟩
theorem rX8_strokes_14 : vLi mX8_strokes 14 2 15 := Or.inl ⟨2, by decide +kernel, rfl, rfl⟩
theorem rX8_strokes_15 : vKv mX8_strokes 15 mX8_isTown 1 8 18 := ⟨127, (RX8, TX8, 29), by decide +kernel, rfl, kX8_isTown, tF801, tF799, tS33, rfl, rfl⟩
theorem rX8_strokes_18 : vIf mX8_strokes 18 .eq 38 21 := ⟨20, by decide +kernel, by decide, rfl⟩
theorem rX8_strokes_21 : vLa mX8_strokes 21 0 22 := ⟨0, by decide +kernel, rfl, rfl⟩
theorem rX8_strokes_22 : vGf mX8_strokes 22 8 18 25 := ⟨40, (RX8, TX8, 29), by decide +kernel, rfl, rfl, by decide, tF681⟩
theorem rX8_strokes_25 : vCn mX8_strokes 25 (nI 20) 27 := Or.inr (Or.inl ⟨20, by decide +kernel, by decide +kernel, rfl⟩)
theorem rX8_strokes_27 : vCn mX8_strokes 27 (nI 6) 29 := Or.inr (Or.inl ⟨6, by decide +kernel, by decide +kernel, rfl⟩)
theorem rX8_strokes_29 : vLi mX8_strokes 29 1 30 := Or.inl ⟨1, by decide +kernel, rfl, rfl⟩
theorem rX8_strokes_30 : vI mX8_strokes 30 .imul 1 31 := ⟨by decide +kernel, rfl⟩
theorem rX8_strokes_31 : vI mX8_strokes 31 .iadd 1 32 := ⟨by decide +kernel, rfl⟩
theorem rX8_strokes_32 : vLi mX8_strokes 32 2 33 := Or.inl ⟨2, by decide +kernel, rfl, rfl⟩
theorem rX8_strokes_33 : vI mX8_strokes 33 .iadd 1 34 := ⟨by decide +kernel, rfl⟩
theorem rX8_strokes_34 : vI mX8_strokes 34 .iaload 1 35 := ⟨by decide +kernel, rfl⟩
theorem rX8_strokes_35 : vGo mX8_strokes 35 39 := ⟨4, by decide +kernel, by decide⟩
theorem rX8_strokes_38 : vCn mX8_strokes 38 (-1) 39 := Or.inl ⟨-1, by decide +kernel, by decide +kernel, rfl⟩
theorem rX8_strokes_39 : vI mX8_strokes 39 .ireturn 1 40 := ⟨by decide +kernel, rfl⟩
theorem rX8_found_0 : vLa mX8_found 0 0 1 := ⟨0, by decide +kernel, rfl, rfl⟩
theorem rX8_found_1 : vCn mX8_found 1 (nI 0) 2 := Or.inl ⟨0, by decide +kernel, by decide +kernel, rfl⟩
theorem rX8_found_2 : vPf mX8_found 2 8 0 5 := ⟨68, (RX8, TX8, 29), by decide +kernel, rfl, rfl, by decide, tF663, Or.inl rfl⟩
theorem rX8_found_5 : vLa mX8_found 5 0 6 := ⟨0, by decide +kernel, rfl, rfl⟩
theorem rX8_found_6 : vLi mX8_found 6 1 7 := Or.inl ⟨1, by decide +kernel, rfl, rfl⟩
theorem rX8_found_7 : vKv mX8_found 7 mX8_isTown 1 8 10 := ⟨127, (RX8, TX8, 29), by decide +kernel, rfl, kX8_isTown, tF801, tF799, tS33, rfl, rfl⟩
theorem rX8_found_10 : vIf mX8_found 10 .eq 21 13 := ⟨11, by decide +kernel, by decide, rfl⟩
theorem rX8_found_13 : vLa mX8_found 13 0 14 := ⟨0, by decide +kernel, rfl, rfl⟩
theorem rX8_found_14 : vLi mX8_found 14 2 15 := Or.inl ⟨2, by decide +kernel, rfl, rfl⟩
theorem rX8_found_15 : vKv mX8_found 15 mX8_isTown 1 8 18 := ⟨127, (RX8, TX8, 29), by decide +kernel, rfl, kX8_isTown, tF801, tF799, tS33, rfl, rfl⟩
theorem rX8_found_18 : vIf mX8_found 18 .ne 23 21 := ⟨5, by decide +kernel, by decide, rfl⟩
theorem rX8_found_21 : vCn mX8_found 21 (-1) 22 := Or.inl ⟨-1, by decide +kernel, by decide +kernel, rfl⟩
theorem rX8_found_22 : vI mX8_found 22 .ireturn 1 23 := ⟨by decide +kernel, rfl⟩
theorem rX8_found_23 : vLa mX8_found 23 0 24 := ⟨0, by decide +kernel, rfl, rfl⟩
theorem rX8_found_24 : vGf mX8_found 24 8 26 27 := ⟨121, (RX8, TX8, 29), by decide +kernel, rfl, rfl, by decide, tF689⟩
theorem rX8_found_27 : vCn mX8_found 27 (nI 5) 28 := Or.inl ⟨5, by decide +kernel, by decide +kernel, rfl⟩
theorem rX8_found_28 : vIc mX8_found 28 .ne 34 31 := ⟨6, by decide +kernel, by decide, rfl⟩
theorem rX8_found_31 : vCn mX8_found 31 (-3) 33 := Or.inr (Or.inl ⟨-3, by decide +kernel, by decide +kernel, rfl⟩)
theorem rX8_found_33 : vI mX8_found 33 .ireturn 1 34 := ⟨by decide +kernel, rfl⟩
theorem rX8_found_34 : vLa mX8_found 34 0 35 := ⟨0, by decide +kernel, rfl, rfl⟩
theorem rX8_found_35 : vGf mX8_found 35 8 24 38 := ⟨56, (RX8, TX8, 29), by decide +kernel, rfl, rfl, by decide, tF687⟩
theorem rX8_found_38 : vLa mX8_found 38 0 39 := ⟨0, by decide +kernel, rfl, rfl⟩
theorem rX8_found_39 : vGf mX8_found 39 8 26 42 := ⟨121, (RX8, TX8, 29), by decide +kernel, rfl, rfl, by decide, tF689⟩
theorem rX8_found_42 : vLi mX8_found 42 1 43 := Or.inl ⟨1, by decide +kernel, rfl, rfl⟩
theorem rX8_found_43 : vI mX8_found 43 .iastore 1 44 := ⟨by decide +kernel, rfl⟩
theorem rX8_found_44 : vLa mX8_found 44 0 45 := ⟨0, by decide +kernel, rfl, rfl⟩
theorem rX8_found_45 : vGf mX8_found 45 8 25 48 := ⟨59, (RX8, TX8, 29), by decide +kernel, rfl, rfl, by decide, tF688⟩
theorem rX8_found_48 : vLa mX8_found 48 0 49 := ⟨0, by decide +kernel, rfl, rfl⟩
theorem rX8_found_49 : vGf mX8_found 49 8 26 52 := ⟨121, (RX8, TX8, 29), by decide +kernel, rfl, rfl, by decide, tF689⟩
theorem rX8_found_52 : vLi mX8_found 52 2 53 := Or.inl ⟨2, by decide +kernel, rfl, rfl⟩
theorem rX8_found_53 : vI mX8_found 53 .iastore 1 54 := ⟨by decide +kernel, rfl⟩
theorem rX8_found_54 : vLa mX8_found 54 0 55 := ⟨0, by decide +kernel, rfl, rfl⟩
theorem rX8_found_55 : vI mX8_found 55 .dup 1 56 := ⟨by decide +kernel, rfl⟩
theorem rX8_found_56 : vGf mX8_found 56 8 26 59 := ⟨121, (RX8, TX8, 29), by decide +kernel, rfl, rfl, by decide, tF689⟩
theorem rX8_found_59 : vCn mX8_found 59 (nI 1) 60 := Or.inl ⟨1, by decide +kernel, by decide +kernel, rfl⟩
theorem rX8_found_60 : vI mX8_found 60 .iadd 1 61 := ⟨by decide +kernel, rfl⟩
theorem rX8_found_61 : vPf mX8_found 61 8 26 64 := ⟨121, (RX8, TX8, 29), by decide +kernel, rfl, rfl, by decide, tF689, Or.inl rfl⟩
theorem rX8_found_64 : vLa mX8_found 64 0 65 := ⟨0, by decide +kernel, rfl, rfl⟩
theorem rX8_found_65 : vGf mX8_found 65 8 26 68 := ⟨121, (RX8, TX8, 29), by decide +kernel, rfl, rfl, by decide, tF689⟩
theorem rX8_found_68 : vI mX8_found 68 .ireturn 1 69 := ⟨by decide +kernel, rfl⟩
theorem rX8_forget_0 : vLa mX8_forget 0 0 1 := ⟨0, by decide +kernel, rfl, rfl⟩
theorem rX8_forget_1 : vCn mX8_forget 1 (nI 0) 2 := Or.inl ⟨0, by decide +kernel, by decide +kernel, rfl⟩
theorem rX8_forget_2 : vPf mX8_forget 2 8 0 5 := ⟨68, (RX8, TX8, 29), by decide +kernel, rfl, rfl, by decide, tF663, Or.inl rfl⟩
theorem rX8_forget_5 : vLa mX8_forget 5 0 6 := ⟨0, by decide +kernel, rfl, rfl⟩
theorem rX8_forget_6 : vGf mX8_forget 6 8 26 9 := ⟨121, (RX8, TX8, 29), by decide +kernel, rfl, rfl, by decide, tF689⟩
theorem rX8_forget_9 : vSi mX8_forget 9 1 10 := ⟨Or.inl ⟨1, by decide +kernel, rfl, rfl⟩, by decide⟩
theorem rX8_forget_10 : vLa mX8_forget 10 0 11 := ⟨0, by decide +kernel, rfl, rfl⟩
theorem rX8_forget_11 : vCn mX8_forget 11 (nI 0) 12 := Or.inl ⟨0, by decide +kernel, by decide +kernel, rfl⟩
theorem rX8_forget_12 : vPf mX8_forget 12 8 26 15 := ⟨121, (RX8, TX8, 29), by decide +kernel, rfl, rfl, by decide, tF689, Or.inl rfl⟩
theorem rX8_forget_15 : vLi mX8_forget 15 1 16 := Or.inl ⟨1, by decide +kernel, rfl, rfl⟩
theorem rX8_forget_16 : vI mX8_forget 16 .ireturn 1 17 := ⟨by decide +kernel, rfl⟩
theorem rX8_which_0 : vLa mX8_which 0 0 1 := ⟨0, by decide +kernel, rfl, rfl⟩
theorem rX8_which_1 : vCn mX8_which 1 (nI 0) 2 := Or.inl ⟨0, by decide +kernel, by decide +kernel, rfl⟩
theorem rX8_which_2 : vPf mX8_which 2 8 0 5 := ⟨68, (RX8, TX8, 29), by decide +kernel, rfl, rfl, by decide, tF663, Or.inl rfl⟩
theorem rX8_which_5 : vLi mX8_which 5 1 6 := Or.inl ⟨1, by decide +kernel, rfl, rfl⟩
theorem rX8_which_6 : vCn mX8_which 6 (nI 0) 7 := Or.inl ⟨0, by decide +kernel, by decide +kernel, rfl⟩
theorem rX8_which_7 : vCn mX8_which 7 (nI 1) 8 := Or.inl ⟨1, by decide +kernel, by decide +kernel, rfl⟩
theorem rX8_which_8 : vKs mX8_which 8 mX8_in 3 11 := ⟨72, by decide +kernel, rfl, kX8_in, tF756, Or.inl tF755⟩
theorem rX8_which_11 : vIf mX8_which 11 .ne 16 14 := ⟨5, by decide +kernel, by decide, rfl⟩
theorem rX8_which_14 : vCn mX8_which 14 (-1) 15 := Or.inl ⟨-1, by decide +kernel, by decide +kernel, rfl⟩
theorem rX8_which_15 : vI mX8_which 15 .ireturn 1 16 := ⟨by decide +kernel, rfl⟩
theorem rX8_which_16 : vCn mX8_which 16 (nI 0) 17 := Or.inl ⟨0, by decide +kernel, by decide +kernel, rfl⟩
theorem rX8_which_17 : vSi mX8_which 17 2 18 := ⟨Or.inl ⟨2, by decide +kernel, rfl, rfl⟩, by decide⟩
theorem rX8_which_18 : vCn mX8_which 18 (-9) 20 := Or.inr (Or.inl ⟨-9, by decide +kernel, by decide +kernel, rfl⟩)
theorem rX8_which_20 : vSi mX8_which 20 3 21 := ⟨Or.inl ⟨3, by decide +kernel, rfl, rfl⟩, by decide⟩
theorem rX8_which_21 : vCn mX8_which 21 (nI 0) 22 := Or.inl ⟨0, by decide +kernel, by decide +kernel, rfl⟩
theorem rX8_which_22 : vSi mX8_which 22 4 24 := ⟨Or.inr ⟨by decide +kernel, rfl⟩, by decide⟩
theorem rX8_which_24 : vLi mX8_which 24 4 26 := Or.inr ⟨by decide +kernel, rfl⟩
theorem rX8_which_26 : vCn mX8_which 26 (nI 1000) 29 := Or.inr (Or.inr (Or.inl ⟨1000, by decide +kernel, by decide +kernel, rfl⟩))
theorem rX8_which_29 : vIc mX8_which 29 .ge 135 32 := ⟨106, by decide +kernel, by decide, rfl⟩
theorem rX8_which_32 : vLa mX8_which 32 0 33 := ⟨0, by decide +kernel, rfl, rfl⟩
theorem rX8_which_33 : vLi mX8_which 33 4 35 := Or.inr ⟨by decide +kernel, rfl⟩
theorem rX8_which_35 : vKv mX8_which 35 mX8_draws 1 8 38 := ⟨149, (RX8, TX8, 29), by decide +kernel, rfl, kX8_draws, tF844, tF842, tS38, rfl, rfl⟩
theorem rX8_which_38 : vCn mX8_which 38 (nI 1) 39 := Or.inl ⟨1, by decide +kernel, by decide +kernel, rfl⟩
theorem rX8_which_39 : vSi mX8_which 39 5 41 := ⟨Or.inr ⟨by decide +kernel, rfl⟩, by decide⟩
theorem rX8_which_41 : vCn mX8_which 41 (nI 0) 42 := Or.inl ⟨0, by decide +kernel, by decide +kernel, rfl⟩
theorem rX8_which_42 : vSi mX8_which 42 6 44 := ⟨Or.inr ⟨by decide +kernel, rfl⟩, by decide⟩
theorem rX8_which_44 : vLi mX8_which 44 6 46 := Or.inr ⟨by decide +kernel, rfl⟩
theorem rX8_which_46 : vLa mX8_which 46 0 47 := ⟨0, by decide +kernel, rfl, rfl⟩
theorem rX8_which_47 : vGf mX8_which 47 8 26 50 := ⟨121, (RX8, TX8, 29), by decide +kernel, rfl, rfl, by decide, tF689⟩
theorem rX8_which_50 : vIc mX8_which 50 .ge 100 53 := ⟨50, by decide +kernel, by decide, rfl⟩
theorem rX8_which_53 : vLi mX8_which 53 5 55 := Or.inr ⟨by decide +kernel, rfl⟩
theorem rX8_which_55 : vIf mX8_which 55 .eq 91 58 := ⟨36, by decide +kernel, by decide, rfl⟩
theorem rX8_which_58 : vLa mX8_which 58 0 59 := ⟨0, by decide +kernel, rfl, rfl⟩
theorem rX8_which_59 : vGf mX8_which 59 8 18 62 := ⟨40, (RX8, TX8, 29), by decide +kernel, rfl, rfl, by decide, tF681⟩
theorem rX8_which_62 : vCn mX8_which 62 (nI 2) 63 := Or.inl ⟨2, by decide +kernel, by decide +kernel, rfl⟩
theorem rX8_which_63 : vLa mX8_which 63 0 64 := ⟨0, by decide +kernel, rfl, rfl⟩
theorem rX8_which_64 : vGf mX8_which 64 8 27 67 := ⟨62, (RX8, TX8, 29), by decide +kernel, rfl, rfl, by decide, tF690⟩
theorem rX8_which_67 : vLa mX8_which 67 0 68 := ⟨0, by decide +kernel, rfl, rfl⟩
theorem rX8_which_68 : vGf mX8_which 68 8 25 71 := ⟨59, (RX8, TX8, 29), by decide +kernel, rfl, rfl, by decide, tF688⟩
theorem rX8_which_71 : vLi mX8_which 71 6 73 := Or.inr ⟨by decide +kernel, rfl⟩
theorem rX8_which_73 : vI mX8_which 73 .iaload 1 74 := ⟨by decide +kernel, rfl⟩
theorem rX8_which_74 : vI mX8_which 74 .iaload 1 75 := ⟨by decide +kernel, rfl⟩
theorem rX8_which_75 : vI mX8_which 75 .iadd 1 76 := ⟨by decide +kernel, rfl⟩
theorem rX8_which_76 : vI mX8_which 76 .iaload 1 77 := ⟨by decide +kernel, rfl⟩
theorem rX8_which_77 : vLa mX8_which 77 0 78 := ⟨0, by decide +kernel, rfl, rfl⟩
theorem rX8_which_78 : vGf mX8_which 78 8 24 81 := ⟨56, (RX8, TX8, 29), by decide +kernel, rfl, rfl, by decide, tF687⟩
theorem rX8_which_81 : vLi mX8_which 81 6 83 := Or.inr ⟨by decide +kernel, rfl⟩
theorem rX8_which_83 : vI mX8_which 83 .iaload 1 84 := ⟨by decide +kernel, rfl⟩
theorem rX8_which_84 : vIc mX8_which 84 .ne 91 87 := ⟨7, by decide +kernel, by decide, rfl⟩
theorem rX8_which_87 : vCn mX8_which 87 (nI 1) 88 := Or.inl ⟨1, by decide +kernel, by decide +kernel, rfl⟩
theorem rX8_which_88 : vGo mX8_which 88 92 := ⟨4, by decide +kernel, by decide⟩
theorem rX8_which_91 : vCn mX8_which 91 (nI 0) 92 := Or.inl ⟨0, by decide +kernel, by decide +kernel, rfl⟩
theorem rX8_which_92 : vSi mX8_which 92 5 94 := ⟨Or.inr ⟨by decide +kernel, rfl⟩, by decide⟩
theorem rX8_which_94 : vIn mX8_which 94 6 (nI 1) 97 := ⟨1, by decide +kernel, by decide +kernel, by decide, rfl⟩
theorem rX8_which_97 : vGo mX8_which 97 44 := ⟨-53, by decide +kernel, by decide⟩
theorem rX8_which_100 : vLi mX8_which 100 5 102 := Or.inr ⟨by decide +kernel, rfl⟩
theorem rX8_which_102 : vIf mX8_which 102 .eq 114 105 := ⟨12, by decide +kernel, by decide, rfl⟩
theorem rX8_which_105 : vLi mX8_which 105 2 106 := Or.inl ⟨2, by decide +kernel, rfl, rfl⟩
theorem rX8_which_106 : vIf mX8_which 106 .ne 114 109 := ⟨8, by decide +kernel, by decide, rfl⟩
theorem rX8_which_109 : vLi mX8_which 109 4 111 := Or.inr ⟨by decide +kernel, rfl⟩
theorem rX8_which_111 : vGo mX8_which 111 115 := ⟨4, by decide +kernel, by decide⟩
theorem rX8_which_114 : vLi mX8_which 114 3 115 := Or.inl ⟨3, by decide +kernel, rfl, rfl⟩
theorem rX8_which_115 : vSi mX8_which 115 3 116 := ⟨Or.inl ⟨3, by decide +kernel, rfl, rfl⟩, by decide⟩
theorem rX8_which_116 : vLi mX8_which 116 2 117 := Or.inl ⟨2, by decide +kernel, rfl, rfl⟩
theorem rX8_which_117 : vLi mX8_which 117 5 119 := Or.inr ⟨by decide +kernel, rfl⟩
theorem rX8_which_119 : vIf mX8_which 119 .eq 126 122 := ⟨7, by decide +kernel, by decide, rfl⟩
theorem rX8_which_122 : vCn mX8_which 122 (nI 1) 123 := Or.inl ⟨1, by decide +kernel, by decide +kernel, rfl⟩
theorem rX8_which_123 : vGo mX8_which 123 127 := ⟨4, by decide +kernel, by decide⟩
theorem rX8_which_126 : vCn mX8_which 126 (nI 0) 127 := Or.inl ⟨0, by decide +kernel, by decide +kernel, rfl⟩
theorem rX8_which_127 : vI mX8_which 127 .iadd 1 128 := ⟨by decide +kernel, rfl⟩
theorem rX8_which_128 : vSi mX8_which 128 2 129 := ⟨Or.inl ⟨2, by decide +kernel, rfl, rfl⟩, by decide⟩
theorem rX8_which_129 : vIn mX8_which 129 4 (nI 1) 132 := ⟨1, by decide +kernel, by decide +kernel, by decide, rfl⟩
theorem rX8_which_132 : vGo mX8_which 132 24 := ⟨-108, by decide +kernel, by decide⟩
theorem rX8_which_135 : vLi mX8_which 135 1 136 := Or.inl ⟨1, by decide +kernel, rfl, rfl⟩
theorem rX8_which_136 : vIf mX8_which 136 .ne 143 139 := ⟨7, by decide +kernel, by decide, rfl⟩
theorem rX8_which_139 : vLi mX8_which 139 2 140 := Or.inl ⟨2, by decide +kernel, rfl, rfl⟩
theorem rX8_which_140 : vGo mX8_which 140 144 := ⟨4, by decide +kernel, by decide⟩
theorem rX8_which_143 : vLi mX8_which 143 3 144 := Or.inl ⟨3, by decide +kernel, rfl, rfl⟩
theorem rX8_which_144 : vI mX8_which 144 .ireturn 1 145 := ⟨by decide +kernel, rfl⟩
theorem rX8_gcd_0 : vLi mX8_gcd 0 0 1 := Or.inl ⟨0, by decide +kernel, rfl, rfl⟩
theorem rX8_gcd_1 : vSi mX8_gcd 1 2 2 := ⟨Or.inl ⟨2, by decide +kernel, rfl, rfl⟩, by decide⟩
theorem rX8_gcd_2 : vLi mX8_gcd 2 1 3 := Or.inl ⟨1, by decide +kernel, rfl, rfl⟩
theorem rX8_gcd_3 : vSi mX8_gcd 3 3 4 := ⟨Or.inl ⟨3, by decide +kernel, rfl, rfl⟩, by decide⟩
theorem rX8_gcd_4 : vLi mX8_gcd 4 3 5 := Or.inl ⟨3, by decide +kernel, rfl, rfl⟩
theorem rX8_gcd_5 : vIf mX8_gcd 5 .eq 21 8 := ⟨16, by decide +kernel, by decide, rfl⟩
theorem rX8_gcd_8 : vLi mX8_gcd 8 2 9 := Or.inl ⟨2, by decide +kernel, rfl, rfl⟩
theorem rX8_gcd_9 : vLi mX8_gcd 9 3 10 := Or.inl ⟨3, by decide +kernel, rfl, rfl⟩
theorem rX8_gcd_10 : vI mX8_gcd 10 .irem 1 11 := ⟨by decide +kernel, rfl⟩
theorem rX8_gcd_11 : vSi mX8_gcd 11 4 13 := ⟨Or.inr ⟨by decide +kernel, rfl⟩, by decide⟩
theorem rX8_gcd_13 : vLi mX8_gcd 13 3 14 := Or.inl ⟨3, by decide +kernel, rfl, rfl⟩
theorem rX8_gcd_14 : vSi mX8_gcd 14 2 15 := ⟨Or.inl ⟨2, by decide +kernel, rfl, rfl⟩, by decide⟩
theorem rX8_gcd_15 : vLi mX8_gcd 15 4 17 := Or.inr ⟨by decide +kernel, rfl⟩
theorem rX8_gcd_17 : vSi mX8_gcd 17 3 18 := ⟨Or.inl ⟨3, by decide +kernel, rfl, rfl⟩, by decide⟩
theorem rX8_gcd_18 : vGo mX8_gcd 18 4 := ⟨-14, by decide +kernel, by decide⟩
theorem rX8_gcd_21 : vLi mX8_gcd 21 2 22 := Or.inl ⟨2, by decide +kernel, rfl, rfl⟩
theorem rX8_gcd_22 : vI mX8_gcd 22 .ireturn 1 23 := ⟨by decide +kernel, rfl⟩
theorem rX8_odds_0 : vLa mX8_odds 0 0 1 := ⟨0, by decide +kernel, rfl, rfl⟩
theorem rX8_odds_1 : vCn mX8_odds 1 (nI 0) 2 := Or.inl ⟨0, by decide +kernel, by decide +kernel, rfl⟩
theorem rX8_odds_2 : vPf mX8_odds 2 8 0 5 := ⟨68, (RX8, TX8, 29), by decide +kernel, rfl, rfl, by decide, tF663, Or.inl rfl⟩
theorem rX8_odds_5 : vLi mX8_odds 5 1 6 := Or.inl ⟨1, by decide +kernel, rfl, rfl⟩
theorem rX8_odds_6 : vCn mX8_odds 6 (nI 0) 7 := Or.inl ⟨0, by decide +kernel, by decide +kernel, rfl⟩
theorem rX8_odds_7 : vCn mX8_odds 7 (nI 1) 8 := Or.inl ⟨1, by decide +kernel, by decide +kernel, rfl⟩
theorem rX8_odds_8 : vKs mX8_odds 8 mX8_in 3 11 := ⟨72, by decide +kernel, rfl, kX8_in, tF756, Or.inl tF755⟩
theorem rX8_odds_11 : vIf mX8_odds 11 .ne 16 14 := ⟨5, by decide +kernel, by decide, rfl⟩
theorem rX8_odds_14 : vCn mX8_odds 14 (-1) 15 := Or.inl ⟨-1, by decide +kernel, by decide +kernel, rfl⟩
theorem rX8_odds_15 : vI mX8_odds 15 .ireturn 1 16 := ⟨by decide +kernel, rfl⟩
theorem rX8_odds_16 : vCn mX8_odds 16 (nI 0) 17 := Or.inl ⟨0, by decide +kernel, by decide +kernel, rfl⟩
theorem rX8_odds_17 : vSi mX8_odds 17 2 18 := ⟨Or.inl ⟨2, by decide +kernel, rfl, rfl⟩, by decide⟩
theorem rX8_odds_18 : vCn mX8_odds 18 (nI 0) 19 := Or.inl ⟨0, by decide +kernel, by decide +kernel, rfl⟩
theorem rX8_odds_19 : vSi mX8_odds 19 3 20 := ⟨Or.inl ⟨3, by decide +kernel, rfl, rfl⟩, by decide⟩
theorem rX8_odds_20 : vCn mX8_odds 20 (nI 0) 21 := Or.inl ⟨0, by decide +kernel, by decide +kernel, rfl⟩
theorem rX8_odds_21 : vSi mX8_odds 21 4 23 := ⟨Or.inr ⟨by decide +kernel, rfl⟩, by decide⟩
theorem rX8_odds_23 : vLi mX8_odds 23 4 25 := Or.inr ⟨by decide +kernel, rfl⟩
theorem rX8_odds_25 : vLa mX8_odds 25 0 26 := ⟨0, by decide +kernel, rfl, rfl⟩
theorem rX8_odds_26 : vKv mX8_odds 26 mX8_rows 0 8 29 := ⟨165, (RX8, TX8, 29), by decide +kernel, rfl, kX8_rows, tF888, tF886, tS41, rfl, rfl⟩
theorem rX8_odds_29 : vIc mX8_odds 29 .ge 65 32 := ⟨36, by decide +kernel, by decide, rfl⟩
theorem rX8_odds_32 : vLa mX8_odds 32 0 33 := ⟨0, by decide +kernel, rfl, rfl⟩
theorem rX8_odds_33 : vLi mX8_odds 33 4 35 := Or.inr ⟨by decide +kernel, rfl⟩
theorem rX8_odds_35 : vKv mX8_odds 35 mX8_isRow 1 8 38 := ⟨169, (RX8, TX8, 29), by decide +kernel, rfl, kX8_isRow, tF892, tF890, tS42, rfl, rfl⟩
theorem rX8_odds_38 : vIf mX8_odds 38 .eq 59 41 := ⟨21, by decide +kernel, by decide, rfl⟩
theorem rX8_odds_41 : vIn mX8_odds 41 3 (nI 1) 44 := ⟨1, by decide +kernel, by decide +kernel, by decide, rfl⟩
theorem rX8_odds_44 : vLi mX8_odds 44 2 45 := Or.inl ⟨2, by decide +kernel, rfl, rfl⟩
theorem rX8_odds_45 : vLa mX8_odds 45 0 46 := ⟨0, by decide +kernel, rfl, rfl⟩
theorem rX8_odds_46 : vKv mX8_odds 46 mX8_isBorne 0 8 49 := ⟨172, (RX8, TX8, 29), by decide +kernel, rfl, kX8_isBorne, tF896, tF894, tS43, rfl, rfl⟩
theorem rX8_odds_49 : vIf mX8_odds 49 .eq 56 52 := ⟨7, by decide +kernel, by decide, rfl⟩
theorem rX8_odds_52 : vCn mX8_odds 52 (nI 1) 53 := Or.inl ⟨1, by decide +kernel, by decide +kernel, rfl⟩
theorem rX8_odds_53 : vGo mX8_odds 53 57 := ⟨4, by decide +kernel, by decide⟩
theorem rX8_odds_56 : vCn mX8_odds 56 (nI 0) 57 := Or.inl ⟨0, by decide +kernel, by decide +kernel, rfl⟩
theorem rX8_odds_57 : vI mX8_odds 57 .iadd 1 58 := ⟨by decide +kernel, rfl⟩
theorem rX8_odds_58 : vSi mX8_odds 58 2 59 := ⟨Or.inl ⟨2, by decide +kernel, rfl, rfl⟩, by decide⟩
theorem rX8_odds_59 : vIn mX8_odds 59 4 (nI 1) 62 := ⟨1, by decide +kernel, by decide +kernel, by decide, rfl⟩
theorem rX8_odds_62 : vGo mX8_odds 62 23 := ⟨-39, by decide +kernel, by decide⟩
theorem rX8_odds_65 : vLi mX8_odds 65 2 66 := Or.inl ⟨2, by decide +kernel, rfl, rfl⟩
theorem rX8_odds_66 : vLi mX8_odds 66 3 67 := Or.inl ⟨3, by decide +kernel, rfl, rfl⟩
theorem rX8_odds_67 : vKs mX8_odds 67 mX8_gcd 2 70 := ⟨178, by decide +kernel, rfl, kX8_gcd, tF935, Or.inl tF934⟩
theorem rX8_odds_70 : vSi mX8_odds 70 4 72 := ⟨Or.inr ⟨by decide +kernel, rfl⟩, by decide⟩
theorem rX8_odds_72 : vLi mX8_odds 72 1 73 := Or.inl ⟨1, by decide +kernel, rfl, rfl⟩
theorem rX8_odds_73 : vIf mX8_odds 73 .ne 83 76 := ⟨10, by decide +kernel, by decide, rfl⟩
theorem rX8_odds_76 : vLi mX8_odds 76 2 77 := Or.inl ⟨2, by decide +kernel, rfl, rfl⟩
theorem rX8_odds_77 : vLi mX8_odds 77 4 79 := Or.inr ⟨by decide +kernel, rfl⟩
theorem rX8_odds_79 : vI mX8_odds 79 .idiv 1 80 := ⟨by decide +kernel, rfl⟩
theorem rX8_odds_80 : vGo mX8_odds 80 87 := ⟨7, by decide +kernel, by decide⟩
theorem rX8_odds_83 : vLi mX8_odds 83 3 84 := Or.inl ⟨3, by decide +kernel, rfl, rfl⟩
theorem rX8_odds_84 : vLi mX8_odds 84 4 86 := Or.inr ⟨by decide +kernel, rfl⟩
theorem rX8_odds_86 : vI mX8_odds 86 .idiv 1 87 := ⟨by decide +kernel, rfl⟩
theorem rX8_odds_87 : vI mX8_odds 87 .ireturn 1 88 := ⟨by decide +kernel, rfl⟩
theorem rX8_rate_0 : vLa mX8_rate 0 0 1 := ⟨0, by decide +kernel, rfl, rfl⟩
theorem rX8_rate_1 : vCn mX8_rate 1 (nI 0) 2 := Or.inl ⟨0, by decide +kernel, by decide +kernel, rfl⟩
theorem rX8_rate_2 : vPf mX8_rate 2 8 0 5 := ⟨68, (RX8, TX8, 29), by decide +kernel, rfl, rfl, by decide, tF663, Or.inl rfl⟩
theorem rX8_rate_5 : vLi mX8_rate 5 1 6 := Or.inl ⟨1, by decide +kernel, rfl, rfl⟩
theorem rX8_rate_6 : vCn mX8_rate 6 (nI 0) 7 := Or.inl ⟨0, by decide +kernel, by decide +kernel, rfl⟩
theorem rX8_rate_7 : vCn mX8_rate 7 (nI 5) 8 := Or.inl ⟨5, by decide +kernel, by decide +kernel, rfl⟩
theorem rX8_rate_8 : vKs mX8_rate 8 mX8_in 3 11 := ⟨72, by decide +kernel, rfl, kX8_in, tF756, Or.inl tF755⟩
theorem rX8_rate_11 : vIf mX8_rate 11 .eq 22 14 := ⟨11, by decide +kernel, by decide, rfl⟩
theorem rX8_rate_14 : vLa mX8_rate 14 0 15 := ⟨0, by decide +kernel, rfl, rfl⟩
theorem rX8_rate_15 : vLi mX8_rate 15 2 16 := Or.inl ⟨2, by decide +kernel, rfl, rfl⟩
theorem rX8_rate_16 : vKv mX8_rate 16 mX8_isTown 1 8 19 := ⟨127, (RX8, TX8, 29), by decide +kernel, rfl, kX8_isTown, tF801, tF799, tS33, rfl, rfl⟩
theorem rX8_rate_19 : vIf mX8_rate 19 .ne 25 22 := ⟨6, by decide +kernel, by decide, rfl⟩
theorem rX8_rate_22 : vCn mX8_rate 22 (-1000000) 24 := Or.inr (Or.inr (Or.inr (Or.inl ⟨181, by decide +kernel, tF941, rfl⟩)))
theorem rX8_rate_24 : vI mX8_rate 24 .ireturn 1 25 := ⟨by decide +kernel, rfl⟩
theorem rX8_rate_25 : vLa mX8_rate 25 0 26 := ⟨0, by decide +kernel, rfl, rfl⟩
theorem rX8_rate_26 : vGf mX8_rate 26 8 11 29 := ⟨19, (RX8, TX8, 29), by decide +kernel, rfl, rfl, by decide, tF674⟩
theorem rX8_rate_29 : vLi mX8_rate 29 2 30 := Or.inl ⟨2, by decide +kernel, rfl, rfl⟩
theorem rX8_rate_30 : vI mX8_rate 30 .iaload 1 31 := ⟨by decide +kernel, rfl⟩
theorem rX8_rate_31 : vSi mX8_rate 31 3 32 := ⟨Or.inl ⟨3, by decide +kernel, rfl, rfl⟩, by decide⟩
theorem rX8_rate_32 : vLi mX8_rate 32 3 33 := Or.inl ⟨3, by decide +kernel, rfl, rfl⟩
theorem rX8_rate_33 : vLa mX8_rate 33 0 34 := ⟨0, by decide +kernel, rfl, rfl⟩
theorem rX8_rate_34 : vGf mX8_rate 34 8 18 37 := ⟨40, (RX8, TX8, 29), by decide +kernel, rfl, rfl, by decide, tF681⟩
theorem rX8_rate_37 : vCn mX8_rate 37 (nI 8) 39 := Or.inr (Or.inl ⟨8, by decide +kernel, by decide +kernel, rfl⟩)
theorem rX8_rate_39 : vLa mX8_rate 39 0 40 := ⟨0, by decide +kernel, rfl, rfl⟩
theorem rX8_rate_40 : vGf mX8_rate 40 8 18 43 := ⟨40, (RX8, TX8, 29), by decide +kernel, rfl, rfl, by decide, tF681⟩
theorem rX8_rate_43 : vLi mX8_rate 43 2 44 := Or.inl ⟨2, by decide +kernel, rfl, rfl⟩
theorem rX8_rate_44 : vKs mX8_rate 44 mX8_hangs 2 47 := ⟨131, by decide +kernel, rfl, kX8_hangs, tF804, Or.inl tF803⟩
theorem rX8_rate_47 : vI mX8_rate 47 .iadd 1 48 := ⟨by decide +kernel, rfl⟩
theorem rX8_rate_48 : vI mX8_rate 48 .iaload 1 49 := ⟨by decide +kernel, rfl⟩
theorem rX8_rate_49 : vI mX8_rate 49 .isub 1 50 := ⟨by decide +kernel, rfl⟩
theorem rX8_rate_50 : vSi mX8_rate 50 4 52 := ⟨Or.inr ⟨by decide +kernel, rfl⟩, by decide⟩
theorem rX8_rate_52 : vLa mX8_rate 52 0 53 := ⟨0, by decide +kernel, rfl, rfl⟩
theorem rX8_rate_53 : vI mX8_rate 53 .dup 1 54 := ⟨by decide +kernel, rfl⟩
theorem rX8_rate_54 : vGf mX8_rate 54 8 1 57 := ⟨182, (RX8, TX8, 29), by decide +kernel, rfl, rfl, by decide, tF664⟩
theorem rX8_rate_57 : vLi mX8_rate 57 1 58 := Or.inl ⟨1, by decide +kernel, rfl, rfl⟩
theorem rX8_rate_58 : vIf mX8_rate 58 .ne 65 61 := ⟨7, by decide +kernel, by decide, rfl⟩
theorem rX8_rate_61 : vCl mX8_rate 61 (lN 1) 62 := Or.inl ⟨1, by decide +kernel, by decide +kernel, rfl⟩
theorem rX8_rate_62 : vGo mX8_rate 62 112 := ⟨50, by decide +kernel, by decide⟩
theorem rX8_rate_65 : vLi mX8_rate 65 1 66 := Or.inl ⟨1, by decide +kernel, rfl, rfl⟩
theorem rX8_rate_66 : vCn mX8_rate 66 (nI 1) 67 := Or.inl ⟨1, by decide +kernel, by decide +kernel, rfl⟩
theorem rX8_rate_67 : vIc mX8_rate 67 .ne 76 70 := ⟨9, by decide +kernel, by decide, rfl⟩
theorem rX8_rate_70 : vCl mX8_rate 70 (lN 11) 73 := Or.inr ⟨186, by decide +kernel, tF942, rfl⟩
theorem rX8_rate_73 : vGo mX8_rate 73 112 := ⟨39, by decide +kernel, by decide⟩
theorem rX8_rate_76 : vLi mX8_rate 76 1 77 := Or.inl ⟨1, by decide +kernel, rfl, rfl⟩
theorem rX8_rate_77 : vCn mX8_rate 77 (nI 2) 78 := Or.inl ⟨2, by decide +kernel, by decide +kernel, rfl⟩
theorem rX8_rate_78 : vIc mX8_rate 78 .ne 87 81 := ⟨9, by decide +kernel, by decide, rfl⟩
theorem rX8_rate_81 : vCl mX8_rate 81 (lN 101) 84 := Or.inr ⟨188, by decide +kernel, tF943, rfl⟩
theorem rX8_rate_84 : vGo mX8_rate 84 112 := ⟨28, by decide +kernel, by decide⟩
theorem rX8_rate_87 : vLi mX8_rate 87 1 88 := Or.inl ⟨1, by decide +kernel, rfl, rfl⟩
theorem rX8_rate_88 : vCn mX8_rate 88 (nI 3) 89 := Or.inl ⟨3, by decide +kernel, by decide +kernel, rfl⟩
theorem rX8_rate_89 : vIc mX8_rate 89 .ne 98 92 := ⟨9, by decide +kernel, by decide, rfl⟩
theorem rX8_rate_92 : vCl mX8_rate 92 (lN 1011) 95 := Or.inr ⟨190, by decide +kernel, tF944, rfl⟩
theorem rX8_rate_95 : vGo mX8_rate 95 112 := ⟨17, by decide +kernel, by decide⟩
theorem rX8_rate_98 : vLi mX8_rate 98 1 99 := Or.inl ⟨1, by decide +kernel, rfl, rfl⟩
theorem rX8_rate_99 : vCn mX8_rate 99 (nI 4) 100 := Or.inl ⟨4, by decide +kernel, by decide +kernel, rfl⟩
theorem rX8_rate_100 : vIc mX8_rate 100 .ne 109 103 := ⟨9, by decide +kernel, by decide, rfl⟩
theorem rX8_rate_103 : vCl mX8_rate 103 (lN 10101) 106 := Or.inr ⟨192, by decide +kernel, tF945, rfl⟩
theorem rX8_rate_106 : vGo mX8_rate 106 112 := ⟨6, by decide +kernel, by decide⟩
theorem rX8_rate_109 : vCl mX8_rate 109 (lN 100001) 112 := Or.inr ⟨194, by decide +kernel, tF946, rfl⟩
theorem rX8_rate_112 : vI mX8_rate 112 .ladd 1 113 := ⟨by decide +kernel, rfl⟩
theorem rX8_rate_113 : vPf mX8_rate 113 8 1 116 := ⟨182, (RX8, TX8, 29), by decide +kernel, rfl, rfl, by decide, tF664, Or.inl rfl⟩
theorem rX8_rate_116 : vLi mX8_rate 116 1 117 := Or.inl ⟨1, by decide +kernel, rfl, rfl⟩
theorem rX8_rate_117 : vIf mX8_rate 117 .ne 124 120 := ⟨7, by decide +kernel, by decide, rfl⟩
theorem rX8_rate_120 : vLi mX8_rate 120 3 121 := Or.inl ⟨3, by decide +kernel, rfl, rfl⟩
theorem rX8_rate_121 : vGo mX8_rate 121 188 := ⟨67, by decide +kernel, by decide⟩
theorem rX8_rate_124 : vLi mX8_rate 124 1 125 := Or.inl ⟨1, by decide +kernel, rfl, rfl⟩
theorem rX8_rate_125 : vCn mX8_rate 125 (nI 1) 126 := Or.inl ⟨1, by decide +kernel, by decide +kernel, rfl⟩
theorem rX8_rate_126 : vIc mX8_rate 126 .ne 140 129 := ⟨14, by decide +kernel, by decide, rfl⟩
theorem rX8_rate_129 : vLi mX8_rate 129 3 130 := Or.inl ⟨3, by decide +kernel, rfl, rfl⟩
theorem rX8_rate_130 : vLa mX8_rate 130 0 131 := ⟨0, by decide +kernel, rfl, rfl⟩
theorem rX8_rate_131 : vGf mX8_rate 131 8 12 134 := ⟨22, (RX8, TX8, 29), by decide +kernel, rfl, rfl, by decide, tF675⟩
theorem rX8_rate_134 : vLi mX8_rate 134 2 135 := Or.inl ⟨2, by decide +kernel, rfl, rfl⟩
theorem rX8_rate_135 : vI mX8_rate 135 .iaload 1 136 := ⟨by decide +kernel, rfl⟩
theorem rX8_rate_136 : vI mX8_rate 136 .iadd 1 137 := ⟨by decide +kernel, rfl⟩
theorem rX8_rate_137 : vGo mX8_rate 137 188 := ⟨51, by decide +kernel, by decide⟩
theorem rX8_rate_140 : vLi mX8_rate 140 1 141 := Or.inl ⟨1, by decide +kernel, rfl, rfl⟩
theorem rX8_rate_141 : vCn mX8_rate 141 (nI 2) 142 := Or.inl ⟨2, by decide +kernel, by decide +kernel, rfl⟩
theorem rX8_rate_142 : vIc mX8_rate 142 .ne 150 145 := ⟨8, by decide +kernel, by decide, rfl⟩
theorem rX8_rate_145 : vLi mX8_rate 145 4 147 := Or.inr ⟨by decide +kernel, rfl⟩
theorem rX8_rate_147 : vGo mX8_rate 147 188 := ⟨41, by decide +kernel, by decide⟩
theorem rX8_rate_150 : vLi mX8_rate 150 1 151 := Or.inl ⟨1, by decide +kernel, rfl, rfl⟩
theorem rX8_rate_151 : vCn mX8_rate 151 (nI 3) 152 := Or.inl ⟨3, by decide +kernel, by decide +kernel, rfl⟩
theorem rX8_rate_152 : vIc mX8_rate 152 .ne 168 155 := ⟨16, by decide +kernel, by decide, rfl⟩
theorem rX8_rate_155 : vCn mX8_rate 155 (nI 2) 156 := Or.inl ⟨2, by decide +kernel, by decide +kernel, rfl⟩
theorem rX8_rate_156 : vLi mX8_rate 156 3 157 := Or.inl ⟨3, by decide +kernel, rfl, rfl⟩
theorem rX8_rate_157 : vLa mX8_rate 157 0 158 := ⟨0, by decide +kernel, rfl, rfl⟩
theorem rX8_rate_158 : vGf mX8_rate 158 8 12 161 := ⟨22, (RX8, TX8, 29), by decide +kernel, rfl, rfl, by decide, tF675⟩
theorem rX8_rate_161 : vLi mX8_rate 161 2 162 := Or.inl ⟨2, by decide +kernel, rfl, rfl⟩
theorem rX8_rate_162 : vI mX8_rate 162 .iaload 1 163 := ⟨by decide +kernel, rfl⟩
theorem rX8_rate_163 : vI mX8_rate 163 .iadd 1 164 := ⟨by decide +kernel, rfl⟩
theorem rX8_rate_164 : vI mX8_rate 164 .imul 1 165 := ⟨by decide +kernel, rfl⟩
theorem rX8_rate_165 : vGo mX8_rate 165 188 := ⟨23, by decide +kernel, by decide⟩
theorem rX8_rate_168 : vLi mX8_rate 168 1 169 := Or.inl ⟨1, by decide +kernel, rfl, rfl⟩
theorem rX8_rate_169 : vCn mX8_rate 169 (nI 4) 170 := Or.inl ⟨4, by decide +kernel, by decide +kernel, rfl⟩
theorem rX8_rate_170 : vIc mX8_rate 170 .ne 180 173 := ⟨10, by decide +kernel, by decide, rfl⟩
theorem rX8_rate_173 : vLi mX8_rate 173 4 175 := Or.inr ⟨by decide +kernel, rfl⟩
theorem rX8_rate_175 : vLi mX8_rate 175 2 176 := Or.inl ⟨2, by decide +kernel, rfl, rfl⟩
theorem rX8_rate_176 : vI mX8_rate 176 .iadd 1 177 := ⟨by decide +kernel, rfl⟩
theorem rX8_rate_177 : vGo mX8_rate 177 188 := ⟨11, by decide +kernel, by decide⟩
theorem rX8_rate_180 : vLi mX8_rate 180 3 181 := Or.inl ⟨3, by decide +kernel, rfl, rfl⟩
theorem rX8_rate_181 : vLa mX8_rate 181 0 182 := ⟨0, by decide +kernel, rfl, rfl⟩
theorem rX8_rate_182 : vGf mX8_rate 182 8 18 185 := ⟨40, (RX8, TX8, 29), by decide +kernel, rfl, rfl, by decide, tF681⟩
theorem rX8_rate_185 : vCn mX8_rate 185 (nI 0) 186 := Or.inl ⟨0, by decide +kernel, by decide +kernel, rfl⟩
theorem rX8_rate_186 : vI mX8_rate 186 .iaload 1 187 := ⟨by decide +kernel, rfl⟩
theorem rX8_rate_187 : vI mX8_rate 187 .iadd 1 188 := ⟨by decide +kernel, rfl⟩
theorem rX8_rate_188 : vI mX8_rate 188 .ireturn 1 189 := ⟨by decide +kernel, rfl⟩
theorem rX8_keep_0 : vLa mX8_keep 0 0 1 := ⟨0, by decide +kernel, rfl, rfl⟩
theorem rX8_keep_1 : vCn mX8_keep 1 (nI 0) 2 := Or.inl ⟨0, by decide +kernel, by decide +kernel, rfl⟩
theorem rX8_keep_2 : vPf mX8_keep 2 8 0 5 := ⟨68, (RX8, TX8, 29), by decide +kernel, rfl, rfl, by decide, tF663, Or.inl rfl⟩
theorem rX8_keep_5 : vLi mX8_keep 5 1 6 := Or.inl ⟨1, by decide +kernel, rfl, rfl⟩
theorem rX8_keep_6 : vCn mX8_keep 6 (nI 0) 7 := Or.inl ⟨0, by decide +kernel, by decide +kernel, rfl⟩
theorem rX8_keep_7 : vCn mX8_keep 7 (nI 1) 8 := Or.inl ⟨1, by decide +kernel, by decide +kernel, rfl⟩
theorem rX8_keep_8 : vKs mX8_keep 8 mX8_in 3 11 := ⟨72, by decide +kernel, rfl, kX8_in, tF756, Or.inl tF755⟩
theorem rX8_keep_11 : vIf mX8_keep 11 .ne 16 14 := ⟨5, by decide +kernel, by decide, rfl⟩
theorem rX8_keep_14 : vCn mX8_keep 14 (-1) 15 := Or.inl ⟨-1, by decide +kernel, by decide +kernel, rfl⟩
theorem rX8_keep_15 : vI mX8_keep 15 .ireturn 1 16 := ⟨by decide +kernel, rfl⟩
theorem rX8_keep_16 : vCn mX8_keep 16 (nI 0) 17 := Or.inl ⟨0, by decide +kernel, by decide +kernel, rfl⟩
theorem rX8_keep_17 : vSi mX8_keep 17 2 18 := ⟨Or.inl ⟨2, by decide +kernel, rfl, rfl⟩, by decide⟩
theorem rX8_keep_18 : vLi mX8_keep 18 2 19 := Or.inl ⟨2, by decide +kernel, rfl, rfl⟩
theorem rX8_keep_19 : vCn mX8_keep 19 (nI 56) 21 := Or.inr (Or.inl ⟨56, by decide +kernel, by decide +kernel, rfl⟩)
theorem rX8_keep_21 : vIc mX8_keep 21 .ge 47 24 := ⟨26, by decide +kernel, by decide, rfl⟩
theorem rX8_keep_24 : vLa mX8_keep 24 0 25 := ⟨0, by decide +kernel, rfl, rfl⟩
theorem rX8_keep_25 : vGf mX8_keep 25 8 20 28 := ⟨46, (RX8, TX8, 29), by decide +kernel, rfl, rfl, by decide, tF683⟩
theorem rX8_keep_28 : vCn mX8_keep 28 (nI 56) 30 := Or.inr (Or.inl ⟨56, by decide +kernel, by decide +kernel, rfl⟩)
theorem rX8_keep_30 : vLi mX8_keep 30 1 31 := Or.inl ⟨1, by decide +kernel, rfl, rfl⟩
theorem rX8_keep_31 : vI mX8_keep 31 .imul 1 32 := ⟨by decide +kernel, rfl⟩
theorem rX8_keep_32 : vLi mX8_keep 32 2 33 := Or.inl ⟨2, by decide +kernel, rfl, rfl⟩
theorem rX8_keep_33 : vI mX8_keep 33 .iadd 1 34 := ⟨by decide +kernel, rfl⟩
theorem rX8_keep_34 : vLa mX8_keep 34 0 35 := ⟨0, by decide +kernel, rfl, rfl⟩
theorem rX8_keep_35 : vGf mX8_keep 35 8 18 38 := ⟨40, (RX8, TX8, 29), by decide +kernel, rfl, rfl, by decide, tF681⟩
theorem rX8_keep_38 : vLi mX8_keep 38 2 39 := Or.inl ⟨2, by decide +kernel, rfl, rfl⟩
theorem rX8_keep_39 : vI mX8_keep 39 .iaload 1 40 := ⟨by decide +kernel, rfl⟩
theorem rX8_keep_40 : vI mX8_keep 40 .iastore 1 41 := ⟨by decide +kernel, rfl⟩
theorem rX8_keep_41 : vIn mX8_keep 41 2 (nI 1) 44 := ⟨1, by decide +kernel, by decide +kernel, by decide, rfl⟩
theorem rX8_keep_44 : vGo mX8_keep 44 18 := ⟨-26, by decide +kernel, by decide⟩
theorem rX8_keep_47 : vLa mX8_keep 47 0 48 := ⟨0, by decide +kernel, rfl, rfl⟩
theorem rX8_keep_48 : vGf mX8_keep 48 8 21 51 := ⟨49, (RX8, TX8, 29), by decide +kernel, rfl, rfl, by decide, tF684⟩
theorem rX8_keep_51 : vLi mX8_keep 51 1 52 := Or.inl ⟨1, by decide +kernel, rfl, rfl⟩
theorem rX8_keep_52 : vCn mX8_keep 52 (nI 1) 53 := Or.inl ⟨1, by decide +kernel, by decide +kernel, rfl⟩
theorem rX8_keep_53 : vI mX8_keep 53 .bastore 1 54 := ⟨by decide +kernel, rfl⟩
theorem rX8_keep_54 : vLa mX8_keep 54 0 55 := ⟨0, by decide +kernel, rfl, rfl⟩
theorem rX8_keep_55 : vGf mX8_keep 55 8 18 58 := ⟨40, (RX8, TX8, 29), by decide +kernel, rfl, rfl, by decide, tF681⟩
theorem rX8_keep_58 : vCn mX8_keep 58 (nI 0) 59 := Or.inl ⟨0, by decide +kernel, by decide +kernel, rfl⟩
theorem rX8_keep_59 : vI mX8_keep 59 .iaload 1 60 := ⟨by decide +kernel, rfl⟩
theorem rX8_keep_60 : vI mX8_keep 60 .ireturn 1 61 := ⟨by decide +kernel, rfl⟩
theorem rX8_back_0 : vLa mX8_back 0 0 1 := ⟨0, by decide +kernel, rfl, rfl⟩
theorem rX8_back_1 : vCn mX8_back 1 (nI 0) 2 := Or.inl ⟨0, by decide +kernel, by decide +kernel, rfl⟩
theorem rX8_back_2 : vPf mX8_back 2 8 0 5 := ⟨68, (RX8, TX8, 29), by decide +kernel, rfl, rfl, by decide, tF663, Or.inl rfl⟩
theorem rX8_back_5 : vLi mX8_back 5 1 6 := Or.inl ⟨1, by decide +kernel, rfl, rfl⟩
theorem rX8_back_6 : vCn mX8_back 6 (nI 0) 7 := Or.inl ⟨0, by decide +kernel, by decide +kernel, rfl⟩
theorem rX8_back_7 : vCn mX8_back 7 (nI 1) 8 := Or.inl ⟨1, by decide +kernel, by decide +kernel, rfl⟩
theorem rX8_back_8 : vKs mX8_back 8 mX8_in 3 11 := ⟨72, by decide +kernel, rfl, kX8_in, tF756, Or.inl tF755⟩
theorem rX8_back_11 : vIf mX8_back 11 .ne 16 14 := ⟨5, by decide +kernel, by decide, rfl⟩
theorem rX8_back_14 : vCn mX8_back 14 (-1) 15 := Or.inl ⟨-1, by decide +kernel, by decide +kernel, rfl⟩
theorem rX8_back_15 : vI mX8_back 15 .ireturn 1 16 := ⟨by decide +kernel, rfl⟩
theorem rX8_back_16 : vLa mX8_back 16 0 17 := ⟨0, by decide +kernel, rfl, rfl⟩
theorem rX8_back_17 : vGf mX8_back 17 8 21 20 := ⟨49, (RX8, TX8, 29), by decide +kernel, rfl, rfl, by decide, tF684⟩
theorem rX8_back_20 : vLi mX8_back 20 1 21 := Or.inl ⟨1, by decide +kernel, rfl, rfl⟩
theorem rX8_back_21 : vI mX8_back 21 .baload 1 22 := ⟨by decide +kernel, rfl⟩
theorem rX8_back_22 : vIf mX8_back 22 .ne 28 25 := ⟨6, by decide +kernel, by decide, rfl⟩
theorem rX8_back_25 : vCn mX8_back 25 (-2) 27 := Or.inr (Or.inl ⟨-2, by decide +kernel, by decide +kernel, rfl⟩)
theorem rX8_back_27 : vI mX8_back 27 .ireturn 1 28 := ⟨by decide +kernel, rfl⟩
theorem rX8_back_28 : vCn mX8_back 28 (nI 0) 29 := Or.inl ⟨0, by decide +kernel, by decide +kernel, rfl⟩
theorem rX8_back_29 : vSi mX8_back 29 2 30 := ⟨Or.inl ⟨2, by decide +kernel, rfl, rfl⟩, by decide⟩
theorem rX8_back_30 : vLi mX8_back 30 2 31 := Or.inl ⟨2, by decide +kernel, rfl, rfl⟩
theorem rX8_back_31 : vCn mX8_back 31 (nI 56) 33 := Or.inr (Or.inl ⟨56, by decide +kernel, by decide +kernel, rfl⟩)
theorem rX8_back_33 : vIc mX8_back 33 .ge 59 36 := ⟨26, by decide +kernel, by decide, rfl⟩
theorem rX8_back_36 : vLa mX8_back 36 0 37 := ⟨0, by decide +kernel, rfl, rfl⟩
theorem rX8_back_37 : vGf mX8_back 37 8 18 40 := ⟨40, (RX8, TX8, 29), by decide +kernel, rfl, rfl, by decide, tF681⟩
theorem rX8_back_40 : vLi mX8_back 40 2 41 := Or.inl ⟨2, by decide +kernel, rfl, rfl⟩
theorem rX8_back_41 : vLa mX8_back 41 0 42 := ⟨0, by decide +kernel, rfl, rfl⟩
theorem rX8_back_42 : vGf mX8_back 42 8 20 45 := ⟨46, (RX8, TX8, 29), by decide +kernel, rfl, rfl, by decide, tF683⟩
theorem rX8_back_45 : vCn mX8_back 45 (nI 56) 47 := Or.inr (Or.inl ⟨56, by decide +kernel, by decide +kernel, rfl⟩)
theorem rX8_back_47 : vLi mX8_back 47 1 48 := Or.inl ⟨1, by decide +kernel, rfl, rfl⟩
theorem rX8_back_48 : vI mX8_back 48 .imul 1 49 := ⟨by decide +kernel, rfl⟩
theorem rX8_back_49 : vLi mX8_back 49 2 50 := Or.inl ⟨2, by decide +kernel, rfl, rfl⟩
theorem rX8_back_50 : vI mX8_back 50 .iadd 1 51 := ⟨by decide +kernel, rfl⟩
theorem rX8_back_51 : vI mX8_back 51 .iaload 1 52 := ⟨by decide +kernel, rfl⟩
theorem rX8_back_52 : vI mX8_back 52 .iastore 1 53 := ⟨by decide +kernel, rfl⟩
theorem rX8_back_53 : vIn mX8_back 53 2 (nI 1) 56 := ⟨1, by decide +kernel, by decide +kernel, by decide, rfl⟩
theorem rX8_back_56 : vGo mX8_back 56 30 := ⟨-26, by decide +kernel, by decide⟩
theorem rX8_back_59 : vLa mX8_back 59 0 60 := ⟨0, by decide +kernel, rfl, rfl⟩
theorem rX8_back_60 : vCn mX8_back 60 (nI 0) 61 := Or.inl ⟨0, by decide +kernel, by decide +kernel, rfl⟩
theorem rX8_back_61 : vPf mX8_back 61 8 23 64 := ⟨124, (RX8, TX8, 29), by decide +kernel, rfl, rfl, by decide, tF686, Or.inl rfl⟩
theorem rX8_back_64 : vLa mX8_back 64 0 65 := ⟨0, by decide +kernel, rfl, rfl⟩
theorem rX8_back_65 : vGf mX8_back 65 8 18 68 := ⟨40, (RX8, TX8, 29), by decide +kernel, rfl, rfl, by decide, tF681⟩
theorem rX8_back_68 : vCn mX8_back 68 (nI 0) 69 := Or.inl ⟨0, by decide +kernel, by decide +kernel, rfl⟩
theorem rX8_back_69 : vI mX8_back 69 .iaload 1 70 := ⟨by decide +kernel, rfl⟩
theorem rX8_back_70 : vI mX8_back 70 .ireturn 1 71 := ⟨by decide +kernel, rfl⟩
theorem rX8_roads_0 : vCn mX8_roads 0 (nI 0) 1 := Or.inl ⟨0, by decide +kernel, by decide +kernel, rfl⟩
theorem rX8_roads_1 : vSi mX8_roads 1 1 2 := ⟨Or.inl ⟨1, by decide +kernel, rfl, rfl⟩, by decide⟩
theorem rX8_roads_2 : vCn mX8_roads 2 (nI 0) 3 := Or.inl ⟨0, by decide +kernel, by decide +kernel, rfl⟩
theorem rX8_roads_3 : vSi mX8_roads 3 2 4 := ⟨Or.inl ⟨2, by decide +kernel, rfl, rfl⟩, by decide⟩
theorem rX8_roads_4 : vLi mX8_roads 4 2 5 := Or.inl ⟨2, by decide +kernel, rfl, rfl⟩
theorem rX8_roads_5 : vCn mX8_roads 5 (nI 36) 7 := Or.inr (Or.inl ⟨36, by decide +kernel, by decide +kernel, rfl⟩)
theorem rX8_roads_7 : vIc mX8_roads 7 .ge 33 10 := ⟨26, by decide +kernel, by decide, rfl⟩
theorem rX8_roads_10 : vLi mX8_roads 10 1 11 := Or.inl ⟨1, by decide +kernel, rfl, rfl⟩
theorem rX8_roads_11 : vLa mX8_roads 11 0 12 := ⟨0, by decide +kernel, rfl, rfl⟩
theorem rX8_roads_12 : vGf mX8_roads 12 8 13 15 := ⟨25, (RX8, TX8, 29), by decide +kernel, rfl, rfl, by decide, tF676⟩
theorem rX8_roads_15 : vLi mX8_roads 15 2 16 := Or.inl ⟨2, by decide +kernel, rfl, rfl⟩
theorem rX8_roads_16 : vI mX8_roads 16 .iaload 1 17 := ⟨by decide +kernel, rfl⟩
theorem rX8_roads_17 : vIf mX8_roads 17 .le 24 20 := ⟨7, by decide +kernel, by decide, rfl⟩
theorem rX8_roads_20 : vCn mX8_roads 20 (nI 1) 21 := Or.inl ⟨1, by decide +kernel, by decide +kernel, rfl⟩
theorem rX8_roads_21 : vGo mX8_roads 21 25 := ⟨4, by decide +kernel, by decide⟩
theorem rX8_roads_24 : vCn mX8_roads 24 (nI 0) 25 := Or.inl ⟨0, by decide +kernel, by decide +kernel, rfl⟩
theorem rX8_roads_25 : vI mX8_roads 25 .iadd 1 26 := ⟨by decide +kernel, rfl⟩
theorem rX8_roads_26 : vSi mX8_roads 26 1 27 := ⟨Or.inl ⟨1, by decide +kernel, rfl, rfl⟩, by decide⟩
theorem rX8_roads_27 : vIn mX8_roads 27 2 (nI 1) 30 := ⟨1, by decide +kernel, by decide +kernel, by decide, rfl⟩
theorem rX8_roads_30 : vGo mX8_roads 30 4 := ⟨-26, by decide +kernel, by decide⟩
theorem rX8_roads_33 : vLi mX8_roads 33 1 34 := Or.inl ⟨1, by decide +kernel, rfl, rfl⟩
theorem rX8_roads_34 : vCn mX8_roads 34 (nI 2) 35 := Or.inl ⟨2, by decide +kernel, by decide +kernel, rfl⟩
theorem rX8_roads_35 : vI mX8_roads 35 .idiv 1 36 := ⟨by decide +kernel, rfl⟩
theorem rX8_roads_36 : vI mX8_roads 36 .ireturn 1 37 := ⟨by decide +kernel, rfl⟩
theorem rX8_count_0 : vLa mX8_count 0 0 1 := ⟨0, by decide +kernel, rfl, rfl⟩
theorem rX8_count_1 : vCn mX8_count 1 (nI 0) 2 := Or.inl ⟨0, by decide +kernel, by decide +kernel, rfl⟩
theorem rX8_count_2 : vPf mX8_count 2 8 0 5 := ⟨68, (RX8, TX8, 29), by decide +kernel, rfl, rfl, by decide, tF663, Or.inl rfl⟩
theorem rX8_count_5 : vLi mX8_count 5 1 6 := Or.inl ⟨1, by decide +kernel, rfl, rfl⟩
theorem rX8_count_6 : vIf mX8_count 6 .ne 18 9 := ⟨12, by decide +kernel, by decide, rfl⟩
theorem rX8_count_9 : vLa mX8_count 9 0 10 := ⟨0, by decide +kernel, rfl, rfl⟩
theorem rX8_count_10 : vGf mX8_count 10 8 9 13 := ⟨13, (RX8, TX8, 29), by decide +kernel, rfl, rfl, by decide, tF672⟩
theorem rX8_count_13 : vCn mX8_count 13 (nI 0) 14 := Or.inl ⟨0, by decide +kernel, by decide +kernel, rfl⟩
theorem rX8_count_14 : vI mX8_count 14 .iaload 1 15 := ⟨by decide +kernel, rfl⟩
theorem rX8_count_15 : vGo mX8_count 15 69 := ⟨54, by decide +kernel, by decide⟩
theorem rX8_count_18 : vLi mX8_count 18 1 19 := Or.inl ⟨1, by decide +kernel, rfl, rfl⟩
theorem rX8_count_19 : vCn mX8_count 19 (nI 1) 20 := Or.inl ⟨1, by decide +kernel, by decide +kernel, rfl⟩
theorem rX8_count_20 : vIc mX8_count 20 .ne 30 23 := ⟨10, by decide +kernel, by decide, rfl⟩
theorem rX8_count_23 : vLa mX8_count 23 0 24 := ⟨0, by decide +kernel, rfl, rfl⟩
theorem rX8_count_24 : vKv mX8_count 24 mX8_roads 0 8 27 := ⟨196, (RX8, TX8, 29), by decide +kernel, rfl, kX8_roads, tF961, tF959, tS45, rfl, rfl⟩
theorem rX8_count_27 : vGo mX8_count 27 69 := ⟨42, by decide +kernel, by decide⟩
theorem rX8_count_30 : vLi mX8_count 30 1 31 := Or.inl ⟨1, by decide +kernel, rfl, rfl⟩
theorem rX8_count_31 : vCn mX8_count 31 (nI 2) 32 := Or.inl ⟨2, by decide +kernel, by decide +kernel, rfl⟩
theorem rX8_count_32 : vIc mX8_count 32 .ne 44 35 := ⟨12, by decide +kernel, by decide, rfl⟩
theorem rX8_count_35 : vLa mX8_count 35 0 36 := ⟨0, by decide +kernel, rfl, rfl⟩
theorem rX8_count_36 : vGf mX8_count 36 8 9 39 := ⟨13, (RX8, TX8, 29), by decide +kernel, rfl, rfl, by decide, tF672⟩
theorem rX8_count_39 : vCn mX8_count 39 (nI 1) 40 := Or.inl ⟨1, by decide +kernel, by decide +kernel, rfl⟩
theorem rX8_count_40 : vI mX8_count 40 .iaload 1 41 := ⟨by decide +kernel, rfl⟩
theorem rX8_count_41 : vGo mX8_count 41 69 := ⟨28, by decide +kernel, by decide⟩
theorem rX8_count_44 : vLi mX8_count 44 1 45 := Or.inl ⟨1, by decide +kernel, rfl, rfl⟩
theorem rX8_count_45 : vCn mX8_count 45 (nI 3) 46 := Or.inl ⟨3, by decide +kernel, by decide +kernel, rfl⟩
theorem rX8_count_46 : vIc mX8_count 46 .ne 56 49 := ⟨10, by decide +kernel, by decide, rfl⟩
theorem rX8_count_49 : vLa mX8_count 49 0 50 := ⟨0, by decide +kernel, rfl, rfl⟩
theorem rX8_count_50 : vGf mX8_count 50 8 26 53 := ⟨121, (RX8, TX8, 29), by decide +kernel, rfl, rfl, by decide, tF689⟩
theorem rX8_count_53 : vGo mX8_count 53 69 := ⟨16, by decide +kernel, by decide⟩
theorem rX8_count_56 : vLi mX8_count 56 1 57 := Or.inl ⟨1, by decide +kernel, rfl, rfl⟩
theorem rX8_count_57 : vCn mX8_count 57 (nI 4) 58 := Or.inl ⟨4, by decide +kernel, by decide +kernel, rfl⟩
theorem rX8_count_58 : vIc mX8_count 58 .ne 68 61 := ⟨10, by decide +kernel, by decide, rfl⟩
theorem rX8_count_61 : vLa mX8_count 61 0 62 := ⟨0, by decide +kernel, rfl, rfl⟩
theorem rX8_count_62 : vGf mX8_count 62 8 3 65 := ⟨76, (RX8, TX8, 29), by decide +kernel, rfl, rfl, by decide, tF666⟩
theorem rX8_count_65 : vGo mX8_count 65 69 := ⟨4, by decide +kernel, by decide⟩
theorem rX8_count_68 : vCn mX8_count 68 (-1) 69 := Or.inl ⟨-1, by decide +kernel, by decide +kernel, rfl⟩
theorem rX8_count_69 : vI mX8_count 69 .ireturn 1 70 := ⟨by decide +kernel, rfl⟩
theorem rX8_trace_0 : vLa mX8_trace 0 0 1 := ⟨0, by decide +kernel, rfl, rfl⟩
theorem rX8_trace_1 : vCn mX8_trace 1 (nI 0) 2 := Or.inl ⟨0, by decide +kernel, by decide +kernel, rfl⟩
theorem rX8_trace_2 : vPf mX8_trace 2 8 0 5 := ⟨68, (RX8, TX8, 29), by decide +kernel, rfl, rfl, by decide, tF663, Or.inl rfl⟩
theorem rX8_trace_5 : vLa mX8_trace 5 0 6 := ⟨0, by decide +kernel, rfl, rfl⟩
theorem rX8_trace_6 : vGf mX8_trace 6 8 1 9 := ⟨182, (RX8, TX8, 29), by decide +kernel, rfl, rfl, by decide, tF664⟩
theorem rX8_trace_9 : vI mX8_trace 9 .lreturn 1 10 := ⟨by decide +kernel, rfl⟩
theorem rJ6_bitCount_0f7a4_0 : vLi mJ6_bitCount_0f7a4 0 0 1 := Or.inl ⟨0, by decide +kernel, rfl, rfl⟩
theorem rJ6_bitCount_0f7a4_1 : vLi mJ6_bitCount_0f7a4 1 0 2 := Or.inl ⟨0, by decide +kernel, rfl, rfl⟩
theorem rJ6_bitCount_0f7a4_2 : vCn mJ6_bitCount_0f7a4 2 (nI 1) 3 := Or.inl ⟨1, by decide +kernel, by decide +kernel, rfl⟩
theorem rJ6_bitCount_0f7a4_3 : vI mJ6_bitCount_0f7a4 3 .iushr 1 4 := ⟨by decide +kernel, rfl⟩
theorem rJ6_bitCount_0f7a4_4 : vCn mJ6_bitCount_0f7a4 4 (nI 1431655765) 7 := Or.inr (Or.inr (Or.inr (Or.inr ⟨265, by decide +kernel, tF585, rfl⟩)))
theorem rJ6_bitCount_0f7a4_7 : vI mJ6_bitCount_0f7a4 7 .iand 1 8 := ⟨by decide +kernel, rfl⟩
theorem rJ6_bitCount_0f7a4_8 : vI mJ6_bitCount_0f7a4 8 .isub 1 9 := ⟨by decide +kernel, rfl⟩
theorem rJ6_bitCount_0f7a4_9 : vSi mJ6_bitCount_0f7a4 9 0 10 := ⟨Or.inl ⟨0, by decide +kernel, rfl, rfl⟩, by decide⟩
theorem rJ6_bitCount_0f7a4_10 : vLi mJ6_bitCount_0f7a4 10 0 11 := Or.inl ⟨0, by decide +kernel, rfl, rfl⟩
theorem rJ6_bitCount_0f7a4_11 : vCn mJ6_bitCount_0f7a4 11 (nI 858993459) 14 := Or.inr (Or.inr (Or.inr (Or.inr ⟨266, by decide +kernel, tF586, rfl⟩)))
theorem rJ6_bitCount_0f7a4_14 : vI mJ6_bitCount_0f7a4 14 .iand 1 15 := ⟨by decide +kernel, rfl⟩
theorem rJ6_bitCount_0f7a4_15 : vLi mJ6_bitCount_0f7a4 15 0 16 := Or.inl ⟨0, by decide +kernel, rfl, rfl⟩
theorem rJ6_bitCount_0f7a4_16 : vCn mJ6_bitCount_0f7a4 16 (nI 2) 17 := Or.inl ⟨2, by decide +kernel, by decide +kernel, rfl⟩
theorem rJ6_bitCount_0f7a4_17 : vI mJ6_bitCount_0f7a4 17 .iushr 1 18 := ⟨by decide +kernel, rfl⟩
theorem rJ6_bitCount_0f7a4_18 : vCn mJ6_bitCount_0f7a4 18 (nI 858993459) 21 := Or.inr (Or.inr (Or.inr (Or.inr ⟨266, by decide +kernel, tF586, rfl⟩)))
theorem rJ6_bitCount_0f7a4_21 : vI mJ6_bitCount_0f7a4 21 .iand 1 22 := ⟨by decide +kernel, rfl⟩
theorem rJ6_bitCount_0f7a4_22 : vI mJ6_bitCount_0f7a4 22 .iadd 1 23 := ⟨by decide +kernel, rfl⟩
theorem rJ6_bitCount_0f7a4_23 : vSi mJ6_bitCount_0f7a4 23 0 24 := ⟨Or.inl ⟨0, by decide +kernel, rfl, rfl⟩, by decide⟩
theorem rJ6_bitCount_0f7a4_24 : vLi mJ6_bitCount_0f7a4 24 0 25 := Or.inl ⟨0, by decide +kernel, rfl, rfl⟩
theorem rJ6_bitCount_0f7a4_25 : vLi mJ6_bitCount_0f7a4 25 0 26 := Or.inl ⟨0, by decide +kernel, rfl, rfl⟩
theorem rJ6_bitCount_0f7a4_26 : vCn mJ6_bitCount_0f7a4 26 (nI 4) 27 := Or.inl ⟨4, by decide +kernel, by decide +kernel, rfl⟩
theorem rJ6_bitCount_0f7a4_27 : vI mJ6_bitCount_0f7a4 27 .iushr 1 28 := ⟨by decide +kernel, rfl⟩
theorem rJ6_bitCount_0f7a4_28 : vI mJ6_bitCount_0f7a4 28 .iadd 1 29 := ⟨by decide +kernel, rfl⟩
theorem rJ6_bitCount_0f7a4_29 : vCn mJ6_bitCount_0f7a4 29 (nI 252645135) 32 := Or.inr (Or.inr (Or.inr (Or.inr ⟨267, by decide +kernel, tF587, rfl⟩)))
theorem rJ6_bitCount_0f7a4_32 : vI mJ6_bitCount_0f7a4 32 .iand 1 33 := ⟨by decide +kernel, rfl⟩
theorem rJ6_bitCount_0f7a4_33 : vSi mJ6_bitCount_0f7a4 33 0 34 := ⟨Or.inl ⟨0, by decide +kernel, rfl, rfl⟩, by decide⟩
theorem rJ6_bitCount_0f7a4_34 : vLi mJ6_bitCount_0f7a4 34 0 35 := Or.inl ⟨0, by decide +kernel, rfl, rfl⟩
theorem rJ6_bitCount_0f7a4_35 : vLi mJ6_bitCount_0f7a4 35 0 36 := Or.inl ⟨0, by decide +kernel, rfl, rfl⟩
theorem rJ6_bitCount_0f7a4_36 : vCn mJ6_bitCount_0f7a4 36 (nI 8) 38 := Or.inr (Or.inl ⟨8, by decide +kernel, by decide +kernel, rfl⟩)
theorem rJ6_bitCount_0f7a4_38 : vI mJ6_bitCount_0f7a4 38 .iushr 1 39 := ⟨by decide +kernel, rfl⟩
theorem rJ6_bitCount_0f7a4_39 : vI mJ6_bitCount_0f7a4 39 .iadd 1 40 := ⟨by decide +kernel, rfl⟩
theorem rJ6_bitCount_0f7a4_40 : vSi mJ6_bitCount_0f7a4 40 0 41 := ⟨Or.inl ⟨0, by decide +kernel, rfl, rfl⟩, by decide⟩
theorem rJ6_bitCount_0f7a4_41 : vLi mJ6_bitCount_0f7a4 41 0 42 := Or.inl ⟨0, by decide +kernel, rfl, rfl⟩
theorem rJ6_bitCount_0f7a4_42 : vLi mJ6_bitCount_0f7a4 42 0 43 := Or.inl ⟨0, by decide +kernel, rfl, rfl⟩
theorem rJ6_bitCount_0f7a4_43 : vCn mJ6_bitCount_0f7a4 43 (nI 16) 45 := Or.inr (Or.inl ⟨16, by decide +kernel, by decide +kernel, rfl⟩)
theorem rJ6_bitCount_0f7a4_45 : vI mJ6_bitCount_0f7a4 45 .iushr 1 46 := ⟨by decide +kernel, rfl⟩
theorem rJ6_bitCount_0f7a4_46 : vI mJ6_bitCount_0f7a4 46 .iadd 1 47 := ⟨by decide +kernel, rfl⟩
theorem rJ6_bitCount_0f7a4_47 : vSi mJ6_bitCount_0f7a4 47 0 48 := ⟨Or.inl ⟨0, by decide +kernel, rfl, rfl⟩, by decide⟩
theorem rJ6_bitCount_0f7a4_48 : vLi mJ6_bitCount_0f7a4 48 0 49 := Or.inl ⟨0, by decide +kernel, rfl, rfl⟩
theorem rJ6_bitCount_0f7a4_49 : vCn mJ6_bitCount_0f7a4 49 (nI 63) 51 := Or.inr (Or.inl ⟨63, by decide +kernel, by decide +kernel, rfl⟩)
theorem rJ6_bitCount_0f7a4_51 : vI mJ6_bitCount_0f7a4 51 .iand 1 52 := ⟨by decide +kernel, rfl⟩
theorem rJ6_bitCount_0f7a4_52 : vI mJ6_bitCount_0f7a4 52 .ireturn 1 53 := ⟨by decide +kernel, rfl⟩
theorem rJ9_max_7cf53_0 : vLi mJ9_max_7cf53 0 0 1 := Or.inl ⟨0, by decide +kernel, rfl, rfl⟩
theorem rJ9_max_7cf53_1 : vLi mJ9_max_7cf53 1 1 2 := Or.inl ⟨1, by decide +kernel, rfl, rfl⟩
theorem rJ9_max_7cf53_2 : vIc mJ9_max_7cf53 2 .lt 9 5 := ⟨7, by decide +kernel, by decide, rfl⟩
theorem rJ9_max_7cf53_5 : vLi mJ9_max_7cf53 5 0 6 := Or.inl ⟨0, by decide +kernel, rfl, rfl⟩
theorem rJ9_max_7cf53_6 : vGo mJ9_max_7cf53 6 10 := ⟨4, by decide +kernel, by decide⟩
theorem rJ9_max_7cf53_9 : vLi mJ9_max_7cf53 9 1 10 := Or.inl ⟨1, by decide +kernel, rfl, rfl⟩
theorem rJ9_max_7cf53_10 : vI mJ9_max_7cf53 10 .ireturn 1 11 := ⟨by decide +kernel, rfl⟩
theorem rJ9_min_7cf53_0 : vLi mJ9_min_7cf53 0 0 1 := Or.inl ⟨0, by decide +kernel, rfl, rfl⟩
theorem rJ9_min_7cf53_1 : vLi mJ9_min_7cf53 1 1 2 := Or.inl ⟨1, by decide +kernel, rfl, rfl⟩
theorem rJ9_min_7cf53_2 : vIc mJ9_min_7cf53 2 .gt 9 5 := ⟨7, by decide +kernel, by decide, rfl⟩
theorem rJ9_min_7cf53_5 : vLi mJ9_min_7cf53 5 0 6 := Or.inl ⟨0, by decide +kernel, rfl, rfl⟩
theorem rJ9_min_7cf53_6 : vGo mJ9_min_7cf53 6 10 := ⟨4, by decide +kernel, by decide⟩
theorem rJ9_min_7cf53_9 : vLi mJ9_min_7cf53 9 1 10 := Or.inl ⟨1, by decide +kernel, rfl, rfl⟩
theorem rJ9_min_7cf53_10 : vI mJ9_min_7cf53 10 .ireturn 1 11 := ⟨by decide +kernel, rfl⟩
theorem rJ7_fill_53178_0 : vCn mJ7_fill_53178 0 (nI 0) 1 := Or.inl ⟨0, by decide +kernel, by decide +kernel, rfl⟩
theorem rJ7_fill_53178_1 : vSi mJ7_fill_53178 1 2 2 := ⟨Or.inl ⟨2, by decide +kernel, rfl, rfl⟩, by decide⟩
theorem rJ7_fill_53178_2 : vLa mJ7_fill_53178 2 0 3 := ⟨0, by decide +kernel, rfl, rfl⟩
theorem rJ7_fill_53178_3 : vI mJ7_fill_53178 3 .arraylength 1 4 := ⟨by decide +kernel, rfl⟩
theorem rJ7_fill_53178_4 : vSi mJ7_fill_53178 4 3 5 := ⟨Or.inl ⟨3, by decide +kernel, rfl, rfl⟩, by decide⟩
theorem rJ7_fill_53178_5 : vLi mJ7_fill_53178 5 2 6 := Or.inl ⟨2, by decide +kernel, rfl, rfl⟩
theorem rJ7_fill_53178_6 : vLi mJ7_fill_53178 6 3 7 := Or.inl ⟨3, by decide +kernel, rfl, rfl⟩
theorem rJ7_fill_53178_7 : vIc mJ7_fill_53178 7 .ge 20 10 := ⟨13, by decide +kernel, by decide, rfl⟩
theorem rJ7_fill_53178_10 : vLa mJ7_fill_53178 10 0 11 := ⟨0, by decide +kernel, rfl, rfl⟩
theorem rJ7_fill_53178_11 : vLi mJ7_fill_53178 11 2 12 := Or.inl ⟨2, by decide +kernel, rfl, rfl⟩
theorem rJ7_fill_53178_12 : vLi mJ7_fill_53178 12 1 13 := Or.inl ⟨1, by decide +kernel, rfl, rfl⟩
theorem rJ7_fill_53178_13 : vI mJ7_fill_53178 13 .iastore 1 14 := ⟨by decide +kernel, rfl⟩
theorem rJ7_fill_53178_14 : vIn mJ7_fill_53178 14 2 (nI 1) 17 := ⟨1, by decide +kernel, by decide +kernel, by decide, rfl⟩
theorem rJ7_fill_53178_17 : vGo mJ7_fill_53178 17 5 := ⟨-12, by decide +kernel, by decide⟩
theorem rJ7_fill_53178_20 : vI mJ7_fill_53178 20 .return_ 1 21 := ⟨by decide +kernel, rfl⟩
theorem rL_law_0 : vNw mL_law 0 7 3 := ⟨7, (RX7, TX7, 10), by decide +kernel, rfl, rfl, tF14, tF15, tF1, by decide⟩
theorem rL_law_3 : vI mL_law 3 .dup 1 4 := ⟨by decide +kernel, rfl⟩
theorem rL_law_4 : vKi mL_law 4 mX7_init 0 7 := ⟨9, by decide +kernel, rfl, kX7_init, tF17, rfl, rfl, Or.inl tF16⟩
theorem rL_law_7 : vSa mL_law 7 1 8 := ⟨⟨1, by decide +kernel, rfl, rfl⟩, by decide⟩
theorem rL_law_8 : vNw mL_law 8 8 11 := ⟨10, (RX8, TX8, 29), by decide +kernel, rfl, rfl, tF657, tF658, tF9, by decide⟩
theorem rL_law_11 : vI mL_law 11 .dup 1 12 := ⟨by decide +kernel, rfl⟩
theorem rL_law_12 : vKi mL_law 12 mX8_init 0 15 := ⟨12, by decide +kernel, rfl, kX8_init, tF660, rfl, rfl, Or.inl tF659⟩
theorem rL_law_15 : vSa mL_law 15 2 16 := ⟨⟨2, by decide +kernel, rfl, rfl⟩, by decide⟩
theorem rL_law_16 : vCn mL_law 16 (nI 0) 17 := Or.inl ⟨0, by decide +kernel, by decide +kernel, rfl⟩
theorem rL_law_17 : vSi mL_law 17 3 18 := ⟨Or.inl ⟨3, by decide +kernel, rfl, rfl⟩, by decide⟩
theorem rL_law_18 : vLi mL_law 18 3 19 := Or.inl ⟨3, by decide +kernel, rfl, rfl⟩
theorem rL_law_19 : vLa mL_law 19 0 20 := ⟨0, by decide +kernel, rfl, rfl⟩
theorem rL_law_20 : vI mL_law 20 .arraylength 1 21 := ⟨by decide +kernel, rfl⟩
theorem rL_law_21 : vCn mL_law 21 (nI 4) 22 := Or.inl ⟨4, by decide +kernel, by decide +kernel, rfl⟩
theorem rL_law_22 : vI mL_law 22 .isub 1 23 := ⟨by decide +kernel, rfl⟩
theorem rL_law_23 : vIc mL_law 23 .gt 888 26 := ⟨865, by decide +kernel, by decide, rfl⟩
theorem rL_law_26 : vLa mL_law 26 0 27 := ⟨0, by decide +kernel, rfl, rfl⟩
theorem rL_law_27 : vLi mL_law 27 3 28 := Or.inl ⟨3, by decide +kernel, rfl, rfl⟩
theorem rL_law_28 : vI mL_law 28 .iaload 1 29 := ⟨by decide +kernel, rfl⟩
theorem rL_law_29 : vCn mL_law 29 (nI 31) 31 := Or.inr (Or.inl ⟨31, by decide +kernel, by decide +kernel, rfl⟩)
theorem rL_law_31 : vI mL_law 31 .iand 1 32 := ⟨by decide +kernel, rfl⟩
theorem rL_law_32 : vTb mL_law 32 0 [164, 187, 200, 213, 246, 279, 312, 345, 368, 391, 424, 457, 470, 513, 536, 559, 582, 605, 618, 641, 674, 707, 720, 743, 766, 799, 822, 845, 868] 882 := ⟨850, 28, #[132, 155, 168, 181, 214, 247, 280, 313, 336, 359, 392, 425, 438, 481, 504, 527, 550, 573, 586, 609, 642, 675, 688, 711, 734, 767, 790, 813, 836], 132, by decide +kernel, by decide, by decide, by decide⟩
theorem rL_law_164 : vLa mL_law 164 1 165 := ⟨1, by decide +kernel, rfl, rfl⟩
theorem rL_law_165 : vLa mL_law 165 0 166 := ⟨0, by decide +kernel, rfl, rfl⟩
theorem rL_law_166 : vLi mL_law 166 3 167 := Or.inl ⟨3, by decide +kernel, rfl, rfl⟩
theorem rL_law_167 : vCn mL_law 167 (nI 1) 168 := Or.inl ⟨1, by decide +kernel, by decide +kernel, rfl⟩
theorem rL_law_168 : vI mL_law 168 .iadd 1 169 := ⟨by decide +kernel, rfl⟩
theorem rL_law_169 : vI mL_law 169 .iaload 1 170 := ⟨by decide +kernel, rfl⟩
theorem rL_law_170 : vKv mL_law 170 mX7_type 1 7 173 := ⟨13, (RX7, TX7, 10), by decide +kernel, rfl, kX7_type, tF245, tF244, tF246, rfl, rfl⟩
theorem rL_law_173 : vLa mL_law 173 2 174 := ⟨2, by decide +kernel, rfl, rfl⟩
theorem rL_law_174 : vLa mL_law 174 0 175 := ⟨0, by decide +kernel, rfl, rfl⟩
theorem rL_law_175 : vLi mL_law 175 3 176 := Or.inl ⟨3, by decide +kernel, rfl, rfl⟩
theorem rL_law_176 : vCn mL_law 176 (nI 1) 177 := Or.inl ⟨1, by decide +kernel, by decide +kernel, rfl⟩
theorem rL_law_177 : vI mL_law 177 .iadd 1 178 := ⟨by decide +kernel, rfl⟩
theorem rL_law_178 : vI mL_law 178 .iaload 1 179 := ⟨by decide +kernel, rfl⟩
theorem rL_law_179 : vKv mL_law 179 mX8_type 1 8 182 := ⟨17, (RX8, TX8, 29), by decide +kernel, rfl, kX8_type, tF752, tF751, tF753, rfl, rfl⟩
theorem rL_law_182 : vIc mL_law 182 .eq 882 185 := ⟨700, by decide +kernel, by decide, rfl⟩
theorem rL_law_185 : vCn mL_law 185 (nI 0) 186 := Or.inl ⟨0, by decide +kernel, by decide +kernel, rfl⟩
theorem rL_law_186 : vI mL_law 186 .ireturn 1 187 := ⟨by decide +kernel, rfl⟩
theorem rL_law_187 : vLa mL_law 187 1 188 := ⟨1, by decide +kernel, rfl, rfl⟩
theorem rL_law_188 : vKv mL_law 188 mX7_clear 0 7 191 := ⟨18, (RX7, TX7, 10), by decide +kernel, rfl, kX7_clear, tF259, tF258, tF260, rfl, rfl⟩
theorem rL_law_191 : vLa mL_law 191 2 192 := ⟨2, by decide +kernel, rfl, rfl⟩
theorem rL_law_192 : vKv mL_law 192 mX8_clear 0 8 195 := ⟨22, (RX8, TX8, 29), by decide +kernel, rfl, kX8_clear, tF759, tF758, tF760, rfl, rfl⟩
theorem rL_law_195 : vIc mL_law 195 .eq 882 198 := ⟨687, by decide +kernel, by decide, rfl⟩
theorem rL_law_198 : vCn mL_law 198 (nI 0) 199 := Or.inl ⟨0, by decide +kernel, by decide +kernel, rfl⟩
theorem rL_law_199 : vI mL_law 199 .ireturn 1 200 := ⟨by decide +kernel, rfl⟩
theorem rL_law_200 : vLa mL_law 200 1 201 := ⟨1, by decide +kernel, rfl, rfl⟩
theorem rL_law_201 : vKv mL_law 201 mX7_plain 0 7 204 := ⟨23, (RX7, TX7, 10), by decide +kernel, rfl, kX7_plain, tF267, tF266, tF268, rfl, rfl⟩
theorem rL_law_204 : vLa mL_law 204 2 205 := ⟨2, by decide +kernel, rfl, rfl⟩
theorem rL_law_205 : vKv mL_law 205 mX8_plain 0 8 208 := ⟨26, (RX8, TX8, 29), by decide +kernel, rfl, kX8_plain, tF763, tF762, tF764, rfl, rfl⟩
theorem rL_law_208 : vIc mL_law 208 .eq 882 211 := ⟨674, by decide +kernel, by decide, rfl⟩
theorem rL_law_211 : vCn mL_law 211 (nI 0) 212 := Or.inl ⟨0, by decide +kernel, by decide +kernel, rfl⟩
theorem rL_law_212 : vI mL_law 212 .ireturn 1 213 := ⟨by decide +kernel, rfl⟩
theorem rL_law_213 : vLa mL_law 213 1 214 := ⟨1, by decide +kernel, rfl, rfl⟩
theorem rL_law_214 : vLa mL_law 214 0 215 := ⟨0, by decide +kernel, rfl, rfl⟩
theorem rL_law_215 : vLi mL_law 215 3 216 := Or.inl ⟨3, by decide +kernel, rfl, rfl⟩
theorem rL_law_216 : vCn mL_law 216 (nI 1) 217 := Or.inl ⟨1, by decide +kernel, by decide +kernel, rfl⟩
theorem rL_law_217 : vI mL_law 217 .iadd 1 218 := ⟨by decide +kernel, rfl⟩
theorem rL_law_218 : vI mL_law 218 .iaload 1 219 := ⟨by decide +kernel, rfl⟩
theorem rL_law_219 : vLa mL_law 219 0 220 := ⟨0, by decide +kernel, rfl, rfl⟩
theorem rL_law_220 : vLi mL_law 220 3 221 := Or.inl ⟨3, by decide +kernel, rfl, rfl⟩
theorem rL_law_221 : vCn mL_law 221 (nI 2) 222 := Or.inl ⟨2, by decide +kernel, by decide +kernel, rfl⟩
theorem rL_law_222 : vI mL_law 222 .iadd 1 223 := ⟨by decide +kernel, rfl⟩
theorem rL_law_223 : vI mL_law 223 .iaload 1 224 := ⟨by decide +kernel, rfl⟩
theorem rL_law_224 : vKv mL_law 224 mX7_town 2 7 227 := ⟨27, (RX7, TX7, 10), by decide +kernel, rfl, kX7_town, tF372, tF371, tF373, rfl, rfl⟩
theorem rL_law_227 : vLa mL_law 227 2 228 := ⟨2, by decide +kernel, rfl, rfl⟩
theorem rL_law_228 : vLa mL_law 228 0 229 := ⟨0, by decide +kernel, rfl, rfl⟩
theorem rL_law_229 : vLi mL_law 229 3 230 := Or.inl ⟨3, by decide +kernel, rfl, rfl⟩
theorem rL_law_230 : vCn mL_law 230 (nI 1) 231 := Or.inl ⟨1, by decide +kernel, by decide +kernel, rfl⟩
theorem rL_law_231 : vI mL_law 231 .iadd 1 232 := ⟨by decide +kernel, rfl⟩
theorem rL_law_232 : vI mL_law 232 .iaload 1 233 := ⟨by decide +kernel, rfl⟩
theorem rL_law_233 : vLa mL_law 233 0 234 := ⟨0, by decide +kernel, rfl, rfl⟩
theorem rL_law_234 : vLi mL_law 234 3 235 := Or.inl ⟨3, by decide +kernel, rfl, rfl⟩
theorem rL_law_235 : vCn mL_law 235 (nI 2) 236 := Or.inl ⟨2, by decide +kernel, by decide +kernel, rfl⟩
theorem rL_law_236 : vI mL_law 236 .iadd 1 237 := ⟨by decide +kernel, rfl⟩
theorem rL_law_237 : vI mL_law 237 .iaload 1 238 := ⟨by decide +kernel, rfl⟩
theorem rL_law_238 : vKv mL_law 238 mX8_town 2 8 241 := ⟨31, (RX8, TX8, 29), by decide +kernel, rfl, kX8_town, tF796, tF795, tF797, rfl, rfl⟩
theorem rL_law_241 : vIc mL_law 241 .eq 882 244 := ⟨641, by decide +kernel, by decide, rfl⟩
theorem rL_law_244 : vCn mL_law 244 (nI 0) 245 := Or.inl ⟨0, by decide +kernel, by decide +kernel, rfl⟩
theorem rL_law_245 : vI mL_law 245 .ireturn 1 246 := ⟨by decide +kernel, rfl⟩
theorem rL_law_246 : vLa mL_law 246 1 247 := ⟨1, by decide +kernel, rfl, rfl⟩
theorem rL_law_247 : vLa mL_law 247 0 248 := ⟨0, by decide +kernel, rfl, rfl⟩
theorem rL_law_248 : vLi mL_law 248 3 249 := Or.inl ⟨3, by decide +kernel, rfl, rfl⟩
theorem rL_law_249 : vCn mL_law 249 (nI 1) 250 := Or.inl ⟨1, by decide +kernel, by decide +kernel, rfl⟩
theorem rL_law_250 : vI mL_law 250 .iadd 1 251 := ⟨by decide +kernel, rfl⟩
theorem rL_law_251 : vI mL_law 251 .iaload 1 252 := ⟨by decide +kernel, rfl⟩
theorem rL_law_252 : vLa mL_law 252 0 253 := ⟨0, by decide +kernel, rfl, rfl⟩
theorem rL_law_253 : vLi mL_law 253 3 254 := Or.inl ⟨3, by decide +kernel, rfl, rfl⟩
theorem rL_law_254 : vCn mL_law 254 (nI 2) 255 := Or.inl ⟨2, by decide +kernel, by decide +kernel, rfl⟩
theorem rL_law_255 : vI mL_law 255 .iadd 1 256 := ⟨by decide +kernel, rfl⟩
theorem rL_law_256 : vI mL_law 256 .iaload 1 257 := ⟨by decide +kernel, rfl⟩
theorem rL_law_257 : vKv mL_law 257 mX7_bell 2 7 260 := ⟨32, (RX7, TX7, 10), by decide +kernel, rfl, kX7_bell, tF395, tF394, tF396, rfl, rfl⟩
theorem rL_law_260 : vLa mL_law 260 2 261 := ⟨2, by decide +kernel, rfl, rfl⟩
theorem rL_law_261 : vLa mL_law 261 0 262 := ⟨0, by decide +kernel, rfl, rfl⟩
theorem rL_law_262 : vLi mL_law 262 3 263 := Or.inl ⟨3, by decide +kernel, rfl, rfl⟩
theorem rL_law_263 : vCn mL_law 263 (nI 1) 264 := Or.inl ⟨1, by decide +kernel, by decide +kernel, rfl⟩
theorem rL_law_264 : vI mL_law 264 .iadd 1 265 := ⟨by decide +kernel, rfl⟩
theorem rL_law_265 : vI mL_law 265 .iaload 1 266 := ⟨by decide +kernel, rfl⟩
theorem rL_law_266 : vLa mL_law 266 0 267 := ⟨0, by decide +kernel, rfl, rfl⟩
theorem rL_law_267 : vLi mL_law 267 3 268 := Or.inl ⟨3, by decide +kernel, rfl, rfl⟩
theorem rL_law_268 : vCn mL_law 268 (nI 2) 269 := Or.inl ⟨2, by decide +kernel, by decide +kernel, rfl⟩
theorem rL_law_269 : vI mL_law 269 .iadd 1 270 := ⟨by decide +kernel, rfl⟩
theorem rL_law_270 : vI mL_law 270 .iaload 1 271 := ⟨by decide +kernel, rfl⟩
theorem rL_law_271 : vKv mL_law 271 mX8_bell 2 8 274 := ⟨35, (RX8, TX8, 29), by decide +kernel, rfl, kX8_bell, tF811, tF810, tF812, rfl, rfl⟩
theorem rL_law_274 : vIc mL_law 274 .eq 882 277 := ⟨608, by decide +kernel, by decide, rfl⟩
theorem rL_law_277 : vCn mL_law 277 (nI 0) 278 := Or.inl ⟨0, by decide +kernel, by decide +kernel, rfl⟩
theorem rL_law_278 : vI mL_law 278 .ireturn 1 279 := ⟨by decide +kernel, rfl⟩
theorem rL_law_279 : vLa mL_law 279 1 280 := ⟨1, by decide +kernel, rfl, rfl⟩
theorem rL_law_280 : vLa mL_law 280 0 281 := ⟨0, by decide +kernel, rfl, rfl⟩
theorem rL_law_281 : vLi mL_law 281 3 282 := Or.inl ⟨3, by decide +kernel, rfl, rfl⟩
theorem rL_law_282 : vCn mL_law 282 (nI 1) 283 := Or.inl ⟨1, by decide +kernel, by decide +kernel, rfl⟩
theorem rL_law_283 : vI mL_law 283 .iadd 1 284 := ⟨by decide +kernel, rfl⟩
theorem rL_law_284 : vI mL_law 284 .iaload 1 285 := ⟨by decide +kernel, rfl⟩
theorem rL_law_285 : vLa mL_law 285 0 286 := ⟨0, by decide +kernel, rfl, rfl⟩
theorem rL_law_286 : vLi mL_law 286 3 287 := Or.inl ⟨3, by decide +kernel, rfl, rfl⟩
theorem rL_law_287 : vCn mL_law 287 (nI 2) 288 := Or.inl ⟨2, by decide +kernel, by decide +kernel, rfl⟩
theorem rL_law_288 : vI mL_law 288 .iadd 1 289 := ⟨by decide +kernel, rfl⟩
theorem rL_law_289 : vI mL_law 289 .iaload 1 290 := ⟨by decide +kernel, rfl⟩
theorem rL_law_290 : vKv mL_law 290 mX7_far 2 7 293 := ⟨36, (RX7, TX7, 10), by decide +kernel, rfl, kX7_far, tF408, tF407, tF409, rfl, rfl⟩
theorem rL_law_293 : vLa mL_law 293 2 294 := ⟨2, by decide +kernel, rfl, rfl⟩
theorem rL_law_294 : vLa mL_law 294 0 295 := ⟨0, by decide +kernel, rfl, rfl⟩
theorem rL_law_295 : vLi mL_law 295 3 296 := Or.inl ⟨3, by decide +kernel, rfl, rfl⟩
theorem rL_law_296 : vCn mL_law 296 (nI 1) 297 := Or.inl ⟨1, by decide +kernel, by decide +kernel, rfl⟩
theorem rL_law_297 : vI mL_law 297 .iadd 1 298 := ⟨by decide +kernel, rfl⟩
theorem rL_law_298 : vI mL_law 298 .iaload 1 299 := ⟨by decide +kernel, rfl⟩
theorem rL_law_299 : vLa mL_law 299 0 300 := ⟨0, by decide +kernel, rfl, rfl⟩
theorem rL_law_300 : vLi mL_law 300 3 301 := Or.inl ⟨3, by decide +kernel, rfl, rfl⟩
theorem rL_law_301 : vCn mL_law 301 (nI 2) 302 := Or.inl ⟨2, by decide +kernel, by decide +kernel, rfl⟩
theorem rL_law_302 : vI mL_law 302 .iadd 1 303 := ⟨by decide +kernel, rfl⟩
theorem rL_law_303 : vI mL_law 303 .iaload 1 304 := ⟨by decide +kernel, rfl⟩
theorem rL_law_304 : vKv mL_law 304 mX8_far 2 8 307 := ⟨39, (RX8, TX8, 29), by decide +kernel, rfl, kX8_far, tF819, tF818, tF820, rfl, rfl⟩
theorem rL_law_307 : vIc mL_law 307 .eq 882 310 := ⟨575, by decide +kernel, by decide, rfl⟩
theorem rL_law_310 : vCn mL_law 310 (nI 0) 311 := Or.inl ⟨0, by decide +kernel, by decide +kernel, rfl⟩
theorem rL_law_311 : vI mL_law 311 .ireturn 1 312 := ⟨by decide +kernel, rfl⟩
theorem rL_law_312 : vLa mL_law 312 1 313 := ⟨1, by decide +kernel, rfl, rfl⟩
theorem rL_law_313 : vLa mL_law 313 0 314 := ⟨0, by decide +kernel, rfl, rfl⟩
theorem rL_law_314 : vLi mL_law 314 3 315 := Or.inl ⟨3, by decide +kernel, rfl, rfl⟩
theorem rL_law_315 : vCn mL_law 315 (nI 1) 316 := Or.inl ⟨1, by decide +kernel, by decide +kernel, rfl⟩
theorem rL_law_316 : vI mL_law 316 .iadd 1 317 := ⟨by decide +kernel, rfl⟩
theorem rL_law_317 : vI mL_law 317 .iaload 1 318 := ⟨by decide +kernel, rfl⟩
theorem rL_law_318 : vLa mL_law 318 0 319 := ⟨0, by decide +kernel, rfl, rfl⟩
theorem rL_law_319 : vLi mL_law 319 3 320 := Or.inl ⟨3, by decide +kernel, rfl, rfl⟩
theorem rL_law_320 : vCn mL_law 320 (nI 2) 321 := Or.inl ⟨2, by decide +kernel, by decide +kernel, rfl⟩
theorem rL_law_321 : vI mL_law 321 .iadd 1 322 := ⟨by decide +kernel, rfl⟩
theorem rL_law_322 : vI mL_law 322 .iaload 1 323 := ⟨by decide +kernel, rfl⟩
theorem rL_law_323 : vKv mL_law 323 mX7_oath 2 7 326 := ⟨40, (RX7, TX7, 10), by decide +kernel, rfl, kX7_oath, tF413, tF412, tF414, rfl, rfl⟩
theorem rL_law_326 : vLa mL_law 326 2 327 := ⟨2, by decide +kernel, rfl, rfl⟩
theorem rL_law_327 : vLa mL_law 327 0 328 := ⟨0, by decide +kernel, rfl, rfl⟩
theorem rL_law_328 : vLi mL_law 328 3 329 := Or.inl ⟨3, by decide +kernel, rfl, rfl⟩
theorem rL_law_329 : vCn mL_law 329 (nI 1) 330 := Or.inl ⟨1, by decide +kernel, by decide +kernel, rfl⟩
theorem rL_law_330 : vI mL_law 330 .iadd 1 331 := ⟨by decide +kernel, rfl⟩
theorem rL_law_331 : vI mL_law 331 .iaload 1 332 := ⟨by decide +kernel, rfl⟩
theorem rL_law_332 : vLa mL_law 332 0 333 := ⟨0, by decide +kernel, rfl, rfl⟩
theorem rL_law_333 : vLi mL_law 333 3 334 := Or.inl ⟨3, by decide +kernel, rfl, rfl⟩
theorem rL_law_334 : vCn mL_law 334 (nI 2) 335 := Or.inl ⟨2, by decide +kernel, by decide +kernel, rfl⟩
theorem rL_law_335 : vI mL_law 335 .iadd 1 336 := ⟨by decide +kernel, rfl⟩
theorem rL_law_336 : vI mL_law 336 .iaload 1 337 := ⟨by decide +kernel, rfl⟩
theorem rL_law_337 : vKv mL_law 337 mX8_oath 2 8 340 := ⟨43, (RX8, TX8, 29), by decide +kernel, rfl, kX8_oath, tF823, tF822, tF824, rfl, rfl⟩
theorem rL_law_340 : vIc mL_law 340 .eq 882 343 := ⟨542, by decide +kernel, by decide, rfl⟩
theorem rL_law_343 : vCn mL_law 343 (nI 0) 344 := Or.inl ⟨0, by decide +kernel, by decide +kernel, rfl⟩
theorem rL_law_344 : vI mL_law 344 .ireturn 1 345 := ⟨by decide +kernel, rfl⟩
theorem rL_law_345 : vLa mL_law 345 1 346 := ⟨1, by decide +kernel, rfl, rfl⟩
theorem rL_law_346 : vLa mL_law 346 0 347 := ⟨0, by decide +kernel, rfl, rfl⟩
theorem rL_law_347 : vLi mL_law 347 3 348 := Or.inl ⟨3, by decide +kernel, rfl, rfl⟩
theorem rL_law_348 : vCn mL_law 348 (nI 1) 349 := Or.inl ⟨1, by decide +kernel, by decide +kernel, rfl⟩
theorem rL_law_349 : vI mL_law 349 .iadd 1 350 := ⟨by decide +kernel, rfl⟩
theorem rL_law_350 : vI mL_law 350 .iaload 1 351 := ⟨by decide +kernel, rfl⟩
theorem rL_law_351 : vKv mL_law 351 mX7_now 1 7 354 := ⟨44, (RX7, TX7, 10), by decide +kernel, rfl, kX7_now, tF417, tF416, tF418, rfl, rfl⟩
theorem rL_law_354 : vLa mL_law 354 2 355 := ⟨2, by decide +kernel, rfl, rfl⟩
theorem rL_law_355 : vLa mL_law 355 0 356 := ⟨0, by decide +kernel, rfl, rfl⟩
theorem rL_law_356 : vLi mL_law 356 3 357 := Or.inl ⟨3, by decide +kernel, rfl, rfl⟩
theorem rL_law_357 : vCn mL_law 357 (nI 1) 358 := Or.inl ⟨1, by decide +kernel, by decide +kernel, rfl⟩
theorem rL_law_358 : vI mL_law 358 .iadd 1 359 := ⟨by decide +kernel, rfl⟩
theorem rL_law_359 : vI mL_law 359 .iaload 1 360 := ⟨by decide +kernel, rfl⟩
theorem rL_law_360 : vKv mL_law 360 mX8_now 1 8 363 := ⟨47, (RX8, TX8, 29), by decide +kernel, rfl, kX8_now, tF827, tF826, tF828, rfl, rfl⟩
theorem rL_law_363 : vIc mL_law 363 .eq 882 366 := ⟨519, by decide +kernel, by decide, rfl⟩
theorem rL_law_366 : vCn mL_law 366 (nI 0) 367 := Or.inl ⟨0, by decide +kernel, by decide +kernel, rfl⟩
theorem rL_law_367 : vI mL_law 367 .ireturn 1 368 := ⟨by decide +kernel, rfl⟩
theorem rL_law_368 : vLa mL_law 368 1 369 := ⟨1, by decide +kernel, rfl, rfl⟩
theorem rL_law_369 : vLa mL_law 369 0 370 := ⟨0, by decide +kernel, rfl, rfl⟩
theorem rL_law_370 : vLi mL_law 370 3 371 := Or.inl ⟨3, by decide +kernel, rfl, rfl⟩
theorem rL_law_371 : vCn mL_law 371 (nI 1) 372 := Or.inl ⟨1, by decide +kernel, by decide +kernel, rfl⟩
theorem rL_law_372 : vI mL_law 372 .iadd 1 373 := ⟨by decide +kernel, rfl⟩
theorem rL_law_373 : vI mL_law 373 .iaload 1 374 := ⟨by decide +kernel, rfl⟩
theorem rL_law_374 : vKv mL_law 374 mX7_lots 1 7 377 := ⟨48, (RX7, TX7, 10), by decide +kernel, rfl, kX7_lots, tF425, tF424, tF426, rfl, rfl⟩
theorem rL_law_377 : vLa mL_law 377 2 378 := ⟨2, by decide +kernel, rfl, rfl⟩
theorem rL_law_378 : vLa mL_law 378 0 379 := ⟨0, by decide +kernel, rfl, rfl⟩
theorem rL_law_379 : vLi mL_law 379 3 380 := Or.inl ⟨3, by decide +kernel, rfl, rfl⟩
theorem rL_law_380 : vCn mL_law 380 (nI 1) 381 := Or.inl ⟨1, by decide +kernel, by decide +kernel, rfl⟩
theorem rL_law_381 : vI mL_law 381 .iadd 1 382 := ⟨by decide +kernel, rfl⟩
theorem rL_law_382 : vI mL_law 382 .iaload 1 383 := ⟨by decide +kernel, rfl⟩
theorem rL_law_383 : vKv mL_law 383 mX8_lots 1 8 386 := ⟨51, (RX8, TX8, 29), by decide +kernel, rfl, kX8_lots, tF831, tF830, tF832, rfl, rfl⟩
theorem rL_law_386 : vIc mL_law 386 .eq 882 389 := ⟨496, by decide +kernel, by decide, rfl⟩
theorem rL_law_389 : vCn mL_law 389 (nI 0) 390 := Or.inl ⟨0, by decide +kernel, by decide +kernel, rfl⟩
theorem rL_law_390 : vI mL_law 390 .ireturn 1 391 := ⟨by decide +kernel, rfl⟩
theorem rL_law_391 : vLa mL_law 391 1 392 := ⟨1, by decide +kernel, rfl, rfl⟩
theorem rL_law_392 : vLa mL_law 392 0 393 := ⟨0, by decide +kernel, rfl, rfl⟩
theorem rL_law_393 : vLi mL_law 393 3 394 := Or.inl ⟨3, by decide +kernel, rfl, rfl⟩
theorem rL_law_394 : vCn mL_law 394 (nI 1) 395 := Or.inl ⟨1, by decide +kernel, by decide +kernel, rfl⟩
theorem rL_law_395 : vI mL_law 395 .iadd 1 396 := ⟨by decide +kernel, rfl⟩
theorem rL_law_396 : vI mL_law 396 .iaload 1 397 := ⟨by decide +kernel, rfl⟩
theorem rL_law_397 : vLa mL_law 397 0 398 := ⟨0, by decide +kernel, rfl, rfl⟩
theorem rL_law_398 : vLi mL_law 398 3 399 := Or.inl ⟨3, by decide +kernel, rfl, rfl⟩
theorem rL_law_399 : vCn mL_law 399 (nI 2) 400 := Or.inl ⟨2, by decide +kernel, by decide +kernel, rfl⟩
theorem rL_law_400 : vI mL_law 400 .iadd 1 401 := ⟨by decide +kernel, rfl⟩
theorem rL_law_401 : vI mL_law 401 .iaload 1 402 := ⟨by decide +kernel, rfl⟩
theorem rL_law_402 : vKv mL_law 402 mX7_trades 2 7 405 := ⟨52, (RX7, TX7, 10), by decide +kernel, rfl, kX7_trades, tF475, tF474, tF476, rfl, rfl⟩
theorem rL_law_405 : vLa mL_law 405 2 406 := ⟨2, by decide +kernel, rfl, rfl⟩
theorem rL_law_406 : vLa mL_law 406 0 407 := ⟨0, by decide +kernel, rfl, rfl⟩
theorem rL_law_407 : vLi mL_law 407 3 408 := Or.inl ⟨3, by decide +kernel, rfl, rfl⟩
theorem rL_law_408 : vCn mL_law 408 (nI 1) 409 := Or.inl ⟨1, by decide +kernel, by decide +kernel, rfl⟩
theorem rL_law_409 : vI mL_law 409 .iadd 1 410 := ⟨by decide +kernel, rfl⟩
theorem rL_law_410 : vI mL_law 410 .iaload 1 411 := ⟨by decide +kernel, rfl⟩
theorem rL_law_411 : vLa mL_law 411 0 412 := ⟨0, by decide +kernel, rfl, rfl⟩
theorem rL_law_412 : vLi mL_law 412 3 413 := Or.inl ⟨3, by decide +kernel, rfl, rfl⟩
theorem rL_law_413 : vCn mL_law 413 (nI 2) 414 := Or.inl ⟨2, by decide +kernel, by decide +kernel, rfl⟩
theorem rL_law_414 : vI mL_law 414 .iadd 1 415 := ⟨by decide +kernel, rfl⟩
theorem rL_law_415 : vI mL_law 415 .iaload 1 416 := ⟨by decide +kernel, rfl⟩
theorem rL_law_416 : vKv mL_law 416 mX8_trades 2 8 419 := ⟨55, (RX8, TX8, 29), by decide +kernel, rfl, kX8_trades, tF855, tF854, tF856, rfl, rfl⟩
theorem rL_law_419 : vIc mL_law 419 .eq 882 422 := ⟨463, by decide +kernel, by decide, rfl⟩
theorem rL_law_422 : vCn mL_law 422 (nI 0) 423 := Or.inl ⟨0, by decide +kernel, by decide +kernel, rfl⟩
theorem rL_law_423 : vI mL_law 423 .ireturn 1 424 := ⟨by decide +kernel, rfl⟩
theorem rL_law_424 : vLa mL_law 424 1 425 := ⟨1, by decide +kernel, rfl, rfl⟩
theorem rL_law_425 : vLa mL_law 425 0 426 := ⟨0, by decide +kernel, rfl, rfl⟩
theorem rL_law_426 : vLi mL_law 426 3 427 := Or.inl ⟨3, by decide +kernel, rfl, rfl⟩
theorem rL_law_427 : vCn mL_law 427 (nI 1) 428 := Or.inl ⟨1, by decide +kernel, by decide +kernel, rfl⟩
theorem rL_law_428 : vI mL_law 428 .iadd 1 429 := ⟨by decide +kernel, rfl⟩
theorem rL_law_429 : vI mL_law 429 .iaload 1 430 := ⟨by decide +kernel, rfl⟩
theorem rL_law_430 : vLa mL_law 430 0 431 := ⟨0, by decide +kernel, rfl, rfl⟩
theorem rL_law_431 : vLi mL_law 431 3 432 := Or.inl ⟨3, by decide +kernel, rfl, rfl⟩
theorem rL_law_432 : vCn mL_law 432 (nI 2) 433 := Or.inl ⟨2, by decide +kernel, by decide +kernel, rfl⟩
theorem rL_law_433 : vI mL_law 433 .iadd 1 434 := ⟨by decide +kernel, rfl⟩
theorem rL_law_434 : vI mL_law 434 .iaload 1 435 := ⟨by decide +kernel, rfl⟩
theorem rL_law_435 : vKv mL_law 435 mX7_widens 2 7 438 := ⟨56, (RX7, TX7, 10), by decide +kernel, rfl, kX7_widens, tF481, tF480, tF482, rfl, rfl⟩
theorem rL_law_438 : vLa mL_law 438 2 439 := ⟨2, by decide +kernel, rfl, rfl⟩
theorem rL_law_439 : vLa mL_law 439 0 440 := ⟨0, by decide +kernel, rfl, rfl⟩
theorem rL_law_440 : vLi mL_law 440 3 441 := Or.inl ⟨3, by decide +kernel, rfl, rfl⟩
theorem rL_law_441 : vCn mL_law 441 (nI 1) 442 := Or.inl ⟨1, by decide +kernel, by decide +kernel, rfl⟩
theorem rL_law_442 : vI mL_law 442 .iadd 1 443 := ⟨by decide +kernel, rfl⟩
theorem rL_law_443 : vI mL_law 443 .iaload 1 444 := ⟨by decide +kernel, rfl⟩
theorem rL_law_444 : vLa mL_law 444 0 445 := ⟨0, by decide +kernel, rfl, rfl⟩
theorem rL_law_445 : vLi mL_law 445 3 446 := Or.inl ⟨3, by decide +kernel, rfl, rfl⟩
theorem rL_law_446 : vCn mL_law 446 (nI 2) 447 := Or.inl ⟨2, by decide +kernel, by decide +kernel, rfl⟩
theorem rL_law_447 : vI mL_law 447 .iadd 1 448 := ⟨by decide +kernel, rfl⟩
theorem rL_law_448 : vI mL_law 448 .iaload 1 449 := ⟨by decide +kernel, rfl⟩
theorem rL_law_449 : vKv mL_law 449 mX8_widens 2 8 452 := ⟨59, (RX8, TX8, 29), by decide +kernel, rfl, kX8_widens, tF859, tF858, tF860, rfl, rfl⟩
theorem rL_law_452 : vIc mL_law 452 .eq 882 455 := ⟨430, by decide +kernel, by decide, rfl⟩
theorem rL_law_455 : vCn mL_law 455 (nI 0) 456 := Or.inl ⟨0, by decide +kernel, by decide +kernel, rfl⟩
theorem rL_law_456 : vI mL_law 456 .ireturn 1 457 := ⟨by decide +kernel, rfl⟩
theorem rL_law_457 : vLa mL_law 457 1 458 := ⟨1, by decide +kernel, rfl, rfl⟩
theorem rL_law_458 : vKv mL_law 458 mX7_undo 0 7 461 := ⟨60, (RX7, TX7, 10), by decide +kernel, rfl, kX7_undo, tF485, tF484, tF486, rfl, rfl⟩
theorem rL_law_461 : vLa mL_law 461 2 462 := ⟨2, by decide +kernel, rfl, rfl⟩
theorem rL_law_462 : vKv mL_law 462 mX8_undo 0 8 465 := ⟨63, (RX8, TX8, 29), by decide +kernel, rfl, kX8_undo, tF863, tF862, tF864, rfl, rfl⟩
theorem rL_law_465 : vIc mL_law 465 .eq 882 468 := ⟨417, by decide +kernel, by decide, rfl⟩
theorem rL_law_468 : vCn mL_law 468 (nI 0) 469 := Or.inl ⟨0, by decide +kernel, by decide +kernel, rfl⟩
theorem rL_law_469 : vI mL_law 469 .ireturn 1 470 := ⟨by decide +kernel, rfl⟩
theorem rL_law_470 : vLa mL_law 470 1 471 := ⟨1, by decide +kernel, rfl, rfl⟩
theorem rL_law_471 : vLa mL_law 471 0 472 := ⟨0, by decide +kernel, rfl, rfl⟩
theorem rL_law_472 : vLi mL_law 472 3 473 := Or.inl ⟨3, by decide +kernel, rfl, rfl⟩
theorem rL_law_473 : vCn mL_law 473 (nI 1) 474 := Or.inl ⟨1, by decide +kernel, by decide +kernel, rfl⟩
theorem rL_law_474 : vI mL_law 474 .iadd 1 475 := ⟨by decide +kernel, rfl⟩
theorem rL_law_475 : vI mL_law 475 .iaload 1 476 := ⟨by decide +kernel, rfl⟩
theorem rL_law_476 : vLa mL_law 476 0 477 := ⟨0, by decide +kernel, rfl, rfl⟩
theorem rL_law_477 : vLi mL_law 477 3 478 := Or.inl ⟨3, by decide +kernel, rfl, rfl⟩
theorem rL_law_478 : vCn mL_law 478 (nI 2) 479 := Or.inl ⟨2, by decide +kernel, by decide +kernel, rfl⟩
theorem rL_law_479 : vI mL_law 479 .iadd 1 480 := ⟨by decide +kernel, rfl⟩
theorem rL_law_480 : vI mL_law 480 .iaload 1 481 := ⟨by decide +kernel, rfl⟩
theorem rL_law_481 : vLa mL_law 481 0 482 := ⟨0, by decide +kernel, rfl, rfl⟩
theorem rL_law_482 : vLi mL_law 482 3 483 := Or.inl ⟨3, by decide +kernel, rfl, rfl⟩
theorem rL_law_483 : vCn mL_law 483 (nI 3) 484 := Or.inl ⟨3, by decide +kernel, by decide +kernel, rfl⟩
theorem rL_law_484 : vI mL_law 484 .iadd 1 485 := ⟨by decide +kernel, rfl⟩
theorem rL_law_485 : vI mL_law 485 .iaload 1 486 := ⟨by decide +kernel, rfl⟩
theorem rL_law_486 : vKv mL_law 486 mX7_inLots 3 7 489 := ⟨64, (RX7, TX7, 10), by decide +kernel, rfl, kX7_inLots, tF493, tF492, tF494, rfl, rfl⟩
theorem rL_law_489 : vLa mL_law 489 2 490 := ⟨2, by decide +kernel, rfl, rfl⟩
theorem rL_law_490 : vLa mL_law 490 0 491 := ⟨0, by decide +kernel, rfl, rfl⟩
theorem rL_law_491 : vLi mL_law 491 3 492 := Or.inl ⟨3, by decide +kernel, rfl, rfl⟩
theorem rL_law_492 : vCn mL_law 492 (nI 1) 493 := Or.inl ⟨1, by decide +kernel, by decide +kernel, rfl⟩
theorem rL_law_493 : vI mL_law 493 .iadd 1 494 := ⟨by decide +kernel, rfl⟩
theorem rL_law_494 : vI mL_law 494 .iaload 1 495 := ⟨by decide +kernel, rfl⟩
theorem rL_law_495 : vLa mL_law 495 0 496 := ⟨0, by decide +kernel, rfl, rfl⟩
theorem rL_law_496 : vLi mL_law 496 3 497 := Or.inl ⟨3, by decide +kernel, rfl, rfl⟩
theorem rL_law_497 : vCn mL_law 497 (nI 2) 498 := Or.inl ⟨2, by decide +kernel, by decide +kernel, rfl⟩
theorem rL_law_498 : vI mL_law 498 .iadd 1 499 := ⟨by decide +kernel, rfl⟩
theorem rL_law_499 : vI mL_law 499 .iaload 1 500 := ⟨by decide +kernel, rfl⟩
theorem rL_law_500 : vLa mL_law 500 0 501 := ⟨0, by decide +kernel, rfl, rfl⟩
theorem rL_law_501 : vLi mL_law 501 3 502 := Or.inl ⟨3, by decide +kernel, rfl, rfl⟩
theorem rL_law_502 : vCn mL_law 502 (nI 3) 503 := Or.inl ⟨3, by decide +kernel, by decide +kernel, rfl⟩
theorem rL_law_503 : vI mL_law 503 .iadd 1 504 := ⟨by decide +kernel, rfl⟩
theorem rL_law_504 : vI mL_law 504 .iaload 1 505 := ⟨by decide +kernel, rfl⟩
theorem rL_law_505 : vKv mL_law 505 mX8_inLots 3 8 508 := ⟨68, (RX8, TX8, 29), by decide +kernel, rfl, kX8_inLots, tF867, tF866, tF868, rfl, rfl⟩
theorem rL_law_508 : vIc mL_law 508 .eq 882 511 := ⟨374, by decide +kernel, by decide, rfl⟩
theorem rL_law_511 : vCn mL_law 511 (nI 0) 512 := Or.inl ⟨0, by decide +kernel, by decide +kernel, rfl⟩
theorem rL_law_512 : vI mL_law 512 .ireturn 1 513 := ⟨by decide +kernel, rfl⟩
theorem rL_law_513 : vLa mL_law 513 1 514 := ⟨1, by decide +kernel, rfl, rfl⟩
theorem rL_law_514 : vLa mL_law 514 0 515 := ⟨0, by decide +kernel, rfl, rfl⟩
theorem rL_law_515 : vLi mL_law 515 3 516 := Or.inl ⟨3, by decide +kernel, rfl, rfl⟩
theorem rL_law_516 : vCn mL_law 516 (nI 1) 517 := Or.inl ⟨1, by decide +kernel, by decide +kernel, rfl⟩
theorem rL_law_517 : vI mL_law 517 .iadd 1 518 := ⟨by decide +kernel, rfl⟩
theorem rL_law_518 : vI mL_law 518 .iaload 1 519 := ⟨by decide +kernel, rfl⟩
theorem rL_law_519 : vKv mL_law 519 mX7_cost 1 7 522 := ⟨69, (RX7, TX7, 10), by decide +kernel, rfl, kX7_cost, tF498, tF497, tF499, rfl, rfl⟩
theorem rL_law_522 : vLa mL_law 522 2 523 := ⟨2, by decide +kernel, rfl, rfl⟩
theorem rL_law_523 : vLa mL_law 523 0 524 := ⟨0, by decide +kernel, rfl, rfl⟩
theorem rL_law_524 : vLi mL_law 524 3 525 := Or.inl ⟨3, by decide +kernel, rfl, rfl⟩
theorem rL_law_525 : vCn mL_law 525 (nI 1) 526 := Or.inl ⟨1, by decide +kernel, by decide +kernel, rfl⟩
theorem rL_law_526 : vI mL_law 526 .iadd 1 527 := ⟨by decide +kernel, rfl⟩
theorem rL_law_527 : vI mL_law 527 .iaload 1 528 := ⟨by decide +kernel, rfl⟩
theorem rL_law_528 : vKv mL_law 528 mX8_cost 1 8 531 := ⟨72, (RX8, TX8, 29), by decide +kernel, rfl, kX8_cost, tF875, tF874, tF876, rfl, rfl⟩
theorem rL_law_531 : vIc mL_law 531 .eq 882 534 := ⟨351, by decide +kernel, by decide, rfl⟩
theorem rL_law_534 : vCn mL_law 534 (nI 0) 535 := Or.inl ⟨0, by decide +kernel, by decide +kernel, rfl⟩
theorem rL_law_535 : vI mL_law 535 .ireturn 1 536 := ⟨by decide +kernel, rfl⟩
theorem rL_law_536 : vLa mL_law 536 1 537 := ⟨1, by decide +kernel, rfl, rfl⟩
theorem rL_law_537 : vLa mL_law 537 0 538 := ⟨0, by decide +kernel, rfl, rfl⟩
theorem rL_law_538 : vLi mL_law 538 3 539 := Or.inl ⟨3, by decide +kernel, rfl, rfl⟩
theorem rL_law_539 : vCn mL_law 539 (nI 1) 540 := Or.inl ⟨1, by decide +kernel, by decide +kernel, rfl⟩
theorem rL_law_540 : vI mL_law 540 .iadd 1 541 := ⟨by decide +kernel, rfl⟩
theorem rL_law_541 : vI mL_law 541 .iaload 1 542 := ⟨by decide +kernel, rfl⟩
theorem rL_law_542 : vKv mL_law 542 mX7_home 1 7 545 := ⟨73, (RX7, TX7, 10), by decide +kernel, rfl, kX7_home, tF503, tF502, tF504, rfl, rfl⟩
theorem rL_law_545 : vLa mL_law 545 2 546 := ⟨2, by decide +kernel, rfl, rfl⟩
theorem rL_law_546 : vLa mL_law 546 0 547 := ⟨0, by decide +kernel, rfl, rfl⟩
theorem rL_law_547 : vLi mL_law 547 3 548 := Or.inl ⟨3, by decide +kernel, rfl, rfl⟩
theorem rL_law_548 : vCn mL_law 548 (nI 1) 549 := Or.inl ⟨1, by decide +kernel, by decide +kernel, rfl⟩
theorem rL_law_549 : vI mL_law 549 .iadd 1 550 := ⟨by decide +kernel, rfl⟩
theorem rL_law_550 : vI mL_law 550 .iaload 1 551 := ⟨by decide +kernel, rfl⟩
theorem rL_law_551 : vKv mL_law 551 mX8_home 1 8 554 := ⟨76, (RX8, TX8, 29), by decide +kernel, rfl, kX8_home, tF879, tF878, tF880, rfl, rfl⟩
theorem rL_law_554 : vIc mL_law 554 .eq 882 557 := ⟨328, by decide +kernel, by decide, rfl⟩
theorem rL_law_557 : vCn mL_law 557 (nI 0) 558 := Or.inl ⟨0, by decide +kernel, by decide +kernel, rfl⟩
theorem rL_law_558 : vI mL_law 558 .ireturn 1 559 := ⟨by decide +kernel, rfl⟩
theorem rL_law_559 : vLa mL_law 559 1 560 := ⟨1, by decide +kernel, rfl, rfl⟩
theorem rL_law_560 : vLa mL_law 560 0 561 := ⟨0, by decide +kernel, rfl, rfl⟩
theorem rL_law_561 : vLi mL_law 561 3 562 := Or.inl ⟨3, by decide +kernel, rfl, rfl⟩
theorem rL_law_562 : vCn mL_law 562 (nI 1) 563 := Or.inl ⟨1, by decide +kernel, by decide +kernel, rfl⟩
theorem rL_law_563 : vI mL_law 563 .iadd 1 564 := ⟨by decide +kernel, rfl⟩
theorem rL_law_564 : vI mL_law 564 .iaload 1 565 := ⟨by decide +kernel, rfl⟩
theorem rL_law_565 : vKv mL_law 565 mX7_hang 1 7 568 := ⟨77, (RX7, TX7, 10), by decide +kernel, rfl, kX7_hang, tF515, tF514, tF516, rfl, rfl⟩
theorem rL_law_568 : vLa mL_law 568 2 569 := ⟨2, by decide +kernel, rfl, rfl⟩
theorem rL_law_569 : vLa mL_law 569 0 570 := ⟨0, by decide +kernel, rfl, rfl⟩
theorem rL_law_570 : vLi mL_law 570 3 571 := Or.inl ⟨3, by decide +kernel, rfl, rfl⟩
theorem rL_law_571 : vCn mL_law 571 (nI 1) 572 := Or.inl ⟨1, by decide +kernel, by decide +kernel, rfl⟩
theorem rL_law_572 : vI mL_law 572 .iadd 1 573 := ⟨by decide +kernel, rfl⟩
theorem rL_law_573 : vI mL_law 573 .iaload 1 574 := ⟨by decide +kernel, rfl⟩
theorem rL_law_574 : vKv mL_law 574 mX8_hang 1 8 577 := ⟨80, (RX8, TX8, 29), by decide +kernel, rfl, kX8_hang, tF883, tF882, tF884, rfl, rfl⟩
theorem rL_law_577 : vIc mL_law 577 .eq 882 580 := ⟨305, by decide +kernel, by decide, rfl⟩
theorem rL_law_580 : vCn mL_law 580 (nI 0) 581 := Or.inl ⟨0, by decide +kernel, by decide +kernel, rfl⟩
theorem rL_law_581 : vI mL_law 581 .ireturn 1 582 := ⟨by decide +kernel, rfl⟩
theorem rL_law_582 : vLa mL_law 582 1 583 := ⟨1, by decide +kernel, rfl, rfl⟩
theorem rL_law_583 : vLa mL_law 583 0 584 := ⟨0, by decide +kernel, rfl, rfl⟩
theorem rL_law_584 : vLi mL_law 584 3 585 := Or.inl ⟨3, by decide +kernel, rfl, rfl⟩
theorem rL_law_585 : vCn mL_law 585 (nI 1) 586 := Or.inl ⟨1, by decide +kernel, by decide +kernel, rfl⟩
theorem rL_law_586 : vI mL_law 586 .iadd 1 587 := ⟨by decide +kernel, rfl⟩
theorem rL_law_587 : vI mL_law 587 .iaload 1 588 := ⟨by decide +kernel, rfl⟩
theorem rL_law_588 : vKv mL_law 588 mX7_round 1 7 591 := ⟨81, (RX7, TX7, 10), by decide +kernel, rfl, kX7_round, tF519, tF518, tF520, rfl, rfl⟩
theorem rL_law_591 : vLa mL_law 591 2 592 := ⟨2, by decide +kernel, rfl, rfl⟩
theorem rL_law_592 : vLa mL_law 592 0 593 := ⟨0, by decide +kernel, rfl, rfl⟩
theorem rL_law_593 : vLi mL_law 593 3 594 := Or.inl ⟨3, by decide +kernel, rfl, rfl⟩
theorem rL_law_594 : vCn mL_law 594 (nI 1) 595 := Or.inl ⟨1, by decide +kernel, by decide +kernel, rfl⟩
theorem rL_law_595 : vI mL_law 595 .iadd 1 596 := ⟨by decide +kernel, rfl⟩
theorem rL_law_596 : vI mL_law 596 .iaload 1 597 := ⟨by decide +kernel, rfl⟩
theorem rL_law_597 : vKv mL_law 597 mX8_round 1 8 600 := ⟨84, (RX8, TX8, 29), by decide +kernel, rfl, kX8_round, tF903, tF902, tF904, rfl, rfl⟩
theorem rL_law_600 : vIc mL_law 600 .eq 882 603 := ⟨282, by decide +kernel, by decide, rfl⟩
theorem rL_law_603 : vCn mL_law 603 (nI 0) 604 := Or.inl ⟨0, by decide +kernel, by decide +kernel, rfl⟩
theorem rL_law_604 : vI mL_law 604 .ireturn 1 605 := ⟨by decide +kernel, rfl⟩
theorem rL_law_605 : vLa mL_law 605 1 606 := ⟨1, by decide +kernel, rfl, rfl⟩
theorem rL_law_606 : vKv mL_law 606 mX7_crossed 0 7 609 := ⟨85, (RX7, TX7, 10), by decide +kernel, rfl, kX7_crossed, tF537, tF536, tF538, rfl, rfl⟩
theorem rL_law_609 : vLa mL_law 609 2 610 := ⟨2, by decide +kernel, rfl, rfl⟩
theorem rL_law_610 : vKv mL_law 610 mX8_crossed 0 8 613 := ⟨88, (RX8, TX8, 29), by decide +kernel, rfl, kX8_crossed, tF907, tF906, tF908, rfl, rfl⟩
theorem rL_law_613 : vIc mL_law 613 .eq 882 616 := ⟨269, by decide +kernel, by decide, rfl⟩
theorem rL_law_616 : vCn mL_law 616 (nI 0) 617 := Or.inl ⟨0, by decide +kernel, by decide +kernel, rfl⟩
theorem rL_law_617 : vI mL_law 617 .ireturn 1 618 := ⟨by decide +kernel, rfl⟩
theorem rL_law_618 : vLa mL_law 618 1 619 := ⟨1, by decide +kernel, rfl, rfl⟩
theorem rL_law_619 : vLa mL_law 619 0 620 := ⟨0, by decide +kernel, rfl, rfl⟩
theorem rL_law_620 : vLi mL_law 620 3 621 := Or.inl ⟨3, by decide +kernel, rfl, rfl⟩
theorem rL_law_621 : vCn mL_law 621 (nI 1) 622 := Or.inl ⟨1, by decide +kernel, by decide +kernel, rfl⟩
theorem rL_law_622 : vI mL_law 622 .iadd 1 623 := ⟨by decide +kernel, rfl⟩
theorem rL_law_623 : vI mL_law 623 .iaload 1 624 := ⟨by decide +kernel, rfl⟩
theorem rL_law_624 : vKv mL_law 624 mX7_oaths 1 7 627 := ⟨89, (RX7, TX7, 10), by decide +kernel, rfl, kX7_oaths, tF545, tF544, tF546, rfl, rfl⟩
theorem rL_law_627 : vLa mL_law 627 2 628 := ⟨2, by decide +kernel, rfl, rfl⟩
theorem rL_law_628 : vLa mL_law 628 0 629 := ⟨0, by decide +kernel, rfl, rfl⟩
theorem rL_law_629 : vLi mL_law 629 3 630 := Or.inl ⟨3, by decide +kernel, rfl, rfl⟩
theorem rL_law_630 : vCn mL_law 630 (nI 1) 631 := Or.inl ⟨1, by decide +kernel, by decide +kernel, rfl⟩
theorem rL_law_631 : vI mL_law 631 .iadd 1 632 := ⟨by decide +kernel, rfl⟩
theorem rL_law_632 : vI mL_law 632 .iaload 1 633 := ⟨by decide +kernel, rfl⟩
theorem rL_law_633 : vKv mL_law 633 mX8_oaths 1 8 636 := ⟨92, (RX8, TX8, 29), by decide +kernel, rfl, kX8_oaths, tF911, tF910, tF912, rfl, rfl⟩
theorem rL_law_636 : vIc mL_law 636 .eq 882 639 := ⟨246, by decide +kernel, by decide, rfl⟩
theorem rL_law_639 : vCn mL_law 639 (nI 0) 640 := Or.inl ⟨0, by decide +kernel, by decide +kernel, rfl⟩
theorem rL_law_640 : vI mL_law 640 .ireturn 1 641 := ⟨by decide +kernel, rfl⟩
theorem rL_law_641 : vLa mL_law 641 1 642 := ⟨1, by decide +kernel, rfl, rfl⟩
theorem rL_law_642 : vLa mL_law 642 0 643 := ⟨0, by decide +kernel, rfl, rfl⟩
theorem rL_law_643 : vLi mL_law 643 3 644 := Or.inl ⟨3, by decide +kernel, rfl, rfl⟩
theorem rL_law_644 : vCn mL_law 644 (nI 1) 645 := Or.inl ⟨1, by decide +kernel, by decide +kernel, rfl⟩
theorem rL_law_645 : vI mL_law 645 .iadd 1 646 := ⟨by decide +kernel, rfl⟩
theorem rL_law_646 : vI mL_law 646 .iaload 1 647 := ⟨by decide +kernel, rfl⟩
theorem rL_law_647 : vLa mL_law 647 0 648 := ⟨0, by decide +kernel, rfl, rfl⟩
theorem rL_law_648 : vLi mL_law 648 3 649 := Or.inl ⟨3, by decide +kernel, rfl, rfl⟩
theorem rL_law_649 : vCn mL_law 649 (nI 2) 650 := Or.inl ⟨2, by decide +kernel, by decide +kernel, rfl⟩
theorem rL_law_650 : vI mL_law 650 .iadd 1 651 := ⟨by decide +kernel, rfl⟩
theorem rL_law_651 : vI mL_law 651 .iaload 1 652 := ⟨by decide +kernel, rfl⟩
theorem rL_law_652 : vKv mL_law 652 mX7_strokes 2 7 655 := ⟨93, (RX7, TX7, 10), by decide +kernel, rfl, kX7_strokes, tF549, tF548, tF550, rfl, rfl⟩
theorem rL_law_655 : vLa mL_law 655 2 656 := ⟨2, by decide +kernel, rfl, rfl⟩
theorem rL_law_656 : vLa mL_law 656 0 657 := ⟨0, by decide +kernel, rfl, rfl⟩
theorem rL_law_657 : vLi mL_law 657 3 658 := Or.inl ⟨3, by decide +kernel, rfl, rfl⟩
theorem rL_law_658 : vCn mL_law 658 (nI 1) 659 := Or.inl ⟨1, by decide +kernel, by decide +kernel, rfl⟩
theorem rL_law_659 : vI mL_law 659 .iadd 1 660 := ⟨by decide +kernel, rfl⟩
theorem rL_law_660 : vI mL_law 660 .iaload 1 661 := ⟨by decide +kernel, rfl⟩
theorem rL_law_661 : vLa mL_law 661 0 662 := ⟨0, by decide +kernel, rfl, rfl⟩
theorem rL_law_662 : vLi mL_law 662 3 663 := Or.inl ⟨3, by decide +kernel, rfl, rfl⟩
theorem rL_law_663 : vCn mL_law 663 (nI 2) 664 := Or.inl ⟨2, by decide +kernel, by decide +kernel, rfl⟩
theorem rL_law_664 : vI mL_law 664 .iadd 1 665 := ⟨by decide +kernel, rfl⟩
theorem rL_law_665 : vI mL_law 665 .iaload 1 666 := ⟨by decide +kernel, rfl⟩
theorem rL_law_666 : vKv mL_law 666 mX8_strokes 2 8 669 := ⟨96, (RX8, TX8, 29), by decide +kernel, rfl, kX8_strokes, tF915, tF914, tF916, rfl, rfl⟩
theorem rL_law_669 : vIc mL_law 669 .eq 882 672 := ⟨213, by decide +kernel, by decide, rfl⟩
theorem rL_law_672 : vCn mL_law 672 (nI 0) 673 := Or.inl ⟨0, by decide +kernel, by decide +kernel, rfl⟩
theorem rL_law_673 : vI mL_law 673 .ireturn 1 674 := ⟨by decide +kernel, rfl⟩
theorem rL_law_674 : vLa mL_law 674 1 675 := ⟨1, by decide +kernel, rfl, rfl⟩
theorem rL_law_675 : vLa mL_law 675 0 676 := ⟨0, by decide +kernel, rfl, rfl⟩
theorem rL_law_676 : vLi mL_law 676 3 677 := Or.inl ⟨3, by decide +kernel, rfl, rfl⟩
theorem rL_law_677 : vCn mL_law 677 (nI 1) 678 := Or.inl ⟨1, by decide +kernel, by decide +kernel, rfl⟩
theorem rL_law_678 : vI mL_law 678 .iadd 1 679 := ⟨by decide +kernel, rfl⟩
theorem rL_law_679 : vI mL_law 679 .iaload 1 680 := ⟨by decide +kernel, rfl⟩
theorem rL_law_680 : vLa mL_law 680 0 681 := ⟨0, by decide +kernel, rfl, rfl⟩
theorem rL_law_681 : vLi mL_law 681 3 682 := Or.inl ⟨3, by decide +kernel, rfl, rfl⟩
theorem rL_law_682 : vCn mL_law 682 (nI 2) 683 := Or.inl ⟨2, by decide +kernel, by decide +kernel, rfl⟩
theorem rL_law_683 : vI mL_law 683 .iadd 1 684 := ⟨by decide +kernel, rfl⟩
theorem rL_law_684 : vI mL_law 684 .iaload 1 685 := ⟨by decide +kernel, rfl⟩
theorem rL_law_685 : vKv mL_law 685 mX7_found 2 7 688 := ⟨97, (RX7, TX7, 10), by decide +kernel, rfl, kX7_found, tF553, tF552, tF554, rfl, rfl⟩
theorem rL_law_688 : vLa mL_law 688 2 689 := ⟨2, by decide +kernel, rfl, rfl⟩
theorem rL_law_689 : vLa mL_law 689 0 690 := ⟨0, by decide +kernel, rfl, rfl⟩
theorem rL_law_690 : vLi mL_law 690 3 691 := Or.inl ⟨3, by decide +kernel, rfl, rfl⟩
theorem rL_law_691 : vCn mL_law 691 (nI 1) 692 := Or.inl ⟨1, by decide +kernel, by decide +kernel, rfl⟩
theorem rL_law_692 : vI mL_law 692 .iadd 1 693 := ⟨by decide +kernel, rfl⟩
theorem rL_law_693 : vI mL_law 693 .iaload 1 694 := ⟨by decide +kernel, rfl⟩
theorem rL_law_694 : vLa mL_law 694 0 695 := ⟨0, by decide +kernel, rfl, rfl⟩
theorem rL_law_695 : vLi mL_law 695 3 696 := Or.inl ⟨3, by decide +kernel, rfl, rfl⟩
theorem rL_law_696 : vCn mL_law 696 (nI 2) 697 := Or.inl ⟨2, by decide +kernel, by decide +kernel, rfl⟩
theorem rL_law_697 : vI mL_law 697 .iadd 1 698 := ⟨by decide +kernel, rfl⟩
theorem rL_law_698 : vI mL_law 698 .iaload 1 699 := ⟨by decide +kernel, rfl⟩
theorem rL_law_699 : vKv mL_law 699 mX8_found 2 8 702 := ⟨100, (RX8, TX8, 29), by decide +kernel, rfl, kX8_found, tF919, tF918, tF920, rfl, rfl⟩
theorem rL_law_702 : vIc mL_law 702 .eq 882 705 := ⟨180, by decide +kernel, by decide, rfl⟩
theorem rL_law_705 : vCn mL_law 705 (nI 0) 706 := Or.inl ⟨0, by decide +kernel, by decide +kernel, rfl⟩
theorem rL_law_706 : vI mL_law 706 .ireturn 1 707 := ⟨by decide +kernel, rfl⟩
theorem rL_law_707 : vLa mL_law 707 1 708 := ⟨1, by decide +kernel, rfl, rfl⟩
theorem rL_law_708 : vKv mL_law 708 mX7_forget 0 7 711 := ⟨101, (RX7, TX7, 10), by decide +kernel, rfl, kX7_forget, tF562, tF561, tF563, rfl, rfl⟩
theorem rL_law_711 : vLa mL_law 711 2 712 := ⟨2, by decide +kernel, rfl, rfl⟩
theorem rL_law_712 : vKv mL_law 712 mX8_forget 0 8 715 := ⟨104, (RX8, TX8, 29), by decide +kernel, rfl, kX8_forget, tF923, tF922, tF924, rfl, rfl⟩
theorem rL_law_715 : vIc mL_law 715 .eq 882 718 := ⟨167, by decide +kernel, by decide, rfl⟩
theorem rL_law_718 : vCn mL_law 718 (nI 0) 719 := Or.inl ⟨0, by decide +kernel, by decide +kernel, rfl⟩
theorem rL_law_719 : vI mL_law 719 .ireturn 1 720 := ⟨by decide +kernel, rfl⟩
theorem rL_law_720 : vLa mL_law 720 1 721 := ⟨1, by decide +kernel, rfl, rfl⟩
theorem rL_law_721 : vLa mL_law 721 0 722 := ⟨0, by decide +kernel, rfl, rfl⟩
theorem rL_law_722 : vLi mL_law 722 3 723 := Or.inl ⟨3, by decide +kernel, rfl, rfl⟩
theorem rL_law_723 : vCn mL_law 723 (nI 1) 724 := Or.inl ⟨1, by decide +kernel, by decide +kernel, rfl⟩
theorem rL_law_724 : vI mL_law 724 .iadd 1 725 := ⟨by decide +kernel, rfl⟩
theorem rL_law_725 : vI mL_law 725 .iaload 1 726 := ⟨by decide +kernel, rfl⟩
theorem rL_law_726 : vKv mL_law 726 mX7_which 1 7 729 := ⟨105, (RX7, TX7, 10), by decide +kernel, rfl, kX7_which, tF566, tF565, tF567, rfl, rfl⟩
theorem rL_law_729 : vLa mL_law 729 2 730 := ⟨2, by decide +kernel, rfl, rfl⟩
theorem rL_law_730 : vLa mL_law 730 0 731 := ⟨0, by decide +kernel, rfl, rfl⟩
theorem rL_law_731 : vLi mL_law 731 3 732 := Or.inl ⟨3, by decide +kernel, rfl, rfl⟩
theorem rL_law_732 : vCn mL_law 732 (nI 1) 733 := Or.inl ⟨1, by decide +kernel, by decide +kernel, rfl⟩
theorem rL_law_733 : vI mL_law 733 .iadd 1 734 := ⟨by decide +kernel, rfl⟩
theorem rL_law_734 : vI mL_law 734 .iaload 1 735 := ⟨by decide +kernel, rfl⟩
theorem rL_law_735 : vKv mL_law 735 mX8_which 1 8 738 := ⟨108, (RX8, TX8, 29), by decide +kernel, rfl, kX8_which, tF927, tF926, tF928, rfl, rfl⟩
theorem rL_law_738 : vIc mL_law 738 .eq 882 741 := ⟨144, by decide +kernel, by decide, rfl⟩
theorem rL_law_741 : vCn mL_law 741 (nI 0) 742 := Or.inl ⟨0, by decide +kernel, by decide +kernel, rfl⟩
theorem rL_law_742 : vI mL_law 742 .ireturn 1 743 := ⟨by decide +kernel, rfl⟩
theorem rL_law_743 : vLa mL_law 743 1 744 := ⟨1, by decide +kernel, rfl, rfl⟩
theorem rL_law_744 : vLa mL_law 744 0 745 := ⟨0, by decide +kernel, rfl, rfl⟩
theorem rL_law_745 : vLi mL_law 745 3 746 := Or.inl ⟨3, by decide +kernel, rfl, rfl⟩
theorem rL_law_746 : vCn mL_law 746 (nI 1) 747 := Or.inl ⟨1, by decide +kernel, by decide +kernel, rfl⟩
theorem rL_law_747 : vI mL_law 747 .iadd 1 748 := ⟨by decide +kernel, rfl⟩
theorem rL_law_748 : vI mL_law 748 .iaload 1 749 := ⟨by decide +kernel, rfl⟩
theorem rL_law_749 : vKv mL_law 749 mX7_odds 1 7 752 := ⟨109, (RX7, TX7, 10), by decide +kernel, rfl, kX7_odds, tF575, tF574, tF576, rfl, rfl⟩
theorem rL_law_752 : vLa mL_law 752 2 753 := ⟨2, by decide +kernel, rfl, rfl⟩
theorem rL_law_753 : vLa mL_law 753 0 754 := ⟨0, by decide +kernel, rfl, rfl⟩
theorem rL_law_754 : vLi mL_law 754 3 755 := Or.inl ⟨3, by decide +kernel, rfl, rfl⟩
theorem rL_law_755 : vCn mL_law 755 (nI 1) 756 := Or.inl ⟨1, by decide +kernel, by decide +kernel, rfl⟩
theorem rL_law_756 : vI mL_law 756 .iadd 1 757 := ⟨by decide +kernel, rfl⟩
theorem rL_law_757 : vI mL_law 757 .iaload 1 758 := ⟨by decide +kernel, rfl⟩
theorem rL_law_758 : vKv mL_law 758 mX8_odds 1 8 761 := ⟨112, (RX8, TX8, 29), by decide +kernel, rfl, kX8_odds, tF931, tF930, tF932, rfl, rfl⟩
theorem rL_law_761 : vIc mL_law 761 .eq 882 764 := ⟨121, by decide +kernel, by decide, rfl⟩
theorem rL_law_764 : vCn mL_law 764 (nI 0) 765 := Or.inl ⟨0, by decide +kernel, by decide +kernel, rfl⟩
theorem rL_law_765 : vI mL_law 765 .ireturn 1 766 := ⟨by decide +kernel, rfl⟩
theorem rL_law_766 : vLa mL_law 766 1 767 := ⟨1, by decide +kernel, rfl, rfl⟩
theorem rL_law_767 : vLa mL_law 767 0 768 := ⟨0, by decide +kernel, rfl, rfl⟩
theorem rL_law_768 : vLi mL_law 768 3 769 := Or.inl ⟨3, by decide +kernel, rfl, rfl⟩
theorem rL_law_769 : vCn mL_law 769 (nI 1) 770 := Or.inl ⟨1, by decide +kernel, by decide +kernel, rfl⟩
theorem rL_law_770 : vI mL_law 770 .iadd 1 771 := ⟨by decide +kernel, rfl⟩
theorem rL_law_771 : vI mL_law 771 .iaload 1 772 := ⟨by decide +kernel, rfl⟩
theorem rL_law_772 : vLa mL_law 772 0 773 := ⟨0, by decide +kernel, rfl, rfl⟩
theorem rL_law_773 : vLi mL_law 773 3 774 := Or.inl ⟨3, by decide +kernel, rfl, rfl⟩
theorem rL_law_774 : vCn mL_law 774 (nI 2) 775 := Or.inl ⟨2, by decide +kernel, by decide +kernel, rfl⟩
theorem rL_law_775 : vI mL_law 775 .iadd 1 776 := ⟨by decide +kernel, rfl⟩
theorem rL_law_776 : vI mL_law 776 .iaload 1 777 := ⟨by decide +kernel, rfl⟩
theorem rL_law_777 : vKv mL_law 777 mX7_rate 2 7 780 := ⟨113, (RX7, TX7, 10), by decide +kernel, rfl, kX7_rate, tF598, tF597, tF599, rfl, rfl⟩
theorem rL_law_780 : vLa mL_law 780 2 781 := ⟨2, by decide +kernel, rfl, rfl⟩
theorem rL_law_781 : vLa mL_law 781 0 782 := ⟨0, by decide +kernel, rfl, rfl⟩
theorem rL_law_782 : vLi mL_law 782 3 783 := Or.inl ⟨3, by decide +kernel, rfl, rfl⟩
theorem rL_law_783 : vCn mL_law 783 (nI 1) 784 := Or.inl ⟨1, by decide +kernel, by decide +kernel, rfl⟩
theorem rL_law_784 : vI mL_law 784 .iadd 1 785 := ⟨by decide +kernel, rfl⟩
theorem rL_law_785 : vI mL_law 785 .iaload 1 786 := ⟨by decide +kernel, rfl⟩
theorem rL_law_786 : vLa mL_law 786 0 787 := ⟨0, by decide +kernel, rfl, rfl⟩
theorem rL_law_787 : vLi mL_law 787 3 788 := Or.inl ⟨3, by decide +kernel, rfl, rfl⟩
theorem rL_law_788 : vCn mL_law 788 (nI 2) 789 := Or.inl ⟨2, by decide +kernel, by decide +kernel, rfl⟩
theorem rL_law_789 : vI mL_law 789 .iadd 1 790 := ⟨by decide +kernel, rfl⟩
theorem rL_law_790 : vI mL_law 790 .iaload 1 791 := ⟨by decide +kernel, rfl⟩
theorem rL_law_791 : vKv mL_law 791 mX8_rate 2 8 794 := ⟨116, (RX8, TX8, 29), by decide +kernel, rfl, kX8_rate, tF938, tF937, tF939, rfl, rfl⟩
theorem rL_law_794 : vIc mL_law 794 .eq 882 797 := ⟨88, by decide +kernel, by decide, rfl⟩
theorem rL_law_797 : vCn mL_law 797 (nI 0) 798 := Or.inl ⟨0, by decide +kernel, by decide +kernel, rfl⟩
theorem rL_law_798 : vI mL_law 798 .ireturn 1 799 := ⟨by decide +kernel, rfl⟩
theorem rL_law_799 : vLa mL_law 799 1 800 := ⟨1, by decide +kernel, rfl, rfl⟩
theorem rL_law_800 : vLa mL_law 800 0 801 := ⟨0, by decide +kernel, rfl, rfl⟩
theorem rL_law_801 : vLi mL_law 801 3 802 := Or.inl ⟨3, by decide +kernel, rfl, rfl⟩
theorem rL_law_802 : vCn mL_law 802 (nI 1) 803 := Or.inl ⟨1, by decide +kernel, by decide +kernel, rfl⟩
theorem rL_law_803 : vI mL_law 803 .iadd 1 804 := ⟨by decide +kernel, rfl⟩
theorem rL_law_804 : vI mL_law 804 .iaload 1 805 := ⟨by decide +kernel, rfl⟩
theorem rL_law_805 : vKv mL_law 805 mX7_keep 1 7 808 := ⟨117, (RX7, TX7, 10), by decide +kernel, rfl, kX7_keep, tF632, tF631, tF633, rfl, rfl⟩
theorem rL_law_808 : vLa mL_law 808 2 809 := ⟨2, by decide +kernel, rfl, rfl⟩
theorem rL_law_809 : vLa mL_law 809 0 810 := ⟨0, by decide +kernel, rfl, rfl⟩
theorem rL_law_810 : vLi mL_law 810 3 811 := Or.inl ⟨3, by decide +kernel, rfl, rfl⟩
theorem rL_law_811 : vCn mL_law 811 (nI 1) 812 := Or.inl ⟨1, by decide +kernel, by decide +kernel, rfl⟩
theorem rL_law_812 : vI mL_law 812 .iadd 1 813 := ⟨by decide +kernel, rfl⟩
theorem rL_law_813 : vI mL_law 813 .iaload 1 814 := ⟨by decide +kernel, rfl⟩
theorem rL_law_814 : vKv mL_law 814 mX8_keep 1 8 817 := ⟨120, (RX8, TX8, 29), by decide +kernel, rfl, kX8_keep, tF948, tF947, tF949, rfl, rfl⟩
theorem rL_law_817 : vIc mL_law 817 .eq 882 820 := ⟨65, by decide +kernel, by decide, rfl⟩
theorem rL_law_820 : vCn mL_law 820 (nI 0) 821 := Or.inl ⟨0, by decide +kernel, by decide +kernel, rfl⟩
theorem rL_law_821 : vI mL_law 821 .ireturn 1 822 := ⟨by decide +kernel, rfl⟩
theorem rL_law_822 : vLa mL_law 822 1 823 := ⟨1, by decide +kernel, rfl, rfl⟩
theorem rL_law_823 : vLa mL_law 823 0 824 := ⟨0, by decide +kernel, rfl, rfl⟩
theorem rL_law_824 : vLi mL_law 824 3 825 := Or.inl ⟨3, by decide +kernel, rfl, rfl⟩
theorem rL_law_825 : vCn mL_law 825 (nI 1) 826 := Or.inl ⟨1, by decide +kernel, by decide +kernel, rfl⟩
theorem rL_law_826 : vI mL_law 826 .iadd 1 827 := ⟨by decide +kernel, rfl⟩
theorem rL_law_827 : vI mL_law 827 .iaload 1 828 := ⟨by decide +kernel, rfl⟩
theorem rL_law_828 : vKv mL_law 828 mX7_back 1 7 831 := ⟨121, (RX7, TX7, 10), by decide +kernel, rfl, kX7_back, tF642, tF641, tF643, rfl, rfl⟩
theorem rL_law_831 : vLa mL_law 831 2 832 := ⟨2, by decide +kernel, rfl, rfl⟩
theorem rL_law_832 : vLa mL_law 832 0 833 := ⟨0, by decide +kernel, rfl, rfl⟩
theorem rL_law_833 : vLi mL_law 833 3 834 := Or.inl ⟨3, by decide +kernel, rfl, rfl⟩
theorem rL_law_834 : vCn mL_law 834 (nI 1) 835 := Or.inl ⟨1, by decide +kernel, by decide +kernel, rfl⟩
theorem rL_law_835 : vI mL_law 835 .iadd 1 836 := ⟨by decide +kernel, rfl⟩
theorem rL_law_836 : vI mL_law 836 .iaload 1 837 := ⟨by decide +kernel, rfl⟩
theorem rL_law_837 : vKv mL_law 837 mX8_back 1 8 840 := ⟨124, (RX8, TX8, 29), by decide +kernel, rfl, kX8_back, tF952, tF951, tF953, rfl, rfl⟩
theorem rL_law_840 : vIc mL_law 840 .eq 882 843 := ⟨42, by decide +kernel, by decide, rfl⟩
theorem rL_law_843 : vCn mL_law 843 (nI 0) 844 := Or.inl ⟨0, by decide +kernel, by decide +kernel, rfl⟩
theorem rL_law_844 : vI mL_law 844 .ireturn 1 845 := ⟨by decide +kernel, rfl⟩
theorem rL_law_845 : vLa mL_law 845 1 846 := ⟨1, by decide +kernel, rfl, rfl⟩
theorem rL_law_846 : vLa mL_law 846 0 847 := ⟨0, by decide +kernel, rfl, rfl⟩
theorem rL_law_847 : vLi mL_law 847 3 848 := Or.inl ⟨3, by decide +kernel, rfl, rfl⟩
theorem rL_law_848 : vCn mL_law 848 (nI 1) 849 := Or.inl ⟨1, by decide +kernel, by decide +kernel, rfl⟩
theorem rL_law_849 : vI mL_law 849 .iadd 1 850 := ⟨by decide +kernel, rfl⟩
theorem rL_law_850 : vI mL_law 850 .iaload 1 851 := ⟨by decide +kernel, rfl⟩
theorem rL_law_851 : vKv mL_law 851 mX7_count 1 7 854 := ⟨125, (RX7, TX7, 10), by decide +kernel, rfl, kX7_count, tF650, tF649, tF651, rfl, rfl⟩
theorem rL_law_854 : vLa mL_law 854 2 855 := ⟨2, by decide +kernel, rfl, rfl⟩
theorem rL_law_855 : vLa mL_law 855 0 856 := ⟨0, by decide +kernel, rfl, rfl⟩
theorem rL_law_856 : vLi mL_law 856 3 857 := Or.inl ⟨3, by decide +kernel, rfl, rfl⟩
theorem rL_law_857 : vCn mL_law 857 (nI 1) 858 := Or.inl ⟨1, by decide +kernel, by decide +kernel, rfl⟩
theorem rL_law_858 : vI mL_law 858 .iadd 1 859 := ⟨by decide +kernel, rfl⟩
theorem rL_law_859 : vI mL_law 859 .iaload 1 860 := ⟨by decide +kernel, rfl⟩
theorem rL_law_860 : vKv mL_law 860 mX8_count 1 8 863 := ⟨128, (RX8, TX8, 29), by decide +kernel, rfl, kX8_count, tF956, tF955, tF957, rfl, rfl⟩
theorem rL_law_863 : vIc mL_law 863 .eq 882 866 := ⟨19, by decide +kernel, by decide, rfl⟩
theorem rL_law_866 : vCn mL_law 866 (nI 0) 867 := Or.inl ⟨0, by decide +kernel, by decide +kernel, rfl⟩
theorem rL_law_867 : vI mL_law 867 .ireturn 1 868 := ⟨by decide +kernel, rfl⟩
theorem rL_law_868 : vLa mL_law 868 1 869 := ⟨1, by decide +kernel, rfl, rfl⟩
theorem rL_law_869 : vKv mL_law 869 mX7_trace 0 7 872 := ⟨129, (RX7, TX7, 10), by decide +kernel, rfl, kX7_trace, tF654, tF653, tF655, rfl, rfl⟩
theorem rL_law_872 : vLa mL_law 872 2 873 := ⟨2, by decide +kernel, rfl, rfl⟩
theorem rL_law_873 : vKv mL_law 873 mX8_trace 0 8 876 := ⟨133, (RX8, TX8, 29), by decide +kernel, rfl, kX8_trace, tF964, tF963, tF965, rfl, rfl⟩
theorem rL_law_876 : vI mL_law 876 .lcmp 1 877 := ⟨by decide +kernel, rfl⟩
theorem rL_law_877 : vIf mL_law 877 .eq 882 880 := ⟨5, by decide +kernel, by decide, rfl⟩
theorem rL_law_880 : vCn mL_law 880 (nI 0) 881 := Or.inl ⟨0, by decide +kernel, by decide +kernel, rfl⟩
theorem rL_law_881 : vI mL_law 881 .ireturn 1 882 := ⟨by decide +kernel, rfl⟩
theorem rL_law_882 : vIn mL_law 882 3 (nI 4) 885 := ⟨4, by decide +kernel, by decide +kernel, by decide, rfl⟩
theorem rL_law_885 : vGo mL_law 885 18 := ⟨-867, by decide +kernel, by decide⟩
theorem rL_law_888 : vCn mL_law 888 (nI 1) 889 := Or.inl ⟨1, by decide +kernel, by decide +kernel, rfl⟩
theorem rL_law_889 : vI mL_law 889 .ireturn 1 890 := ⟨by decide +kernel, rfl⟩
end
section
/-! ===== where the references lead; leaves ===== -/
def vRR (ρ a k : Nat) : Option Nat :=
  if a = 0 then ([some 1, some ρ, some (17 - ρ), some 22, some 27, some 32, some 84, some 97, some 100, none] : List (Option Nat)).getD k none
  else if a = 1 then ([some 2, none, some 3] : List (Option Nat)).getD k none
  else if a = 103 then ([none, none, some 104, none, none, none, none, none, none, some 105, some 106, some 107, some 108, some 109, some 110, some 111, some 112, some 113, some 114, some 115, some 116, some 117, some 118, none, some 119, some 120, none, some 121, some 122] : List (Option Nat)).getD k none
  else if a = 32 then ([some 33, none, none] : List (Option Nat)).getD k none
  else if a = 33 then some (34 + 5 * k)
  else if a = 84 then ([some 85, some 86] : List (Option Nat)).getD k none
  else if a = 85 then some (87 + 5 * k)
  else if a = 97 then ([some 98, some 99, none] : List (Option Nat)).getD k none
  else if a = 100 then ([some 101, some 102, none] : List (Option Nat)).getD k none
  else if (vSH a).1 = 6 then some (a + k - 2)
  else if (vSH a).1 = 1 then some (a + k - 1)
  else none
def vTo (a : Nat) : Prop := a = 4 ∨ a = 13
def vHg (h : Nat) : Prop := h < 123 ∧ vSH h = (1, 6)
theorem toldF {a : Nat} (h : vTo a) : vOb 123 a 6 ∧ vAr 123 (a + 1) 100 6 ∧ vAr 123 (a + 2) 100 6 ∧ vAr 123 (a + 3) 100 6 ∧ vAr 123 (a + 4) 100 36 ∧ vAr 123 (a + 5) 100 36 ∧ vAr 123 (a + 6) 100 6 ∧ vAr 123 (a + 7) 100 6 ∧ vAr 123 (a + 8) 100 6 := by
  rcases h with rfl | rfl <;> decide
theorem hangA0 : (List.range 123).all (fun h => !decide (vSH h = (1, 6)) || decide (h + 4 < 123 ∧ vSH (h + 1) = (100, 6) ∧ vSH (h + 2) = (100, 6) ∧ vSH (h + 3) = (100, 6) ∧ vSH (h + 4) = (100, 36))) = true := by decide +kernel
theorem hangA (h : Nat) (hl : h < 123) (hs : vSH h = (1, 6)) : vAr 123 (h + 1) 100 6 ∧ vAr 123 (h + 2) 100 6 ∧ vAr 123 (h + 3) 100 6 ∧ vAr 123 (h + 4) 100 36 := by
  have q := List.all_eq_true.mp hangA0 h (List.mem_range.mpr hl)
  simp only [hs, decide_true, Bool.not_true, Bool.false_or, decide_eq_true_eq] at q
  obtain ⟨q0, q1, q2, q3, q4⟩ := q
  exact ⟨⟨by omega, q1, by decide⟩, ⟨by omega, q2, by decide⟩, ⟨by omega, q3, by decide⟩, ⟨by omega, q4, by decide⟩⟩
theorem hangF {h : Nat} (hh : vHg h) : vOb 123 h 1 ∧ vAr 123 (h + 1) 100 6 ∧ vAr 123 (h + 2) 100 6 ∧ vAr 123 (h + 3) 100 6 ∧ vAr 123 (h + 4) 100 36 := ⟨⟨hh.1, hh.2, by decide⟩, hangA h hh.1 hh.2⟩

theorem tR3 {ρ a : Nat} (h : vTo a) : vRR ρ a 3 = some (a + 1) := by rcases h with rfl | rfl <;> rfl
theorem tR4 {ρ a : Nat} (h : vTo a) : vRR ρ a 4 = some (a + 2) := by rcases h with rfl | rfl <;> rfl
theorem tR5 {ρ a : Nat} (h : vTo a) : vRR ρ a 5 = some (a + 3) := by rcases h with rfl | rfl <;> rfl
theorem tR6 {ρ a : Nat} (h : vTo a) : vRR ρ a 6 = some (a + 4) := by rcases h with rfl | rfl <;> rfl
theorem tR7 {ρ a : Nat} (h : vTo a) : vRR ρ a 7 = some (a + 5) := by rcases h with rfl | rfl <;> rfl
theorem tR8 {ρ a : Nat} (h : vTo a) : vRR ρ a 8 = some (a + 6) := by rcases h with rfl | rfl <;> rfl
theorem tR9 {ρ a : Nat} (h : vTo a) : vRR ρ a 9 = some (a + 7) := by rcases h with rfl | rfl <;> rfl
theorem tR10 {ρ a : Nat} (h : vTo a) : vRR ρ a 10 = some (a + 8) := by rcases h with rfl | rfl <;> rfl
theorem hRR {ρ h k : Nat} (hh : vHg h) : vRR ρ h k = some (h + k - 1) := by
  have q : ∀ c, vSH c ≠ (1, 6) → h ≠ c := fun c hc e => hc (by rw [← e]; exact hh.2)
  simp only [vRR, if_neg (q 0 (by decide)), if_neg (q 1 (by decide)), if_neg (q 103 (by decide)), if_neg (q 32 (by decide)), if_neg (q 33 (by decide)), if_neg (q 84 (by decide)), if_neg (q 85 (by decide)), if_neg (q 97 (by decide)), if_neg (q 100 (by decide)), hh.2]
  simp
theorem hR2 {ρ h : Nat} (hh : vHg h) : vRR ρ h 2 = some (h + 1) := hRR hh
theorem hR3 {ρ h : Nat} (hh : vHg h) : vRR ρ h 3 = some (h + 2) := hRR hh
theorem hR4 {ρ h : Nat} (hh : vHg h) : vRR ρ h 4 = some (h + 3) := hRR hh
theorem hR5 {ρ h : Nat} (hh : vHg h) : vRR ρ h 5 = some (h + 4) := hRR hh
def vb (b : Bool) : Int32 := if b then nI 1 else nI 0
theorem vb_nar (b : Bool) : narrow .boolean (.int (vb b)) = .int (vb b) := by cases b <;> rfl
/-- t names one of m things -/
def isT (m : Nat) (t : Int32) : Bool := decide (0 ≤ t.toInt) && decide (t.toInt < m)
theorem isT_t {m : Nat} {t : Int32} (hm : m < 2147483648) (h : isT m t = true) : ∃ j, j < m ∧ t = nI j := by
  simp only [isT, Bool.and_eq_true, decide_eq_true_eq] at h
  refine ⟨t.toInt.toNat, by omega, ?_⟩
  apply Int32.toInt_inj.mp
  rw [nI_toInt (by omega)]
  omega
theorem isT_n {m j : Nat} (hj : j < m) (hm : m < 2147483648) : isT m (nI j) = true := by
  simp only [isT, Bool.and_eq_true, decide_eq_true_eq]
  rw [nI_toInt (by omega)]
  omega
def inR (x lo hi : Int32) : Bool := decide (lo.toInt ≤ x.toInt) && decide (x.toInt ≤ hi.toInt)
theorem inR_f1 {x lo hi : Int32} (h : x < lo) : inR x lo hi = false := by
  rw [Int32.lt_iff_toInt_lt] at h
  simp only [inR, Bool.and_eq_false_iff, decide_eq_false_iff_not]
  omega
theorem inR_f2 {x lo hi : Int32} (h : hi < x) : inR x lo hi = false := by
  rw [Int32.lt_iff_toInt_lt] at h
  simp only [inR, Bool.and_eq_false_iff, decide_eq_false_iff_not]
  omega
theorem inR_tt {x lo hi : Int32} (h1 : ¬ x < lo) (h2 : ¬ hi < x) : inR x lo hi = true := by
  rw [Int32.lt_iff_toInt_lt] at h1 h2
  simp only [inR, Bool.and_eq_true, decide_eq_true_eq]
  omega
theorem inR_T {m : Nat} (hm : m ≤ 1000) (t : Int32) : inR t (nI 0) (nI m - nI 1) = isT m t := by
  have e1 : (nI m - nI 1).toInt = (m : Int) - 1 := pk_sub_toInt (by omega) (by omega)
  have e0 : (nI 0).toInt = 0 := rfl
  simp only [inR, isT, e1, e0]
  congr 1
  simp only [decide_eq_decide]
  omega
theorem inR_N {m : Nat} (hm : m < 2147483647) (t : Int32) : inR t (nI 0) (nI m) = isT (m + 1) t := by
  have e1 : (nI m).toInt = (m : Int) := nI_toInt (by omega)
  have e0 : (nI 0).toInt = 0 := rfl
  simp only [inR, isT, e1, e0]
  congr 1
  simp only [decide_eq_decide]
  omega
section Leaf
variable {d n : Nat} {I : Nat → Nat → Int32} {J : Nat → Nat → Int64} {Z : Nat → Nat → Option Nat} {k : Int32 → vS → Prop} {kv : vS → Prop}
set_option maxHeartbeats 4000000 in
set_option maxRecDepth 100000 in
theorem s_within {x lo hi : Int32} (h : k (vb (inR x lo hi)) (I, J, Z)) : V d n n mX7_within 0 [.int x, .int lo, .int hi] [] (I, J, Z) (Ki k) := by
  refine st_iload rX7_within_0 rfl ?_
  refine st_iload rX7_within_1 rfl ?_
  first | refine st_icmp_ltN rX7_within_2 (by omega) (by omega) (fun h2 => ?_) (fun h2 => ?_) | refine st_icmp_lt rX7_within_2 (fun h2 => ?_) (fun h2 => ?_)
  · refine st_c rX7_within_14 ?_
    refine st_zret rX7_within_15 rfl (by first | rfl | exact vb_nar _) ?_
    first | (rw [inR_f1 (by assumption)] at h; exact h) | (rw [inR_f2 (by assumption)] at h; exact h) | (rw [inR_tt (by assumption) (by assumption)] at h; exact h)
  · refine st_iload rX7_within_5 rfl ?_
    refine st_iload rX7_within_6 rfl ?_
    first | refine st_icmp_gtN rX7_within_7 (by omega) (by omega) (fun h7 => ?_) (fun h7 => ?_) | refine st_icmp_gt rX7_within_7 (fun h7 => ?_) (fun h7 => ?_)
    · refine st_c rX7_within_14 ?_
      refine st_zret rX7_within_15 rfl (by first | rfl | exact vb_nar _) ?_
      first | (rw [inR_f1 (by assumption)] at h; exact h) | (rw [inR_f2 (by assumption)] at h; exact h) | (rw [inR_tt (by assumption) (by assumption)] at h; exact h)
    · refine st_c rX7_within_10 ?_
      refine st_goto rX7_within_11 ?_
      refine st_zret rX7_within_15 rfl (by first | rfl | exact vb_nar _) ?_
      first | (rw [inR_f1 (by assumption)] at h; exact h) | (rw [inR_f2 (by assumption)] at h; exact h) | (rw [inR_tt (by assumption) (by assumption)] at h; exact h)
set_option maxHeartbeats 4000000 in
set_option maxRecDepth 100000 in
theorem s_in {x lo hi : Int32} (h : k (vb (inR x lo hi)) (I, J, Z)) : V d n n mX8_in 0 [.int x, .int lo, .int hi] [] (I, J, Z) (Ki k) := by
  refine st_iload rX8_in_0 rfl ?_
  refine st_iload rX8_in_1 rfl ?_
  first | refine st_icmp_ltN rX8_in_2 (by omega) (by omega) (fun h2 => ?_) (fun h2 => ?_) | refine st_icmp_lt rX8_in_2 (fun h2 => ?_) (fun h2 => ?_)
  · refine st_c rX8_in_14 ?_
    refine st_zret rX8_in_15 rfl (by first | rfl | exact vb_nar _) ?_
    first | (rw [inR_f1 (by assumption)] at h; exact h) | (rw [inR_f2 (by assumption)] at h; exact h) | (rw [inR_tt (by assumption) (by assumption)] at h; exact h)
  · refine st_iload rX8_in_5 rfl ?_
    refine st_iload rX8_in_6 rfl ?_
    first | refine st_icmp_gtN rX8_in_7 (by omega) (by omega) (fun h7 => ?_) (fun h7 => ?_) | refine st_icmp_gt rX8_in_7 (fun h7 => ?_) (fun h7 => ?_)
    · refine st_c rX8_in_14 ?_
      refine st_zret rX8_in_15 rfl (by first | rfl | exact vb_nar _) ?_
      first | (rw [inR_f1 (by assumption)] at h; exact h) | (rw [inR_f2 (by assumption)] at h; exact h) | (rw [inR_tt (by assumption) (by assumption)] at h; exact h)
    · refine st_c rX8_in_10 ?_
      refine st_goto rX8_in_11 ?_
      refine st_zret rX8_in_15 rfl (by first | rfl | exact vb_nar _) ?_
      first | (rw [inR_f1 (by assumption)] at h; exact h) | (rw [inR_f2 (by assumption)] at h; exact h) | (rw [inR_tt (by assumption) (by assumption)] at h; exact h)
set_option maxHeartbeats 4000000 in
set_option maxRecDepth 100000 in
theorem s_pair {a b : Nat} (h : k (nI (a * 6 + b)) (I, J, Z)) : V d n n mX7_pair 0 [.int (nI a), .int (nI b)] [] (I, J, Z) (Ki k) := by
  refine st_iload rX7_pair_0 rfl ?_
  refine st_c rX7_pair_1 ?_
  first | refine st_imulN rX7_pair_3 ?_ | refine st_imul rX7_pair_3 ?_
  refine st_iload rX7_pair_4 rfl ?_
  first | refine st_iaddN rX7_pair_5 ?_ | refine st_iadd rX7_pair_5 ?_
  refine st_iret rX7_pair_6 rfl ?_
  exact h
set_option maxHeartbeats 4000000 in
set_option maxRecDepth 100000 in
theorem s_at {a len j : Nat} (ha : vAr n a 100 len) (hj : j < len) (h : k (I a j) (I, J, Z)) : V d n n mX7_at 0 [.ref a, .int (nI j)] [] (I, J, Z) (Ki k) := by
  have hl := ha.2.2
  refine st_iload rX7_at_0 rfl ?_
  first | refine st_if_ltN rX7_at_1 (by omega) (fun h => absurd h (by first | decide | omega | (simp; done) | simp_all)) (fun _ => ?_) | refine st_if_lt rX7_at_1 (fun h => absurd h (by first | decide | omega | (simp; done) | simp_all)) (fun _ => ?_)
  refine st_iload rX7_at_4 rfl ?_
  refine st_aload rX7_at_5 rfl ?_
  refine st_alen rX7_at_6 (by first | assumption | decide) ?_
  first | refine st_icmp_geN rX7_at_7 (by omega) (by omega) (fun h => absurd h (by first | decide | omega | (simp; done) | simp_all)) (fun _ => ?_) | refine st_icmp_ge rX7_at_7 (fun h => absurd h (by first | decide | omega | (simp; done) | simp_all)) (fun _ => ?_)
  refine st_aload rX7_at_10 rfl ?_
  refine st_iload rX7_at_11 rfl ?_
  refine st_ialdN rX7_at_12 (by first | assumption | decide) (by omega) ?_
  refine st_goto rX7_at_13 ?_
  refine st_iret rX7_at_17 rfl ?_
  exact h
set_option maxHeartbeats 4000000 in
set_option maxRecDepth 100000 in
theorem s_put {a len j : Nat} {x : Int32} (ha : vAr n a 100 len) (hj : j < len) (h : kv (up I a (va_up (I a) j x), J, Z)) : V d n n mX7_put 0 [.ref a, .int (nI j), .int x] [] (I, J, Z) (Kv kv) := by
  have hl := ha.2.2
  refine st_iload rX7_put_0 rfl ?_
  first | refine st_if_ltN rX7_put_1 (by omega) (fun h => absurd h (by first | decide | omega | (simp; done) | simp_all)) (fun _ => ?_) | refine st_if_lt rX7_put_1 (fun h => absurd h (by first | decide | omega | (simp; done) | simp_all)) (fun _ => ?_)
  refine st_iload rX7_put_4 rfl ?_
  refine st_aload rX7_put_5 rfl ?_
  refine st_alen rX7_put_6 (by first | assumption | decide) ?_
  first | refine st_icmp_geN rX7_put_7 (by omega) (by omega) (fun h => absurd h (by first | decide | omega | (simp; done) | simp_all)) (fun _ => ?_) | refine st_icmp_ge rX7_put_7 (fun h => absurd h (by first | decide | omega | (simp; done) | simp_all)) (fun _ => ?_)
  refine st_aload rX7_put_10 rfl ?_
  refine st_iload rX7_put_11 rfl ?_
  refine st_iload rX7_put_12 rfl ?_
  refine st_iastN rX7_put_13 (by first | assumption | decide) (by omega) ?_
  refine st_vret rX7_put_14 rfl ?_
  exact h
end Leaf
end
section
/-! ===== Told, Hanging, Past: small methods ===== -/
/-- the cells of the Hanging h hold the row N (56 numbers), with m towns -/
def HV (I : Nat → Nat → Int32) (h m : Nat) (N : Nat → Int32) : Prop := I h 0 = N 0 ∧ I h 1 = N 1 ∧ (∀ t, t < 6 → I (h + 1) t = N (2 + t)) ∧ (∀ t, t < m → I (h + 2) t = N (8 + t)) ∧ (∀ i, i < 6 → I (h + 3) i = N (14 + i)) ∧ (∀ k, k < 36 → I (h + 4) k = N (20 + k))
theorem HV_cong {I I' : Nat → Nat → Int32} {h m : Nat} {N : Nat → Int32} (hv : HV I h m N) (he : ∀ a, h ≤ a → a ≤ h + 4 → I' a = I a) : HV I' h m N := by
  obtain ⟨q1, q2, q3, q4, q5, q6⟩ := hv
  refine ⟨?_, ?_, fun t ht => ?_, fun t ht => ?_, fun t ht => ?_, fun t ht => ?_⟩
  · rw [he h (by omega) (by omega)]; exact q1
  · rw [he h (by omega) (by omega)]; exact q2
  · rw [he (h + 1) (by omega) (by omega)]; exact q3 t ht
  · rw [he (h + 2) (by omega) (by omega)]; exact q4 t ht
  · rw [he (h + 3) (by omega) (by omega)]; exact q5 t ht
  · rw [he (h + 4) (by omega) (by omega)]; exact q6 t ht
theorem HV_N {I : Nat → Nat → Int32} {h m : Nat} {N N' : Nat → Int32} (hv : HV I h m N) (hm : m ≤ 6) (he : ∀ k, k < 56 → N' k = N k) : HV I h m N' := by
  obtain ⟨q1, q2, q3, q4, q5, q6⟩ := hv
  refine ⟨?_, ?_, fun t ht => ?_, fun t ht => ?_, fun t ht => ?_, fun t ht => ?_⟩
  · rw [he 0 (by omega)]; exact q1
  · rw [he 1 (by omega)]; exact q2
  · rw [he _ (by omega)]; exact q3 t ht
  · rw [he _ (by omega)]; exact q4 t ht
  · rw [he _ (by omega)]; exact q5 t ht
  · rw [he _ (by omega)]; exact q6 t ht
theorem hangD0 : (List.range 123).all (fun h => (List.range 123).all (fun o => !decide (vSH h = (1, 6)) || (!decide (vSH o = (1, 6)) || (decide (h = o) || (decide (h + 5 ≤ o) || decide (o + 5 ≤ h)))))) = true := by decide +kernel
theorem hangD {h o : Nat} (hh : vHg h) (ho : vHg o) (hne : h ≠ o) : h + 5 ≤ o ∨ o + 5 ≤ h := by
  have q := List.all_eq_true.mp (List.all_eq_true.mp hangD0 h (List.mem_range.mpr hh.1)) o (List.mem_range.mpr ho.1)
  simp only [hh.2, ho.2, decide_true, Bool.not_true, Bool.false_or, Bool.or_eq_true, decide_eq_true_eq] at q
  omega
theorem hang_ne {h c : Nat} (hh : vHg h) (hc : vSH c ≠ (1, 6)) : h ≠ c := fun e => hc (by rw [← e]; exact hh.2)
section P11
variable {d : Nat} {I : Nat → Nat → Int32} {J : Nat → Nat → Int64} {ρ : Nat} {k : Int32 → vS → Prop} {kv : vS → Prop}
set_option maxHeartbeats 4000000 in
set_option maxRecDepth 100000 in
theorem s_hasTown {tl m : Nat} {t : Int32} (ht : vTo tl) (hm : I tl 0 = nI m) (hm6 : m ≤ 6) (h : k (vb (isT m t)) (I, J, vRR ρ)) : V (d + 1) 123 123 mX6_hasTown 0 [.ref tl, .int t] [] (I, J, vRR ρ) (Ki k) := by
  have hto := (toldF ht).1
  refine st_iload rX6_hasTown_0 rfl ?_
  refine st_c rX6_hasTown_1 ?_
  refine st_aload rX6_hasTown_2 rfl ?_
  refine st_getI rX6_hasTown_3 (by first | assumption | decide) rfl ?_
  refine st_top hm ?_
  refine st_c rX6_hasTown_6 ?_
  first | refine st_isubN rX6_hasTown_7 (by omega) ?_ | refine st_isub rX6_hasTown_7 ?_
  refine cS3i rX6_hasTown_8 (s_within ?_) rfl
  refine st_zret rX6_hasTown_11 rfl (by first | rfl | exact vb_nar _) ?_
  rw [inR_T (by omega)]; exact h
set_option maxHeartbeats 4000000 in
set_option maxRecDepth 100000 in
theorem s_wayBetween {tl a b : Nat} (ht : vTo tl) (ha : a < 6) (hb : b < 6) (h : k (I (tl + 5) (a * 6 + b)) (I, J, vRR ρ)) : V (d + 1) 123 123 mX6_wayBetween 0 [.ref tl, .int (nI a), .int (nI b)] [] (I, J, vRR ρ) (Ki k) := by
  obtain ⟨hto, h1, h2, h3, h4, h5, h6, h7, h8⟩ := toldF ht
  refine st_aload rX6_wayBetween_0 rfl ?_
  refine st_getR rX6_wayBetween_1 (by first | assumption | decide) (tR7 ht) rfl ?_
  refine st_iload rX6_wayBetween_4 rfl ?_
  refine st_iload rX6_wayBetween_5 rfl ?_
  refine cS2i rX6_wayBetween_6 (s_pair ?_) rfl
  refine cS2i rX6_wayBetween_9 (s_at (by first | assumption | decide) (by omega) ?_) rfl
  refine st_iret rX6_wayBetween_12 rfl ?_
  exact h
set_option maxHeartbeats 4000000 in
set_option maxRecDepth 100000 in
theorem s_copyFrom {h o : Nat} (hh : vHg h) (ho : vHg o) (hne : h ≠ o)
    (hk : ∀ I' : Nat → Nat → Int32, (∀ a, a < h ∨ h + 4 < a → I' a = I a) → (∀ m N, m ≤ 6 → HV I o m N → HV I' h m N) → kv (I', J, vRR ρ)) : V (d + 1) 123 123 mX1_copyFrom 0 [.ref h, .ref o] [] (I, J, vRR ρ) (Kv kv) := by
  obtain ⟨a0, a1, a2, a3, a4⟩ := hangF hh
  obtain ⟨b0, b1, b2, b3, b4⟩ := hangF ho
  have hd := hangD hh ho hne
  refine st_aload rX1_copyFrom_0 rfl ?_
  refine st_aload rX1_copyFrom_1 rfl ?_
  refine st_getI rX1_copyFrom_2 (by first | assumption | decide) rfl ?_
  refine st_putI rfl rX1_copyFrom_5 (by first | assumption | decide) ?_
  refine st_aload rX1_copyFrom_8 rfl ?_
  refine st_aload rX1_copyFrom_9 rfl ?_
  refine st_getI rX1_copyFrom_10 (by first | assumption | decide) rfl ?_
  refine st_putI rfl rX1_copyFrom_13 (by first | assumption | decide) ?_
  refine st_aload rX1_copyFrom_16 rfl ?_
  refine st_getR rX1_copyFrom_17 (by assumption) (hR2 (by assumption)) rfl ?_
  refine st_c rX1_copyFrom_20 ?_
  refine st_aload rX1_copyFrom_21 rfl ?_
  refine st_getR rX1_copyFrom_22 (by assumption) (hR2 (by assumption)) rfl ?_
  refine st_c rX1_copyFrom_25 ?_
  refine st_c rX1_copyFrom_26 ?_
  refine st_copy rX1_copyFrom_28 (by first | assumption | decide) (by first | assumption | decide) (by omega) (by omega) (Nat.le_of_ble_eq_true rfl) ?_
  refine st_aload rX1_copyFrom_31 rfl ?_
  refine st_getR rX1_copyFrom_32 (by assumption) (hR3 (by assumption)) rfl ?_
  refine st_c rX1_copyFrom_35 ?_
  refine st_aload rX1_copyFrom_36 rfl ?_
  refine st_getR rX1_copyFrom_37 (by assumption) (hR3 (by assumption)) rfl ?_
  refine st_c rX1_copyFrom_40 ?_
  refine st_c rX1_copyFrom_41 ?_
  refine st_copy rX1_copyFrom_43 (by first | assumption | decide) (by first | assumption | decide) (by omega) (by omega) (Nat.le_of_ble_eq_true rfl) ?_
  refine st_aload rX1_copyFrom_46 rfl ?_
  refine st_getR rX1_copyFrom_47 (by assumption) (hR4 (by assumption)) rfl ?_
  refine st_c rX1_copyFrom_50 ?_
  refine st_aload rX1_copyFrom_51 rfl ?_
  refine st_getR rX1_copyFrom_52 (by assumption) (hR4 (by assumption)) rfl ?_
  refine st_c rX1_copyFrom_55 ?_
  refine st_c rX1_copyFrom_56 ?_
  refine st_copy rX1_copyFrom_58 (by first | assumption | decide) (by first | assumption | decide) (by omega) (by omega) (Nat.le_of_ble_eq_true rfl) ?_
  refine st_aload rX1_copyFrom_61 rfl ?_
  refine st_getR rX1_copyFrom_62 (by assumption) (hR5 (by assumption)) rfl ?_
  refine st_c rX1_copyFrom_65 ?_
  refine st_aload rX1_copyFrom_66 rfl ?_
  refine st_getR rX1_copyFrom_67 (by assumption) (hR5 (by assumption)) rfl ?_
  refine st_c rX1_copyFrom_70 ?_
  refine st_c rX1_copyFrom_71 ?_
  refine st_copy rX1_copyFrom_73 (by first | assumption | decide) (by first | assumption | decide) (by omega) (by omega) (Nat.le_of_ble_eq_true rfl) ?_
  refine st_vret rX1_copyFrom_76 rfl ?_
  refine hk _ ?_ ?_
  · intro a ha
    simp (disch := omega) only [up_n]
  · intro m N hm hN
    obtain ⟨q1, q2, q3, q4, q5, q6⟩ := hN
    refine ⟨?_, ?_, fun t ht => ?_, fun t ht => ?_, fun t ht => ?_, fun t ht => ?_⟩
    · simp (disch := omega) only [up_n, up_s, va_up_n, va_up_s]; exact q1
    · simp (disch := omega) only [up_n, up_s, va_up_n, va_up_s]; exact q2
    · simp (disch := omega) only [up_n, up_s]; rw [if_pos (by omega)]; exact q3 t ht
    · simp (disch := omega) only [up_n, up_s]; rw [if_pos (by omega)]; exact q4 t ht
    · simp (disch := omega) only [up_n, up_s]; rw [if_pos (by omega)]; exact q5 t ht
    · simp (disch := omega) only [up_n, up_s]; rw [if_pos (by omega)]; exact q6 t ht
set_option maxHeartbeats 4000000 in
set_option maxRecDepth 100000 in
theorem s_townOf {h b p : Nat} (hh : vHg h) (hp : p < 6) (hb : I (h + 1) p = nI b) (hb6 : b < 6) (hf : ∀ q, q < p → ∃ c, c < 6 ∧ I (h + 1) q = nI c ∧ c ≠ b) (hk : k (nI p) (I, J, vRR ρ)) : V d 123 123 mX1_townOf 0 [.ref h, .int (nI b), vJ] [] (I, J, vRR ρ) (Ki k) := by
  obtain ⟨a0, a1, a2, a3, a4⟩ := hangF hh
  refine st_c rX1_townOf_0 ?_
  refine st_istore2 rX1_townOf_1 rfl ?_
  have key : ∀ (i q : Nat), q + i = p → V d 123 123 mX1_townOf 2 [.ref h, .int (nI b), .int (nI q)] [] (I, J, vRR ρ) (Ki k) := by
    intro i
    induction i with
    | zero =>
      intro q hq
      have hqp : q = p := by omega
      subst hqp
      refine st_iload rX1_townOf_2 rfl ?_
      refine st_c rX1_townOf_3 ?_
      first | refine st_icmp_geN rX1_townOf_4 (by omega) (by omega) (fun h4 => ?_) (fun h4 => ?_) | refine st_icmp_ge rX1_townOf_4 (fun h4 => ?_) (fun h4 => ?_)
      · refine st_iload rX1_townOf_23 rfl ?_
        refine st_iret rX1_townOf_24 rfl ?_
        exact hk
      · refine st_aload rX1_townOf_7 rfl ?_
        refine st_getR rX1_townOf_8 (by first | assumption | decide) (hR2 hh) rfl ?_
        refine st_iload rX1_townOf_11 rfl ?_
        refine st_ialdN rX1_townOf_12 (by first | assumption | decide) (by omega) ?_
        refine st_top hb ?_
        refine st_iload rX1_townOf_13 rfl ?_
        first | refine st_icmp_eqN rX1_townOf_14 (by omega) (by omega) (fun _ => ?_) (fun h => absurd h (by first | decide | omega | (simp; done) | simp_all)) | refine st_icmp_eq rX1_townOf_14 (fun _ => ?_) (fun h => absurd h (by first | decide | omega | (simp; done) | simp_all))
        refine st_iload rX1_townOf_23 rfl ?_
        refine st_iret rX1_townOf_24 rfl ?_
        exact hk
    | succ i ih =>
      intro q hq
      obtain ⟨c, hc6, hc, hcb⟩ := hf q (by omega)
      refine st_iload rX1_townOf_2 rfl ?_
      refine st_c rX1_townOf_3 ?_
      first | refine st_icmp_geN rX1_townOf_4 (by omega) (by omega) (fun h => absurd h (by first | decide | omega | (simp; done) | simp_all)) (fun _ => ?_) | refine st_icmp_ge rX1_townOf_4 (fun h => absurd h (by first | decide | omega | (simp; done) | simp_all)) (fun _ => ?_)
      refine st_aload rX1_townOf_7 rfl ?_
      refine st_getR rX1_townOf_8 (by first | assumption | decide) (hR2 hh) rfl ?_
      refine st_iload rX1_townOf_11 rfl ?_
      refine st_ialdN rX1_townOf_12 (by first | assumption | decide) (by omega) ?_
      refine st_top hc ?_
      refine st_iload rX1_townOf_13 rfl ?_
      first | refine st_icmp_eqN rX1_townOf_14 (by omega) (by omega) (fun h => absurd h (by first | decide | omega | (simp; done) | simp_all)) (fun _ => ?_) | refine st_icmp_eq rX1_townOf_14 (fun h => absurd h (by first | decide | omega | (simp; done) | simp_all)) (fun _ => ?_)
      first | refine st_iincN2 rX1_townOf_17 rfl ?_ | refine st_iinc2 rX1_townOf_17 rfl ?_
      refine st_goto rX1_townOf_20 ?_
      exact ih (q + 1) (by omega)
  exact key p 0 (by omega)
end P11
end
section
/-! ===== the two sides of the picture: A is what the reference's cells hold ===== -/
def farC (x : Int32) : Int32 := if x = nI 1000000 then -9 else x
/-- how many of the first n places hold a number above 0 -/
def cntP (f : Nat → Int32) : Nat → Nat
  | 0 => 0
  | n + 1 => cntP f n + (if 0 < f n then 1 else 0)
abbrev rw56 (A : Nat → Nat → Int32) (a j : Nat) : Nat → Int32 := fun k => A a (56 * j + k)
/-- the bells in the towns are a permutation -/
def PermN (m : Nat) (N : Nat → Int32) : Prop := ∃ b c : Nat → Nat, ∀ t, t < m → N (2 + t) = nI (b t) ∧ b t < m ∧ c (b t) = t ∧ c t < m ∧ b (c t) = t
def OkN (A : Nat → Nat → Int32) (m no : Nat) (N : Nat → Int32) : Prop := PermN m N ∧ (∀ t x, t < m → N (2 + t) = nI x → x < 6 → A 107 x ≤ N (8 + t)) ∧ ∃ te : Nat, te ≤ 80 ∧ N 0 = nI te ∧ ∀ i, i < no → N (14 + i) ≠ nI 0 → ∃ x, x < te ∧ A 112 i = nI x
def Ok60 (N : Nat → Int32) : Prop := ∃ te : Nat, te ≤ 60 ∧ N 0 = nI te
def OkT (A : Nat → Nat → Int32) (m no : Nat) : Prop := A 105 0 = nI m ∧ A 105 1 = nI no ∧ m ≤ 6 ∧ no ≤ 6 ∧ (∀ t, t < m → ∃ x, 1 ≤ x ∧ x ≤ 99 ∧ A 107 t = nI x) ∧ (∀ t, t < m → ∃ x, x ≤ 6 ∧ A 108 t = nI x) ∧ (∀ k, k < 36 → ∃ x, x ≤ 9 ∧ A 109 k = nI x)
  ∧ (∀ a b, a < m → b < m → A 113 (6 * a + b) = nI 1000000 ∧ a ≠ b ∨ ∃ x, x ≤ 576 ∧ A 113 (6 * a + b) = nI x ∧ (x = 0 ↔ a = b)) ∧ (∀ i, i < no → (∃ x, x < m ∧ A 110 i = nI x) ∧ (∃ x, x < m ∧ A 111 i = nI x) ∧ ∃ x, x ≤ 60 ∧ A 112 i = nI x)
def OkL (A : Nat → Nat → Int32) : Prop := ∃ L, L ≤ 200 ∧ A 103 3 = nI L ∧ ∀ j, j < L → ∃ x, x < 256 ∧ A 104 j = nI x
def OkU (A : Nat → Nat → Int32) (m no : Nat) : Prop := ∃ u, u ≤ 10 ∧ A 103 23 = nI u ∧ ∀ j, j < u → OkN A m no (rw56 A 118 j) ∧ Ok60 (rw56 A 118 j)
def OkI (A : Nat → Nat → Int32) (m no : Nat) : Prop := ∀ i, i < 2 → (A 117 i = nI 0 ∨ A 117 i = nI 1) ∧ (A 117 i = nI 1 → OkN A m no (rw56 A 116 i) ∧ Ok60 (rw56 A 116 i))
def OkF (A : Nat → Nat → Int32) (m : Nat) : Prop := ∃ f, f ≤ 5 ∧ A 103 26 = nI f ∧ ∀ e, e < f → (∃ x, x < m ∧ A 119 e = nI x) ∧ ∃ x, x < m ∧ A 120 e = nI x
def OkA (A : Nat → Nat → Int32) (m no : Nat) : Prop := OkT A m no ∧ OkL A ∧ OkN A m no (A 114) ∧ Ok60 (A 114) ∧ OkU A m no ∧ OkI A m no ∧ OkF A m
/-- the class's cells against A -/
def CT (I : Nat → Nat → Int32) (ρ : Nat) (A : Nat → Nat → Int32) (m no : Nat) : Prop := vTo ρ ∧ I ρ 0 = nI m ∧ I ρ 1 = nI (cntP (A 109) 36 / 2) ∧ I ρ 2 = nI no ∧ (∀ t, t < m → I (ρ + 2) t = A 107 t) ∧ (∀ t, t < m → I (ρ + 3) t = A 108 t) ∧ (∀ a b, a < m → b < m → I (ρ + 4) (a * 6 + b) = A 109 (6 * a + b)) ∧ (∀ a b, a < m → b < m → I (ρ + 5) (a * 6 + b) = farC (A 113 (6 * a + b)))
  ∧ (∀ i, i < no → I (ρ + 6) i = A 110 i) ∧ (∀ i, i < no → I (ρ + 7) i = A 111 i) ∧ (∀ i, i < no → I (ρ + 8) i = A 112 i)
def CL (I A : Nat → Nat → Int32) : Prop := I 1 1 = A 103 3 ∧ ∀ L, A 103 3 = nI L → L ≤ 200 → ∀ j, j < L → I 2 j = A 104 j
def CU (I A : Nat → Nat → Int32) (m : Nat) : Prop := ∃ q, q < 10 ∧ I 32 1 = nI q ∧ I 32 2 = A 103 23 ∧ ∀ u, u ≤ 10 → A 103 23 = nI u → ∀ j, j < u → HV I (34 + 5 * ((q + 11 + j - u) % 10)) m (rw56 A 118 j)
def CI (I A : Nat → Nat → Int32) (m : Nat) : Prop := ∀ i, i < 2 → I 86 i = A 117 i ∧ (A 117 i = nI 1 → HV I (87 + 5 * i) m (rw56 A 116 i))
def CF (I A : Nat → Nat → Int32) : Prop := I 97 2 = A 103 26 ∧ ∀ f, f ≤ 5 → A 103 26 = nI f → ∀ e, e < f → I 98 e = A 119 e ∧ I 99 e = A 120 e
def InvC (I : Nat → Nat → Int32) (J : Nat → Nat → Int64) (ρ : Nat) (A : Nat → Nat → Int32) (T : Int64) (m no : Nat) : Prop := CT I ρ A m no ∧ CL I A ∧ HV I 22 m (A 114) ∧ CU I A m ∧ CI I A m ∧ CF I A ∧ J 0 9 = T
/-- the reference's cells are A's, as far as calls can see them -/
def InvM (I : Nat → Nat → Int32) (J : Nat → Nat → Int64) (A : Nat → Nat → Int32) (T : Int64) : Prop := I 104 = A 104 ∧ I 113 = A 113 ∧ I 114 = A 114 ∧ I 116 = A 116 ∧ I 117 = A 117 ∧ I 118 = A 118 ∧ I 119 = A 119 ∧ I 120 = A 120 ∧ (∀ k, k < 6 → I 107 k = A 107 k ∧ I 108 k = A 108 k ∧ I 110 k = A 110 k ∧ I 111 k = A 111 k ∧ I 112 k = A 112 k) ∧ (∀ k, k < 36 → I 109 k = A 109 k) ∧ I 105 0 = A 105 0 ∧ I 105 1 = A 105 1 ∧ I 103 3 = A 103 3 ∧ I 103 23 = A 103 23 ∧ I 103 26 = A 103 26 ∧ J 103 1 = T
theorem InvC_same {I I' : Nat → Nat → Int32} {J : Nat → Nat → Int64} {ρ : Nat} {A : Nat → Nat → Int32} {T : Int64} {m no : Nat} (h : InvC I J ρ A T m no) (e : ∀ a, a < 27 ∨ 31 < a → a < 100 → I' a = I a) : InvC I' J ρ A T m no := by
  obtain ⟨hT, hL, hN, ⟨q, u0, u1, u2, u3⟩, hI, hF, hJ⟩ := h
  have hρ : ρ ≤ 13 := by rcases hT.1 with h | h <;> omega
  obtain ⟨t0, t1, t2, t3, t4, t5, t6, t7, t8, t9, t10⟩ := hT
  refine ⟨⟨t0, ?_, ?_, ?_, fun t ht => ?_, fun t ht => ?_, fun a b ha hb => ?_, fun a b ha hb => ?_, fun t ht => ?_, fun t ht => ?_, fun t ht => ?_⟩, ⟨?_, fun L hL1 hL2 j hj => ?_⟩, HV_cong hN (fun a _ _ => e a (by omega) (by omega)), ⟨q, u0, ?_, ?_, fun u v1 v2 j hj => HV_cong (u3 u v1 v2 j hj) (fun a _ _ => e a (by omega) (by omega))⟩, fun i hi => ⟨?_, fun h1 => HV_cong ((hI i hi).2 h1) (fun a _ _ => e a (by omega) (by omega))⟩, ⟨?_, fun f f1 f2 i hi => ⟨?_, ?_⟩⟩, hJ⟩
  · rw [e ρ (by omega) (by omega)]; exact t1
  · rw [e ρ (by omega) (by omega)]; exact t2
  · rw [e ρ (by omega) (by omega)]; exact t3
  · rw [e (ρ + 2) (by omega) (by omega)]; exact t4 t ht
  · rw [e (ρ + 3) (by omega) (by omega)]; exact t5 t ht
  · rw [e (ρ + 4) (by omega) (by omega)]; exact t6 a b ha hb
  · rw [e (ρ + 5) (by omega) (by omega)]; exact t7 a b ha hb
  · rw [e (ρ + 6) (by omega) (by omega)]; exact t8 t ht
  · rw [e (ρ + 7) (by omega) (by omega)]; exact t9 t ht
  · rw [e (ρ + 8) (by omega) (by omega)]; exact t10 t ht
  · rw [e 1 (by omega) (by omega)]; exact hL.1
  · rw [e 2 (by omega) (by omega)]; exact hL.2 L hL1 hL2 j hj
  · rw [e 32 (by omega) (by omega)]; exact u1
  · rw [e 32 (by omega) (by omega)]; exact u2
  · rw [e 86 (by omega) (by omega)]; exact (hI i hi).1
  · rw [e 97 (by omega) (by omega)]; exact hF.1
  · rw [e 98 (by omega) (by omega)]; exact (hF.2 f f1 f2 i hi).1
  · rw [e 99 (by omega) (by omega)]; exact (hF.2 f f1 f2 i hi).2
theorem InvM_same {I I' : Nat → Nat → Int32} {J : Nat → Nat → Int64} {A : Nat → Nat → Int32} {T : Int64} (h : InvM I J A T) (e : ∀ a, 103 < a → a < 123 → a ≠ 115 → a ≠ 121 → a ≠ 122 → I' a = I a) (e3 : ∀ k, k ≠ 0 → I' 103 k = I 103 k) : InvM I' J A T := by
  obtain ⟨m1, m2, m3, m4, m5, m6, m7, m8, m9, m10, m11, m12, m13, m14, m15, m16⟩ := h
  refine ⟨?_, ?_, ?_, ?_, ?_, ?_, ?_, ?_, fun k hk => ?_, fun k hk => ?_, ?_, ?_, ?_, ?_, ?_, m16⟩
  · rw [e 104 (by omega) (by omega) (by omega) (by omega) (by omega)]; exact m1
  · rw [e 113 (by omega) (by omega) (by omega) (by omega) (by omega)]; exact m2
  · rw [e 114 (by omega) (by omega) (by omega) (by omega) (by omega)]; exact m3
  · rw [e 116 (by omega) (by omega) (by omega) (by omega) (by omega)]; exact m4
  · rw [e 117 (by omega) (by omega) (by omega) (by omega) (by omega)]; exact m5
  · rw [e 118 (by omega) (by omega) (by omega) (by omega) (by omega)]; exact m6
  · rw [e 119 (by omega) (by omega) (by omega) (by omega) (by omega)]; exact m7
  · rw [e 120 (by omega) (by omega) (by omega) (by omega) (by omega)]; exact m8
  · rw [e 107 (by omega) (by omega) (by omega) (by omega) (by omega), e 108 (by omega) (by omega) (by omega) (by omega) (by omega), e 110 (by omega) (by omega) (by omega) (by omega) (by omega), e 111 (by omega) (by omega) (by omega) (by omega) (by omega), e 112 (by omega) (by omega) (by omega) (by omega) (by omega)]; exact m9 k hk
  · rw [e 109 (by omega) (by omega) (by omega) (by omega) (by omega)]; exact m10 k hk
  · rw [e 105 (by omega) (by omega) (by omega) (by omega) (by omega)]; exact m11
  · rw [e 105 (by omega) (by omega) (by omega) (by omega) (by omega)]; exact m12
  · rw [e3 3 (by omega)]; exact m13
  · rw [e3 23 (by omega)]; exact m14
  · rw [e3 26 (by omega)]; exact m15
section P12
variable {d : Nat} {I A : Nat → Nat → Int32} {J : Nat → Nat → Int64} {Z : Nat → Nat → Option Nat} {ρ m no : Nat} {T : Int64} {k : Int32 → vS → Prop} {K : Option Value → vS → Prop} {M : vM} {ls : List Value}
/-- 'thrown = 0', the reference's first act in every call -/
theorem s_thr (r0 : vLa M 0 0 1) (r1 : vCn M 1 (nI 0) 2) (r2 : vPf M 2 8 0 5) (hM : InvM I J A T) (h : ∀ I', (∀ a, a ≠ 103 → I' a = I a) → (∀ q, q ≠ 0 → I' 103 q = I 103 q) → InvM I' J A T → V d 123 123 M 5 (.ref 103 :: ls) [] (I', J, Z) K) : V d 123 123 M 0 (.ref 103 :: ls) [] (I, J, Z) K := by
  refine st_aload r0 rfl ?_
  refine st_c r1 ?_
  refine st_putI rfl r2 (by decide) ?_
  have e1 : ∀ a, a ≠ 103 → up I 103 (va_up (I 103) 0 (nI 0)) a = I a := fun a ha => up_n ha
  have e2 : ∀ q, q ≠ 0 → up I 103 (va_up (I 103) 0 (nI 0)) 103 q = I 103 q := fun q hq => by rw [up_s, va_up_n hq]
  exact h _ e1 e2 (InvM_same hM (fun a h1 _ _ _ _ => e1 a (by omega)) e2)
set_option maxHeartbeats 4000000 in
set_option maxRecDepth 100000 in
theorem s_isTown {t : Int32} {kk : Int32 → vS → Prop} (hM : I 105 0 = nI m) (hm : m ≤ 6) (h : kk (vb (isT m t)) (I, J, vRR ρ)) : V (d + 1) 123 123 mX8_isTown 0 [.ref 103, .int t] [] (I, J, vRR ρ) (Ki kk) := by
  refine st_iload rX8_isTown_0 rfl ?_
  refine st_c rX8_isTown_1 ?_
  refine st_aload rX8_isTown_2 rfl ?_
  refine st_getR rX8_isTown_3 (by first | assumption | decide | exact ⟨by decide, rfl, by decide⟩) (by first | rfl | assumption) rfl ?_
  refine st_c rX8_isTown_6 ?_
  refine st_ialdN rX8_isTown_7 (by first | assumption | decide | exact ⟨by decide, rfl, by decide⟩) (by omega) ?_
  refine st_top hM ?_
  refine st_c rX8_isTown_8 ?_
  first | refine st_isubN rX8_isTown_9 (by omega) ?_ | refine st_isub rX8_isTown_9 ?_
  refine cS3i rX8_isTown_10 (s_in ?_) rfl
  refine st_zret rX8_isTown_13 rfl (by first | rfl | exact vb_nar _) ?_
  rw [inR_T (by omega)]; exact h
set_option maxHeartbeats 4000000 in
set_option maxRecDepth 100000 in
theorem s_hangs {a b p len : Nat} {kk : Int32 → vS → Prop} (ha : vAr 123 a 100 len) (hl : 8 ≤ len) (hp : p < 6) (hb : I a (2 + p) = nI b) (hb6 : b < 6) (hf : ∀ q, q < p → ∃ c, c < 6 ∧ I a (2 + q) = nI c ∧ c ≠ b) (hk : kk (nI p) (I, J, Z)) : V d 123 123 mX8_hangs 0 [.ref a, .int (nI b), vJ] [] (I, J, Z) (Ki kk) := by
  refine st_c rX8_hangs_0 ?_
  refine st_istore2 rX8_hangs_1 rfl ?_
  have key : ∀ (i q : Nat), q + i = p → V d 123 123 mX8_hangs 2 [.ref a, .int (nI b), .int (nI q)] [] (I, J, Z) (Ki kk) := by
    intro i
    induction i with
    | zero =>
      intro q hq
      have hqp : q = p := by omega
      subst hqp
      refine st_aload rX8_hangs_2 rfl ?_
      refine st_c rX8_hangs_3 ?_
      refine st_iload rX8_hangs_4 rfl ?_
      first | refine st_iaddN rX8_hangs_5 ?_ | refine st_iadd rX8_hangs_5 ?_
      refine st_ialdN rX8_hangs_6 (by first | assumption | decide | exact ⟨by decide, rfl, by decide⟩) (by omega) ?_
      refine st_top hb ?_
      refine st_iload rX8_hangs_7 rfl ?_
      first | refine st_icmp_eqN rX8_hangs_8 (by omega) (by omega) (fun _ => ?_) (fun h => absurd h (by first | decide | omega | (simp; done) | simp_all)) | refine st_icmp_eq rX8_hangs_8 (fun _ => ?_) (fun h => absurd h (by first | decide | omega | (simp; done) | simp_all))
      refine st_iload rX8_hangs_17 rfl ?_
      refine st_iret rX8_hangs_18 rfl ?_
      exact hk
    | succ i ih =>
      intro q hq
      obtain ⟨c, hc6, hc, hcb⟩ := hf q (by omega)
      refine st_aload rX8_hangs_2 rfl ?_
      refine st_c rX8_hangs_3 ?_
      refine st_iload rX8_hangs_4 rfl ?_
      first | refine st_iaddN rX8_hangs_5 ?_ | refine st_iadd rX8_hangs_5 ?_
      refine st_ialdN rX8_hangs_6 (by first | assumption | decide | exact ⟨by decide, rfl, by decide⟩) (by omega) ?_
      refine st_top hc ?_
      refine st_iload rX8_hangs_7 rfl ?_
      first | refine st_icmp_eqN rX8_hangs_8 (by omega) (by omega) (fun h => absurd h (by first | decide | omega | (simp; done) | simp_all)) (fun _ => ?_) | refine st_icmp_eq rX8_hangs_8 (fun h => absurd h (by first | decide | omega | (simp; done) | simp_all)) (fun _ => ?_)
      first | refine st_iincN2 rX8_hangs_11 rfl ?_ | refine st_iinc2 rX8_hangs_11 rfl ?_
      refine st_goto rX8_hangs_14 ?_
      exact ih (q + 1) (by omega)
  exact key p 0 (by omega)
end P12
end
section
/-! ===== the parts of the invariant, moved ===== -/
section P13
variable {I I' A A' : Nat → Nat → Int32} {J : Nat → Nat → Int64} {ρ m no : Nat} {T : Int64} {N N' : Nat → Int32}
theorem CT_c (h : CT I ρ A m no) (e : ∀ a, ρ ≤ a → a ≤ ρ + 8 → I' a = I a) (f : ∀ a, 107 ≤ a → a ≤ 113 → A' a = A a) : CT I' ρ A' m no := by
  obtain ⟨t0, t1, t2, t3, t4, t5, t6, t7, t8, t9, t10⟩ := h
  simp only [CT, e ρ (by omega) (by omega), e (ρ + 2) (by omega) (by omega), e (ρ + 3) (by omega) (by omega), e (ρ + 4) (by omega) (by omega), e (ρ + 5) (by omega) (by omega), e (ρ + 6) (by omega) (by omega), e (ρ + 7) (by omega) (by omega), e (ρ + 8) (by omega) (by omega), f 107 (by omega) (by omega), f 108 (by omega) (by omega), f 109 (by omega) (by omega), f 110 (by omega) (by omega), f 111 (by omega) (by omega), f 112 (by omega) (by omega), f 113 (by omega) (by omega)]
  exact ⟨t0, t1, t2, t3, t4, t5, t6, t7, t8, t9, t10⟩
theorem CL_c (h : CL I A) (e1 : I' 1 1 = I 1 1) (e2 : I' 2 = I 2) (f1 : A' 103 3 = A 103 3) (f2 : A' 104 = A 104) : CL I' A' := by
  simp only [CL, e1, e2, f1, f2]; exact h
theorem CU_c (h : CU I A m) (e : ∀ a, a = 32 ∨ (34 ≤ a ∧ a ≤ 83) → I' a = I a) (f1 : A' 103 23 = A 103 23) (f2 : A' 118 = A 118) : CU I' A' m := by
  obtain ⟨q, u0, u1, u2, u3⟩ := h
  refine ⟨q, u0, by rw [e 32 (by omega)]; exact u1, by rw [e 32 (by omega), f1]; exact u2, fun u v1 v2 j hj => ?_⟩
  rw [f1] at v2
  have := HV_cong (I' := I') (u3 u v1 v2 j hj) (fun a _ _ => e a (by omega))
  rw [show rw56 A' 118 j = rw56 A 118 j by unfold rw56; rw [f2]]
  exact this
theorem CI_c (h : CI I A m) (e : ∀ a, a = 86 ∨ (87 ≤ a ∧ a ≤ 96) → I' a = I a) (f1 : A' 117 = A 117) (f2 : A' 116 = A 116) : CI I' A' m := by
  intro i hi
  obtain ⟨h1, h2⟩ := h i hi
  refine ⟨by rw [e 86 (by omega), f1]; exact h1, fun g => ?_⟩
  rw [f1] at g
  have := HV_cong (I' := I') (h2 g) (fun a _ _ => e a (by omega))
  rw [show rw56 A' 116 i = rw56 A 116 i by unfold rw56; rw [f2]]
  exact this
theorem CF_c (h : CF I A) (e : ∀ a, 97 ≤ a → a ≤ 99 → I' a = I a) (f1 : A' 103 26 = A 103 26) (f2 : A' 119 = A 119) (f3 : A' 120 = A 120) : CF I' A' := by
  simp only [CF, e 97 (by omega) (by omega), e 98 (by omega) (by omega), e 99 (by omega) (by omega), f1, f2, f3]; exact h
theorem OkT_c (h : OkT A m no) (f0 : A' 105 0 = A 105 0) (f1 : A' 105 1 = A 105 1) (f : ∀ a, 107 ≤ a → a ≤ 113 → A' a = A a) : OkT A' m no := by
  simp only [OkT, f0, f1, f 107 (by omega) (by omega), f 108 (by omega) (by omega), f 109 (by omega) (by omega), f 110 (by omega) (by omega), f 111 (by omega) (by omega), f 112 (by omega) (by omega), f 113 (by omega) (by omega)]; exact h
theorem OkL_c (h : OkL A) (f0 : A' 103 3 = A 103 3) (f1 : A' 104 = A 104) : OkL A' := by
  simp only [OkL, f0, f1]; exact h
theorem OkN_c (h : OkN A m no N) (f0 : A' 107 = A 107) (f1 : A' 112 = A 112) : OkN A' m no N := by
  simp only [OkN, f0, f1]; exact h
theorem OkU_c (h : OkU A m no) (f0 : A' 107 = A 107) (f1 : A' 112 = A 112) (f2 : A' 103 23 = A 103 23) (f3 : A' 118 = A 118) : OkU A' m no := by
  obtain ⟨u, h1, h2, h3⟩ := h
  refine ⟨u, h1, by rw [f2]; exact h2, fun j hj => ?_⟩
  rw [show rw56 A' 118 j = rw56 A 118 j by unfold rw56; rw [f3]]
  exact ⟨OkN_c (h3 j hj).1 f0 f1, (h3 j hj).2⟩
theorem OkI_c (h : OkI A m no) (f0 : A' 107 = A 107) (f1 : A' 112 = A 112) (f2 : A' 117 = A 117) (f3 : A' 116 = A 116) : OkI A' m no := by
  intro i hi
  obtain ⟨h1, h2⟩ := h i hi
  rw [show rw56 A' 116 i = rw56 A 116 i by unfold rw56; rw [f3], f2]
  exact ⟨h1, fun g => ⟨OkN_c (h2 g).1 f0 f1, (h2 g).2⟩⟩
theorem OkF_c (h : OkF A m) (f1 : A' 103 26 = A 103 26) (f2 : A' 119 = A 119) (f3 : A' 120 = A 120) : OkF A' m := by
  simp only [OkF, f1, f2, f3]; exact h
theorem InvC_m (h : InvC I J ρ A T m no) (e : ∀ a, a < 103 → I' a = I a) : InvC I' J ρ A T m no := InvC_same h (fun a _ h2 => e a (by omega))
theorem InvM_c (h : InvM I J A T) (e : ∀ a, 103 ≤ a → I' a = I a) : InvM I' J A T := InvM_same h (fun a h1 _ _ _ _ => e a (by omega)) (fun q _ => by rw [e 103 (by omega)])
theorem HV_row {h : Nat} (hv : HV I h m N) (hm : m ≤ 6) (e : N' = N) : HV I h m N' := by rw [e]; exact hv
end P13
end
section
/-! ===== trace, clear, type, forget, found ===== -/
theorem isT_f {m : Nat} {x : Int32} (h : isT m x = false) : x.toInt < 0 ∨ (m : Int) ≤ x.toInt := by
  simp only [isT, Bool.and_eq_false_iff, decide_eq_false_iff_not] at h
  omega
section P14
variable {d : Nat} {I A : Nat → Nat → Int32} {J : Nat → Nat → Int64} {ρ m no : Nat} {T : Int64} {k : Int32 → vS → Prop} {kl : Int64 → vS → Prop}
set_option maxHeartbeats 4000000 in
set_option maxRecDepth 100000 in
theorem c_trace (hC : InvC I J ρ A T m no) (hk : kl T (I, J, vRR ρ)) : V d 123 123 mX7_trace 0 [.ref 0] [] (I, J, vRR ρ) (Kl kl) := by
  refine st_aload rX7_trace_0 rfl ?_
  refine st_getL rX7_trace_1 (by first | assumption | decide | exact ⟨by decide, rfl, by decide⟩) rfl ?_
  refine st_topl hC.2.2.2.2.2.2 ?_
  refine st_lret rX7_trace_4 rfl ?_
  exact hk
set_option maxHeartbeats 4000000 in
set_option maxRecDepth 100000 in
theorem m_trace (hM : InvM I J A T) (hk : ∀ I', (∀ a, a ≠ 103 → I' a = I a) → InvM I' J A T → kl T (I', J, vRR ρ)) : V d 123 123 mX8_trace 0 [.ref 103] [] (I, J, vRR ρ) (Kl kl) := by
  refine s_thr rX8_trace_0 rX8_trace_1 rX8_trace_2 hM (fun I1 e1 e2 hM1 => ?_)
  refine st_aload rX8_trace_5 rfl ?_
  refine st_getL rX8_trace_6 (by first | assumption | decide | exact ⟨by decide, rfl, by decide⟩) rfl ?_
  refine st_topl hM1.2.2.2.2.2.2.2.2.2.2.2.2.2.2.2 ?_
  refine st_lret rX8_trace_9 rfl ?_
  exact hk I1 e1 hM1
abbrev aClear (A : Nat → Nat → Int32) : Nat → Nat → Int32 := up A 103 (va_up (A 103) 3 (nI 0))
theorem ok_clear (h : OkA A m no) : OkA (aClear A) m no := by
  obtain ⟨h1, h2, h3, h4, h5, h6, h7⟩ := h
  have e : ∀ a, a ≠ 103 → aClear A a = A a := fun a ha => up_n ha
  have f : ∀ q, q ≠ 3 → aClear A 103 q = A 103 q := fun q hq => by simp only [aClear]; rw [up_s, va_up_n hq]
  refine ⟨OkT_c h1 (by rw [e 105 (by omega)]) (by rw [e 105 (by omega)]) (fun a _ _ => e a (by omega)), ⟨0, by omega, by simp only [aClear]; rw [up_s, va_up_s], fun j hj => absurd hj (by omega)⟩, ?_, ?_, OkU_c h5 (e _ (by omega)) (e _ (by omega)) (f _ (by omega)) (e _ (by omega)), OkI_c h6 (e _ (by omega)) (e _ (by omega)) (e _ (by omega)) (e _ (by omega)), OkF_c h7 (f _ (by omega)) (e _ (by omega)) (e _ (by omega))⟩
  · rw [e 114 (by omega)]; exact OkN_c h3 (e _ (by omega)) (e _ (by omega))
  · rw [e 114 (by omega)]; exact h4
set_option maxHeartbeats 4000000 in
set_option maxRecDepth 100000 in
theorem s_textEmpty {kk : Int32 → vS → Prop} (h : kk (I 1 1) (up I 1 (va_up (I 1) 1 (nI 0)), J, vRR ρ)) : V d 123 123 mX5_empty 0 [.ref 1, vJ] [] (I, J, vRR ρ) (Ki kk) := by
  refine st_aload rX5_empty_0 rfl ?_
  refine st_getI rX5_empty_1 (by first | assumption | decide | exact ⟨by decide, rfl, by decide⟩) rfl ?_
  refine st_istore1 rX5_empty_4 rfl ?_
  refine st_aload rX5_empty_5 rfl ?_
  refine st_c rX5_empty_6 ?_
  refine st_putI rfl rX5_empty_7 (by first | assumption | decide | exact ⟨by decide, rfl, by decide⟩) ?_
  refine st_iload rX5_empty_10 rfl ?_
  refine st_iret rX5_empty_11 rfl ?_
  exact h
set_option maxHeartbeats 4000000 in
set_option maxRecDepth 100000 in
theorem c_clear (hC : InvC I J ρ A T m no) (hk : ∀ I', (∀ a, 103 ≤ a → I' a = I a) → InvC I' J ρ (aClear A) T m no → k (A 103 3) (I', J, vRR ρ)) : V (d + 1) 123 123 mX7_clear 0 [.ref 0] [] (I, J, vRR ρ) (Ki k) := by
  refine st_aload rX7_clear_0 rfl ?_
  refine st_getR rX7_clear_1 (by first | assumption | decide | exact ⟨by decide, rfl, by decide⟩) (by first | rfl | assumption) rfl ?_
  refine cV1i rX7_clear_4 (by first | assumption | decide | exact ⟨by decide, rfl, by decide⟩) (s_textEmpty ?_) rfl (by decide)
  refine st_iret rX7_clear_7 rfl ?_
  obtain ⟨hT, hL, hN, hU, hI, hF, hJ⟩ := hC
  rw [hL.1]
  have e : ∀ a, a ≠ 103 → aClear A a = A a := fun a ha => up_n ha
  have f : ∀ q, q ≠ 3 → aClear A 103 q = A 103 q := fun q hq => by simp only [aClear]; rw [up_s, va_up_n hq]
  have g : ∀ a, a ≠ 1 → up I 1 (va_up (I 1) 1 (nI 0)) a = I a := fun a ha => up_n ha
  have hρ : 2 ≤ ρ := by rcases hT.1 with h | h <;> omega
  refine hk _ (fun a ha => g a (by omega)) ⟨CT_c hT (fun a _ _ => g a (by omega)) (fun a _ _ => e a (by omega)), ⟨?_, fun L hL1 hL2 j hj => ?_⟩, ?_, CU_c hU (fun a ha => g a (by omega)) (f _ (by omega)) (e _ (by omega)), CI_c hI (fun a ha => g a (by omega)) (e _ (by omega)) (e _ (by omega)), CF_c hF (fun a h1 h2 => g a (by omega)) (f _ (by omega)) (e _ (by omega)) (e _ (by omega)), hJ⟩
  · simp only [aClear]; rw [up_s, up_s, va_up_s, va_up_s]
  · simp only [aClear] at hL1
    rw [up_s, va_up_s] at hL1
    have := (nI_eq (by omega) (by omega)).mp hL1
    omega
  · rw [e 114 (by omega)]
    exact HV_cong hN (fun a _ _ => g a (by omega))
set_option maxHeartbeats 4000000 in
set_option maxRecDepth 100000 in
theorem m_clear (hM : InvM I J A T) (hk : ∀ I', (∀ a, a < 103 ∨ 123 ≤ a → I' a = I a) → InvM I' J (aClear A) T → k (A 103 3) (I', J, vRR ρ)) : V d 123 123 mX8_clear 0 [.ref 103, vJ] [] (I, J, vRR ρ) (Ki k) := by
  refine s_thr rX8_clear_0 rX8_clear_1 rX8_clear_2 hM (fun I1 e1 e2 hM1 => ?_)
  refine st_aload rX8_clear_5 rfl ?_
  refine st_getI rX8_clear_6 (by first | assumption | decide | exact ⟨by decide, rfl, by decide⟩) rfl ?_
  refine st_top hM1.2.2.2.2.2.2.2.2.2.2.2.2.1 ?_
  refine st_istore1 rX8_clear_9 rfl ?_
  refine st_aload rX8_clear_10 rfl ?_
  refine st_c rX8_clear_11 ?_
  refine st_putI rfl rX8_clear_12 (by first | assumption | decide | exact ⟨by decide, rfl, by decide⟩) ?_
  refine st_iload rX8_clear_15 rfl ?_
  refine st_iret rX8_clear_16 rfl ?_
  obtain ⟨m1, m2, m3, m4, m5, m6, m7, m8, m9, m10, m11, m12, m13, m14, m15, m16⟩ := hM1
  have e : ∀ a, a ≠ 103 → aClear A a = A a := fun a ha => up_n ha
  have f : ∀ q, q ≠ 3 → aClear A 103 q = A 103 q := fun q hq => by simp only [aClear]; rw [up_s, va_up_n hq]
  have g : ∀ a, a ≠ 103 → up I1 103 (va_up (I1 103) 3 (nI 0)) a = I1 a := fun a ha => up_n ha
  have g3 : ∀ q, q ≠ 3 → up I1 103 (va_up (I1 103) 3 (nI 0)) 103 q = I1 103 q := fun q hq => by rw [up_s, va_up_n hq]
  refine hk _ (fun a ha => by rw [g a (by omega)]; exact e1 a (by omega)) ?_
  simp (disch := omega) only [InvM, e, g, f, g3]
  exact ⟨m1, m2, m3, m4, m5, m6, m7, m8, m9, m10, m11, m12, by simp only [aClear]; rw [up_s, up_s, va_up_s, va_up_s], m14, m15, m16⟩
end P14
end
