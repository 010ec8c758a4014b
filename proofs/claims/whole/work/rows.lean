section
-- ===== PART A: goes FIRST, ahead of the names: the tables' words, and 'selects' of the private methods out of them =====
/-- a private method of a class that the tables say can be made, by its rows of tables_1 -/
def lw_okq (q : MethodName × Nat) : Prop := (q.1.cls ≠ "java/lang/invoke/MethodHandle" ∧ q.1.cls ≠ "java/lang/invoke/VarHandle") ∧ Cond.instantiable q.1.cls q.2 ∈ tables_1 ∧ Cond.privateMethod q.1 ∈ tables_1 ∧ Cond.instanceMethod q.1 ∈ tables_1
theorem lw_p0 : lw_okq (⟨"BellLots$Text", "nextToken", "()V"⟩, 7) := ⟨⟨by decide +kernel, by decide +kernel⟩, List.mem_of_getElem? (i := 23) (by decide +kernel), List.mem_of_getElem? (i := 282) (by decide +kernel), List.mem_of_getElem? (i := 283) (by decide +kernel)⟩
theorem lw_p1 : lw_okq (⟨"BellLots$Text", "readNumber", "()V"⟩, 7) := ⟨⟨by decide +kernel, by decide +kernel⟩, List.mem_of_getElem? (i := 23) (by decide +kernel), List.mem_of_getElem? (i := 292) (by decide +kernel), List.mem_of_getElem? (i := 293) (by decide +kernel)⟩
theorem lw_p2 : lw_okq (⟨"BellLots$Text", "readItem", "(LBellLots$Told;)Z"⟩, 7) := ⟨⟨by decide +kernel, by decide +kernel⟩, List.mem_of_getElem? (i := 23) (by decide +kernel), List.mem_of_getElem? (i := 299) (by decide +kernel), List.mem_of_getElem? (i := 300) (by decide +kernel)⟩
theorem lw_p3 : lw_okq (⟨"BellLots$Text", "mayStand", "(LBellLots$Told;II)Z"⟩, 7) := ⟨⟨by decide +kernel, by decide +kernel⟩, List.mem_of_getElem? (i := 23) (by decide +kernel), List.mem_of_getElem? (i := 306) (by decide +kernel), List.mem_of_getElem? (i := 307) (by decide +kernel)⟩
theorem lw_p4 : lw_okq (⟨"BellLots$Told", "addTown", "(III)V"⟩, 11) := ⟨⟨by decide +kernel, by decide +kernel⟩, List.mem_of_getElem? (i := 53) (by decide +kernel), List.mem_of_getElem? (i := 320) (by decide +kernel), List.mem_of_getElem? (i := 321) (by decide +kernel)⟩
theorem lw_p5 : lw_okq (⟨"BellLots$Told", "addRoad", "(III)V"⟩, 11) := ⟨⟨by decide +kernel, by decide +kernel⟩, List.mem_of_getElem? (i := 53) (by decide +kernel), List.mem_of_getElem? (i := 328) (by decide +kernel), List.mem_of_getElem? (i := 329) (by decide +kernel)⟩
theorem lw_p6 : lw_okq (⟨"BellLots$Told", "addOath", "(III)V"⟩, 11) := ⟨⟨by decide +kernel, by decide +kernel⟩, List.mem_of_getElem? (i := 53) (by decide +kernel), List.mem_of_getElem? (i := 336) (by decide +kernel), List.mem_of_getElem? (i := 337) (by decide +kernel)⟩
theorem lw_p7 : lw_okq (⟨"BellLots$Told", "shortenWays", "(I)V"⟩, 11) := ⟨⟨by decide +kernel, by decide +kernel⟩, List.mem_of_getElem? (i := 53) (by decide +kernel), List.mem_of_getElem? (i := 344) (by decide +kernel), List.mem_of_getElem? (i := 345) (by decide +kernel)⟩
theorem lw_p8 : lw_okq (⟨"BellLots", "dumbTowns", "()I"⟩, 10) := ⟨⟨by decide +kernel, by decide +kernel⟩, List.mem_of_getElem? (i := 15) (by decide +kernel), List.mem_of_getElem? (i := 382) (by decide +kernel), List.mem_of_getElem? (i := 383) (by decide +kernel)⟩
theorem lw_p9 : lw_okq (⟨"BellLots", "hasLikeNeighbour", "(I)Z"⟩, 10) := ⟨⟨by decide +kernel, by decide +kernel⟩, List.mem_of_getElem? (i := 15) (by decide +kernel), List.mem_of_getElem? (i := 386) (by decide +kernel), List.mem_of_getElem? (i := 387) (by decide +kernel)⟩
theorem lw_p10 : lw_okq (⟨"BellLots", "noteIn", "(I)I"⟩, 10) := ⟨⟨by decide +kernel, by decide +kernel⟩, List.mem_of_getElem? (i := 15) (by decide +kernel), List.mem_of_getElem? (i := 391) (by decide +kernel), List.mem_of_getElem? (i := 392) (by decide +kernel)⟩
theorem lw_p11 : lw_okq (⟨"BellLots", "fitsOf", "(I)I"⟩, 10) := ⟨⟨by decide +kernel, by decide +kernel⟩, List.mem_of_getElem? (i := 15) (by decide +kernel), List.mem_of_getElem? (i := 399) (by decide +kernel), List.mem_of_getElem? (i := 400) (by decide +kernel)⟩
theorem lw_p12 : lw_okq (⟨"BellLots", "bellsAtHome", "()I"⟩, 10) := ⟨⟨by decide +kernel, by decide +kernel⟩, List.mem_of_getElem? (i := 15) (by decide +kernel), List.mem_of_getElem? (i := 421) (by decide +kernel), List.mem_of_getElem? (i := 422) (by decide +kernel)⟩
theorem lw_p13 : lw_okq (⟨"BellLots$Hanging", "judgeOaths", "(LBellLots$Told;)V"⟩, 6) := ⟨⟨by decide +kernel, by decide +kernel⟩, List.mem_of_getElem? (i := 111) (by decide +kernel), List.mem_of_getElem? (i := 443) (by decide +kernel), List.mem_of_getElem? (i := 444) (by decide +kernel)⟩
theorem lw_p14 : lw_okq (⟨"BellLots$Lot", "takeUndrawn", "(I)I"⟩, 3) := ⟨⟨by decide +kernel, by decide +kernel⟩, List.mem_of_getElem? (i := 196) (by decide +kernel), List.mem_of_getElem? (i := 460) (by decide +kernel), List.mem_of_getElem? (i := 461) (by decide +kernel)⟩
theorem lw_p15 : lw_okq (⟨"BellLots", "rings", "()I"⟩, 10) := ⟨⟨by decide +kernel, by decide +kernel⟩, List.mem_of_getElem? (i := 15) (by decide +kernel), List.mem_of_getElem? (i := 507) (by decide +kernel), List.mem_of_getElem? (i := 508) (by decide +kernel)⟩
def lw_privs_1 : List (MethodName × Nat) := [(⟨"BellLots$Text", "nextToken", "()V"⟩, 7), (⟨"BellLots$Text", "readNumber", "()V"⟩, 7), (⟨"BellLots$Text", "readItem", "(LBellLots$Told;)Z"⟩, 7), (⟨"BellLots$Text", "mayStand", "(LBellLots$Told;II)Z"⟩, 7), (⟨"BellLots$Told", "addTown", "(III)V"⟩, 11), (⟨"BellLots$Told", "addRoad", "(III)V"⟩, 11), (⟨"BellLots$Told", "addOath", "(III)V"⟩, 11), (⟨"BellLots$Told", "shortenWays", "(I)V"⟩, 11), (⟨"BellLots", "dumbTowns", "()I"⟩, 10), (⟨"BellLots", "hasLikeNeighbour", "(I)Z"⟩, 10), (⟨"BellLots", "noteIn", "(I)I"⟩, 10), (⟨"BellLots", "fitsOf", "(I)I"⟩, 10), (⟨"BellLots", "bellsAtHome", "()I"⟩, 10), (⟨"BellLots$Hanging", "judgeOaths", "(LBellLots$Told;)V"⟩, 6), (⟨"BellLots$Lot", "takeUndrawn", "(I)I"⟩, 3), (⟨"BellLots", "rings", "()I"⟩, 10)]
theorem lw_r1 : ∀ q ∈ lw_privs_1, lw_okq q := List.forall_mem_cons.mpr ⟨lw_p0, List.forall_mem_cons.mpr ⟨lw_p1, List.forall_mem_cons.mpr ⟨lw_p2, List.forall_mem_cons.mpr ⟨lw_p3, List.forall_mem_cons.mpr ⟨lw_p4, List.forall_mem_cons.mpr ⟨lw_p5, List.forall_mem_cons.mpr ⟨lw_p6, List.forall_mem_cons.mpr ⟨lw_p7, List.forall_mem_cons.mpr ⟨lw_p8, List.forall_mem_cons.mpr ⟨lw_p9, List.forall_mem_cons.mpr ⟨lw_p10, List.forall_mem_cons.mpr ⟨lw_p11, List.forall_mem_cons.mpr ⟨lw_p12, List.forall_mem_cons.mpr ⟨lw_p13, List.forall_mem_cons.mpr ⟨lw_p14, List.forall_mem_cons.mpr ⟨lw_p15, fun _ h => absurd h List.not_mem_nil⟩⟩⟩⟩⟩⟩⟩⟩⟩⟩⟩⟩⟩⟩⟩⟩
theorem lw_p16 : lw_okq (⟨"BellLots", "firstTradeHome", "()I"⟩, 10) := ⟨⟨by decide +kernel, by decide +kernel⟩, List.mem_of_getElem? (i := 15) (by decide +kernel), List.mem_of_getElem? (i := 511) (by decide +kernel), List.mem_of_getElem? (i := 512) (by decide +kernel)⟩
theorem lw_p17 : lw_okq (⟨"BellLots$Lot", "ringLength", "(I)I"⟩, 3) := ⟨⟨by decide +kernel, by decide +kernel⟩, List.mem_of_getElem? (i := 196) (by decide +kernel), List.mem_of_getElem? (i := 527) (by decide +kernel), List.mem_of_getElem? (i := 528) (by decide +kernel)⟩
theorem lw_p18 : lw_okq (⟨"BellLots", "harmlessWays", "()I"⟩, 10) := ⟨⟨by decide +kernel, by decide +kernel⟩, List.mem_of_getElem? (i := 15) (by decide +kernel), List.mem_of_getElem? (i := 579) (by decide +kernel), List.mem_of_getElem? (i := 580) (by decide +kernel)⟩
theorem lw_p19 : lw_okq (⟨"BellLots", "allWays", "()I"⟩, 10) := ⟨⟨by decide +kernel, by decide +kernel⟩, List.mem_of_getElem? (i := 15) (by decide +kernel), List.mem_of_getElem? (i := 593) (by decide +kernel), List.mem_of_getElem? (i := 594) (by decide +kernel)⟩
theorem lw_p20 : lw_okq (⟨"BellLots", "rateGreat", "(I)I"⟩, 10) := ⟨⟨by decide +kernel, by decide +kernel⟩, List.mem_of_getElem? (i := 15) (by decide +kernel), List.mem_of_getElem? (i := 603) (by decide +kernel), List.mem_of_getElem? (i := 604) (by decide +kernel)⟩
theorem lw_p21 : lw_okq (⟨"BellLots", "rateBell", "(I)I"⟩, 10) := ⟨⟨by decide +kernel, by decide +kernel⟩, List.mem_of_getElem? (i := 15) (by decide +kernel), List.mem_of_getElem? (i := 608) (by decide +kernel), List.mem_of_getElem? (i := 609) (by decide +kernel)⟩
theorem lw_p22 : lw_okq (⟨"BellLots", "rateCracked", "(I)I"⟩, 10) := ⟨⟨by decide +kernel, by decide +kernel⟩, List.mem_of_getElem? (i := 15) (by decide +kernel), List.mem_of_getElem? (i := 612) (by decide +kernel), List.mem_of_getElem? (i := 613) (by decide +kernel)⟩
theorem lw_p23 : lw_okq (⟨"BellLots", "rateStorm", "(I)I"⟩, 10) := ⟨⟨by decide +kernel, by decide +kernel⟩, List.mem_of_getElem? (i := 15) (by decide +kernel), List.mem_of_getElem? (i := 617) (by decide +kernel), List.mem_of_getElem? (i := 618) (by decide +kernel)⟩
theorem lw_p24 : lw_okq (⟨"BellLots", "rateRiver", "(I)I"⟩, 10) := ⟨⟨by decide +kernel, by decide +kernel⟩, List.mem_of_getElem? (i := 15) (by decide +kernel), List.mem_of_getElem? (i := 622) (by decide +kernel), List.mem_of_getElem? (i := 623) (by decide +kernel)⟩
theorem lw_p25 : lw_okq (⟨"BellLots", "rateCow", "(I)I"⟩, 10) := ⟨⟨by decide +kernel, by decide +kernel⟩, List.mem_of_getElem? (i := 15) (by decide +kernel), List.mem_of_getElem? (i := 627) (by decide +kernel), List.mem_of_getElem? (i := 628) (by decide +kernel)⟩
theorem lw_p26 : lw_okq (⟨"BellLotsModel", "advances", "()V"⟩, 29) := ⟨⟨by decide +kernel, by decide +kernel⟩, List.mem_of_getElem? (i := 658) (by decide +kernel), List.mem_of_getElem? (i := 767) (by decide +kernel), List.mem_of_getElem? (i := 768) (by decide +kernel)⟩
theorem lw_p27 : lw_okq (⟨"BellLotsModel", "letterAt", "(I)I"⟩, 29) := ⟨⟨by decide +kernel, by decide +kernel⟩, List.mem_of_getElem? (i := 658) (by decide +kernel), List.mem_of_getElem? (i := 771) (by decide +kernel), List.mem_of_getElem? (i := 772) (by decide +kernel)⟩
theorem lw_p28 : lw_okq (⟨"BellLotsModel", "isWell", "()Z"⟩, 29) := ⟨⟨by decide +kernel, by decide +kernel⟩, List.mem_of_getElem? (i := 658) (by decide +kernel), List.mem_of_getElem? (i := 775) (by decide +kernel), List.mem_of_getElem? (i := 776) (by decide +kernel)⟩
theorem lw_p29 : lw_okq (⟨"BellLotsModel", "takes", "(Z)I"⟩, 29) := ⟨⟨by decide +kernel, by decide +kernel⟩, List.mem_of_getElem? (i := 658) (by decide +kernel), List.mem_of_getElem? (i := 779) (by decide +kernel), List.mem_of_getElem? (i := 780) (by decide +kernel)⟩
theorem lw_p30 : lw_okq (⟨"BellLotsModel", "readsItem", "(I)V"⟩, 29) := ⟨⟨by decide +kernel, by decide +kernel⟩, List.mem_of_getElem? (i := 658) (by decide +kernel), List.mem_of_getElem? (i := 783) (by decide +kernel), List.mem_of_getElem? (i := 784) (by decide +kernel)⟩
theorem lw_p31 : lw_okq (⟨"BellLotsModel", "number", "(II)I"⟩, 29) := ⟨⟨by decide +kernel, by decide +kernel⟩, List.mem_of_getElem? (i := 658) (by decide +kernel), List.mem_of_getElem? (i := 787) (by decide +kernel), List.mem_of_getElem? (i := 788) (by decide +kernel)⟩
def lw_privs_2 : List (MethodName × Nat) := [(⟨"BellLots", "firstTradeHome", "()I"⟩, 10), (⟨"BellLots$Lot", "ringLength", "(I)I"⟩, 3), (⟨"BellLots", "harmlessWays", "()I"⟩, 10), (⟨"BellLots", "allWays", "()I"⟩, 10), (⟨"BellLots", "rateGreat", "(I)I"⟩, 10), (⟨"BellLots", "rateBell", "(I)I"⟩, 10), (⟨"BellLots", "rateCracked", "(I)I"⟩, 10), (⟨"BellLots", "rateStorm", "(I)I"⟩, 10), (⟨"BellLots", "rateRiver", "(I)I"⟩, 10), (⟨"BellLots", "rateCow", "(I)I"⟩, 10), (⟨"BellLotsModel", "advances", "()V"⟩, 29), (⟨"BellLotsModel", "letterAt", "(I)I"⟩, 29), (⟨"BellLotsModel", "isWell", "()Z"⟩, 29), (⟨"BellLotsModel", "takes", "(Z)I"⟩, 29), (⟨"BellLotsModel", "readsItem", "(I)V"⟩, 29), (⟨"BellLotsModel", "number", "(II)I"⟩, 29)]
theorem lw_r2 : ∀ q ∈ lw_privs_2, lw_okq q := List.forall_mem_cons.mpr ⟨lw_p16, List.forall_mem_cons.mpr ⟨lw_p17, List.forall_mem_cons.mpr ⟨lw_p18, List.forall_mem_cons.mpr ⟨lw_p19, List.forall_mem_cons.mpr ⟨lw_p20, List.forall_mem_cons.mpr ⟨lw_p21, List.forall_mem_cons.mpr ⟨lw_p22, List.forall_mem_cons.mpr ⟨lw_p23, List.forall_mem_cons.mpr ⟨lw_p24, List.forall_mem_cons.mpr ⟨lw_p25, List.forall_mem_cons.mpr ⟨lw_p26, List.forall_mem_cons.mpr ⟨lw_p27, List.forall_mem_cons.mpr ⟨lw_p28, List.forall_mem_cons.mpr ⟨lw_p29, List.forall_mem_cons.mpr ⟨lw_p30, List.forall_mem_cons.mpr ⟨lw_p31, fun _ h => absurd h List.not_mem_nil⟩⟩⟩⟩⟩⟩⟩⟩⟩⟩⟩⟩⟩⟩⟩⟩
theorem lw_p32 : lw_okq (⟨"BellLotsModel", "settles", "()V"⟩, 29) := ⟨⟨by decide +kernel, by decide +kernel⟩, List.mem_of_getElem? (i := 658) (by decide +kernel), List.mem_of_getElem? (i := 791) (by decide +kernel), List.mem_of_getElem? (i := 792) (by decide +kernel)⟩
theorem lw_p33 : lw_okq (⟨"BellLotsModel", "isTown", "(I)Z"⟩, 29) := ⟨⟨by decide +kernel, by decide +kernel⟩, List.mem_of_getElem? (i := 658) (by decide +kernel), List.mem_of_getElem? (i := 800) (by decide +kernel), List.mem_of_getElem? (i := 801) (by decide +kernel)⟩
theorem lw_p34 : lw_okq (⟨"BellLotsModel", "isDumb", "(I)Z"⟩, 29) := ⟨⟨by decide +kernel, by decide +kernel⟩, List.mem_of_getElem? (i := 658) (by decide +kernel), List.mem_of_getElem? (i := 807) (by decide +kernel), List.mem_of_getElem? (i := 808) (by decide +kernel)⟩
theorem lw_p35 : lw_okq (⟨"BellLotsModel", "fits", "(I)I"⟩, 29) := ⟨⟨by decide +kernel, by decide +kernel⟩, List.mem_of_getElem? (i := 658) (by decide +kernel), List.mem_of_getElem? (i := 815) (by decide +kernel), List.mem_of_getElem? (i := 816) (by decide +kernel)⟩
theorem lw_p36 : lw_okq (⟨"BellLotsModel", "notes", "()V"⟩, 29) := ⟨⟨by decide +kernel, by decide +kernel⟩, List.mem_of_getElem? (i := 658) (by decide +kernel), List.mem_of_getElem? (i := 835) (by decide +kernel), List.mem_of_getElem? (i := 836) (by decide +kernel)⟩
theorem lw_p37 : lw_okq (⟨"BellLotsModel", "drawn", "([II)I"⟩, 29) := ⟨⟨by decide +kernel, by decide +kernel⟩, List.mem_of_getElem? (i := 658) (by decide +kernel), List.mem_of_getElem? (i := 839) (by decide +kernel), List.mem_of_getElem? (i := 840) (by decide +kernel)⟩
theorem lw_p38 : lw_okq (⟨"BellLotsModel", "draws", "(I)V"⟩, 29) := ⟨⟨by decide +kernel, by decide +kernel⟩, List.mem_of_getElem? (i := 658) (by decide +kernel), List.mem_of_getElem? (i := 843) (by decide +kernel), List.mem_of_getElem? (i := 844) (by decide +kernel)⟩
theorem lw_p39 : lw_okq (⟨"BellLotsModel", "cuts", "([I)I"⟩, 29) := ⟨⟨by decide +kernel, by decide +kernel⟩, List.mem_of_getElem? (i := 658) (by decide +kernel), List.mem_of_getElem? (i := 851) (by decide +kernel), List.mem_of_getElem? (i := 852) (by decide +kernel)⟩
theorem lw_p40 : lw_okq (⟨"BellLotsModel", "asNow", "()V"⟩, 29) := ⟨⟨by decide +kernel, by decide +kernel⟩, List.mem_of_getElem? (i := 658) (by decide +kernel), List.mem_of_getElem? (i := 871) (by decide +kernel), List.mem_of_getElem? (i := 872) (by decide +kernel)⟩
theorem lw_p41 : lw_okq (⟨"BellLotsModel", "rows", "()I"⟩, 29) := ⟨⟨by decide +kernel, by decide +kernel⟩, List.mem_of_getElem? (i := 658) (by decide +kernel), List.mem_of_getElem? (i := 887) (by decide +kernel), List.mem_of_getElem? (i := 888) (by decide +kernel)⟩
theorem lw_p42 : lw_okq (⟨"BellLotsModel", "isRow", "(I)Z"⟩, 29) := ⟨⟨by decide +kernel, by decide +kernel⟩, List.mem_of_getElem? (i := 658) (by decide +kernel), List.mem_of_getElem? (i := 891) (by decide +kernel), List.mem_of_getElem? (i := 892) (by decide +kernel)⟩
theorem lw_p43 : lw_okq (⟨"BellLotsModel", "isBorne", "()Z"⟩, 29) := ⟨⟨by decide +kernel, by decide +kernel⟩, List.mem_of_getElem? (i := 658) (by decide +kernel), List.mem_of_getElem? (i := 895) (by decide +kernel), List.mem_of_getElem? (i := 896) (by decide +kernel)⟩
theorem lw_p44 : lw_okq (⟨"BellLotsModel", "costOfRow", "()I"⟩, 29) := ⟨⟨by decide +kernel, by decide +kernel⟩, List.mem_of_getElem? (i := 658) (by decide +kernel), List.mem_of_getElem? (i := 899) (by decide +kernel), List.mem_of_getElem? (i := 900) (by decide +kernel)⟩
theorem lw_p45 : lw_okq (⟨"BellLotsModel", "roads", "()I"⟩, 29) := ⟨⟨by decide +kernel, by decide +kernel⟩, List.mem_of_getElem? (i := 658) (by decide +kernel), List.mem_of_getElem? (i := 960) (by decide +kernel), List.mem_of_getElem? (i := 961) (by decide +kernel)⟩
def lw_privs_3 : List (MethodName × Nat) := [(⟨"BellLotsModel", "settles", "()V"⟩, 29), (⟨"BellLotsModel", "isTown", "(I)Z"⟩, 29), (⟨"BellLotsModel", "isDumb", "(I)Z"⟩, 29), (⟨"BellLotsModel", "fits", "(I)I"⟩, 29), (⟨"BellLotsModel", "notes", "()V"⟩, 29), (⟨"BellLotsModel", "drawn", "([II)I"⟩, 29), (⟨"BellLotsModel", "draws", "(I)V"⟩, 29), (⟨"BellLotsModel", "cuts", "([I)I"⟩, 29), (⟨"BellLotsModel", "asNow", "()V"⟩, 29), (⟨"BellLotsModel", "rows", "()I"⟩, 29), (⟨"BellLotsModel", "isRow", "(I)Z"⟩, 29), (⟨"BellLotsModel", "isBorne", "()Z"⟩, 29), (⟨"BellLotsModel", "costOfRow", "()I"⟩, 29), (⟨"BellLotsModel", "roads", "()I"⟩, 29)]
theorem lw_r3 : ∀ q ∈ lw_privs_3, lw_okq q := List.forall_mem_cons.mpr ⟨lw_p32, List.forall_mem_cons.mpr ⟨lw_p33, List.forall_mem_cons.mpr ⟨lw_p34, List.forall_mem_cons.mpr ⟨lw_p35, List.forall_mem_cons.mpr ⟨lw_p36, List.forall_mem_cons.mpr ⟨lw_p37, List.forall_mem_cons.mpr ⟨lw_p38, List.forall_mem_cons.mpr ⟨lw_p39, List.forall_mem_cons.mpr ⟨lw_p40, List.forall_mem_cons.mpr ⟨lw_p41, List.forall_mem_cons.mpr ⟨lw_p42, List.forall_mem_cons.mpr ⟨lw_p43, List.forall_mem_cons.mpr ⟨lw_p44, List.forall_mem_cons.mpr ⟨lw_p45, fun _ h => absurd h List.not_mem_nil⟩⟩⟩⟩⟩⟩⟩⟩⟩⟩⟩⟩⟩⟩
def lw_privs : List (MethodName × Nat) := lw_privs_1 ++ (lw_privs_2 ++ (lw_privs_3))
def lw_tbl : List Cond := k2_sels lw_privs ++ tables_1
theorem lw_privs_ok : ∀ q ∈ lw_privs, lw_okq q := by
  show ∀ q ∈ lw_privs_1 ++ (lw_privs_2 ++ (lw_privs_3)), lw_okq q
  exact List.forall_mem_append.mpr ⟨lw_r1, List.forall_mem_append.mpr ⟨lw_r2, lw_r3⟩⟩
end
section
def RX0 : String := "BellLots$Finds"
def TX0 : u_T := fun k => match k with
  | 0 => ("BellLots$Finds", "bell", "[I", true)
  | 1 => ("BellLots$Finds", "town", "[I", true)
  | _ => ("BellLots$Finds", "size", "I", false)
def tyX0 : Nat → FieldType := fun k => match k with
  | 0 => .array .int
  | 1 => .array .int
  | _ => .int
abbrev wsX00 : List Cond := u_ws RX0 TX0 3
theorem nmX0 : ∀ a, a < 3 → ∀ b, b < 3 → a ≠ b → (TX0 a).2.1 ≠ (TX0 b).2.1 := by decide +kernel
theorem tyX0_ok : ∀ k, k < 3 → parseFieldDescriptor (TX0 k).2.2.1 = some (tyX0 k) := by decide +kernel
abbrev cX0_init : ByteArray := prog_2_method_1_code
def yX0_init : MethodName := ⟨RX0, "<init>", "()V"⟩
abbrev cX0_append : ByteArray := prog_2_method_2_code
def yX0_append : MethodName := ⟨RX0, "append", "(II)Z"⟩
abbrev cX0_empty : ByteArray := prog_2_method_3_code
def yX0_empty : MethodName := ⟨RX0, "empty", "()I"⟩
abbrev cX0_holdBehind : ByteArray := prog_2_method_4_code
def yX0_holdBehind : MethodName := ⟨RX0, "holdBehind", "(LBellLots$Lot;LBellLots$Hanging;)Z"⟩
def RX1 : String := "BellLots$Hanging"
def TX1 : u_T := fun k => match k with
  | 0 => ("BellLots$Hanging", "term", "I", false)
  | 1 => ("BellLots$Hanging", "cuts", "I", false)
  | 2 => ("BellLots$Hanging", "bellIn", "[I", true)
  | 3 => ("BellLots$Hanging", "bears", "[I", true)
  | 4 => ("BellLots$Hanging", "oathIs", "[I", true)
  | _ => ("BellLots$Hanging", "struck", "[I", true)
def tyX1 : Nat → FieldType := fun k => match k with
  | 0 => .int
  | 1 => .int
  | 2 => .array .int
  | 3 => .array .int
  | 4 => .array .int
  | _ => .array .int
abbrev wsX10 : List Cond := u_ws RX1 TX1 6
theorem nmX1 : ∀ a, a < 6 → ∀ b, b < 6 → a ≠ b → (TX1 a).2.1 ≠ (TX1 b).2.1 := by decide +kernel
theorem tyX1_ok : ∀ k, k < 6 → parseFieldDescriptor (TX1 k).2.2.1 = some (tyX1 k) := by decide +kernel
abbrev cX1_init : ByteArray := prog_3_method_1_code
def yX1_init : MethodName := ⟨RX1, "<init>", "()V"⟩
abbrev cX1_begin : ByteArray := prog_3_method_2_code
def yX1_begin : MethodName := ⟨RX1, "begin", "(LBellLots$Told;)V"⟩
abbrev cX1_copyFrom : ByteArray := prog_3_method_3_code
def yX1_copyFrom : MethodName := ⟨RX1, "copyFrom", "(LBellLots$Hanging;)V"⟩
abbrev cX1_townOf : ByteArray := prog_3_method_4_code
def yX1_townOf : MethodName := ⟨RX1, "townOf", "(I)I"⟩
abbrev cX1_bearsBell : ByteArray := prog_3_method_5_code
def yX1_bearsBell : MethodName := ⟨RX1, "bearsBell", "(LBellLots$Told;II)Z"⟩
abbrev cX1_passTerm : ByteArray := prog_3_method_6_code
def yX1_passTerm : MethodName := ⟨RX1, "passTerm", "(LBellLots$Told;LBellLots$Lot;I)I"⟩
abbrev cX1_judgeOaths : ByteArray := prog_3_method_7_code
def yX1_judgeOaths : MethodName := ⟨RX1, "judgeOaths", "(LBellLots$Told;)V"⟩
abbrev cX1_cutTowers : ByteArray := prog_3_method_8_code
def yX1_cutTowers : MethodName := ⟨RX1, "cutTowers", "(LBellLots$Told;)I"⟩
def RX2 : String := "BellLots$Images"
def TX2 : u_T := fun k => match k with
  | 0 => ("BellLots$Images", "row", "[LBellLots$Hanging;", true)
  | _ => ("BellLots$Images", "kept", "[Z", true)
def tyX2 : Nat → FieldType := fun k => match k with
  | 0 => .array (.object "BellLots$Hanging")
  | _ => .array .boolean
abbrev wsX20 : List Cond := u_ws RX2 TX2 2
theorem nmX2 : ∀ a, a < 2 → ∀ b, b < 2 → a ≠ b → (TX2 a).2.1 ≠ (TX2 b).2.1 := by decide +kernel
theorem tyX2_ok : ∀ k, k < 2 → parseFieldDescriptor (TX2 k).2.2.1 = some (tyX2 k) := by decide +kernel
abbrev cX2_init : ByteArray := prog_4_method_1_code
def yX2_init : MethodName := ⟨RX2, "<init>", "()V"⟩
abbrev cX2_empty : ByteArray := prog_4_method_2_code
def yX2_empty : MethodName := ⟨RX2, "empty", "()V"⟩
abbrev cX2_keepFrom : ByteArray := prog_4_method_3_code
def yX2_keepFrom : MethodName := ⟨RX2, "keepFrom", "(ILBellLots$Hanging;)Z"⟩
abbrev cX2_bringInto : ByteArray := prog_4_method_4_code
def yX2_bringInto : MethodName := ⟨RX2, "bringInto", "(ILBellLots$Hanging;)Z"⟩
def RX3 : String := "BellLots$Lot"
def TX3 : u_T := fun k => match k with
  | 0 => ("BellLots$Lot", "from", "[I", true)
  | 1 => ("BellLots$Lot", "carried", "[I", true)
  | _ => ("BellLots$Lot", "undrawn", "I", false)
def tyX3 : Nat → FieldType := fun k => match k with
  | 0 => .array .int
  | 1 => .array .int
  | _ => .int
abbrev wsX30 : List Cond := u_ws RX3 TX3 3
theorem nmX3 : ∀ a, a < 3 → ∀ b, b < 3 → a ≠ b → (TX3 a).2.1 ≠ (TX3 b).2.1 := by decide +kernel
theorem tyX3_ok : ∀ k, k < 3 → parseFieldDescriptor (TX3 k).2.2.1 = some (tyX3 k) := by decide +kernel
abbrev cX3_init : ByteArray := prog_5_method_1_code
def yX3_init : MethodName := ⟨RX3, "<init>", "()V"⟩
abbrev cX3_drawBy : ByteArray := prog_5_method_2_code
def yX3_drawBy : MethodName := ⟨RX3, "drawBy", "(II)V"⟩
abbrev cX3_numberDrawn : ByteArray := prog_5_method_3_code
def yX3_numberDrawn : MethodName := ⟨RX3, "numberDrawn", "(II)I"⟩
abbrev cX3_takeUndrawn : ByteArray := prog_5_method_4_code
def yX3_takeUndrawn : MethodName := ⟨RX3, "takeUndrawn", "(I)I"⟩
abbrev cX3_carry : ByteArray := prog_5_method_5_code
def yX3_carry : MethodName := ⟨RX3, "carry", "([I)V"⟩
abbrev cX3_repeatsTillSame : ByteArray := prog_5_method_6_code
def yX3_repeatsTillSame : MethodName := ⟨RX3, "repeatsTillSame", "()I"⟩
abbrev cX3_ringLength : ByteArray := prog_5_method_7_code
def yX3_ringLength : MethodName := ⟨RX3, "ringLength", "(I)I"⟩
abbrev cX3_leastCommonMultiple : ByteArray := prog_5_method_8_code
def yX3_leastCommonMultiple : MethodName := ⟨RX3, "leastCommonMultiple", "(II)I"⟩
def RX4 : String := "BellLots$Past"
def TX4 : u_T := fun k => match k with
  | 0 => ("BellLots$Past", "ring", "[LBellLots$Hanging;", true)
  | 1 => ("BellLots$Past", "newest", "I", false)
  | _ => ("BellLots$Past", "known", "I", false)
def tyX4 : Nat → FieldType := fun k => match k with
  | 0 => .array (.object "BellLots$Hanging")
  | 1 => .int
  | _ => .int
abbrev wsX40 : List Cond := u_ws RX4 TX4 3
theorem nmX4 : ∀ a, a < 3 → ∀ b, b < 3 → a ≠ b → (TX4 a).2.1 ≠ (TX4 b).2.1 := by decide +kernel
theorem tyX4_ok : ∀ k, k < 3 → parseFieldDescriptor (TX4 k).2.2.1 = some (tyX4 k) := by decide +kernel
abbrev cX4_init : ByteArray := prog_6_method_1_code
def yX4_init : MethodName := ⟨RX4, "<init>", "()V"⟩
abbrev cX4_empty : ByteArray := prog_6_method_2_code
def yX4_empty : MethodName := ⟨RX4, "empty", "()V"⟩
abbrev cX4_remember : ByteArray := prog_6_method_3_code
def yX4_remember : MethodName := ⟨RX4, "remember", "(LBellLots$Hanging;)V"⟩
abbrev cX4_recallInto : ByteArray := prog_6_method_4_code
def yX4_recallInto : MethodName := ⟨RX4, "recallInto", "(LBellLots$Hanging;)Z"⟩
def RX5 : String := "BellLots$Text"
def TX5 : u_T := fun k => match k with
  | 0 => ("BellLots$Text", "letters", "[I", true)
  | 1 => ("BellLots$Text", "length", "I", false)
  | 2 => ("BellLots$Text", "numbers", "[I", true)
  | 3 => ("BellLots$Text", "place", "I", false)
  | 4 => ("BellLots$Text", "start", "I", false)
  | 5 => ("BellLots$Text", "kind", "I", false)
  | _ => ("BellLots$Text", "value", "I", false)
def tyX5 : Nat → FieldType := fun k => match k with
  | 0 => .array .int
  | 1 => .int
  | 2 => .array .int
  | 3 => .int
  | 4 => .int
  | 5 => .int
  | _ => .int
abbrev wsX50 : List Cond := u_ws RX5 TX5 7
theorem nmX5 : ∀ a, a < 7 → ∀ b, b < 7 → a ≠ b → (TX5 a).2.1 ≠ (TX5 b).2.1 := by decide +kernel
theorem tyX5_ok : ∀ k, k < 7 → parseFieldDescriptor (TX5 k).2.2.1 = some (tyX5 k) := by decide +kernel
abbrev cX5_init : ByteArray := prog_7_method_1_code
def yX5_init : MethodName := ⟨RX5, "<init>", "()V"⟩
abbrev cX5_append : ByteArray := prog_7_method_2_code
def yX5_append : MethodName := ⟨RX5, "append", "(I)Z"⟩
abbrev cX5_empty : ByteArray := prog_7_method_3_code
def yX5_empty : MethodName := ⟨RX5, "empty", "()I"⟩
abbrev cX5_readInto : ByteArray := prog_7_method_4_code
def yX5_readInto : MethodName := ⟨RX5, "readInto", "(LBellLots$Told;)I"⟩
abbrev cX5_readItem : ByteArray := prog_7_method_5_code
def yX5_readItem : MethodName := ⟨RX5, "readItem", "(LBellLots$Told;)Z"⟩
abbrev cX5_mayBegin : ByteArray := prog_7_method_6_code
def yX5_mayBegin : MethodName := ⟨RX5, "mayBegin", "(LBellLots$Told;I)Z"⟩
abbrev cX5_mayStand : ByteArray := prog_7_method_7_code
def yX5_mayStand : MethodName := ⟨RX5, "mayStand", "(LBellLots$Told;II)Z"⟩
abbrev cX5_nextToken : ByteArray := prog_7_method_8_code
def yX5_nextToken : MethodName := ⟨RX5, "nextToken", "()V"⟩
abbrev cX5_readNumber : ByteArray := prog_7_method_9_code
def yX5_readNumber : MethodName := ⟨RX5, "readNumber", "()V"⟩
abbrev cX5_isDigit : ByteArray := prog_7_method_10_code
def yX5_isDigit : MethodName := ⟨RX5, "isDigit", "(I)Z"⟩
def RX6 : String := "BellLots$Told"
def TX6 : u_T := fun k => match k with
  | 0 => ("BellLots$Told", "towns", "I", false)
  | 1 => ("BellLots$Told", "roads", "I", false)
  | 2 => ("BellLots$Told", "oaths", "I", false)
  | 3 => ("BellLots$Told", "tower", "[I", true)
  | 4 => ("BellLots$Told", "weight", "[I", true)
  | 5 => ("BellLots$Told", "note", "[I", true)
  | 6 => ("BellLots$Told", "toll", "[I", true)
  | 7 => ("BellLots$Told", "way", "[I", true)
  | 8 => ("BellLots$Told", "oathBell", "[I", true)
  | 9 => ("BellLots$Told", "oathTown", "[I", true)
  | _ => ("BellLots$Told", "oathTerm", "[I", true)
def tyX6 : Nat → FieldType := fun k => match k with
  | 0 => .int
  | 1 => .int
  | 2 => .int
  | 3 => .array .int
  | 4 => .array .int
  | 5 => .array .int
  | 6 => .array .int
  | 7 => .array .int
  | 8 => .array .int
  | 9 => .array .int
  | _ => .array .int
abbrev wsX60 : List Cond := u_ws RX6 TX6 11
theorem nmX6 : ∀ a, a < 11 → ∀ b, b < 11 → a ≠ b → (TX6 a).2.1 ≠ (TX6 b).2.1 := by decide +kernel
theorem tyX6_ok : ∀ k, k < 11 → parseFieldDescriptor (TX6 k).2.2.1 = some (tyX6 k) := by decide +kernel
abbrev cX6_init : ByteArray := prog_8_method_1_code
def yX6_init : MethodName := ⟨RX6, "<init>", "()V"⟩
abbrev cX6_empty : ByteArray := prog_8_method_2_code
def yX6_empty : MethodName := ⟨RX6, "empty", "()V"⟩
abbrev cX6_hasTown : ByteArray := prog_8_method_3_code
def yX6_hasTown : MethodName := ⟨RX6, "hasTown", "(I)Z"⟩
abbrev cX6_add : ByteArray := prog_8_method_4_code
def yX6_add : MethodName := ⟨RX6, "add", "(IIII)V"⟩
abbrev cX6_addTown : ByteArray := prog_8_method_5_code
def yX6_addTown : MethodName := ⟨RX6, "addTown", "(III)V"⟩
abbrev cX6_addRoad : ByteArray := prog_8_method_6_code
def yX6_addRoad : MethodName := ⟨RX6, "addRoad", "(III)V"⟩
abbrev cX6_addOath : ByteArray := prog_8_method_7_code
def yX6_addOath : MethodName := ⟨RX6, "addOath", "(III)V"⟩
abbrev cX6_measureWays : ByteArray := prog_8_method_8_code
def yX6_measureWays : MethodName := ⟨RX6, "measureWays", "()V"⟩
abbrev cX6_shortenWays : ByteArray := prog_8_method_9_code
def yX6_shortenWays : MethodName := ⟨RX6, "shortenWays", "(I)V"⟩
abbrev cX6_wayBetween : ByteArray := prog_8_method_10_code
def yX6_wayBetween : MethodName := ⟨RX6, "wayBetween", "(II)I"⟩
abbrev cX6_oathsCross : ByteArray := prog_8_method_11_code
def yX6_oathsCross : MethodName := ⟨RX6, "oathsCross", "(II)Z"⟩
abbrev cX6_bellsHungBefore : ByteArray := prog_8_method_12_code
def yX6_bellsHungBefore : MethodName := ⟨RX6, "bellsHungBefore", "(I)I"⟩
def RX7 : String := "BellLots"
def TX7 : u_T := fun k => match k with
  | 0 => ("BellLots", "text", "LBellLots$Text;", true)
  | 1 => ("BellLots", "told", "LBellLots$Told;", false)
  | 2 => ("BellLots", "spare", "LBellLots$Told;", false)
  | 3 => ("BellLots", "hanging", "LBellLots$Hanging;", true)
  | 4 => ("BellLots", "trial", "LBellLots$Hanging;", true)
  | 5 => ("BellLots", "past", "LBellLots$Past;", true)
  | 6 => ("BellLots", "images", "LBellLots$Images;", true)
  | 7 => ("BellLots", "finds", "LBellLots$Finds;", true)
  | 8 => ("BellLots", "lot", "LBellLots$Lot;", true)
  | _ => ("BellLots", "traced", "J", false)
def tyX7 : Nat → FieldType := fun k => match k with
  | 0 => .object "BellLots$Text"
  | 1 => .object "BellLots$Told"
  | 2 => .object "BellLots$Told"
  | 3 => .object "BellLots$Hanging"
  | 4 => .object "BellLots$Hanging"
  | 5 => .object "BellLots$Past"
  | 6 => .object "BellLots$Images"
  | 7 => .object "BellLots$Finds"
  | 8 => .object "BellLots$Lot"
  | _ => .long
abbrev wsX70 : List Cond := u_ws RX7 TX7 10
theorem nmX7 : ∀ a, a < 10 → ∀ b, b < 10 → a ≠ b → (TX7 a).2.1 ≠ (TX7 b).2.1 := by decide +kernel
theorem tyX7_ok : ∀ k, k < 10 → parseFieldDescriptor (TX7 k).2.2.1 = some (tyX7 k) := by decide +kernel
abbrev cX7_init : ByteArray := prog_1_method_1_code
def yX7_init : MethodName := ⟨RX7, "<init>", "()V"⟩
abbrev cX7_type : ByteArray := prog_1_method_2_code
def yX7_type : MethodName := ⟨RX7, "type", "(I)I"⟩
abbrev cX7_clear : ByteArray := prog_1_method_3_code
def yX7_clear : MethodName := ⟨RX7, "clear", "()I"⟩
abbrev cX7_plain : ByteArray := prog_1_method_4_code
def yX7_plain : MethodName := ⟨RX7, "plain", "()I"⟩
abbrev cX7_town : ByteArray := prog_1_method_5_code
def yX7_town : MethodName := ⟨RX7, "town", "(II)I"⟩
abbrev cX7_bell : ByteArray := prog_1_method_6_code
def yX7_bell : MethodName := ⟨RX7, "bell", "(II)I"⟩
abbrev cX7_far : ByteArray := prog_1_method_7_code
def yX7_far : MethodName := ⟨RX7, "far", "(II)I"⟩
abbrev cX7_oath : ByteArray := prog_1_method_8_code
def yX7_oath : MethodName := ⟨RX7, "oath", "(II)I"⟩
abbrev cX7_now : ByteArray := prog_1_method_9_code
def yX7_now : MethodName := ⟨RX7, "now", "(I)I"⟩
abbrev cX7_lots : ByteArray := prog_1_method_10_code
def yX7_lots : MethodName := ⟨RX7, "lots", "(I)I"⟩
abbrev cX7_trades : ByteArray := prog_1_method_11_code
def yX7_trades : MethodName := ⟨RX7, "trades", "(II)I"⟩
abbrev cX7_widens : ByteArray := prog_1_method_12_code
def yX7_widens : MethodName := ⟨RX7, "widens", "(II)I"⟩
abbrev cX7_undo : ByteArray := prog_1_method_13_code
def yX7_undo : MethodName := ⟨RX7, "undo", "()I"⟩
abbrev cX7_inLots : ByteArray := prog_1_method_14_code
def yX7_inLots : MethodName := ⟨RX7, "inLots", "(III)I"⟩
abbrev cX7_cost : ByteArray := prog_1_method_15_code
def yX7_cost : MethodName := ⟨RX7, "cost", "(I)I"⟩
abbrev cX7_home : ByteArray := prog_1_method_16_code
def yX7_home : MethodName := ⟨RX7, "home", "(I)I"⟩
abbrev cX7_hang : ByteArray := prog_1_method_17_code
def yX7_hang : MethodName := ⟨RX7, "hang", "(I)I"⟩
abbrev cX7_round : ByteArray := prog_1_method_18_code
def yX7_round : MethodName := ⟨RX7, "round", "(I)I"⟩
abbrev cX7_crossed : ByteArray := prog_1_method_19_code
def yX7_crossed : MethodName := ⟨RX7, "crossed", "()I"⟩
abbrev cX7_oaths : ByteArray := prog_1_method_20_code
def yX7_oaths : MethodName := ⟨RX7, "oaths", "(I)I"⟩
abbrev cX7_strokes : ByteArray := prog_1_method_21_code
def yX7_strokes : MethodName := ⟨RX7, "strokes", "(II)I"⟩
abbrev cX7_found : ByteArray := prog_1_method_22_code
def yX7_found : MethodName := ⟨RX7, "found", "(II)I"⟩
abbrev cX7_forget : ByteArray := prog_1_method_23_code
def yX7_forget : MethodName := ⟨RX7, "forget", "()I"⟩
abbrev cX7_which : ByteArray := prog_1_method_24_code
def yX7_which : MethodName := ⟨RX7, "which", "(I)I"⟩
abbrev cX7_odds : ByteArray := prog_1_method_25_code
def yX7_odds : MethodName := ⟨RX7, "odds", "(I)I"⟩
abbrev cX7_rate : ByteArray := prog_1_method_26_code
def yX7_rate : MethodName := ⟨RX7, "rate", "(II)I"⟩
abbrev cX7_keep : ByteArray := prog_1_method_27_code
def yX7_keep : MethodName := ⟨RX7, "keep", "(I)I"⟩
abbrev cX7_back : ByteArray := prog_1_method_28_code
def yX7_back : MethodName := ⟨RX7, "back", "(I)I"⟩
abbrev cX7_count : ByteArray := prog_1_method_29_code
def yX7_count : MethodName := ⟨RX7, "count", "(I)I"⟩
abbrev cX7_trace : ByteArray := prog_1_method_30_code
def yX7_trace : MethodName := ⟨RX7, "trace", "()J"⟩
abbrev cX7_within : ByteArray := prog_1_method_31_code
def yX7_within : MethodName := ⟨RX7, "within", "(III)Z"⟩
abbrev cX7_at : ByteArray := prog_1_method_32_code
def yX7_at : MethodName := ⟨RX7, "at", "([II)I"⟩
abbrev cX7_put : ByteArray := prog_1_method_33_code
def yX7_put : MethodName := ⟨RX7, "put", "([III)V"⟩
abbrev cX7_pair : ByteArray := prog_1_method_34_code
def yX7_pair : MethodName := ⟨RX7, "pair", "(II)I"⟩
abbrev cX7_commonDivisor : ByteArray := prog_1_method_35_code
def yX7_commonDivisor : MethodName := ⟨RX7, "commonDivisor", "(II)I"⟩
abbrev cX7_dumbTowns : ByteArray := prog_1_method_36_code
def yX7_dumbTowns : MethodName := ⟨RX7, "dumbTowns", "()I"⟩
abbrev cX7_hasLikeNeighbour : ByteArray := prog_1_method_37_code
def yX7_hasLikeNeighbour : MethodName := ⟨RX7, "hasLikeNeighbour", "(I)Z"⟩
abbrev cX7_noteIn : ByteArray := prog_1_method_38_code
def yX7_noteIn : MethodName := ⟨RX7, "noteIn", "(I)I"⟩
abbrev cX7_bellsAtHome : ByteArray := prog_1_method_39_code
def yX7_bellsAtHome : MethodName := ⟨RX7, "bellsAtHome", "()I"⟩
abbrev cX7_fitsOf : ByteArray := prog_1_method_40_code
def yX7_fitsOf : MethodName := ⟨RX7, "fitsOf", "(I)I"⟩
abbrev cX7_rings : ByteArray := prog_1_method_41_code
def yX7_rings : MethodName := ⟨RX7, "rings", "()I"⟩
abbrev cX7_firstTradeHome : ByteArray := prog_1_method_42_code
def yX7_firstTradeHome : MethodName := ⟨RX7, "firstTradeHome", "()I"⟩
abbrev cX7_harmlessWays : ByteArray := prog_1_method_43_code
def yX7_harmlessWays : MethodName := ⟨RX7, "harmlessWays", "()I"⟩
abbrev cX7_allWays : ByteArray := prog_1_method_44_code
def yX7_allWays : MethodName := ⟨RX7, "allWays", "()I"⟩
abbrev cX7_rateBell : ByteArray := prog_1_method_45_code
def yX7_rateBell : MethodName := ⟨RX7, "rateBell", "(I)I"⟩
abbrev cX7_rateGreat : ByteArray := prog_1_method_46_code
def yX7_rateGreat : MethodName := ⟨RX7, "rateGreat", "(I)I"⟩
abbrev cX7_rateCracked : ByteArray := prog_1_method_47_code
def yX7_rateCracked : MethodName := ⟨RX7, "rateCracked", "(I)I"⟩
abbrev cX7_rateStorm : ByteArray := prog_1_method_48_code
def yX7_rateStorm : MethodName := ⟨RX7, "rateStorm", "(I)I"⟩
abbrev cX7_rateRiver : ByteArray := prog_1_method_49_code
def yX7_rateRiver : MethodName := ⟨RX7, "rateRiver", "(I)I"⟩
abbrev cX7_rateCow : ByteArray := prog_1_method_50_code
def yX7_rateCow : MethodName := ⟨RX7, "rateCow", "(I)I"⟩
def RX8 : String := "BellLotsModel"
def TX8 : u_T := fun k => match k with
  | 0 => ("BellLotsModel", "thrown", "I", false)
  | 1 => ("BellLotsModel", "trace", "J", false)
  | 2 => ("BellLotsModel", "text", "[I", true)
  | 3 => ("BellLotsModel", "typed", "I", false)
  | 4 => ("BellLotsModel", "next", "I", false)
  | 5 => ("BellLotsModel", "token", "I", false)
  | 6 => ("BellLotsModel", "place", "I", false)
  | 7 => ("BellLotsModel", "value", "I", false)
  | 8 => ("BellLotsModel", "fault", "I", false)
  | 9 => ("BellLotsModel", "many", "[I", true)
  | 10 => ("BellLotsModel", "bears", "[I", true)
  | 11 => ("BellLotsModel", "weight", "[I", true)
  | 12 => ("BellLotsModel", "note", "[I", true)
  | 13 => ("BellLotsModel", "toll", "[I", true)
  | 14 => ("BellLotsModel", "oathBell", "[I", true)
  | 15 => ("BellLotsModel", "oathTown", "[I", true)
  | 16 => ("BellLotsModel", "oathTerm", "[I", true)
  | 17 => ("BellLotsModel", "far", "[I", true)
  | 18 => ("BellLotsModel", "s", "[I", true)
  | 19 => ("BellLotsModel", "w", "[I", true)
  | 20 => ("BellLotsModel", "kept", "[I", true)
  | 21 => ("BellLotsModel", "isKept", "[Z", true)
  | 22 => ("BellLotsModel", "undos", "[I", true)
  | 23 => ("BellLotsModel", "undoMany", "I", false)
  | 24 => ("BellLotsModel", "foundBell", "[I", true)
  | 25 => ("BellLotsModel", "foundTown", "[I", true)
  | 26 => ("BellLotsModel", "foundMany", "I", false)
  | 27 => ("BellLotsModel", "goes", "[I", true)
  | _ => ("BellLotsModel", "best", "[I", true)
def tyX8 : Nat → FieldType := fun k => match k with
  | 0 => .int
  | 1 => .long
  | 2 => .array .int
  | 3 => .int
  | 4 => .int
  | 5 => .int
  | 6 => .int
  | 7 => .int
  | 8 => .int
  | 9 => .array .int
  | 10 => .array .int
  | 11 => .array .int
  | 12 => .array .int
  | 13 => .array .int
  | 14 => .array .int
  | 15 => .array .int
  | 16 => .array .int
  | 17 => .array .int
  | 18 => .array .int
  | 19 => .array .int
  | 20 => .array .int
  | 21 => .array .boolean
  | 22 => .array .int
  | 23 => .int
  | 24 => .array .int
  | 25 => .array .int
  | 26 => .int
  | 27 => .array .int
  | _ => .array .int
abbrev wsX80 : List Cond := u_ws RX8 TX8 29
theorem nmX8 : ∀ a, a < 29 → ∀ b, b < 29 → a ≠ b → (TX8 a).2.1 ≠ (TX8 b).2.1 := by decide +kernel
theorem tyX8_ok : ∀ k, k < 29 → parseFieldDescriptor (TX8 k).2.2.1 = some (tyX8 k) := by decide +kernel
abbrev cX8_init : ByteArray := prog_10_method_1_code
def yX8_init : MethodName := ⟨RX8, "<init>", "()V"⟩
abbrev cX8_in : ByteArray := prog_10_method_3_code
def yX8_in : MethodName := ⟨RX8, "in", "(III)Z"⟩
abbrev cX8_type : ByteArray := prog_10_method_4_code
def yX8_type : MethodName := ⟨RX8, "type", "(I)I"⟩
abbrev cX8_clear : ByteArray := prog_10_method_5_code
def yX8_clear : MethodName := ⟨RX8, "clear", "()I"⟩
abbrev cX8_letterAt : ByteArray := prog_10_method_6_code
def yX8_letterAt : MethodName := ⟨RX8, "letterAt", "(I)I"⟩
abbrev cX8_advances : ByteArray := prog_10_method_7_code
def yX8_advances : MethodName := ⟨RX8, "advances", "()V"⟩
abbrev cX8_isWell : ByteArray := prog_10_method_8_code
def yX8_isWell : MethodName := ⟨RX8, "isWell", "()Z"⟩
abbrev cX8_takes : ByteArray := prog_10_method_9_code
def yX8_takes : MethodName := ⟨RX8, "takes", "(Z)I"⟩
abbrev cX8_number : ByteArray := prog_10_method_10_code
def yX8_number : MethodName := ⟨RX8, "number", "(II)I"⟩
abbrev cX8_readsItem : ByteArray := prog_10_method_11_code
def yX8_readsItem : MethodName := ⟨RX8, "readsItem", "(I)V"⟩
abbrev cX8_plain : ByteArray := prog_10_method_12_code
def yX8_plain : MethodName := ⟨RX8, "plain", "()I"⟩
abbrev cX8_settles : ByteArray := prog_10_method_13_code
def yX8_settles : MethodName := ⟨RX8, "settles", "()V"⟩
abbrev cX8_isTown : ByteArray := prog_10_method_14_code
def yX8_isTown : MethodName := ⟨RX8, "isTown", "(I)Z"⟩
abbrev cX8_hangs : ByteArray := prog_10_method_15_code
def yX8_hangs : MethodName := ⟨RX8, "hangs", "([II)I"⟩
abbrev cX8_isDumb : ByteArray := prog_10_method_16_code
def yX8_isDumb : MethodName := ⟨RX8, "isDumb", "(I)Z"⟩
abbrev cX8_town : ByteArray := prog_10_method_17_code
def yX8_town : MethodName := ⟨RX8, "town", "(II)I"⟩
abbrev cX8_fits : ByteArray := prog_10_method_18_code
def yX8_fits : MethodName := ⟨RX8, "fits", "(I)I"⟩
abbrev cX8_bell : ByteArray := prog_10_method_19_code
def yX8_bell : MethodName := ⟨RX8, "bell", "(II)I"⟩
abbrev cX8_far : ByteArray := prog_10_method_20_code
def yX8_far : MethodName := ⟨RX8, "far", "(II)I"⟩
abbrev cX8_oath : ByteArray := prog_10_method_21_code
def yX8_oath : MethodName := ⟨RX8, "oath", "(II)I"⟩
abbrev cX8_now : ByteArray := prog_10_method_22_code
def yX8_now : MethodName := ⟨RX8, "now", "(I)I"⟩
abbrev cX8_notes : ByteArray := prog_10_method_23_code
def yX8_notes : MethodName := ⟨RX8, "notes", "()V"⟩
abbrev cX8_draws : ByteArray := prog_10_method_24_code
def yX8_draws : MethodName := ⟨RX8, "draws", "(I)V"⟩
abbrev cX8_cuts : ByteArray := prog_10_method_25_code
def yX8_cuts : MethodName := ⟨RX8, "cuts", "([I)I"⟩
abbrev cX8_drawn : ByteArray := prog_10_method_26_code
def yX8_drawn : MethodName := ⟨RX8, "drawn", "([II)I"⟩
abbrev cX8_lots : ByteArray := prog_10_method_27_code
def yX8_lots : MethodName := ⟨RX8, "lots", "(I)I"⟩
abbrev cX8_trades : ByteArray := prog_10_method_28_code
def yX8_trades : MethodName := ⟨RX8, "trades", "(II)I"⟩
abbrev cX8_widens : ByteArray := prog_10_method_29_code
def yX8_widens : MethodName := ⟨RX8, "widens", "(II)I"⟩
abbrev cX8_undo : ByteArray := prog_10_method_30_code
def yX8_undo : MethodName := ⟨RX8, "undo", "()I"⟩
abbrev cX8_asNow : ByteArray := prog_10_method_31_code
def yX8_asNow : MethodName := ⟨RX8, "asNow", "()V"⟩
abbrev cX8_inLots : ByteArray := prog_10_method_32_code
def yX8_inLots : MethodName := ⟨RX8, "inLots", "(III)I"⟩
abbrev cX8_cost : ByteArray := prog_10_method_33_code
def yX8_cost : MethodName := ⟨RX8, "cost", "(I)I"⟩
abbrev cX8_home : ByteArray := prog_10_method_34_code
def yX8_home : MethodName := ⟨RX8, "home", "(I)I"⟩
abbrev cX8_isRow : ByteArray := prog_10_method_35_code
def yX8_isRow : MethodName := ⟨RX8, "isRow", "(I)Z"⟩
abbrev cX8_rows : ByteArray := prog_10_method_36_code
def yX8_rows : MethodName := ⟨RX8, "rows", "()I"⟩
abbrev cX8_isBorne : ByteArray := prog_10_method_37_code
def yX8_isBorne : MethodName := ⟨RX8, "isBorne", "()Z"⟩
abbrev cX8_costOfRow : ByteArray := prog_10_method_38_code
def yX8_costOfRow : MethodName := ⟨RX8, "costOfRow", "()I"⟩
abbrev cX8_hang : ByteArray := prog_10_method_39_code
def yX8_hang : MethodName := ⟨RX8, "hang", "(I)I"⟩
abbrev cX8_round : ByteArray := prog_10_method_40_code
def yX8_round : MethodName := ⟨RX8, "round", "(I)I"⟩
abbrev cX8_crossed : ByteArray := prog_10_method_41_code
def yX8_crossed : MethodName := ⟨RX8, "crossed", "()I"⟩
abbrev cX8_oaths : ByteArray := prog_10_method_42_code
def yX8_oaths : MethodName := ⟨RX8, "oaths", "(I)I"⟩
abbrev cX8_strokes : ByteArray := prog_10_method_43_code
def yX8_strokes : MethodName := ⟨RX8, "strokes", "(II)I"⟩
abbrev cX8_found : ByteArray := prog_10_method_44_code
def yX8_found : MethodName := ⟨RX8, "found", "(II)I"⟩
abbrev cX8_forget : ByteArray := prog_10_method_45_code
def yX8_forget : MethodName := ⟨RX8, "forget", "()I"⟩
abbrev cX8_which : ByteArray := prog_10_method_46_code
def yX8_which : MethodName := ⟨RX8, "which", "(I)I"⟩
abbrev cX8_gcd : ByteArray := prog_10_method_47_code
def yX8_gcd : MethodName := ⟨RX8, "gcd", "(II)I"⟩
abbrev cX8_odds : ByteArray := prog_10_method_48_code
def yX8_odds : MethodName := ⟨RX8, "odds", "(I)I"⟩
abbrev cX8_rate : ByteArray := prog_10_method_49_code
def yX8_rate : MethodName := ⟨RX8, "rate", "(II)I"⟩
abbrev cX8_keep : ByteArray := prog_10_method_50_code
def yX8_keep : MethodName := ⟨RX8, "keep", "(I)I"⟩
abbrev cX8_back : ByteArray := prog_10_method_51_code
def yX8_back : MethodName := ⟨RX8, "back", "(I)I"⟩
abbrev cX8_roads : ByteArray := prog_10_method_52_code
def yX8_roads : MethodName := ⟨RX8, "roads", "()I"⟩
abbrev cX8_count : ByteArray := prog_10_method_53_code
def yX8_count : MethodName := ⟨RX8, "count", "(I)I"⟩
abbrev cX8_trace : ByteArray := prog_10_method_54_code
def yX8_trace : MethodName := ⟨RX8, "trace", "()J"⟩
def RJ6 : String := "java/lang/Integer"
def TJ6 : u_T := fun k => match k with
  | _ => ("", "", "", false)
def tyJ6 : Nat → FieldType := fun k => match k with
  | _ => .int
abbrev wsJ60 : List Cond := u_ws RJ6 TJ6 0
theorem nmJ6 : ∀ a, a < 0 → ∀ b, b < 0 → a ≠ b → (TJ6 a).2.1 ≠ (TJ6 b).2.1 := by decide +kernel
theorem tyJ6_ok : ∀ k, k < 0 → parseFieldDescriptor (TJ6 k).2.2.1 = some (tyJ6 k) := by decide +kernel
abbrev cJ6_bitCount_0f7a4 : ByteArray := prog_11_method_49_code
def yJ6_bitCount_0f7a4 : MethodName := ⟨RJ6, "bitCount", "(I)I"⟩
def RJ9 : String := "java/lang/Math"
def TJ9 : u_T := fun k => match k with
  | _ => ("", "", "", false)
def tyJ9 : Nat → FieldType := fun k => match k with
  | _ => .int
abbrev wsJ90 : List Cond := u_ws RJ9 TJ9 0
theorem nmJ9 : ∀ a, a < 0 → ∀ b, b < 0 → a ≠ b → (TJ9 a).2.1 ≠ (TJ9 b).2.1 := by decide +kernel
theorem tyJ9_ok : ∀ k, k < 0 → parseFieldDescriptor (TJ9 k).2.2.1 = some (tyJ9 k) := by decide +kernel
abbrev cJ9_max_7cf53 : ByteArray := prog_12_method_65_code
def yJ9_max_7cf53 : MethodName := ⟨RJ9, "max", "(II)I"⟩
abbrev cJ9_min_7cf53 : ByteArray := prog_12_method_69_code
def yJ9_min_7cf53 : MethodName := ⟨RJ9, "min", "(II)I"⟩
def RJ10 : String := "java/lang/System"
def TJ10 : u_T := fun k => match k with
  | _ => ("", "", "", false)
def tyJ10 : Nat → FieldType := fun k => match k with
  | _ => .int
abbrev wsJ100 : List Cond := u_ws RJ10 TJ10 0
theorem nmJ10 : ∀ a, a < 0 → ∀ b, b < 0 → a ≠ b → (TJ10 a).2.1 ≠ (TJ10 b).2.1 := by decide +kernel
theorem tyJ10_ok : ∀ k, k < 0 → parseFieldDescriptor (TJ10 k).2.2.1 = some (tyJ10 k) := by decide +kernel
def RJ7 : String := "java/util/Arrays"
def TJ7 : u_T := fun k => match k with
  | _ => ("", "", "", false)
def tyJ7 : Nat → FieldType := fun k => match k with
  | _ => .int
abbrev wsJ70 : List Cond := u_ws RJ7 TJ7 0
theorem nmJ7 : ∀ a, a < 0 → ∀ b, b < 0 → a ≠ b → (TJ7 a).2.1 ≠ (TJ7 b).2.1 := by decide +kernel
theorem tyJ7_ok : ∀ k, k < 0 → parseFieldDescriptor (TJ7 k).2.2.1 = some (tyJ7 k) := by decide +kernel
abbrev cJ7_fill_53178 : ByteArray := prog_14_method_103_code
def yJ7_fill_53178 : MethodName := ⟨RJ7, "fill", "([II)V"⟩
def RL : String := "BellLotsLaw"
abbrev cL_law : ByteArray := code
def yL_law : MethodName := ⟨RL, "law", "([I)Z"⟩
abbrev vwCl : List vw_C := [(RX0, TX0, 3), (RX1, TX1, 6), (RX2, TX2, 2), (RX3, TX3, 3), (RX4, TX4, 3), (RX5, TX5, 7), (RX6, TX6, 11), (RX7, TX7, 10), (RX8, TX8, 29)]
end
section
/-! ===== the pure picture: cells by number, ints, longs, references apart ===== -/
abbrev vM : Type := String × MethodName × ByteArray × Nat × Option FieldType
abbrev vS : Type := (Nat → Nat → Int32) × (Nat → Nat → Int64) × (Nat → Nat → Option Nat)
/-- base of the cells, the script's cell, the classes and their slots, the classes of int, boolean and Hanging rows -/
abbrev vE : Type := Nat × Nat × va_G × ClassId × ClassId × ClassId
abbrev vJ : Value := .retAddr 0
abbrev vX : Value := .retAddr 1
def vT : List Cond := lw_tbl.filter goodWord
def vIsN : Cond → Bool
  | .methodLinkNest _ _ _ _ => true
  | _ => false
def vNs : List Cond := tables_1.filter vIsN
theorem vt {w : Cond} (i : Nat) (h : tables_1[i]? = some w) (g : goodWord w = true) : w ∈ vT := List.mem_filter.mpr ⟨List.mem_append_right _ (List.mem_of_getElem? h), g⟩
theorem vsl {w : Cond} (i : Nat) (h : (k2_sels lw_privs)[i]? = some w) (g : goodWord w = true) : w ∈ vT := List.mem_filter.mpr ⟨List.mem_append_left _ (List.mem_of_getElem? h), g⟩
theorem vn {w : Cond} (i : Nat) (h : tables_1[i]? = some w) (g : vIsN w = true) : w ∈ vNs := List.mem_filter.mpr ⟨List.mem_of_getElem? h, g⟩
theorem vT_good {w : Cond} (h : w ∈ vT) : (w.onTables && w.keeps) = true ∨ ∃ ty, w = .arrayClass ty := good_of_word (List.mem_filter.mp h).2
theorem vNs_is {w : Cond} (h : w ∈ vNs) : ∃ a i x q, w = .methodLinkNest a i x q := by
  have h2 := (List.mem_filter.mp h).2
  cases w <;> first | exact ⟨_, _, _, _, rfl⟩ | cases h2
theorem vNs_warm {s U : State} (hW : s.WarmedH U.vm) (h : ∀ w ∈ vNs, va_Nw w s) : ∀ w ∈ vNs, va_Nw w U := by
  intro w hw
  obtain ⟨a, i, x, q, rfl⟩ := vNs_is hw
  exact va_Nw.warmM hW (h _ hw)
theorem vNs_same {s U : State} (hW : s.vm = U.vm) (h : ∀ w ∈ vNs, va_Nw w s) : ∀ w ∈ vNs, va_Nw w U := by
  intro w hw
  obtain ⟨a, i, x, q, rfl⟩ := vNs_is hw
  exact va_Nw.same rfl hW (h _ hw)
def vSHL : List (Nat × Nat) := [(7, 10), (5, 7), (100, 200), (100, 3), (6, 11), (100, 6), (100, 6), (100, 6), (100, 36), (100, 36), (100, 6), (100, 6), (100, 6), (6, 11), (100, 6), (100, 6), (100, 6), (100, 36), (100, 36), (100, 6), (100, 6), (100, 6), (1, 6), (100, 6), (100, 6), (100, 6), (100, 36), (1, 6), (100, 6), (100, 6), (100, 6), (100, 36), (4, 3), (102, 10), (1, 6), (100, 6), (100, 6), (100, 6), (100, 36), (1, 6), (100, 6), (100, 6), (100, 6), (100, 36), (1, 6), (100, 6), (100, 6), (100, 6), (100, 36), (1, 6), (100, 6), (100, 6), (100, 6), (100, 36), (1, 6), (100, 6), (100, 6), (100, 6), (100, 36), (1, 6), (100, 6), (100, 6), (100, 6), (100, 36), (1, 6), (100, 6), (100, 6), (100, 6), (100, 36), (1, 6), (100, 6), (100, 6), (100, 6), (100, 36), (1, 6), (100, 6), (100, 6), (100, 6), (100, 36), (1, 6), (100, 6), (100, 6), (100, 6), (100, 36), (2, 2), (102, 2), (101, 2), (1, 6), (100, 6), (100, 6), (100, 6), (100, 36), (1, 6), (100, 6), (100, 6), (100, 6), (100, 36), (0, 3), (100, 5), (100, 5), (3, 3), (100, 6), (100, 6), (8, 29), (100, 200), (100, 4), (100, 12), (100, 12), (100, 12), (100, 72), (100, 12), (100, 12), (100, 12), (100, 36), (100, 56), (100, 56), (100, 112), (101, 2), (100, 560), (100, 5), (100, 5), (100, 6), (100, 6)]
def vSH (a : Nat) : Nat × Nat := vSHL.getD a (999, 0)
def vTyL : List (Nat → FieldType) := [tyX0, tyX1, tyX2, tyX3, tyX4, tyX5, tyX6, tyX7, tyX8]
def vTF (ci k : Nat) : FieldType := (vTyL.getD ci (fun _ => .int)) k
def vSZ (n : Nat) : Nat := ((vSHL.take n).map (fun q => q.2)).sum
def vmV (E : vE) (v : Value) : Value := match v with
  | .ref a => .ref (E.1 + a)
  | .retAddr k => if k = 1 then .ref E.2.1 else .retAddr k
  | v => v
def vrf (o : Option Nat) : Value := match o with
  | none => .null
  | some a => .ref a
theorem vrf_m (E : vE) (o : Option Nat) : va_rf (o.map (fun a => E.1 + a)) = vmV E (vrf o) := by cases o <;> rfl
def vfld (E : vE) (σ : vS) (id k : Nat) (ty : FieldType) : Value := match ty with
  | .long => .long (σ.2.1 id k)
  | .array _ => va_rf ((σ.2.2 id k).map (fun a => E.1 + a))
  | .object _ => va_rf ((σ.2.2 id k).map (fun a => E.1 + a))
  | _ => .int (σ.1 id k)
def vflds (E : vE) (σ : vS) (id ci N : Nat) : List Value := (List.range N).map (fun k => vfld E σ id k (vTF ci k))
def vcell (E : vE) (σ : vS) (id : Nat) : va_E :=
  if (vSH id).1 = 100 then .inl (E.2.2.2.1, (vSH id).2, .inl (σ.1 id))
  else if (vSH id).1 = 101 then .inl (E.2.2.2.2.1, (vSH id).2, .inl (σ.1 id))
  else if (vSH id).1 = 102 then .inl (E.2.2.2.2.2, (vSH id).2, .inr (.inr (.inr (.inr (fun k => (σ.2.2 id k).map (fun a => E.1 + a))))))
  else .inr ((vSH id).1, vflds E σ id (vSH id).1 (vSH id).2)
def vws (E : vE) (n : Nat) (σ : vS) : va_W := (List.range n).map (fun id => (E.1 + id, vcell E σ id))
def vtys (E : vE) : List (ClassId × FieldType) := [(E.2.2.2.1, .int), (E.2.2.2.2.1, .boolean), (E.2.2.2.2.2, .object RX1)]
/-- the script: its length and its ints stand in the picture too, as cells that no code reaches -/
def vLen (σ : vS) : Nat := (σ.1 1001 0).toNatClampNeg
def vW0 (E : vE) (n : Nat) (σ : vS) (s : State) (H : Heap) : Prop :=
  va_K E.2.2.1 vwCl (vtys E) s ∧ va_P E.2.2.1 vwCl (vws E n σ) H ∧ (∀ w ∈ vNs, va_Nw w s) ∧ va_AO RX1 s ∧ va_X E.2.1 (vLen σ) (σ.1 1000) s H ∧ E.2.1 < E.1 ∧ n ≤ 123
def vWld (E : vE) (n : Nat) (σ : vS) (s : State) (H : Heap) (locs : List Loc) : Prop :=
  vW0 E n σ s H ∧ va_S (fun q => E.1 ≤ q) s.heap H locs ∧ E.1 ≤ s.heap.size
def vLs (E : vE) (nL : Nat) (lm : Array Slot) (ls : List Value) : Prop := lm.size = nL ∧ lv_wf lm ∧ ∀ (i : Nat) (v : Value), ls[i]? = some v → v ≠ vJ → lm[i]? = some (.val (vmV E v))
def vCtx (M : vM) (p : Program) (s : State) (m : MethodId) (args : Array Value) (meth : Method) (c : Code) : Prop :=
  p.tables.exec = Jvm.exec ∧ c.code = M.2.2.1 ∧ c.maxLocals = M.2.2.2.1 ∧ s.vm.findClass M.1 = some m.cls ∧ (∀ w ∈ vT, w.before args s = true) ∧ meth.sig.returnType = M.2.2.2.2 ∧ meth.locks = false ∧ (M.2.1.name = "<init>" → meth.name = "<init>")
def vRet (M : vM) (pc : Nat) (v : Option Value) : Prop := match v with
  | none => decode M.2.2.1 pc = .ok (.return_, 1) ∧ M.2.2.2.2 = none
  | some (.int x) => decode M.2.2.1 pc = .ok (.ireturn, 1) ∧ ∃ ty, M.2.2.2.2 = some ty ∧ narrow ty (.int x) = .int x
  | some (.long _) => decode M.2.2.1 pc = .ok (.lreturn, 1) ∧ M.2.2.2.2 = some .long
  | _ => False
/-- the method M at pc, with d frames of room, n cells made and nf at its end: it comes to its end with K -/
def V (d nf n : Nat) (M : vM) (pc : Nat) (ls st : List Value) (σ : vS) (K : Option Value → vS → Prop) : Prop :=
  ∀ (E : vE) (p : Program) (l : Launch) (e : Env) (R : Room) (s : State) (m : MethodId) (args : Array Value) (below : List Frame) (meth : Method) (c : Code) (H : Heap) (locs : List Loc) (cells slots : Nat) (Q : State → Prop) (lm : Array Slot),
    vCtx M p s m args meth c → R.frames = d → 34 * d ≤ R.locals → cells + (nf - n) ≤ R.cells → slots + (vSZ nf - vSZ n) ≤ R.slots → n ≤ nf → s.heap.size + cells = E.1 + n → vWld E n σ s H locs → vLs E M.2.2.2.1 lm ls →
    (∀ (v : Option Value) (τ : vS) (H' : Heap) (locs' : List Loc) (pc' : Nat) (lm' : Array Slot), K v τ → vWld E nf τ s H' locs' → vRet M pc' v → W p l e R s m args below meth c H' locs' (cells + (nf - n)) (slots + (vSZ nf - vSZ n)) Q (F0 m pc' lm' (v.map (vmV E)).toList)) →
    W p l e R s m args below meth c H locs cells slots Q (F0 m pc lm (st.map (vmV E)))
def Ki (k : Int32 → vS → Prop) : Option Value → vS → Prop := fun v σ => match v with
  | some (.int x) => k x σ
  | _ => False
def Kl (k : Int64 → vS → Prop) : Option Value → vS → Prop := fun v σ => match v with
  | some (.long x) => k x σ
  | _ => False
def Kv (k : vS → Prop) : Option Value → vS → Prop := fun v σ => match v with
  | none => k σ
  | _ => False
/-! ===== rows of a program: one instruction ===== -/
def vI (M : vM) (pc : Nat) (i : Instr) (len pc' : Nat) : Prop := decode M.2.2.1 pc = .ok (i, len) ∧ pc + len = pc'
def vIc (M : vM) (pc : Nat) (q : Jvm.ClassFile.Cond) (tgt pc' : Nat) : Prop := ∃ off : Int, decode M.2.2.1 pc = .ok (.if_icmp q off, 3) ∧ (pc : Int) + off = (tgt : Int) ∧ pc + 3 = pc'
def vIf (M : vM) (pc : Nat) (q : Jvm.ClassFile.Cond) (tgt pc' : Nat) : Prop := ∃ off : Int, decode M.2.2.1 pc = .ok (.ifCond q off, 3) ∧ (pc : Int) + off = (tgt : Int) ∧ pc + 3 = pc'
def vGo (M : vM) (pc : Nat) (tgt : Nat) : Prop := ∃ off : Int, decode M.2.2.1 pc = .ok (.goto off, 3) ∧ (pc : Int) + off = (tgt : Int)
def vNl (M : vM) (pc : Nat) (tgt pc' : Nat) : Prop := ∃ off : Int, decode M.2.2.1 pc = .ok (.ifnull off, 3) ∧ (pc : Int) + off = (tgt : Int) ∧ pc + 3 = pc'
def vNn (M : vM) (pc : Nat) (tgt pc' : Nat) : Prop := ∃ off : Int, decode M.2.2.1 pc = .ok (.ifnonnull off, 3) ∧ (pc : Int) + off = (tgt : Int) ∧ pc + 3 = pc'
/-- an int is pushed -/
def vCn (M : vM) (pc : Nat) (v : Int32) (pc' : Nat) : Prop :=
  (∃ x : Int, decode M.2.2.1 pc = .ok (.iconst x, 1) ∧ Int32.ofInt x = v ∧ pc + 1 = pc') ∨ (∃ x : Int, decode M.2.2.1 pc = .ok (.bipush x, 2) ∧ (Int8.ofInt x).toInt32 = v ∧ pc + 2 = pc') ∨
  (∃ x : Int, decode M.2.2.1 pc = .ok (.sipush x, 3) ∧ (Int16.ofInt x).toInt32 = v ∧ pc + 3 = pc') ∨ (∃ x : Nat, decode M.2.2.1 pc = .ok (.ldc x, 2) ∧ Cond.constant M.1 x v ∈ vT ∧ pc + 2 = pc') ∨ (∃ x : Nat, decode M.2.2.1 pc = .ok (.ldc_w x, 3) ∧ Cond.constant M.1 x v ∈ vT ∧ pc + 3 = pc')
def vCl (M : vM) (pc : Nat) (v : Int64) (pc' : Nat) : Prop :=
  (∃ x : Fin 2, decode M.2.2.1 pc = .ok (.lconst x, 1) ∧ Int64.ofNat (x : Nat) = v ∧ pc + 1 = pc') ∨ (∃ x : Nat, decode M.2.2.1 pc = .ok (.ldc2_w x, 3) ∧ Cond.constantLong M.1 x v ∈ vT ∧ pc + 3 = pc')
def vLi (M : vM) (pc k pc' : Nat) : Prop := (∃ q : Fin 4, decode M.2.2.1 pc = .ok (.iload_n q, 1) ∧ (q : Nat) = k ∧ pc + 1 = pc') ∨ (decode M.2.2.1 pc = .ok (.iload k, 2) ∧ pc + 2 = pc')
def vLl (M : vM) (pc k pc' : Nat) : Prop := (∃ q : Fin 4, decode M.2.2.1 pc = .ok (.lload_n q, 1) ∧ (q : Nat) = k ∧ pc + 1 = pc') ∨ (decode M.2.2.1 pc = .ok (.lload k, 2) ∧ pc + 2 = pc')
def vLa (M : vM) (pc k pc' : Nat) : Prop := ∃ q : Fin 4, decode M.2.2.1 pc = .ok (.aload_n q, 1) ∧ (q : Nat) = k ∧ pc + 1 = pc'
def vSi (M : vM) (pc k pc' : Nat) : Prop := ((∃ q : Fin 4, decode M.2.2.1 pc = .ok (.istore_n q, 1) ∧ (q : Nat) = k ∧ pc + 1 = pc') ∨ (decode M.2.2.1 pc = .ok (.istore k, 2) ∧ pc + 2 = pc')) ∧ k < M.2.2.2.1
def vSl (M : vM) (pc k pc' : Nat) : Prop := ((∃ q : Fin 4, decode M.2.2.1 pc = .ok (.lstore_n q, 1) ∧ (q : Nat) = k ∧ pc + 1 = pc') ∨ (decode M.2.2.1 pc = .ok (.lstore k, 2) ∧ pc + 2 = pc')) ∧ k + 1 < M.2.2.2.1
def vSa (M : vM) (pc k pc' : Nat) : Prop := (∃ q : Fin 4, decode M.2.2.1 pc = .ok (.astore_n q, 1) ∧ (q : Nat) = k ∧ pc + 1 = pc') ∧ k < M.2.2.2.1
def vIn (M : vM) (pc k : Nat) (v : Int32) (pc' : Nat) : Prop := ∃ x : Int, decode M.2.2.1 pc = .ok (.iinc k x, 3) ∧ Int32.ofInt x = v ∧ k < M.2.2.2.1 ∧ pc + 3 = pc'
def vNF (ci : Nat) : Nat := ([3, 6, 2, 3, 3, 7, 11, 10, 29] : List Nat).getD ci 0
abbrev vOb (n a ci : Nat) : Prop := a < n ∧ vSH a = (ci, vNF ci) ∧ ci < 9
abbrev vAr (n a kd len : Nat) : Prop := a < n ∧ vSH a = (kd, len) ∧ len < 2147483648
/-- getfield, putfield: field k of class ci -/
def vGf (M : vM) (pc ci k pc' : Nat) : Prop := ∃ (idx : Nat) (r : vw_C), decode M.2.2.1 pc = .ok (.getfield idx, 3) ∧ pc + 3 = pc' ∧ vwCl[ci]? = some r ∧ k < r.2.2 ∧ Cond.fieldLink M.1 idx (r.2.1 k).1 (r.2.1 k).2.1 (r.2.1 k).2.2.1 ∈ vT
def vPf (M : vM) (pc ci k pc' : Nat) : Prop := ∃ (idx : Nat) (r : vw_C), decode M.2.2.1 pc = .ok (.putfield idx, 3) ∧ pc + 3 = pc' ∧ vwCl[ci]? = some r ∧ k < r.2.2 ∧ Cond.fieldLink M.1 idx (r.2.1 k).1 (r.2.1 k).2.1 (r.2.1 k).2.2.1 ∈ vT ∧ ((r.2.1 k).2.2.2 = false ∨ ((r.2.1 k).2.2.2 = true ∧ M.2.1.name = "<init>" ∧ (r.2.1 k).1 = M.1))
def up {α : Type} (I : Nat → Nat → α) (a : Nat) (f : Nat → α) : Nat → Nat → α := fun b => if b = a then f else I b
theorem up_s {α : Type} {I : Nat → Nat → α} {a : Nat} {f : Nat → α} : up I a f a = f := by simp [up]
theorem up_n {α : Type} {I : Nat → Nat → α} {a b : Nat} {f : Nat → α} (h : b ≠ a) : up I a f b = I b := by simp [up, h]
theorem va_up_s {α : Type} {f : Nat → α} {k : Nat} {v : α} : va_up f k v k = v := by simp [va_up]
theorem va_up_n {α : Type} {f : Nat → α} {k j : Nat} {v : α} (h : j ≠ k) : va_up f k v j = f j := by simp [va_up, h]

theorem vCok : ∀ (ci : Nat) (r : vw_C), vwCl[ci]? = some r → (∀ x ∈ u_ws r.1 r.2.1 r.2.2, x ∈ vT) ∧ (∀ k, k < r.2.2 → parseFieldDescriptor (r.2.1 k).2.2.1 = some (vTF ci k)) ∧ (∀ a, a < r.2.2 → ∀ b, b < r.2.2 → a ≠ b → (r.2.1 a).2.1 ≠ (r.2.1 b).2.1) ∧ r.2.2 = vNF ci := by
  intro ci r h
  match ci, h with
  | 0, h => cases h; exact ⟨by decide +kernel, tyX0_ok, nmX0, rfl⟩
  | 1, h => cases h; exact ⟨by decide +kernel, tyX1_ok, nmX1, rfl⟩
  | 2, h => cases h; exact ⟨by decide +kernel, tyX2_ok, nmX2, rfl⟩
  | 3, h => cases h; exact ⟨by decide +kernel, tyX3_ok, nmX3, rfl⟩
  | 4, h => cases h; exact ⟨by decide +kernel, tyX4_ok, nmX4, rfl⟩
  | 5, h => cases h; exact ⟨by decide +kernel, tyX5_ok, nmX5, rfl⟩
  | 6, h => cases h; exact ⟨by decide +kernel, tyX6_ok, nmX6, rfl⟩
  | 7, h => cases h; exact ⟨by decide +kernel, tyX7_ok, nmX7, rfl⟩
  | 8, h => cases h; exact ⟨by decide +kernel, tyX8_ok, nmX8, rfl⟩
  | ci + 9, h => simp [vwCl] at h
/-! ===== the list of cells ===== -/
theorem vws_get {E : vE} {n : Nat} {σ : vS} {a : Nat} (h : a < n) : (vws E n σ)[a]? = some (E.1 + a, vcell E σ a) := by
  simp [vws, h]
theorem vws_D (E : vE) (n : Nat) (σ : vS) : va_D (fun q => E.1 ≤ q) (vws E n σ) := by
  refine ⟨fun i j x y hx hy hxy => ?_, fun k q hq => ?_⟩
  · have hi : i < n := by have := (List.getElem?_eq_some_iff.mp hx).1; simpa [vws] using this
    have hj : j < n := by have := (List.getElem?_eq_some_iff.mp hy).1; simpa [vws] using this
    rw [vws_get hi] at hx; rw [vws_get hj] at hy
    cases hx; cases hy
    simp only at hxy
    omega
  · have hi : k < n := by have := (List.getElem?_eq_some_iff.mp hq).1; simpa [vws] using this
    rw [vws_get hi] at hq
    cases hq
    exact Nat.le_add_right _ _
theorem vws_set {E : vE} {n : Nat} {σ τ : vS} {a : Nat} {x : va_E} (h : a < n) (hx : x = vcell E τ a) (ho : ∀ b, b < n → b ≠ a → vcell E τ b = vcell E σ b) : (vws E n σ).set a (E.1 + a, x) = vws E n τ := by
  apply List.ext_getElem?
  intro i
  rw [List.getElem?_set]
  by_cases hi : i < n
  · by_cases hia : a = i
    · subst hia
      rw [if_pos rfl, if_pos (by simpa [vws] using h), vws_get h, hx]
    · rw [if_neg hia, vws_get hi, vws_get hi, ho i hi (Ne.symm hia)]
  · have e1 : (vws E n τ)[i]? = none := by rw [List.getElem?_eq_none_iff]; simp [vws]; omega
    have e2 : (vws E n σ)[i]? = none := by rw [List.getElem?_eq_none_iff]; simp [vws]; omega
    rw [e1, e2]
    by_cases hia : a = i
    · subst hia
      exact absurd h hi
    · rw [if_neg hia]
theorem vcell_ob {E : vE} {σ : vS} {a ci : Nat} (h : vSH a = (ci, vNF ci)) (hc : ci < 9) : vcell E σ a = .inr (ci, vflds E σ a ci (vNF ci)) := by
  simp only [vcell, h]
  rw [if_neg (by omega), if_neg (by omega), if_neg (by omega)]
theorem vcell_ia {E : vE} {σ : vS} {a len : Nat} (h : vSH a = (100, len)) : vcell E σ a = .inl (E.2.2.2.1, len, .inl (σ.1 a)) := by
  simp [vcell, h]
theorem vcell_za {E : vE} {σ : vS} {a len : Nat} (h : vSH a = (101, len)) : vcell E σ a = .inl (E.2.2.2.2.1, len, .inl (σ.1 a)) := by
  simp [vcell, h]
theorem vcell_qa {E : vE} {σ : vS} {a len : Nat} (h : vSH a = (102, len)) : vcell E σ a = .inl (E.2.2.2.2.2, len, .inr (.inr (.inr (.inr (fun k => (σ.2.2 a k).map (fun b => E.1 + b)))))) := by
  simp [vcell, h]
theorem vflds_get {E : vE} {σ : vS} {a ci N k : Nat} (h : k < N) : (vflds E σ a ci N)[k]? = some (vfld E σ a k (vTF ci k)) := by simp [vflds, h]
theorem vflds_len {E : vE} {σ : vS} {a ci N : Nat} : (vflds E σ a ci N).length = N := by simp [vflds]
/-- a picture that differs in the cell a alone -/
theorem vcell_eq {E : vE} {σ τ : vS} {b : Nat} (h1 : τ.1 b = σ.1 b) (h2 : τ.2.1 b = σ.2.1 b) (h3 : τ.2.2 b = σ.2.2 b) : vcell E τ b = vcell E σ b := by
  simp only [vcell, vflds, vfld, h1, h2, h3]
theorem vflds_set {E : vE} {σ τ : vS} {a ci N k : Nat} {v : Value} (hk : k < N) (hv : v = vfld E τ a k (vTF ci k)) (ho : ∀ j, j < N → j ≠ k → vfld E τ a j (vTF ci j) = vfld E σ a j (vTF ci j)) : (vflds E σ a ci N).set k v = vflds E τ a ci N := by
  apply List.ext_getElem?
  intro i
  rw [List.getElem?_set]
  by_cases hi : i < N
  · by_cases hia : k = i
    · subst hia
      rw [if_pos rfl, if_pos (by rw [vflds_len]; exact hk), vflds_get hk, hv]
    · rw [if_neg hia, vflds_get hi, vflds_get hi, ho i hi (Ne.symm hia)]
  · have e1 : (vflds E τ a ci N)[i]? = none := by rw [List.getElem?_eq_none_iff, vflds_len]; omega
    have e2 : (vflds E σ a ci N)[i]? = none := by rw [List.getElem?_eq_none_iff, vflds_len]; omega
    rw [e1, e2]
    by_cases hia : k = i
    · subst hia
      exact absurd hk hi
    · rw [if_neg hia]
/-- the world behind a step that changed one cell -/
theorem vWld_put {E : vE} {n : Nat} {σ τ : vS} {s : State} {H H1 : Heap} {locs locs1 : List Loc} {a : Nat} {x : va_E} (hw : vWld E n σ s H locs) (ha : a < n) (hx : x = vcell E τ a) (h1 : ∀ b, b ≠ a → τ.1 b = σ.1 b) (h2 : ∀ b, b ≠ a → τ.2.1 b = σ.2.1 b) (h3 : ∀ b, b ≠ a → τ.2.2 b = σ.2.2 b)
    (hP : va_P E.2.2.1 vwCl ((vws E n σ).set a (E.1 + a, x)) H1) (hS : va_S (fun q => E.1 ≤ q) s.heap H1 locs1) : vWld E n τ s H1 locs1 := by
  obtain ⟨⟨k1, k2, k4, k5, k6, k7, k8⟩, k9, k10⟩ := hw
  have e0 : a ≠ 1000 := by omega
  have e1 : a ≠ 1001 := by omega
  have l0 : τ.1 1000 = σ.1 1000 := h1 1000 (Ne.symm e0)
  have l1 : vLen τ = vLen σ := by simp only [vLen, h1 1001 (Ne.symm e1)]
  have hb : E.2.1 < s.heap.size := Nat.lt_of_lt_of_le k7 k10
  have hq : H1[E.2.1]? = H[E.2.1]? := by rw [hS.2.1 _ hb (Nat.not_le.mpr k7), k9.2.1 _ hb (Nat.not_le.mpr k7)]
  rw [vws_set ha hx (fun b _ hb => vcell_eq (h1 b hb) (h2 b hb) (h3 b hb))] at hP
  exact ⟨⟨k1, hP, k4, k5, by rw [l0, l1]; exact k6.kept hq, k7, k8⟩, hS, k10⟩
theorem vWld_low {E : vE} {n : Nat} {σ : vS} {s : State} {H : Heap} {locs : List Loc} (hw : vWld E n σ s H locs) : E.1 + n ≤ H.size := by
  rcases Nat.eq_zero_or_pos n with h | h
  · subst h
    exact Nat.le_trans hw.2.2 hw.2.1.1
  · have := (hw.1.2.1 (n - 1) _ (vws_get (by omega))).lt
    simp only at this
    omega
/-- the heap ends where the cells end -/
theorem W_sized {p : Program} {l : Launch} {e : Env} {R : Room} {s : State} {m : MethodId} {args : Array Value} {below : List Frame} {meth : Method} {c : Code} {H : Heap} {locs : List Loc} {cells slots n : Nat} {Q : State → Prop} {g : JFrame} {E : vE} {σ : vS} (hw : vWld E n σ s H locs) (h6 : s.heap.size + cells = E.1 + n) (h : H.size = E.1 + n → W p l e R s m args below meth c H locs cells slots Q g) : W p l e R s m args below meth c H locs cells slots Q g := by
  intro T hT X
  have h1 := X.heapSize
  have h2 := vWld_low hw
  rw [hT] at h1
  exact h (by omega) T hT X

/-! ===== locals ===== -/
def vprs (E : vE) (ls : List Value) : List (Nat × Value) := (List.range ls.length).filterMap (fun i => match ls[i]? with
  | some v => if v = vJ then none else some (i, vmV E v)
  | none => none)
theorem vprs_mem {E : vE} {ls : List Value} {i : Nat} {v : Value} (h : ls[i]? = some v) (hj : v ≠ vJ) : (i, vmV E v) ∈ vprs E ls := by
  have hi : i < ls.length := (List.getElem?_eq_some_iff.mp h).1
  refine List.mem_filterMap.mpr ⟨i, List.mem_range.mpr hi, ?_⟩
  simp only [h]
  rw [if_neg hj]
theorem vprs_of {E : vE} {ls : List Value} {q : Nat × Value} (h : q ∈ vprs E ls) : ∃ v, ls[q.1]? = some v ∧ v ≠ vJ ∧ q.2 = vmV E v := by
  obtain ⟨i, hi, he⟩ := List.mem_filterMap.mp h
  have hl : i < ls.length := List.mem_range.mp hi
  have e : ls[i]? = some ls[i] := List.getElem?_eq_getElem hl
  simp only [e] at he
  by_cases hj : ls[i] = vJ
  · rw [if_pos hj] at he; cases he
  · rw [if_neg hj] at he
    cases he
    exact ⟨_, e, hj, rfl⟩
theorem vLs_has {E : vE} {nL : Nat} {lm : Array Slot} {ls : List Value} (h : vLs E nL lm ls) : lv_has lm nL (vprs E ls) := by
  refine ⟨h.1, h.2.1, fun q hq => ?_⟩
  obtain ⟨v, h1, h2, h3⟩ := vprs_of hq
  rw [h3]
  exact h.2.2 _ _ h1 h2
theorem vmV_cat (E : vE) (v : Value) : (vmV E v).category = v.category := by
  cases v <;> simp [vmV, Value.category]
  rename_i k
  by_cases h : k = 1 <;> simp [h]
/-- what a store in slot k leaves of the list -/
def vSt (ls ls' : List Value) (k : Nat) (v : Value) : Prop := (∀ (i : Nat) (w : Value), ls'[i]? = some w → w ≠ vJ → (i = k ∧ w = v) ∨ (i ≠ k ∧ ls[i]? = some w)) ∧ ∀ w, ls[k - 1]? = some w → 1 ≤ k → w.category = 1
theorem vSt_ls {E : vE} {nL k : Nat} {lm' : Array Slot} {ls ls' : List Value} {v : Value} (hs : vSt ls ls' k v) (h' : lv_has lm' nL ((k, vmV E v) :: (vprs E ls).filter (fun q => !(q.1 == k) && !(q.1 + 1 == k && q.2.category == 2)))) : vLs E nL lm' ls' := by
  refine ⟨h'.1, h'.2.1, fun i w hw hj => ?_⟩
  rcases hs.1 i w hw hj with ⟨rfl, rfl⟩ | ⟨h1, h2⟩
  · exact h'.2.2 _ List.mem_cons_self
  · refine h'.2.2 (i, vmV E w) (List.mem_cons_of_mem _ (List.mem_filter.mpr ⟨vprs_mem h2 hj, ?_⟩))
    have hc : ¬ (i + 1 = k ∧ (vmV E w).category = 2) := by
      rintro ⟨q1, q2⟩
      have := hs.2 w (by rw [← q1]; exact h2) (by omega)
      rw [vmV_cat] at q2
      omega
    simp only [Bool.and_eq_true, Bool.not_eq_true', beq_eq_false_iff_ne, ne_eq, Bool.and_eq_false_iff]
    refine ⟨h1, ?_⟩
    by_cases q : i + 1 = k
    · exact Or.inr (fun z => hc ⟨q, z⟩)
    · exact Or.inl q
/-- a store of two slots -/
def vSt2 (ls ls' : List Value) (k : Nat) (v : Value) : Prop := (∀ (i : Nat) (w : Value), ls'[i]? = some w → w ≠ vJ → (i = k ∧ w = v) ∨ (i ≠ k ∧ i ≠ k + 1 ∧ ls[i]? = some w)) ∧ ∀ w, ls[k - 1]? = some w → 1 ≤ k → w.category = 1

section VSt
variable {d nf n : Nat} {M : vM} {pc pc' tgt : Nat} {ls st : List Value} {σ : vS} {K : Option Value → vS → Prop}
theorem st_c {v : Int32} (r : vCn M pc v pc') (h : V d nf n M pc' ls (.int v :: st) σ K) : V d nf n M pc ls st σ K := by
  intro E p l e R s m args below meth c H locs cells slots Q lm C h1 h2 h3 h4 h5 h6 hw hl hr
  rcases r with ⟨x, r1, r2, rfl⟩ | ⟨x, r1, r2, rfl⟩ | ⟨x, r1, r2, rfl⟩ | ⟨x, r1, r2, rfl⟩ | ⟨x, r1, r2, rfl⟩
  · exact lv_iconst C.1 C.2.1 r1 r2 (h E p l e R s m args below meth c H locs cells slots Q lm C h1 h2 h3 h4 h5 h6 hw hl hr)
  · exact lv_bipush C.1 C.2.1 r1 r2 (h E p l e R s m args below meth c H locs cells slots Q lm C h1 h2 h3 h4 h5 h6 hw hl hr)
  · exact lv_sipush C.1 C.2.1 r1 r2 (h E p l e R s m args below meth c H locs cells slots Q lm C h1 h2 h3 h4 h5 h6 hw hl hr)
  · exact lv_ldc C.1 C.2.1 C.2.2.2.1 (C.2.2.2.2.1 _ r2) r1 (h E p l e R s m args below meth c H locs cells slots Q lm C h1 h2 h3 h4 h5 h6 hw hl hr)
  · exact lv_ldcw C.1 C.2.1 C.2.2.2.1 (C.2.2.2.2.1 _ r2) r1 (h E p l e R s m args below meth c H locs cells slots Q lm C h1 h2 h3 h4 h5 h6 hw hl hr)
theorem st_cl {v : Int64} (r : vCl M pc v pc') (h : V d nf n M pc' ls (.long v :: st) σ K) : V d nf n M pc ls st σ K := by
  intro E p l e R s m args below meth c H locs cells slots Q lm C h1 h2 h3 h4 h5 h6 hw hl hr
  rcases r with ⟨x, r1, r2, rfl⟩ | ⟨x, r1, r2, rfl⟩
  · exact lv_lconst C.1 C.2.1 r1 r2 (h E p l e R s m args below meth c H locs cells slots Q lm C h1 h2 h3 h4 h5 h6 hw hl hr)
  · exact lv_ldc2 C.1 C.2.1 C.2.2.2.1 (C.2.2.2.2.1 _ r2) r1 (h E p l e R s m args below meth c H locs cells slots Q lm C h1 h2 h3 h4 h5 h6 hw hl hr)
theorem vLs_at {E : vE} {nL : Nat} {lm : Array Slot} {v : Value} (hl : vLs E nL lm ls) (i : Nat) (h : ls[i]? = some v) (hj : v ≠ vJ) : lm[i]? = some (.val (vmV E v)) := hl.2.2 i v h hj
theorem st_iload {k : Nat} {x : Int32} (r : vLi M pc k pc') (hk : ls[k]? = some (.int x)) (h : V d nf n M pc' ls (.int x :: st) σ K) : V d nf n M pc ls st σ K := by
  intro E p l e R s m args below meth c H locs cells slots Q lm C h1 h2 h3 h4 h5 h6 hw hl hr
  rcases r with ⟨q, r1, r2, rfl⟩ | ⟨r1, rfl⟩
  · exact lv_iload_n C.1 C.2.1 r1 r2 (vLs_at hl _ hk (by intro q; cases q)) (h E p l e R s m args below meth c H locs cells slots Q lm C h1 h2 h3 h4 h5 h6 hw hl hr)
  · exact lv_iload C.1 C.2.1 r1 (vLs_at hl _ hk (by intro q; cases q)) (h E p l e R s m args below meth c H locs cells slots Q lm C h1 h2 h3 h4 h5 h6 hw hl hr)
theorem st_lload {k : Nat} {x : Int64} (r : vLl M pc k pc') (hk : ls[k]? = some (.long x)) (h : V d nf n M pc' ls (.long x :: st) σ K) : V d nf n M pc ls st σ K := by
  intro E p l e R s m args below meth c H locs cells slots Q lm C h1 h2 h3 h4 h5 h6 hw hl hr
  rcases r with ⟨q, r1, r2, rfl⟩ | ⟨r1, rfl⟩
  · exact lv_lload_n C.1 C.2.1 r1 r2 (vLs_at hl _ hk (by intro q; cases q)) (h E p l e R s m args below meth c H locs cells slots Q lm C h1 h2 h3 h4 h5 h6 hw hl hr)
  · exact lv_lload C.1 C.2.1 r1 (vLs_at hl _ hk (by intro q; cases q)) (h E p l e R s m args below meth c H locs cells slots Q lm C h1 h2 h3 h4 h5 h6 hw hl hr)
theorem st_aload {k a : Nat} (r : vLa M pc k pc') (hk : ls[k]? = some (.ref a)) (h : V d nf n M pc' ls (.ref a :: st) σ K) : V d nf n M pc ls st σ K := by
  intro E p l e R s m args below meth c H locs cells slots Q lm C h1 h2 h3 h4 h5 h6 hw hl hr
  obtain ⟨q, r1, r2, rfl⟩ := r
  exact lv_aload_n C.1 C.2.1 r1 r2 (vLs_at hl _ hk (by intro q; cases q)) (h E p l e R s m args below meth c H locs cells slots Q lm C h1 h2 h3 h4 h5 h6 hw hl hr)
theorem st_xload {k : Nat} (r : vLa M pc k pc') (hk : ls[k]? = some vX) (h : V d nf n M pc' ls (vX :: st) σ K) : V d nf n M pc ls st σ K := by
  intro E p l e R s m args below meth c H locs cells slots Q lm C h1 h2 h3 h4 h5 h6 hw hl hr
  obtain ⟨q, r1, r2, rfl⟩ := r
  exact lv_aload_n C.1 C.2.1 r1 r2 (vLs_at hl _ hk (by intro q; cases q)) (h E p l e R s m args below meth c H locs cells slots Q lm C h1 h2 h3 h4 h5 h6 hw hl hr)
theorem st_istoreG {k : Nat} {x : Int32} {ls' : List Value} (r : vSi M pc k pc') (hs : vSt ls ls' k (.int x)) (h : V d nf n M pc' ls' st σ K) : V d nf n M pc ls (.int x :: st) σ K := by
  intro E p l e R s m args below meth c H locs cells slots Q lm C h1 h2 h3 h4 h5 h6 hw hl hr
  obtain ⟨r, hk⟩ := r
  rcases r with ⟨q, r1, r2, rfl⟩ | ⟨r1, rfl⟩
  · exact lv_istore_n C.1 C.2.1 r1 r2 (vLs_has hl) hk rfl (fun lm' h' => h E p l e R s m args below meth c H locs cells slots Q lm' C h1 h2 h3 h4 h5 h6 hw (vSt_ls hs h') hr)
  · exact lv_istore C.1 C.2.1 r1 (vLs_has hl) hk rfl (fun lm' h' => h E p l e R s m args below meth c H locs cells slots Q lm' C h1 h2 h3 h4 h5 h6 hw (vSt_ls hs h') hr)
theorem st_astoreG {k a : Nat} {ls' : List Value} (r : vSa M pc k pc') (hs : vSt ls ls' k (.ref a)) (h : V d nf n M pc' ls' st σ K) : V d nf n M pc ls (.ref a :: st) σ K := by
  intro E p l e R s m args below meth c H locs cells slots Q lm C h1 h2 h3 h4 h5 h6 hw hl hr
  obtain ⟨⟨q, r1, r2, rfl⟩, hk⟩ := r
  exact lv_astore_n C.1 C.2.1 r1 r2 (vLs_has hl) hk rfl (fun lm' h' => h E p l e R s m args below meth c H locs cells slots Q lm' C h1 h2 h3 h4 h5 h6 hw (vSt_ls hs h') hr)
theorem st_iincG {k : Nat} {x v : Int32} {ls' : List Value} (r : vIn M pc k v pc') (hx : ls[k]? = some (.int x)) (hs : vSt ls ls' k (.int (x + v))) (h : V d nf n M pc' ls' st σ K) : V d nf n M pc ls st σ K := by
  intro E p l e R s m args below meth c H locs cells slots Q lm C h1 h2 h3 h4 h5 h6 hw hl hr
  obtain ⟨y, r1, r2, hk, rfl⟩ := r
  subst r2
  have hh : lv_has lm M.2.2.2.1 ((k, .int x) :: vprs E ls) := by
    refine ⟨hl.1, hl.2.1, fun q hq => ?_⟩
    rcases List.mem_cons.mp hq with rfl | hq
    · exact vLs_at hl k hx (by intro q; cases q)
    · exact (vLs_has hl).2.2 q hq
  refine lv_iinc (k := 0) C.1 C.2.1 r1 hh rfl rfl hk rfl (fun lm' h' => ?_)
  have h9 : lv_has lm' M.2.2.2.1 ((k, vmV E (.int (x + Int32.ofInt y))) :: (vprs E ls).filter (fun q => !(q.1 == k) && !(q.1 + 1 == k && q.2.category == 2))) := by
    refine ⟨h'.1, h'.2.1, fun q hq => h'.2.2 q ?_⟩
    rcases List.mem_cons.mp hq with rfl | hq
    · exact List.mem_cons_self
    · refine List.mem_cons_of_mem _ (List.mem_filter.mpr ⟨List.mem_cons_of_mem _ (List.mem_filter.mp hq).1, (List.mem_filter.mp hq).2⟩)
  exact h E p l e R s m args below meth c H locs cells slots Q lm' C h1 h2 h3 h4 h5 h6 hw (vSt_ls hs h9) hr
theorem st_lstoreG {k : Nat} {x : Int64} {ls' : List Value} (r : vSl M pc k pc') (hs : vSt2 ls ls' k (.long x)) (h : V d nf n M pc' ls' st σ K) : V d nf n M pc ls (.long x :: st) σ K := by
  intro E p l e R s m args below meth c H locs cells slots Q lm C h1 h2 h3 h4 h5 h6 hw hl hr
  obtain ⟨r, hk⟩ := r
  have key : ∀ lm' : Array Slot, lv_has lm' M.2.2.2.1 ((k, .long x) :: (vprs E ls).filter (fun q => !(q.1 == k) && (!(q.1 == k + 1) && !(q.1 + 1 == k && q.2.category == 2)))) → vLs E M.2.2.2.1 lm' ls' := by
    intro lm' h'
    refine ⟨h'.1, h'.2.1, fun i w hw hj => ?_⟩
    rcases hs.1 i w hw hj with ⟨rfl, rfl⟩ | ⟨g1, g2, g3⟩
    · exact h'.2.2 _ List.mem_cons_self
    · refine h'.2.2 (i, vmV E w) (List.mem_cons_of_mem _ (List.mem_filter.mpr ⟨vprs_mem g3 hj, ?_⟩))
      have hc : i + 1 = k → ¬ (vmV E w).category = 2 := by
        intro q1 q2
        have := hs.2 w (by rw [← q1]; exact g3) (by omega)
        rw [vmV_cat] at q2
        omega
      by_cases q : i + 1 = k
      · simp [g1, g2, q, hc q]
      · simp [g1, g2, q]
  rcases r with ⟨q, r1, r2, rfl⟩ | ⟨r1, rfl⟩
  · exact lv_lstore_n C.1 C.2.1 r1 r2 (vLs_has hl) hk rfl (fun lm' h' => h E p l e R s m args below meth c H locs cells slots Q lm' C h1 h2 h3 h4 h5 h6 hw (key _ h') hr)
  · exact lv_lstore C.1 C.2.1 r1 (vLs_has hl) hk rfl (fun lm' h' => h E p l e R s m args below meth c H locs cells slots Q lm' C h1 h2 h3 h4 h5 h6 hw (key _ h') hr)
theorem st_iadd {x y : Int32} (r : vI M pc .iadd 1 pc') (h : V d nf n M pc' ls (.int (x + y) :: st) σ K) : V d nf n M pc ls (.int y :: .int x :: st) σ K := by
  intro E p l e R s m args below meth c H locs cells slots Q lm C h1 h2 h3 h4 h5 h6 hw hl hr
  obtain ⟨r1, rfl⟩ := r
  exact lv_iadd C.1 C.2.1 r1 (h E p l e R s m args below meth c H locs cells slots Q lm C h1 h2 h3 h4 h5 h6 hw hl hr)
theorem st_isub {x y : Int32} (r : vI M pc .isub 1 pc') (h : V d nf n M pc' ls (.int (x - y) :: st) σ K) : V d nf n M pc ls (.int y :: .int x :: st) σ K := by
  intro E p l e R s m args below meth c H locs cells slots Q lm C h1 h2 h3 h4 h5 h6 hw hl hr
  obtain ⟨r1, rfl⟩ := r
  exact lv_isub C.1 C.2.1 r1 (h E p l e R s m args below meth c H locs cells slots Q lm C h1 h2 h3 h4 h5 h6 hw hl hr)
theorem st_imul {x y : Int32} (r : vI M pc .imul 1 pc') (h : V d nf n M pc' ls (.int (x * y) :: st) σ K) : V d nf n M pc ls (.int y :: .int x :: st) σ K := by
  intro E p l e R s m args below meth c H locs cells slots Q lm C h1 h2 h3 h4 h5 h6 hw hl hr
  obtain ⟨r1, rfl⟩ := r
  exact lv_imul C.1 C.2.1 r1 (h E p l e R s m args below meth c H locs cells slots Q lm C h1 h2 h3 h4 h5 h6 hw hl hr)
theorem st_iand {x y : Int32} (r : vI M pc .iand 1 pc') (h : V d nf n M pc' ls (.int (x &&& y) :: st) σ K) : V d nf n M pc ls (.int y :: .int x :: st) σ K := by
  intro E p l e R s m args below meth c H locs cells slots Q lm C h1 h2 h3 h4 h5 h6 hw hl hr
  obtain ⟨r1, rfl⟩ := r
  exact lv_iand C.1 C.2.1 r1 (h E p l e R s m args below meth c H locs cells slots Q lm C h1 h2 h3 h4 h5 h6 hw hl hr)
theorem st_ior {x y : Int32} (r : vI M pc .ior 1 pc') (h : V d nf n M pc' ls (.int (x ||| y) :: st) σ K) : V d nf n M pc ls (.int y :: .int x :: st) σ K := by
  intro E p l e R s m args below meth c H locs cells slots Q lm C h1 h2 h3 h4 h5 h6 hw hl hr
  obtain ⟨r1, rfl⟩ := r
  exact lv_ior C.1 C.2.1 r1 (h E p l e R s m args below meth c H locs cells slots Q lm C h1 h2 h3 h4 h5 h6 hw hl hr)
theorem st_ixor {x y : Int32} (r : vI M pc .ixor 1 pc') (h : V d nf n M pc' ls (.int (x ^^^ y) :: st) σ K) : V d nf n M pc ls (.int y :: .int x :: st) σ K := by
  intro E p l e R s m args below meth c H locs cells slots Q lm C h1 h2 h3 h4 h5 h6 hw hl hr
  obtain ⟨r1, rfl⟩ := r
  exact lv_ixor C.1 C.2.1 r1 (h E p l e R s m args below meth c H locs cells slots Q lm C h1 h2 h3 h4 h5 h6 hw hl hr)
theorem st_ishl {x y : Int32} (r : vI M pc .ishl 1 pc') (h : V d nf n M pc' ls (.int (x <<< (y &&& 31)) :: st) σ K) : V d nf n M pc ls (.int y :: .int x :: st) σ K := by
  intro E p l e R s m args below meth c H locs cells slots Q lm C h1 h2 h3 h4 h5 h6 hw hl hr
  obtain ⟨r1, rfl⟩ := r
  exact lv_ishl C.1 C.2.1 r1 (h E p l e R s m args below meth c H locs cells slots Q lm C h1 h2 h3 h4 h5 h6 hw hl hr)
theorem st_ishr {x y : Int32} (r : vI M pc .ishr 1 pc') (h : V d nf n M pc' ls (.int (x >>> (y &&& 31)) :: st) σ K) : V d nf n M pc ls (.int y :: .int x :: st) σ K := by
  intro E p l e R s m args below meth c H locs cells slots Q lm C h1 h2 h3 h4 h5 h6 hw hl hr
  obtain ⟨r1, rfl⟩ := r
  exact lv_ishr C.1 C.2.1 r1 (h E p l e R s m args below meth c H locs cells slots Q lm C h1 h2 h3 h4 h5 h6 hw hl hr)
theorem st_ladd {x y : Int64} (r : vI M pc .ladd 1 pc') (h : V d nf n M pc' ls (.long (x + y) :: st) σ K) : V d nf n M pc ls (.long y :: .long x :: st) σ K := by
  intro E p l e R s m args below meth c H locs cells slots Q lm C h1 h2 h3 h4 h5 h6 hw hl hr
  obtain ⟨r1, rfl⟩ := r
  exact lv_ladd C.1 C.2.1 r1 (h E p l e R s m args below meth c H locs cells slots Q lm C h1 h2 h3 h4 h5 h6 hw hl hr)
theorem st_lsub {x y : Int64} (r : vI M pc .lsub 1 pc') (h : V d nf n M pc' ls (.long (x - y) :: st) σ K) : V d nf n M pc ls (.long y :: .long x :: st) σ K := by
  intro E p l e R s m args below meth c H locs cells slots Q lm C h1 h2 h3 h4 h5 h6 hw hl hr
  obtain ⟨r1, rfl⟩ := r
  exact lv_lsub C.1 C.2.1 r1 (h E p l e R s m args below meth c H locs cells slots Q lm C h1 h2 h3 h4 h5 h6 hw hl hr)
theorem st_lmul {x y : Int64} (r : vI M pc .lmul 1 pc') (h : V d nf n M pc' ls (.long (x * y) :: st) σ K) : V d nf n M pc ls (.long y :: .long x :: st) σ K := by
  intro E p l e R s m args below meth c H locs cells slots Q lm C h1 h2 h3 h4 h5 h6 hw hl hr
  obtain ⟨r1, rfl⟩ := r
  exact lv_lmul C.1 C.2.1 r1 (h E p l e R s m args below meth c H locs cells slots Q lm C h1 h2 h3 h4 h5 h6 hw hl hr)
theorem st_idiv {x y : Int32} (r : vI M pc .idiv 1 pc') (hy : ¬ y = 0) (h : V d nf n M pc' ls (.int (x / y) :: st) σ K) : V d nf n M pc ls (.int y :: .int x :: st) σ K := by
  intro E p l e R s m args below meth c H locs cells slots Q lm C h1 h2 h3 h4 h5 h6 hw hl hr
  obtain ⟨r1, rfl⟩ := r
  exact lv_idiv C.1 C.2.1 r1 hy (h E p l e R s m args below meth c H locs cells slots Q lm C h1 h2 h3 h4 h5 h6 hw hl hr)
theorem st_irem {x y : Int32} (r : vI M pc .irem 1 pc') (hy : ¬ y = 0) (h : V d nf n M pc' ls (.int (x - x / y * y) :: st) σ K) : V d nf n M pc ls (.int y :: .int x :: st) σ K := by
  intro E p l e R s m args below meth c H locs cells slots Q lm C h1 h2 h3 h4 h5 h6 hw hl hr
  obtain ⟨r1, rfl⟩ := r
  exact lv_irem C.1 C.2.1 r1 hy (h E p l e R s m args below meth c H locs cells slots Q lm C h1 h2 h3 h4 h5 h6 hw hl hr)
theorem st_ldiv {x y : Int64} (r : vI M pc .ldiv 1 pc') (hy : ¬ y = 0) (h : V d nf n M pc' ls (.long (x / y) :: st) σ K) : V d nf n M pc ls (.long y :: .long x :: st) σ K := by
  intro E p l e R s m args below meth c H locs cells slots Q lm C h1 h2 h3 h4 h5 h6 hw hl hr
  obtain ⟨r1, rfl⟩ := r
  exact lv_ldiv C.1 C.2.1 r1 hy (h E p l e R s m args below meth c H locs cells slots Q lm C h1 h2 h3 h4 h5 h6 hw hl hr)
theorem st_lrem {x y : Int64} (r : vI M pc .lrem 1 pc') (hy : ¬ y = 0) (h : V d nf n M pc' ls (.long (x - x / y * y) :: st) σ K) : V d nf n M pc ls (.long y :: .long x :: st) σ K := by
  intro E p l e R s m args below meth c H locs cells slots Q lm C h1 h2 h3 h4 h5 h6 hw hl hr
  obtain ⟨r1, rfl⟩ := r
  exact lv_lrem C.1 C.2.1 r1 hy (h E p l e R s m args below meth c H locs cells slots Q lm C h1 h2 h3 h4 h5 h6 hw hl hr)
theorem st_iushr {x y : Int32} (r : vI M pc .iushr 1 pc') (h : V d nf n M pc' ls (.int ((x.toUInt32 >>> (y.toUInt32 &&& Int32.toUInt32 31)).toInt32) :: st) σ K) : V d nf n M pc ls (.int y :: .int x :: st) σ K := by
  intro E p l e R s m args below meth c H locs cells slots Q lm C h1 h2 h3 h4 h5 h6 hw hl hr
  obtain ⟨r1, rfl⟩ := r
  exact lv_iushr C.1 C.2.1 r1 rfl (h E p l e R s m args below meth c H locs cells slots Q lm C h1 h2 h3 h4 h5 h6 hw hl hr)
theorem st_i2l {x : Int32} (r : vI M pc .i2l 1 pc') (h : V d nf n M pc' ls (.long x.toInt64 :: st) σ K) : V d nf n M pc ls (.int x :: st) σ K := by
  intro E p l e R s m args below meth c H locs cells slots Q lm C h1 h2 h3 h4 h5 h6 hw hl hr
  obtain ⟨r1, rfl⟩ := r
  exact lv_i2l C.1 C.2.1 r1 rfl (h E p l e R s m args below meth c H locs cells slots Q lm C h1 h2 h3 h4 h5 h6 hw hl hr)
theorem st_l2i {x : Int64} (r : vI M pc .l2i 1 pc') (h : V d nf n M pc' ls (.int x.toInt32 :: st) σ K) : V d nf n M pc ls (.long x :: st) σ K := by
  intro E p l e R s m args below meth c H locs cells slots Q lm C h1 h2 h3 h4 h5 h6 hw hl hr
  obtain ⟨r1, rfl⟩ := r
  exact lv_l2i C.1 C.2.1 r1 rfl (h E p l e R s m args below meth c H locs cells slots Q lm C h1 h2 h3 h4 h5 h6 hw hl hr)
theorem st_dup {v : Value} (r : vI M pc .dup 1 pc') (hc : v.category = 1) (h : V d nf n M pc' ls (v :: v :: st) σ K) : V d nf n M pc ls (v :: st) σ K := by
  intro E p l e R s m args below meth c H locs cells slots Q lm C h1 h2 h3 h4 h5 h6 hw hl hr
  obtain ⟨r1, rfl⟩ := r
  exact lv_dup C.1 C.2.1 r1 (by rw [vmV_cat]; exact hc) (h E p l e R s m args below meth c H locs cells slots Q lm C h1 h2 h3 h4 h5 h6 hw hl hr)
theorem st_dup2 {v u : Value} (r : vI M pc .dup2 1 pc') (hc : v.category = 1) (hu : u.category = 1) (h : V d nf n M pc' ls (v :: u :: v :: u :: st) σ K) : V d nf n M pc ls (v :: u :: st) σ K := by
  intro E p l e R s m args below meth c H locs cells slots Q lm C h1 h2 h3 h4 h5 h6 hw hl hr
  obtain ⟨r1, rfl⟩ := r
  exact lv_dup2_11 C.1 C.2.1 r1 (by rw [vmV_cat]; exact hc) (by rw [vmV_cat]; exact hu) (h E p l e R s m args below meth c H locs cells slots Q lm C h1 h2 h3 h4 h5 h6 hw hl hr)
theorem st_pop {v : Value} (r : vI M pc .pop 1 pc') (hc : v.category = 1) (h : V d nf n M pc' ls st σ K) : V d nf n M pc ls (v :: st) σ K := by
  intro E p l e R s m args below meth c H locs cells slots Q lm C h1 h2 h3 h4 h5 h6 hw hl hr
  obtain ⟨r1, rfl⟩ := r
  exact lv_pop C.1 C.2.1 r1 (by rw [vmV_cat]; exact hc) (h E p l e R s m args below meth c H locs cells slots Q lm C h1 h2 h3 h4 h5 h6 hw hl hr)
theorem st_icmp_eq {x y : Int32} (r : vIc M pc .eq tgt pc') (ht : x = y → V d nf n M tgt ls st σ K) (hf : ¬ x = y → V d nf n M pc' ls st σ K) : V d nf n M pc ls (.int y :: .int x :: st) σ K := by
  intro E p l e R s m args below meth c H locs cells slots Q lm C h1 h2 h3 h4 h5 h6 hw hl hr
  obtain ⟨off, r1, r2, rfl⟩ := r
  exact lv_icmp_eq C.1 C.2.1 r1 r2 (fun q => ht q E p l e R s m args below meth c H locs cells slots Q lm C h1 h2 h3 h4 h5 h6 hw hl hr) (fun q => hf q E p l e R s m args below meth c H locs cells slots Q lm C h1 h2 h3 h4 h5 h6 hw hl hr)
theorem st_if_eq {x : Int32} (r : vIf M pc .eq tgt pc') (ht : x = 0 → V d nf n M tgt ls st σ K) (hf : ¬ x = 0 → V d nf n M pc' ls st σ K) : V d nf n M pc ls (.int x :: st) σ K := by
  intro E p l e R s m args below meth c H locs cells slots Q lm C h1 h2 h3 h4 h5 h6 hw hl hr
  obtain ⟨off, r1, r2, rfl⟩ := r
  exact lv_if_eq C.1 C.2.1 r1 r2 (fun q => ht q E p l e R s m args below meth c H locs cells slots Q lm C h1 h2 h3 h4 h5 h6 hw hl hr) (fun q => hf q E p l e R s m args below meth c H locs cells slots Q lm C h1 h2 h3 h4 h5 h6 hw hl hr)
theorem st_icmp_ne {x y : Int32} (r : vIc M pc .ne tgt pc') (ht : ¬ x = y → V d nf n M tgt ls st σ K) (hf : x = y → V d nf n M pc' ls st σ K) : V d nf n M pc ls (.int y :: .int x :: st) σ K := by
  intro E p l e R s m args below meth c H locs cells slots Q lm C h1 h2 h3 h4 h5 h6 hw hl hr
  obtain ⟨off, r1, r2, rfl⟩ := r
  exact lv_icmp_ne C.1 C.2.1 r1 r2 (fun q => ht q E p l e R s m args below meth c H locs cells slots Q lm C h1 h2 h3 h4 h5 h6 hw hl hr) (fun q => hf q E p l e R s m args below meth c H locs cells slots Q lm C h1 h2 h3 h4 h5 h6 hw hl hr)
theorem st_if_ne {x : Int32} (r : vIf M pc .ne tgt pc') (ht : ¬ x = 0 → V d nf n M tgt ls st σ K) (hf : x = 0 → V d nf n M pc' ls st σ K) : V d nf n M pc ls (.int x :: st) σ K := by
  intro E p l e R s m args below meth c H locs cells slots Q lm C h1 h2 h3 h4 h5 h6 hw hl hr
  obtain ⟨off, r1, r2, rfl⟩ := r
  exact lv_if_ne C.1 C.2.1 r1 r2 (fun q => ht q E p l e R s m args below meth c H locs cells slots Q lm C h1 h2 h3 h4 h5 h6 hw hl hr) (fun q => hf q E p l e R s m args below meth c H locs cells slots Q lm C h1 h2 h3 h4 h5 h6 hw hl hr)
theorem st_icmp_lt {x y : Int32} (r : vIc M pc .lt tgt pc') (ht : x < y → V d nf n M tgt ls st σ K) (hf : ¬ x < y → V d nf n M pc' ls st σ K) : V d nf n M pc ls (.int y :: .int x :: st) σ K := by
  intro E p l e R s m args below meth c H locs cells slots Q lm C h1 h2 h3 h4 h5 h6 hw hl hr
  obtain ⟨off, r1, r2, rfl⟩ := r
  exact lv_icmp_lt C.1 C.2.1 r1 r2 (fun q => ht q E p l e R s m args below meth c H locs cells slots Q lm C h1 h2 h3 h4 h5 h6 hw hl hr) (fun q => hf q E p l e R s m args below meth c H locs cells slots Q lm C h1 h2 h3 h4 h5 h6 hw hl hr)
theorem st_if_lt {x : Int32} (r : vIf M pc .lt tgt pc') (ht : x < 0 → V d nf n M tgt ls st σ K) (hf : ¬ x < 0 → V d nf n M pc' ls st σ K) : V d nf n M pc ls (.int x :: st) σ K := by
  intro E p l e R s m args below meth c H locs cells slots Q lm C h1 h2 h3 h4 h5 h6 hw hl hr
  obtain ⟨off, r1, r2, rfl⟩ := r
  exact lv_if_lt C.1 C.2.1 r1 r2 (fun q => ht q E p l e R s m args below meth c H locs cells slots Q lm C h1 h2 h3 h4 h5 h6 hw hl hr) (fun q => hf q E p l e R s m args below meth c H locs cells slots Q lm C h1 h2 h3 h4 h5 h6 hw hl hr)
theorem st_icmp_ge {x y : Int32} (r : vIc M pc .ge tgt pc') (ht : y ≤ x → V d nf n M tgt ls st σ K) (hf : ¬ y ≤ x → V d nf n M pc' ls st σ K) : V d nf n M pc ls (.int y :: .int x :: st) σ K := by
  intro E p l e R s m args below meth c H locs cells slots Q lm C h1 h2 h3 h4 h5 h6 hw hl hr
  obtain ⟨off, r1, r2, rfl⟩ := r
  exact lv_icmp_ge C.1 C.2.1 r1 r2 (fun q => ht q E p l e R s m args below meth c H locs cells slots Q lm C h1 h2 h3 h4 h5 h6 hw hl hr) (fun q => hf q E p l e R s m args below meth c H locs cells slots Q lm C h1 h2 h3 h4 h5 h6 hw hl hr)
theorem st_if_ge {x : Int32} (r : vIf M pc .ge tgt pc') (ht : 0 ≤ x → V d nf n M tgt ls st σ K) (hf : ¬ 0 ≤ x → V d nf n M pc' ls st σ K) : V d nf n M pc ls (.int x :: st) σ K := by
  intro E p l e R s m args below meth c H locs cells slots Q lm C h1 h2 h3 h4 h5 h6 hw hl hr
  obtain ⟨off, r1, r2, rfl⟩ := r
  exact lv_if_ge C.1 C.2.1 r1 r2 (fun q => ht q E p l e R s m args below meth c H locs cells slots Q lm C h1 h2 h3 h4 h5 h6 hw hl hr) (fun q => hf q E p l e R s m args below meth c H locs cells slots Q lm C h1 h2 h3 h4 h5 h6 hw hl hr)
theorem st_icmp_gt {x y : Int32} (r : vIc M pc .gt tgt pc') (ht : y < x → V d nf n M tgt ls st σ K) (hf : ¬ y < x → V d nf n M pc' ls st σ K) : V d nf n M pc ls (.int y :: .int x :: st) σ K := by
  intro E p l e R s m args below meth c H locs cells slots Q lm C h1 h2 h3 h4 h5 h6 hw hl hr
  obtain ⟨off, r1, r2, rfl⟩ := r
  exact lv_icmp_gt C.1 C.2.1 r1 r2 (fun q => ht q E p l e R s m args below meth c H locs cells slots Q lm C h1 h2 h3 h4 h5 h6 hw hl hr) (fun q => hf q E p l e R s m args below meth c H locs cells slots Q lm C h1 h2 h3 h4 h5 h6 hw hl hr)
theorem st_if_gt {x : Int32} (r : vIf M pc .gt tgt pc') (ht : 0 < x → V d nf n M tgt ls st σ K) (hf : ¬ 0 < x → V d nf n M pc' ls st σ K) : V d nf n M pc ls (.int x :: st) σ K := by
  intro E p l e R s m args below meth c H locs cells slots Q lm C h1 h2 h3 h4 h5 h6 hw hl hr
  obtain ⟨off, r1, r2, rfl⟩ := r
  exact lv_if_gt C.1 C.2.1 r1 r2 (fun q => ht q E p l e R s m args below meth c H locs cells slots Q lm C h1 h2 h3 h4 h5 h6 hw hl hr) (fun q => hf q E p l e R s m args below meth c H locs cells slots Q lm C h1 h2 h3 h4 h5 h6 hw hl hr)
theorem st_icmp_le {x y : Int32} (r : vIc M pc .le tgt pc') (ht : x ≤ y → V d nf n M tgt ls st σ K) (hf : ¬ x ≤ y → V d nf n M pc' ls st σ K) : V d nf n M pc ls (.int y :: .int x :: st) σ K := by
  intro E p l e R s m args below meth c H locs cells slots Q lm C h1 h2 h3 h4 h5 h6 hw hl hr
  obtain ⟨off, r1, r2, rfl⟩ := r
  exact lv_icmp_le C.1 C.2.1 r1 r2 (fun q => ht q E p l e R s m args below meth c H locs cells slots Q lm C h1 h2 h3 h4 h5 h6 hw hl hr) (fun q => hf q E p l e R s m args below meth c H locs cells slots Q lm C h1 h2 h3 h4 h5 h6 hw hl hr)
theorem st_if_le {x : Int32} (r : vIf M pc .le tgt pc') (ht : x ≤ 0 → V d nf n M tgt ls st σ K) (hf : ¬ x ≤ 0 → V d nf n M pc' ls st σ K) : V d nf n M pc ls (.int x :: st) σ K := by
  intro E p l e R s m args below meth c H locs cells slots Q lm C h1 h2 h3 h4 h5 h6 hw hl hr
  obtain ⟨off, r1, r2, rfl⟩ := r
  exact lv_if_le C.1 C.2.1 r1 r2 (fun q => ht q E p l e R s m args below meth c H locs cells slots Q lm C h1 h2 h3 h4 h5 h6 hw hl hr) (fun q => hf q E p l e R s m args below meth c H locs cells slots Q lm C h1 h2 h3 h4 h5 h6 hw hl hr)
theorem st_goto (r : vGo M pc tgt) (h : V d nf n M tgt ls st σ K) : V d nf n M pc ls st σ K := by
  intro E p l e R s m args below meth c H locs cells slots Q lm C h1 h2 h3 h4 h5 h6 hw hl hr
  obtain ⟨off, r1, r2⟩ := r
  exact lv_goto C.1 C.2.1 r1 r2 (h E p l e R s m args below meth c H locs cells slots Q lm C h1 h2 h3 h4 h5 h6 hw hl hr)
theorem st_ifnonnull {a : Nat} (r : vNn M pc tgt pc') (h : V d nf n M tgt ls st σ K) : V d nf n M pc ls (.ref a :: st) σ K := by
  intro E p l e R s m args below meth c H locs cells slots Q lm C h1 h2 h3 h4 h5 h6 hw hl hr
  obtain ⟨off, r1, r2, rfl⟩ := r
  exact lv_ifnonnull C.1 C.2.1 r1 r2 (h E p l e R s m args below meth c H locs cells slots Q lm C h1 h2 h3 h4 h5 h6 hw hl hr)
theorem st_ifnull {a : Nat} (r : vNl M pc tgt pc') (h : V d nf n M pc' ls st σ K) : V d nf n M pc ls (.ref a :: st) σ K := by
  intro E p l e R s m args below meth c H locs cells slots Q lm C h1 h2 h3 h4 h5 h6 hw hl hr
  obtain ⟨off, r1, r2, rfl⟩ := r
  exact lv_ifnull C.1 C.2.1 r1 (h E p l e R s m args below meth c H locs cells slots Q lm C h1 h2 h3 h4 h5 h6 hw hl hr)
theorem st_top {x y : Int32} (e : x = y) (h : V d nf n M pc ls (.int y :: st) σ K) : V d nf n M pc ls (.int x :: st) σ K := by rw [e]; exact h
theorem st_topl {x y : Int64} (e : x = y) (h : V d nf n M pc ls (.long y :: st) σ K) : V d nf n M pc ls (.long x :: st) σ K := by rw [e]; exact h
theorem V_st {ls' st' : List Value} {σ' : vS} (h : V d nf n M pc ls' st' σ' K) (e1 : ls = ls') (e2 : st = st') (e3 : σ = σ') : V d nf n M pc ls st σ K := by rw [e1, e2, e3]; exact h
end VSt
end
section
section VHp
variable {d nf n : Nat} {M : vM} {pc pc' tgt : Nat} {ls st : List Value} {I : Nat → Nat → Int32} {J : Nat → Nat → Int64} {Z : Nat → Nat → Option Nat} {K : Option Value → vS → Prop}
def vIsR : FieldType → Bool
  | .array _ => true
  | .object _ => true
  | _ => false
theorem vfld_R {E : vE} {σ : vS} {a k b : Nat} {ty : FieldType} (ht : vIsR ty = true) (hb : σ.2.2 a k = some b) : vfld E σ a k ty = .ref (E.1 + b) := by
  cases ty <;> first | (cases ht; done) | (simp only [vfld, hb]; rfl)
theorem st_getI {a ci k : Nat} (r : vGf M pc ci k pc') (ha : vOb n a ci) (ht : vTF ci k = .int) (h : V d nf n M pc' ls (.int (I a k) :: st) (I, J, Z) K) : V d nf n M pc ls (.ref a :: st) (I, J, Z) K := by
  intro E p l e R s m args below meth c H locs cells slots Q lm C h1 h2 h3 h4 h5 h6 hw hl hr
  obtain ⟨idx, r, r1, rfl, r3, r4, r5⟩ := r
  obtain ⟨hin, -, -, hN⟩ := vCok ci r r3
  obtain ⟨g1, g2, g3⟩ := ha
  have he := vws_get (E := E) (σ := (I, J, Z)) g1
  rw [vcell_ob g2 g3] at he
  have hk' : k < vNF ci := by rw [← hN]; exact r4
  exact va_get (C := r.1) (T := r.2.1) (N := r.2.2) C.1 C.2.1 C.2.2.2.2.1 hin C.2.2.2.1 hw.1.1 hw.1.2.1 a he r3 k r4 (C.2.2.2.2.1 _ r5) (fun _ q => q) (by rw [vflds_get hk', ht]; rfl) r1 (h E p l e R s m args below meth c H locs cells slots Q lm C h1 h2 h3 h4 h5 h6 hw hl hr)
theorem st_getL {a ci k : Nat} (r : vGf M pc ci k pc') (ha : vOb n a ci) (ht : vTF ci k = .long) (h : V d nf n M pc' ls (.long (J a k) :: st) (I, J, Z) K) : V d nf n M pc ls (.ref a :: st) (I, J, Z) K := by
  intro E p l e R s m args below meth c H locs cells slots Q lm C h1 h2 h3 h4 h5 h6 hw hl hr
  obtain ⟨idx, r, r1, rfl, r3, r4, r5⟩ := r
  obtain ⟨hin, -, -, hN⟩ := vCok ci r r3
  obtain ⟨g1, g2, g3⟩ := ha
  have he := vws_get (E := E) (σ := (I, J, Z)) g1
  rw [vcell_ob g2 g3] at he
  have hk' : k < vNF ci := by rw [← hN]; exact r4
  exact va_get (C := r.1) (T := r.2.1) (N := r.2.2) C.1 C.2.1 C.2.2.2.2.1 hin C.2.2.2.1 hw.1.1 hw.1.2.1 a he r3 k r4 (C.2.2.2.2.1 _ r5) (fun _ q => q) (by rw [vflds_get hk', ht]; rfl) r1 (h E p l e R s m args below meth c H locs cells slots Q lm C h1 h2 h3 h4 h5 h6 hw hl hr)
theorem st_getR {a ci k : Nat} (r : vGf M pc ci k pc') (ha : vOb n a ci) {b : Nat} (hb : Z a k = some b) (ht : vIsR (vTF ci k) = true) (h : V d nf n M pc' ls (.ref b :: st) (I, J, Z) K) : V d nf n M pc ls (.ref a :: st) (I, J, Z) K := by
  intro E p l e R s m args below meth c H locs cells slots Q lm C h1 h2 h3 h4 h5 h6 hw hl hr
  obtain ⟨idx, r, r1, rfl, r3, r4, r5⟩ := r
  obtain ⟨hin, -, -, hN⟩ := vCok ci r r3
  obtain ⟨g1, g2, g3⟩ := ha
  have he := vws_get (E := E) (σ := (I, J, Z)) g1
  rw [vcell_ob g2 g3] at he
  have hk' : k < vNF ci := by rw [← hN]; exact r4
  exact va_get (C := r.1) (T := r.2.1) (N := r.2.2) C.1 C.2.1 C.2.2.2.2.1 hin C.2.2.2.1 hw.1.1 hw.1.2.1 a he r3 k r4 (C.2.2.2.2.1 _ r5) (fun _ q => q) (by rw [vflds_get hk', vfld_R ht hb]; rfl) r1 (h E p l e R s m args below meth c H locs cells slots Q lm C h1 h2 h3 h4 h5 h6 hw hl hr)
theorem st_putI {a ci k : Nat} {x : Int32} (ht : vTF ci k = .int) (r : vPf M pc ci k pc') (ha : vOb n a ci) (h : V d nf n M pc' ls st (up I a (va_up (I a) k x), J, Z) K) : V d nf n M pc ls (.int x :: .ref a :: st) (I, J, Z) K := by
  intro E p l e R s m args below meth c H locs cells slots Q lm C h1 h2 h3 h4 h5 h6 hw hl hr
  obtain ⟨idx, r, r1, rfl, r3, r4, r5, r6⟩ := r
  obtain ⟨hin, hty, hnm, hN⟩ := vCok ci r r3
  obtain ⟨g1, g2, g3⟩ := ha
  have he := vws_get (E := E) (σ := (I, J, Z)) g1
  rw [vcell_ob g2 g3] at he
  have hk' : k < vNF ci := by rw [← hN]; exact r4
  have hkk : ∀ (H1 : Heap) (locs1 : List Loc), va_P E.2.2.1 vwCl ((vws E n (I, J, Z)).set a (E.1 + a, .inr (ci, (vflds E (I, J, Z) a ci (vNF ci)).set k (.int x)))) H1 → va_D (fun q => E.1 ≤ q) ((vws E n (I, J, Z)).set a (E.1 + a, .inr (ci, (vflds E (I, J, Z) a ci (vNF ci)).set k (.int x)))) → va_S (fun q => E.1 ≤ q) s.heap H1 locs1 → W p l e R s m args below meth c H1 locs1 cells slots Q (F0 m (pc + 3) lm (st.map (vmV E))) := by
    intro H1 locs1 hP _ hS
    refine h E p l e R s m args below meth c H1 locs1 cells slots Q lm C h1 h2 h3 h4 h5 h6 (vWld_put (τ := (up I a (va_up (I a) k x), J, Z)) hw g1 ?_ ?_ ?_ ?_ hP hS) hl hr
    · rw [vcell_ob g2 g3, vflds_set (τ := (up I a (va_up (I a) k x), J, Z)) hk' ?_ ?_]
      · rw [ht]; simp [vfld, up, va_up]
      · intro j hj hjk
        simp [vfld, up, va_up, hjk]
    · intro b hb; simp [up, hb]
    · intro b hb; simp [up, hb]
    · intro b hb; simp [up, hb]
  rcases r6 with r6 | ⟨r6, r7, r8⟩
  · exact va_put (C := r.1) (T := r.2.1) (N := r.2.2) (v := .int x) C.1 C.2.1 C.2.2.2.2.1 hin (vTF ci) hty hnm C.2.2.2.1 hw.1.1 hw.1.2.1 (vws_D E n (I, J, Z)) hw.2.1 a he r3 k r4 (C.2.2.2.2.1 _ r5) (fun _ q => q) r6 (hty k r4) (by rw [ht]; rfl) (by rw [ht]; rfl) (by rw [vflds_len]; exact hk') r1 hkk
  · exact va_putF (C := r.1) (T := r.2.1) (N := r.2.2) (v := .int x) C.1 C.2.1 C.2.2.2.2.1 hin (vTF ci) hty hnm C.2.2.2.1 hw.1.1 hw.1.2.1 (vws_D E n (I, J, Z)) hw.2.1 a he r3 k r4 (C.2.2.2.2.1 _ r5) (fun _ q => q) r6 (C.2.2.2.2.2.2.2 r7) r8 (hty k r4) (by rw [ht]; rfl) (by rw [ht]; rfl) (by rw [vflds_len]; exact hk') r1 hkk
theorem st_putL {a ci k : Nat} {x : Int64} (ht : vTF ci k = .long) (r : vPf M pc ci k pc') (ha : vOb n a ci) (h : V d nf n M pc' ls st (I, up J a (va_up (J a) k x), Z) K) : V d nf n M pc ls (.long x :: .ref a :: st) (I, J, Z) K := by
  intro E p l e R s m args below meth c H locs cells slots Q lm C h1 h2 h3 h4 h5 h6 hw hl hr
  obtain ⟨idx, r, r1, rfl, r3, r4, r5, r6⟩ := r
  obtain ⟨hin, hty, hnm, hN⟩ := vCok ci r r3
  obtain ⟨g1, g2, g3⟩ := ha
  have he := vws_get (E := E) (σ := (I, J, Z)) g1
  rw [vcell_ob g2 g3] at he
  have hk' : k < vNF ci := by rw [← hN]; exact r4
  have hkk : ∀ (H1 : Heap) (locs1 : List Loc), va_P E.2.2.1 vwCl ((vws E n (I, J, Z)).set a (E.1 + a, .inr (ci, (vflds E (I, J, Z) a ci (vNF ci)).set k (.long x)))) H1 → va_D (fun q => E.1 ≤ q) ((vws E n (I, J, Z)).set a (E.1 + a, .inr (ci, (vflds E (I, J, Z) a ci (vNF ci)).set k (.long x)))) → va_S (fun q => E.1 ≤ q) s.heap H1 locs1 → W p l e R s m args below meth c H1 locs1 cells slots Q (F0 m (pc + 3) lm (st.map (vmV E))) := by
    intro H1 locs1 hP _ hS
    refine h E p l e R s m args below meth c H1 locs1 cells slots Q lm C h1 h2 h3 h4 h5 h6 (vWld_put (τ := (I, up J a (va_up (J a) k x), Z)) hw g1 ?_ ?_ ?_ ?_ hP hS) hl hr
    · rw [vcell_ob g2 g3, vflds_set (τ := (I, up J a (va_up (J a) k x), Z)) hk' ?_ ?_]
      · rw [ht]; simp [vfld, up, va_up]
      · intro j hj hjk
        simp [vfld, up, va_up, hjk]
    · intro b hb; simp [up, hb]
    · intro b hb; simp [up, hb]
    · intro b hb; simp [up, hb]
  rcases r6 with r6 | ⟨r6, r7, r8⟩
  · exact va_put (C := r.1) (T := r.2.1) (N := r.2.2) (v := .long x) C.1 C.2.1 C.2.2.2.2.1 hin (vTF ci) hty hnm C.2.2.2.1 hw.1.1 hw.1.2.1 (vws_D E n (I, J, Z)) hw.2.1 a he r3 k r4 (C.2.2.2.2.1 _ r5) (fun _ q => q) r6 (hty k r4) (by rw [ht]; rfl) (by rw [ht]; rfl) (by rw [vflds_len]; exact hk') r1 hkk
  · exact va_putF (C := r.1) (T := r.2.1) (N := r.2.2) (v := .long x) C.1 C.2.1 C.2.2.2.2.1 hin (vTF ci) hty hnm C.2.2.2.1 hw.1.1 hw.1.2.1 (vws_D E n (I, J, Z)) hw.2.1 a he r3 k r4 (C.2.2.2.2.1 _ r5) (fun _ q => q) r6 (C.2.2.2.2.2.2.2 r7) r8 (hty k r4) (by rw [ht]; rfl) (by rw [ht]; rfl) (by rw [vflds_len]; exact hk') r1 hkk
theorem vR_nar {ty : FieldType} (h : vIsR ty = true) (b : Nat) : narrow ty (.ref b) = .ref b ∧ fits ty (.ref b) = true := by
  cases ty <;> first | (cases h; done) | exact ⟨rfl, rfl⟩
theorem st_putR {a ci k : Nat} {b : Nat} (ht : vIsR (vTF ci k) = true) (r : vPf M pc ci k pc') (ha : vOb n a ci) (h : V d nf n M pc' ls st (I, J, up Z a (va_up (Z a) k (some b))) K) : V d nf n M pc ls (.ref b :: .ref a :: st) (I, J, Z) K := by
  intro E p l e R s m args below meth c H locs cells slots Q lm C h1 h2 h3 h4 h5 h6 hw hl hr
  obtain ⟨idx, r, r1, rfl, r3, r4, r5, r6⟩ := r
  obtain ⟨hin, hty, hnm, hN⟩ := vCok ci r r3
  obtain ⟨g1, g2, g3⟩ := ha
  have he := vws_get (E := E) (σ := (I, J, Z)) g1
  rw [vcell_ob g2 g3] at he
  have hk' : k < vNF ci := by rw [← hN]; exact r4
  have hkk : ∀ (H1 : Heap) (locs1 : List Loc), va_P E.2.2.1 vwCl ((vws E n (I, J, Z)).set a (E.1 + a, .inr (ci, (vflds E (I, J, Z) a ci (vNF ci)).set k (.ref (E.1 + b))))) H1 → va_D (fun q => E.1 ≤ q) ((vws E n (I, J, Z)).set a (E.1 + a, .inr (ci, (vflds E (I, J, Z) a ci (vNF ci)).set k (.ref (E.1 + b))))) → va_S (fun q => E.1 ≤ q) s.heap H1 locs1 → W p l e R s m args below meth c H1 locs1 cells slots Q (F0 m (pc + 3) lm (st.map (vmV E))) := by
    intro H1 locs1 hP _ hS
    refine h E p l e R s m args below meth c H1 locs1 cells slots Q lm C h1 h2 h3 h4 h5 h6 (vWld_put (τ := (I, J, up Z a (va_up (Z a) k (some b)))) hw g1 ?_ ?_ ?_ ?_ hP hS) hl hr
    · rw [vcell_ob g2 g3, vflds_set (τ := (I, J, up Z a (va_up (Z a) k (some b)))) hk' ?_ ?_]
      · rw [vfld_R (b := b) ht (by simp [up, va_up])]
      · intro j hj hjk
        simp [vfld, up, va_up, hjk]
    · intro b hb; simp [up, hb]
    · intro b hb; simp [up, hb]
    · intro b hb; simp [up, hb]
  rcases r6 with r6 | ⟨r6, r7, r8⟩
  · exact va_put (C := r.1) (T := r.2.1) (N := r.2.2) (v := .ref (E.1 + b)) C.1 C.2.1 C.2.2.2.2.1 hin (vTF ci) hty hnm C.2.2.2.1 hw.1.1 hw.1.2.1 (vws_D E n (I, J, Z)) hw.2.1 a he r3 k r4 (C.2.2.2.2.1 _ r5) (fun _ q => q) r6 (hty k r4) ((vR_nar ht _).1) ((vR_nar ht _).2) (by rw [vflds_len]; exact hk') r1 hkk
  · exact va_putF (C := r.1) (T := r.2.1) (N := r.2.2) (v := .ref (E.1 + b)) C.1 C.2.1 C.2.2.2.2.1 hin (vTF ci) hty hnm C.2.2.2.1 hw.1.1 hw.1.2.1 (vws_D E n (I, J, Z)) hw.2.1 a he r3 k r4 (C.2.2.2.2.1 _ r5) (fun _ q => q) r6 (C.2.2.2.2.2.2.2 r7) r8 (hty k r4) ((vR_nar ht _).1) ((vR_nar ht _).2) (by rw [vflds_len]; exact hk') r1 hkk
theorem st_iald {a len : Nat} {i : Int32} (r : vI M pc .iaload 1 pc') (ha : vAr n a 100 len) (hi : vp_in i len) (h : V d nf n M pc' ls (.int (I a i.toNatClampNeg) :: st) (I, J, Z) K) : V d nf n M pc ls (.int i :: .ref a :: st) (I, J, Z) K := by
  intro E p l e R s m args below meth c H locs cells slots Q lm C h1 h2 h3 h4 h5 h6 hw hl hr
  obtain ⟨r1, rfl⟩ := r
  obtain ⟨g1, g2, g3⟩ := ha
  have he := vws_get (E := E) (σ := (I, J, Z)) g1
  rw [vcell_ia g2] at he
  exact va_iald C.1 C.2.1 hw.1.1 hw.1.2.1 a 0 he rfl hi r1 (h E p l e R s m args below meth c H locs cells slots Q lm C h1 h2 h3 h4 h5 h6 hw hl hr)
theorem st_bald {a len : Nat} {i : Int32} (r : vI M pc .baload 1 pc') (ha : vAr n a 101 len) (hi : vp_in i len) (h : V d nf n M pc' ls (.int (I a i.toNatClampNeg) :: st) (I, J, Z) K) : V d nf n M pc ls (.int i :: .ref a :: st) (I, J, Z) K := by
  intro E p l e R s m args below meth c H locs cells slots Q lm C h1 h2 h3 h4 h5 h6 hw hl hr
  obtain ⟨r1, rfl⟩ := r
  obtain ⟨g1, g2, g3⟩ := ha
  have he := vws_get (E := E) (σ := (I, J, Z)) g1
  rw [vcell_za g2] at he
  exact va_zald C.1 C.2.1 hw.1.1 hw.1.2.1 a 1 he rfl hi r1 (h E p l e R s m args below meth c H locs cells slots Q lm C h1 h2 h3 h4 h5 h6 hw hl hr)
theorem st_aald {a len b : Nat} {i : Int32} (r : vI M pc .aaload 1 pc') (ha : vAr n a 102 len) (hi : vp_in i len) (hb : Z a i.toNatClampNeg = some b) (h : V d nf n M pc' ls (.ref b :: st) (I, J, Z) K) : V d nf n M pc ls (.int i :: .ref a :: st) (I, J, Z) K := by
  intro E p l e R s m args below meth c H locs cells slots Q lm C h1 h2 h3 h4 h5 h6 hw hl hr
  obtain ⟨r1, rfl⟩ := r
  obtain ⟨g1, g2, g3⟩ := ha
  have he := vws_get (E := E) (σ := (I, J, Z)) g1
  rw [vcell_qa g2] at he
  refine va_aldq C.1 C.2.1 hw.1.1 hw.1.2.1 a 2 he rfl hi r1 ?_
  simp only [hb, Option.map_some]
  exact (h E p l e R s m args below meth c H locs cells slots Q lm C h1 h2 h3 h4 h5 h6 hw hl hr)
theorem upd_va (f : Nat → Int32) (k : Nat) (x : Int32) : upd f k x = va_up f k x := by
  funext j
  simp [upd, va_up]
theorem st_iast {a len : Nat} {i x : Int32} (r : vI M pc .iastore 1 pc') (ha : vAr n a 100 len) (hi : vp_in i len) (h : V d nf n M pc' ls st (up I a (va_up (I a) i.toNatClampNeg x), J, Z) K) : V d nf n M pc ls (.int x :: .int i :: .ref a :: st) (I, J, Z) K := by
  intro E p l e R s m args below meth c H locs cells slots Q lm C h1 h2 h3 h4 h5 h6 hw hl hr
  obtain ⟨r1, rfl⟩ := r
  obtain ⟨g1, g2, g3⟩ := ha
  have he := vws_get (E := E) (σ := (I, J, Z)) g1
  rw [vcell_ia g2] at he
  refine va_iast C.1 C.2.1 hw.1.1 hw.1.2.1 (vws_D E n (I, J, Z)) hw.2.1 a 0 he rfl hi r1 ?_
  intro H1 locs1 hP _ hS
  refine h E p l e R s m args below meth c H1 locs1 cells slots Q lm C h1 h2 h3 h4 h5 h6 (vWld_put (τ := (up I a (va_up (I a) i.toNatClampNeg x), J, Z)) hw g1 ?_ ?_ ?_ ?_ hP hS) hl hr
  · rw [vcell_ia g2, upd_va]; simp only [up_s]
  · intro b hb; simp [up, hb]
  · intro b hb; simp [up, hb]
  · intro b hb; simp [up, hb]
theorem st_bast {a len : Nat} {i x : Int32} (r : vI M pc .bastore 1 pc') (ha : vAr n a 101 len) (hi : vp_in i len) (hx : vp_nar .boolean x = x) (h : V d nf n M pc' ls st (up I a (va_up (I a) i.toNatClampNeg x), J, Z) K) : V d nf n M pc ls (.int x :: .int i :: .ref a :: st) (I, J, Z) K := by
  intro E p l e R s m args below meth c H locs cells slots Q lm C h1 h2 h3 h4 h5 h6 hw hl hr
  obtain ⟨r1, rfl⟩ := r
  obtain ⟨g1, g2, g3⟩ := ha
  have he := vws_get (E := E) (σ := (I, J, Z)) g1
  rw [vcell_za g2] at he
  refine va_zast C.1 C.2.1 hw.1.1 hw.1.2.1 (vws_D E n (I, J, Z)) hw.2.1 a 1 he rfl hi r1 ?_
  intro H1 locs1 hP _ hS
  rw [hx] at hP
  refine h E p l e R s m args below meth c H1 locs1 cells slots Q lm C h1 h2 h3 h4 h5 h6 (vWld_put (τ := (up I a (va_up (I a) i.toNatClampNeg x), J, Z)) hw g1 ?_ ?_ ?_ ?_ hP hS) hl hr
  · rw [vcell_za g2, upd_va]; simp only [up_s]
  · intro b hb; simp [up, hb]
  · intro b hb; simp [up, hb]
  · intro b hb; simp [up, hb]
theorem st_aast {a len b : Nat} {i : Int32} (r : vI M pc .aastore 1 pc') (ha : vAr n a 102 len) (hi : vp_in i len) (hb : vOb n b 1) (h : V d nf n M pc' ls st (I, J, up Z a (va_up (Z a) i.toNatClampNeg (some b))) K) : V d nf n M pc ls (.ref b :: .int i :: .ref a :: st) (I, J, Z) K := by
  intro E p l e R s m args below meth c H locs cells slots Q lm C h1 h2 h3 h4 h5 h6 hw hl hr
  obtain ⟨r1, rfl⟩ := r
  obtain ⟨g1, g2, g3⟩ := ha
  have he := vws_get (E := E) (σ := (I, J, Z)) g1
  rw [vcell_qa g2] at he
  have hf := vws_get (E := E) (σ := (I, J, Z)) hb.1
  rw [vcell_ob hb.2.1 hb.2.2] at hf
  refine va_astq (r := (RX1, TX1, 6)) C.1 C.2.1 hw.1.1 hw.1.2.1 (vws_D E n (I, J, Z)) hw.2.1 a 2 b 1 he rfl hf rfl hi r1 ?_
  intro H1 locs1 hP _ hS
  refine h E p l e R s m args below meth c H1 locs1 cells slots Q lm C h1 h2 h3 h4 h5 h6 (vWld_put (τ := (I, J, up Z a (va_up (Z a) i.toNatClampNeg (some b)))) hw g1 ?_ ?_ ?_ ?_ hP hS) hl hr
  · rw [vcell_qa g2]
    simp only [up_s]
    congr 8
    funext j
    by_cases hj : j = i.toNatClampNeg <;> simp [va_up, hj]
  · intro b hb; simp [up, hb]
  · intro b hb; simp [up, hb]
  · intro b hb; simp [up, hb]
theorem st_alen {a len : Nat} (r : vI M pc .arraylength 1 pc') (ha : vAr n a 100 len) (h : V d nf n M pc' ls (.int (nI len) :: st) (I, J, Z) K) : V d nf n M pc ls (.ref a :: st) (I, J, Z) K := by
  intro E p l e R s m args below meth c H locs cells slots Q lm C h1 h2 h3 h4 h5 h6 hw hl hr
  obtain ⟨r1, rfl⟩ := r
  obtain ⟨g1, g2, g3⟩ := ha
  have he := vws_get (E := E) (σ := (I, J, Z)) g1
  rw [vcell_ia g2] at he
  exact va_alen C.1 C.2.1 hw.1.1 hw.1.2.1 a 0 he rfl rfl r1 (h E p l e R s m args below meth c H locs cells slots Q lm C h1 h2 h3 h4 h5 h6 hw hl hr)
theorem st_sld {i : Int32} (r : vI M pc .iaload 1 pc') (hi : vp_in i (vLen (I, J, Z))) (h : V d nf n M pc' ls (.int (I 1000 i.toNatClampNeg) :: st) (I, J, Z) K) : V d nf n M pc ls (.int i :: vX :: st) (I, J, Z) K := by
  intro E p l e R s m args below meth c H locs cells slots Q lm C h1 h2 h3 h4 h5 h6 hw hl hr
  obtain ⟨r1, rfl⟩ := r
  exact va_sld (A := fun q => E.1 ≤ q) (H0 := H) C.1 C.2.1 hw.1.2.2.2.2.1 (Nat.lt_of_lt_of_le hw.1.2.2.2.2.2.1 (Nat.le_trans hw.2.2 hw.2.1.1)) (Nat.not_le.mpr hw.1.2.2.2.2.2.1) ⟨Nat.le_refl _, fun _ _ _ => rfl, hw.2.1.2.2⟩ hi r1 (h E p l e R s m args below meth c H locs cells slots Q lm C h1 h2 h3 h4 h5 h6 hw hl hr)
theorem st_slen (r : vI M pc .arraylength 1 pc') (h : V d nf n M pc' ls (.int (nI (vLen (I, J, Z))) :: st) (I, J, Z) K) : V d nf n M pc ls (vX :: st) (I, J, Z) K := by
  intro E p l e R s m args below meth c H locs cells slots Q lm C h1 h2 h3 h4 h5 h6 hw hl hr
  obtain ⟨r1, rfl⟩ := r
  exact va_slen (A := fun q => E.1 ≤ q) (H0 := H) C.1 C.2.1 hw.1.2.2.2.2.1 (Nat.lt_of_lt_of_le hw.1.2.2.2.2.2.1 (Nat.le_trans hw.2.2 hw.2.1.1)) (Nat.not_le.mpr hw.1.2.2.2.2.2.1) ⟨Nat.le_refl _, fun _ _ _ => rfl, hw.2.1.2.2⟩ r1 (h E p l e R s m args below meth c H locs cells slots Q lm C h1 h2 h3 h4 h5 h6 hw hl hr)
theorem Ki_i {k : Int32 → vS → Prop} {x : Int32} {σ : vS} (h : k x σ) : Ki k (some (.int x)) σ := h
theorem st_iret {x : Int32} {k : Int32 → vS → Prop} (r : vI M pc .ireturn 1 pc') (ht : M.2.2.2.2 = some .int) (h : k x (I, J, Z)) : V d n n M pc ls [.int x] (I, J, Z) (Ki k) := by
  intro E p l e R s m args below meth c H locs cells slots Q lm C h1 h2 h3 h4 h5 h6 hw hl hr
  obtain ⟨r1, -⟩ := r
  have := hr (some (.int x)) (I, J, Z) H locs pc lm h hw ⟨r1, .int, ht, rfl⟩
  simpa using this
theorem st_zret {x : Int32} {k : Int32 → vS → Prop} (r : vI M pc .ireturn 1 pc') (ht : M.2.2.2.2 = some .boolean) (hx : narrow .boolean (.int x) = .int x) (h : k x (I, J, Z)) : V d n n M pc ls [.int x] (I, J, Z) (Ki k) := by
  intro E p l e R s m args below meth c H locs cells slots Q lm C h1 h2 h3 h4 h5 h6 hw hl hr
  obtain ⟨r1, -⟩ := r
  have := hr (some (.int x)) (I, J, Z) H locs pc lm h hw ⟨r1, .boolean, ht, hx⟩
  simpa using this
theorem st_lret {x : Int64} {k : Int64 → vS → Prop} (r : vI M pc .lreturn 1 pc') (ht : M.2.2.2.2 = some .long) (h : k x (I, J, Z)) : V d n n M pc ls [.long x] (I, J, Z) (Kl k) := by
  intro E p l e R s m args below meth c H locs cells slots Q lm C h1 h2 h3 h4 h5 h6 hw hl hr
  obtain ⟨r1, -⟩ := r
  have := hr (some (.long x)) (I, J, Z) H locs pc lm h hw ⟨r1, ht⟩
  simpa using this
theorem st_vret {k : vS → Prop} (r : vI M pc .return_ 1 pc') (ht : M.2.2.2.2 = none) (h : k (I, J, Z)) : V d n n M pc ls [] (I, J, Z) (Kv k) := by
  intro E p l e R s m args below meth c H locs cells slots Q lm C h1 h2 h3 h4 h5 h6 hw hl hr
  obtain ⟨r1, -⟩ := r
  have := hr none (I, J, Z) H locs pc lm h hw ⟨r1, ht⟩
  simpa using this
end VHp
theorem V_mono {d nf n : Nat} {M : vM} {pc : Nat} {ls st : List Value} {σ : vS} {K K' : Option Value → vS → Prop} (hk : ∀ v τ, K v τ → K' v τ) (h : V d nf n M pc ls st σ K) : V d nf n M pc ls st σ K' := by
  intro E p l e R s m args below meth c H locs cells slots Q lm C h1 h2 h3 h4 h5 h6 hw hl hr
  exact h E p l e R s m args below meth c H locs cells slots Q lm C h1 h2 h3 h4 h5 h6 hw hl (fun v τ H' locs' pc' lm' q => hr v τ H' locs' pc' lm' (hk v τ q))
end
section
/-! ===== calls ===== -/
def vRm (d nf n : Nat) : Room := { frames := d, cells := nf - n, slots := vSZ nf - vSZ n, locals := 34 * d }
def vQ (E : vE) (nf : Nat) (K : Option Value → vS → Prop) : Array Value → State → Outcome → State → Prop := fun _ st oc t => (∃ (v : Option Value) (τ : vS), oc = .returned (v.map (vmV E)) ∧ K v τ ∧ vW0 E nf τ t t.heap) ∧ va_F (fun q => E.1 ≤ q) st t
/-- a method that can be called -/
def vCal (N : vM) (k : Nat) : Prop := Cond.code N.2.1 N.2.2.1 N.2.2.2.1 N.2.2.2.2 ∈ vT ∧ Cond.initialized N.2.1.cls ∈ vT ∧ (N.2.1.cls ≠ "java/lang/invoke/MethodHandle" ∧ N.2.1.cls ≠ "java/lang/invoke/VarHandle" ∧ (parseMethodDescriptor N.2.1.desc).map (fun d => d.parameters.length) = some k) ∧ plainName N.2.1.cls = true ∧ N.2.2.2.1 ≤ 15 ∧ N.1 = N.2.1.cls
theorem vW0_warm {E : vE} {n : Nat} {σ : vS} {s t : State} {H : Heap} (h : vW0 E n σ s H) (hW : s.WarmedH t.vm) : vW0 E n σ t H := by
  obtain ⟨k1, k2, k4, k5, k6, k7, k8⟩ := h
  exact ⟨va_K.moved hW.alike k1, k2, vNs_warm hW k4, va_AO.moved hW.alike k5, va_X.moved hW.alike k6, k7, k8⟩
theorem vW0_same {E : vE} {n : Nat} {σ : vS} {s t : State} {H : Heap} (h : vW0 E n σ s H) (hW : s.vm = t.vm) : vW0 E n σ t H := by
  obtain ⟨k1, k2, k4, k5, k6, k7, k8⟩ := h
  have ha : s.vm.Alike t.vm := by rw [hW]; exact Vm.Alike.refl t.vm
  exact ⟨va_K.moved ha k1, k2, vNs_same hW k4, va_AO.moved ha k5, va_X.moved ha k6, k7, k8⟩
def vPc (E : vE) (n : Nat) (σ : vS) : State → Prop := fun U => vW0 E n σ U U.heap ∧ U.heap.size = E.1 + n
theorem vPc_blind (E : vE) (n : Nat) (σ : vS) (av : List Value) : FrameBlind (va_Pc av (vPc E n σ)) := by
  intro a U g mk q
  exact ⟨q.1, vW0_same q.2.1 rfl, q.2.2⟩
theorem vSZ_mono {a b : Nat} (h : a ≤ b) : vSZ a ≤ vSZ b := by
  unfold vSZ
  obtain ⟨k, rfl⟩ := Nat.exists_eq_add_of_le h
  rw [List.take_add, List.map_append, List.sum_append]
  exact Nat.le_add_right _ _
theorem vargs_mem : ∀ (vs : List Value) (k i : Nat) (v : Value), (∀ a ∈ vs, a.category = 1) → vs[i]? = some v → (k + i, v) ∈ lv_args k vs := by
  intro vs
  induction vs with
  | nil => intro k i v _ h; simp at h
  | cons a t ih =>
    intro k i v hc h
    have ha : ¬ a.category = 2 := by have := hc a List.mem_cons_self; omega
    simp only [lv_args, if_neg ha]
    cases i with
    | zero => simp at h; subst h; exact List.mem_cons_self
    | succ i =>
      have := ih (k + 1) i v (fun b hb => hc b (List.mem_cons_of_mem _ hb)) (by simpa using h)
      rw [show k + 1 + i = k + (i + 1) by omega] at this
      exact List.mem_cons_of_mem _ this
theorem vsl_len : ∀ (vs : List Value), (∀ a ∈ vs, a.category = 1) → (lg_sl vs).length = vs.length := by
  intro vs
  induction vs with
  | nil => intro _; rfl
  | cons a t ih =>
    intro hc
    have ha : ¬ a.category = 2 := by have := hc a List.mem_cons_self; omega
    have := ih (fun b hb => hc b (List.mem_cons_of_mem _ hb))
    simp only [lg_sl, List.flatMap_cons, if_neg ha, List.length_append, List.length_cons, List.length_nil] at this ⊢
    omega
theorem vMet {N : vM} {k d nf n : Nat} {σ : vS} {as js : List Value} {K : Option Value → vS → Prop} (hN : vCal N k) (hc : ∀ a ∈ as, a.category = 1) (hj : ∀ a ∈ js, a = vJ) (hlen : as.length + js.length = N.2.2.2.1) (hn : n ≤ nf) (hV : V d nf n N 0 (as ++ js) [] σ K) (E : vE) (l : Launch) :
    Met l N.2.1 (Cond.code N.2.1 N.2.2.1 N.2.2.2.1 N.2.2.2.2 :: vT) (vRm d nf n) (va_Pc (as.map (vmV E)) (vPc E n σ)) (vQ E nf K) (nf - n) (vSZ nf - vSZ n) (fun q => E.1 ≤ q) := by
  refine Met.ofW (cc := N.2.2.1) (maxL := N.2.2.2.1) (ret := N.2.2.2.2) hN.2.2.2.1 rfl ?_
  intro p e s m args below meth c s₁ B hml hv
  obtain ⟨rfl, hw, hsz⟩ := hv
  have hts := atoms_spec (ws := Cond.code N.2.1 N.2.2.1 N.2.2.2.1 N.2.2.2.2 :: vT) B.pre
  have hown : s.vm.findClass N.2.1.cls = some m.cls := findClass_of_methodNamed B.named
  have hnm : meth.name = N.2.1.name := (name_of_methodNamed B.named B.method).1
  have hcm : ∀ a ∈ as.map (vmV E), a.category = 1 := by
    intro a ha
    obtain ⟨b, hb, rfl⟩ := List.mem_map.mp ha
    rw [vmV_cat]
    exact hc b hb
  have hll : (lg_sl (as.map (vmV E))).length ≤ N.2.2.2.1 := by rw [vsl_len _ hcm, List.length_map]; omega
  have hl := lv_entry (as.map (vmV E)) (n := N.2.2.2.1) hll
  rw [lg_entry_eq]
  generalize (lg_sl (as.map (vmV E)) ++ List.replicate (N.2.2.2.1 - (lg_sl (as.map (vmV E))).length) Slot.unset).toArray = lm at hl ⊢
  have C : vCtx N p s m ((as.map (vmV E)).toArray) meth c := ⟨B.exec, B.bytes, hml, by rw [hN.2.2.2.2.2]; exact hown, fun w hw => hts w (List.mem_cons_of_mem _ hw), B.returns, B.notSynchronized, fun q => by rw [hnm, q]⟩
  have hL : vLs E N.2.2.2.1 lm (as ++ js) := by
    refine ⟨hl.1, hl.2.1, fun i v hi hv => ?_⟩
    by_cases hia : i < as.length
    · rw [List.getElem?_append_left hia] at hi
      have h2 := vargs_mem (as.map (vmV E)) 0 i (vmV E v) hcm (by rw [List.getElem?_map, hi]; rfl)
      rw [Nat.zero_add] at h2
      exact hl.2.2 _ h2
    · rw [List.getElem?_append_right (by omega)] at hi
      exact absurd (hj v (List.mem_of_getElem? hi)) hv
  have hS : va_S (fun q => E.1 ≤ q) s.heap s.heap [] := va_S.rf
  refine hV E p l e (headSpec (Cond.code N.2.1 N.2.2.1 N.2.2.2.1 N.2.2.2.2 :: vT) (vRm d nf n)).room s m _ below meth c s.heap [] 0 0 _ lm C rfl (Nat.le_refl _) (by rw [Nat.zero_add]; exact Nat.le_refl _) (by rw [Nat.zero_add]; exact Nat.le_refl _) hn hsz ⟨hw, hS, by omega⟩ hL ?_
  intro v τ H' locs' pc' lm' hK hw' hr'
  rw [Nat.zero_add, Nat.zero_add]
  have hq : ∀ t : State, t.heap = H' → s.WarmedH t.vm → vQ E nf K ((as.map (vmV E)).toArray) s (.returned (v.map (vmV E))) t := by
    intro t ht hW
    refine ⟨⟨v, τ, rfl, hK, ?_⟩, hw'.2.1.F ht⟩
    rw [ht]
    exact vW0_warm hw'.1 hW
  have hf : ∀ q ∈ locs', E.1 ≤ q.base := hw'.2.1.2.2
  have hlocks : meth.locks = false := B.notSynchronized
  cases v with
  | none => exact W.vret C.1 C.2.1 (C.2.2.2.2.2.1.trans hr'.2) hq hf hr'.1
  | some v =>
    cases v with
    | int x =>
      obtain ⟨r1, ty, r2, r3⟩ := hr'
      exact W.zret C.1 C.2.1 (C.2.2.2.2.2.1.trans r2) r3 hq hf r1
    | long x => exact W.lret C.1 C.2.1 (C.2.2.2.2.2.1.trans hr'.2) hq hf hr'.1
    | float x => exact hr'.elim
    | double x => exact hr'.elim
    | null => exact hr'.elim
    | ref x => exact hr'.elim
    | retAddr x => exact hr'.elim
section VCall
variable {p : Program} {l : Launch} {e : Env} {R : Room} {s : State} {m : MethodId} {args : Array Value} {below : List Frame} {meth : Method} {c : Code} {H : Heap} {locs : List Loc} {cells slots : Nat} {Q : State → Prop}
theorem vcall {E : vE} {n nf mc ms pc : Nat} {σ : vS} {lm : Array Slot} {stk rest : List Value} {a : Array Value} {K' : Option Value → vS → Prop} (hr : va_Run p l e R s m args below meth c H locs cells slots mc ms (F0 m pc lm stk) rest (vQ E nf K' a) (fun q => E.1 ≤ q)) (hw : vWld E n σ s H locs)
    (kk : ∀ (v : Option Value) (τ : vS) (H1 : Heap) (locs1 : List Loc), K' v τ → vWld E nf τ s H1 locs1 → W p l e R s m args below meth c H1 locs1 (cells + mc) (slots + ms) Q (F0 m (pc + 3) lm ((v.map (vmV E)).toList ++ rest))) : W p l e R s m args below meth c H locs cells slots Q (F0 m pc lm stk) := by
  intro T hT X
  obtain ⟨v, st₀, t, T', L, h0, X', hL, e1, e2, ⟨⟨v', τ, hv, hK, hW0⟩, hz, hk⟩, st⟩ := hr T hT X
  have hv : v = v'.map (vmV E) := Outcome.returned.inj hv
  subst hv
  rw [h0] at hz hk
  obtain ⟨⟨k1, k2, k4, k5, k6, k7, k8⟩, hS, hb⟩ := hw
  have hal : t.vm.Alike s.vm := by rw [← e2]; exact X'.warmed.alike.symm
  obtain ⟨t2, a1, b1⟩ := kk v' τ T'.heap (locs ++ L) hK ⟨⟨k1, by rw [e1]; exact hW0.2.1, k4, k5, by rw [e1]; exact va_X.moved hal hW0.2.2.2.2.1, k7, hW0.2.2.2.2.2.2⟩, ⟨Nat.le_trans hS.1 (by rw [e1]; exact hz), fun q q1 q2 => by rw [e1, hk q (Nat.lt_of_lt_of_le q1 hS.1) q2]; exact hS.2.1 q q1 q2, fun q hq => by
      rcases List.mem_append.mp hq with h | h
      · exact hS.2.2 q h
      · exact hL q h⟩, hb⟩ T' rfl X'
  exact ⟨t2, st t2 a1, b1⟩
end VCall
theorem vGood {N : vM} (h : Cond.code N.2.1 N.2.2.1 N.2.2.2.1 N.2.2.2.2 ∈ vT) : GoodIn vT (Cond.code N.2.1 N.2.2.1 N.2.2.2.1 N.2.2.2.2 :: vT) := by
  intro w hw
  rcases List.mem_cons.mp hw with rfl | hw
  · exact ⟨h, vT_good h⟩
  · exact ⟨hw, vT_good hw⟩
/-- rows of calls -/
def vKs (M : vM) (pc : Nat) (N : vM) (k pc' : Nat) : Prop := ∃ idx : Nat, decode M.2.2.1 pc = .ok (.invokestatic idx, 3) ∧ pc + 3 = pc' ∧ vCal N k ∧ Cond.static N.2.1 ∈ vT ∧ (Cond.methodLink M.1 idx N.2.1 ∈ vT ∨ ∃ host, Cond.methodLinkNest M.1 idx N.2.1 host ∈ vNs)
def vKv (M : vM) (pc : Nat) (N : vM) (k ci pc' : Nat) : Prop := ∃ (idx : Nat) (r : vw_C), decode M.2.2.1 pc = .ok (.invokevirtual idx, 3) ∧ pc + 3 = pc' ∧ vCal N k ∧ Cond.instanceMethod N.2.1 ∈ vT ∧ Cond.methodLink M.1 idx N.2.1 ∈ vT ∧ Cond.selects N.2.1.cls N.2.1 N.2.1 ∈ vT ∧ vwCl[ci]? = some r ∧ r.1 = N.2.1.cls
def vKi (M : vM) (pc : Nat) (N : vM) (k pc' : Nat) : Prop := ∃ idx : Nat, decode M.2.2.1 pc = .ok (.invokespecial idx, 3) ∧ pc + 3 = pc' ∧ vCal N k ∧ Cond.instanceMethod N.2.1 ∈ vT ∧ N.2.1.name = "<init>" ∧ N.2.2.2.2 = none ∧ (Cond.methodLink M.1 idx N.2.1 ∈ vT ∨ ∃ host, Cond.methodLinkNest M.1 idx N.2.1 host ∈ vNs)
section VC2
variable {d nf nf' n k : Nat} {M N : vM} {pc pc' : Nat} {ls st as js : List Value} {σ : vS} {K : Option Value → vS → Prop}
theorem vafter {E : vE} {p : Program} {l : Launch} {e : Env} {R : Room} {s : State} {m : MethodId} {args : Array Value} {below : List Frame} {meth : Method} {c : Code} {H1 : Heap} {locs1 : List Loc} {cells slots : Nat} {Q : State → Prop} {lm : Array Slot} {v : Option Value} {τ : vS} (h : V (d + 1) nf nf' M (pc + 3) ls (v.toList ++ st) τ K) (C : vCtx M p s m args meth c) (h1 : R.frames = d + 1) (h2 : 34 * (d + 1) ≤ R.locals) (h3 : cells + (nf - n) ≤ R.cells) (h4 : slots + (vSZ nf - vSZ n) ≤ R.slots) (hnn : n ≤ nf') (hff : nf' ≤ nf) (h6 : s.heap.size + cells = E.1 + n) (hw : vWld E nf' τ s H1 locs1) (hl : vLs E M.2.2.2.1 lm ls)
    (hr : ∀ (v : Option Value) (τ : vS) (H' : Heap) (locs' : List Loc) (pc' : Nat) (lm' : Array Slot), K v τ → vWld E nf τ s H' locs' → vRet M pc' v → W p l e R s m args below meth c H' locs' (cells + (nf - n)) (slots + (vSZ nf - vSZ n)) Q (F0 m pc' lm' (v.map (vmV E)).toList)) :
    W p l e R s m args below meth c H1 locs1 (cells + (nf' - n)) (slots + (vSZ nf' - vSZ n)) Q (F0 m (pc + 3) lm ((v.map (vmV E)).toList ++ st.map (vmV E))) := by
  have z1 := vSZ_mono hnn
  have z2 := vSZ_mono hff
  have e0 : (v.map (vmV E)).toList ++ st.map (vmV E) = (v.toList ++ st).map (vmV E) := by cases v <;> rfl
  rw [e0]
  refine h E p l e R s m args below meth c H1 locs1 (cells + (nf' - n)) (slots + (vSZ nf' - vSZ n)) Q lm C h1 h2 (by omega) (by omega) hff (by omega) hw hl ?_
  have e1 : cells + (nf' - n) + (nf - nf') = cells + (nf - n) := by omega
  have e2 : slots + (vSZ nf' - vSZ n) + (vSZ nf - vSZ nf') = slots + (vSZ nf - vSZ n) := by omega
  rw [e1, e2]
  exact hr
theorem st_callS (r : vKs M pc N k pc') (hk : as.length = k) (hc : ∀ a ∈ as, a.category = 1) (hj : ∀ a ∈ js, a = vJ) (hlen : as.length + js.length = N.2.2.2.1) (hst : (st.map Value.category).sum ≤ 8) (hnn : n ≤ nf') (hff : nf' ≤ nf) (h : V d nf' n N 0 (as ++ js) [] σ (fun v τ => V (d + 1) nf nf' M pc' ls (v.toList ++ st) τ K)) : V (d + 1) nf n M pc ls (as.reverse ++ st) σ K := by
  intro E p l e R s m args below meth c H locs cells slots Q lm C h1 h2 h3 h4 h5 h6 hw hl hr
  obtain ⟨idx, r1, rfl, r3, r4, r5⟩ := r
  refine W_sized hw h6 (fun hsz => ?_)
  have hM := vMet r3 hc hj hlen hnn h E l
  have z1 := vSZ_mono hnn
  have z2 := vSZ_mono hff
  have hrm : (vRm d nf' n).frames + 1 ≤ R.frames ∧ 8 + (N.2.2.2.1 + 11) + (vRm d nf' n).locals ≤ R.locals := by
    have := r3.2.2.2.2.1
    refine ⟨by rw [h1]; exact Nat.le_refl _, ?_⟩
    simp only [vRm]
    omega
  have hpre : PreS s H (va_Pc (as.map (vmV E)) (vPc E n σ)) (as.map (vmV E)) := ⟨vPc_blind E n σ _, fun U hU hW => ⟨rfl, by rw [hU]; exact vW0_warm hw.1 hW, by rw [hU]; exact hsz⟩⟩
  have hstk : (F0 m pc lm ((as.reverse ++ st).map (vmV E))).stack = (as.map (vmV E)).reverse ++ st.map (vmV E) := by simp
  have hcat : ((st.map (vmV E)).map fun v => v.category).sum ≤ 8 := by rw [List.map_map]; rw [show (fun v => Value.category v) ∘ vmV E = Value.category from funext (fun v => vmV_cat E v)]; exact hst
  have hfix : CallFix p m c M.2.2.1 M.2.2.2.1 s args vT M.1 := ⟨C.1, C.2.1, C.2.2.1, C.2.2.2.1, C.2.2.2.2.1⟩
  have hkk : ∀ (v : Option Value) (τ : vS) (H1 : Heap) (locs1 : List Loc), V (d + 1) nf nf' M (pc + 3) ls (v.toList ++ st) τ K → vWld E nf' τ s H1 locs1 → W p l e R s m args below meth c H1 locs1 (cells + (nf' - n)) (slots + (vSZ nf' - vSZ n)) Q (F0 m (pc + 3) lm ((v.map (vmV E)).toList ++ st.map (vmV E))) := fun v τ H1 locs1 hK hw1 => vafter hK C h1 h2 h3 h4 hnn hff h6 hw1 hl hr
  rcases r5 with r5 | ⟨host, r5⟩
  · exact vcall (va_runS (As := as.map (vmV E)) (rest := st.map (vmV E)) hfix hM ⟨callB_of k C.2.2.2.2.1 (vGood r3.1) rfl rfl rfl (C.2.2.2.2.1 _ r3.2.1) (C.2.2.2.2.1 _ r5) r3.2.2.1 hrm, C.2.2.2.2.1 _ r4⟩ hpre rfl (by rw [List.length_map]; exact hk) hl.1 hstk (by show 2 * 0 + _ ≤ 8; omega) r1 ⟨by omega, by omega⟩) hw hkk
  · exact vcall (va_runSN (As := as.map (vmV E)) (rest := st.map (vmV E)) hfix hM ⟨va_cnB k C.2.2.2.2.1 (vGood r3.1) rfl rfl rfl (hw.1.2.2.1 _ r5) (C.2.2.2.2.1 _ r3.2.1) r3.2.2.1 hrm, C.2.2.2.2.1 _ r4, trivial⟩ hpre rfl (by rw [List.length_map]; exact hk) hl.1 hstk (by show 2 * 0 + _ ≤ 8; omega) r1 ⟨by omega, by omega⟩) hw hkk
theorem st_callI {b : Nat} (r : vKi M pc N k pc') (hk : as.length = k) (hc : ∀ a ∈ as, a.category = 1) (hj : ∀ a ∈ js, a = vJ) (hlen : as.length + 1 + js.length = N.2.2.2.1) (hst : (st.map Value.category).sum ≤ 8) (hnn : n ≤ nf') (hff : nf' ≤ nf) (h : V d nf' n N 0 (.ref b :: as ++ js) [] σ (fun v τ => V (d + 1) nf nf' M pc' ls (v.toList ++ st) τ K)) : V (d + 1) nf n M pc ls (as.reverse ++ .ref b :: st) σ K := by
  intro E p l e R s m args below meth c H locs cells slots Q lm C h1 h2 h3 h4 h5 h6 hw hl hr
  obtain ⟨idx, r1, rfl, r3, r4, r6, r7, r5⟩ := r
  refine W_sized hw h6 (fun hsz => ?_)
  have hc' : ∀ a ∈ (.ref b :: as : List Value), a.category = 1 := by
    intro a ha
    rcases List.mem_cons.mp ha with rfl | ha
    · rfl
    · exact hc a ha
  have hM := vMet r3 hc' hj (by simp only [List.length_cons]; exact hlen) hnn h E l
  have z1 := vSZ_mono hnn
  have z2 := vSZ_mono hff
  have hrm : (vRm d nf' n).frames + 1 ≤ R.frames ∧ 8 + (N.2.2.2.1 + 11) + (vRm d nf' n).locals ≤ R.locals := by
    have := r3.2.2.2.2.1
    refine ⟨by rw [h1]; exact Nat.le_refl _, ?_⟩
    simp only [vRm]
    omega
  rw [r7] at hM
  have hg := vGood r3.1
  have hcd := r3.1
  rw [r7] at hg hcd
  have hpre : PreS s H (va_Pc ((.ref b :: as : List Value).map (vmV E)) (vPc E n σ)) (.ref (E.1 + b) :: as.map (vmV E)) := ⟨vPc_blind E n σ _, fun U hU hW => ⟨rfl, by rw [hU]; exact vW0_warm hw.1 hW, by rw [hU]; exact hsz⟩⟩
  have hstk : (F0 m pc lm ((as.reverse ++ .ref b :: st).map (vmV E))).stack = (as.map (vmV E)).reverse ++ .ref (E.1 + b) :: st.map (vmV E) := by simp [vmV]
  have hcat : ((st.map (vmV E)).map fun v => v.category).sum ≤ 8 := by rw [List.map_map]; rw [show (fun v => Value.category v) ∘ vmV E = Value.category from funext (fun v => vmV_cat E v)]; exact hst
  have hfix : CallFix p m c M.2.2.1 M.2.2.2.1 s args vT M.1 := ⟨C.1, C.2.1, C.2.2.1, C.2.2.2.1, C.2.2.2.2.1⟩
  have hkk : ∀ (v : Option Value) (τ : vS) (H1 : Heap) (locs1 : List Loc), V (d + 1) nf nf' M (pc + 3) ls (v.toList ++ st) τ K → vWld E nf' τ s H1 locs1 → W p l e R s m args below meth c H1 locs1 (cells + (nf' - n)) (slots + (vSZ nf' - vSZ n)) Q (F0 m (pc + 3) lm ((v.map (vmV E)).toList ++ st.map (vmV E))) := fun v τ H1 locs1 hK hw1 => vafter hK C h1 h2 h3 h4 hnn hff h6 hw1 hl hr
  rcases r5 with r5 | ⟨host, r5⟩
  · exact vcall (va_runI (b := E.1 + b) (As := as.map (vmV E)) (rest := st.map (vmV E)) hfix hM ⟨callB_of k C.2.2.2.2.1 hg rfl rfl rfl (C.2.2.2.2.1 _ r3.2.1) (C.2.2.2.2.1 _ r5) r3.2.2.1 hrm, r6, C.2.2.2.2.1 _ r4⟩ hpre rfl (by rw [List.length_map]; exact hk) hl.1 hstk (by show 2 * 0 + _ ≤ 8; omega) r1 ⟨by omega, by omega⟩) hw hkk
  · exact vcall (va_runIN (b := E.1 + b) (As := as.map (vmV E)) (rest := st.map (vmV E)) hfix hM ⟨va_cnB k C.2.2.2.2.1 hg rfl rfl rfl (hw.1.2.2.1 _ r5) (C.2.2.2.2.1 _ r3.2.1) r3.2.2.1 hrm, r6, C.2.2.2.2.1 _ r4⟩ hpre rfl (by rw [List.length_map]; exact hk) hl.1 hstk (by show 2 * 0 + _ ≤ 8; omega) r1 ⟨by omega, by omega⟩) hw hkk
theorem st_callV {b ci : Nat} (r : vKv M pc N k ci pc') (hb : vOb n b ci) (hk : as.length = k) (hc : ∀ a ∈ as, a.category = 1) (hj : ∀ a ∈ js, a = vJ) (hlen : as.length + 1 + js.length = N.2.2.2.1) (hst : (st.map Value.category).sum ≤ 8) (hnn : n ≤ nf') (hff : nf' ≤ nf) (h : V d nf' n N 0 (.ref b :: as ++ js) [] σ (fun v τ => V (d + 1) nf nf' M pc' ls (v.toList ++ st) τ K)) : V (d + 1) nf n M pc ls (as.reverse ++ .ref b :: st) σ K := by
  intro E p l e R s m args below meth c H locs cells slots Q lm C h1 h2 h3 h4 h5 h6 hw hl hr
  obtain ⟨idx, rr, r1, rfl, r3, r4, r5, r6, r7, r8⟩ := r
  refine W_sized hw h6 (fun hsz => ?_)
  have hc' : ∀ a ∈ (.ref b :: as : List Value), a.category = 1 := by
    intro a ha
    rcases List.mem_cons.mp ha with rfl | ha
    · rfl
    · exact hc a ha
  have hM := vMet r3 hc' hj (by simp only [List.length_cons]; exact hlen) hnn h E l
  have z1 := vSZ_mono hnn
  have z2 := vSZ_mono hff
  have hrm : (vRm d nf' n).frames + 1 ≤ R.frames ∧ 8 + (N.2.2.2.1 + 11) + (vRm d nf' n).locals ≤ R.locals := by
    have := r3.2.2.2.2.1
    refine ⟨by rw [h1]; exact Nat.le_refl _, ?_⟩
    simp only [vRm]
    omega
  have he := vws_get (E := E) (σ := σ) hb.1
  rw [vcell_ob hb.2.1 hb.2.2] at he
  have hrec := va_recv hw.1.1 hw.1.2.1 r7 he
  rw [r8] at hrec
  have hpre : PreV s H N.2.1.cls (E.1 + b) (va_Pc ((.ref b :: as : List Value).map (vmV E)) (vPc E n σ)) (as.map (vmV E)) := ⟨vPc_blind E n σ _, hrec, fun U hU hW => ⟨rfl, by rw [hU]; exact vW0_warm hw.1 hW, by rw [hU]; exact hsz⟩⟩
  have hstk : (F0 m pc lm ((as.reverse ++ .ref b :: st).map (vmV E))).stack = (as.map (vmV E)).reverse ++ .ref (E.1 + b) :: st.map (vmV E) := by simp [vmV]
  have hcat : ((st.map (vmV E)).map fun v => v.category).sum ≤ 8 := by rw [List.map_map]; rw [show (fun v => Value.category v) ∘ vmV E = Value.category from funext (fun v => vmV_cat E v)]; exact hst
  have hfix : CallFix p m c M.2.2.1 M.2.2.2.1 s args vT M.1 := ⟨C.1, C.2.1, C.2.2.1, C.2.2.2.1, C.2.2.2.2.1⟩
  have hkk : ∀ (v : Option Value) (τ : vS) (H1 : Heap) (locs1 : List Loc), V (d + 1) nf nf' M (pc + 3) ls (v.toList ++ st) τ K → vWld E nf' τ s H1 locs1 → W p l e R s m args below meth c H1 locs1 (cells + (nf' - n)) (slots + (vSZ nf' - vSZ n)) Q (F0 m (pc + 3) lm ((v.map (vmV E)).toList ++ st.map (vmV E))) := fun v τ H1 locs1 hK hw1 => vafter hK C h1 h2 h3 h4 hnn hff h6 hw1 hl hr
  exact vcall (va_runV (b := E.1 + b) (As := as.map (vmV E)) (rest := st.map (vmV E)) hfix hM ⟨callB_of k C.2.2.2.2.1 (vGood r3.1) rfl rfl rfl (C.2.2.2.2.1 _ r3.2.1) (C.2.2.2.2.1 _ r5) r3.2.2.1 hrm, C.2.2.2.2.1 _ r4, C.2.2.2.2.1 _ r6⟩ hpre rfl (by rw [List.length_map]; exact hk) hl.1 hstk (by show 2 * 0 + _ ≤ 8; omega) r1 ⟨by omega, by omega⟩) hw hkk
end VC2
end
