-- ===== PART A: goes FIRST, ahead of the names: the tables' words, and 'selects' of the private methods out of them =====
/-- a private method of a class that the tables say can be made, by its rows of tables_1 -/
def lw_okq (q : MethodName × Nat) : Prop := (q.1.cls ≠ "java/lang/invoke/MethodHandle" ∧ q.1.cls ≠ "java/lang/invoke/VarHandle") ∧ Cond.instantiable q.1.cls q.2 ∈ tables_1 ∧ Cond.privateMethod q.1 ∈ tables_1 ∧ Cond.instanceMethod q.1 ∈ tables_1
theorem lw_p0 : lw_okq (⟨"LaneWishes$Masks", "moveOn", "(LLaneWishes$Road;II)V"⟩, 1) := ⟨⟨by decide +kernel, by decide +kernel⟩, List.mem_of_getElem? (i := 85) (by decide +kernel), List.mem_of_getElem? (i := 407) (by decide +kernel), List.mem_of_getElem? (i := 408) (by decide +kernel)⟩
theorem lw_p1 : lw_okq (⟨"LaneWishes", "isRowSize", "(I)Z"⟩, 10) := ⟨⟨by decide +kernel, by decide +kernel⟩, List.mem_of_getElem? (i := 17) (by decide +kernel), List.mem_of_getElem? (i := 417) (by decide +kernel), List.mem_of_getElem? (i := 418) (by decide +kernel)⟩
theorem lw_p2 : lw_okq (⟨"LaneWishes", "isPlainGood", "()Z"⟩, 10) := ⟨⟨by decide +kernel, by decide +kernel⟩, List.mem_of_getElem? (i := 17) (by decide +kernel), List.mem_of_getElem? (i := 433) (by decide +kernel), List.mem_of_getElem? (i := 434) (by decide +kernel)⟩
theorem lw_p3 : lw_okq (⟨"LaneWishes$Book", "forgetWishers", "()V"⟩, 3) := ⟨⟨by decide +kernel, by decide +kernel⟩, List.mem_of_getElem? (i := 95) (by decide +kernel), List.mem_of_getElem? (i := 445) (by decide +kernel), List.mem_of_getElem? (i := 446) (by decide +kernel)⟩
theorem lw_p4 : lw_okq (⟨"LaneWishes$Book", "rowsWith", "(III)J"⟩, 3) := ⟨⟨by decide +kernel, by decide +kernel⟩, List.mem_of_getElem? (i := 95) (by decide +kernel), List.mem_of_getElem? (i := 449) (by decide +kernel), List.mem_of_getElem? (i := 450) (by decide +kernel)⟩
theorem lw_p5 : lw_okq (⟨"LaneWishes$Book", "endings", "(II)J"⟩, 3) := ⟨⟨by decide +kernel, by decide +kernel⟩, List.mem_of_getElem? (i := 95) (by decide +kernel), List.mem_of_getElem? (i := 453) (by decide +kernel), List.mem_of_getElem? (i := 454) (by decide +kernel)⟩
theorem lw_p6 : lw_okq (⟨"LaneWishes$Book", "wishHere", "(II)J"⟩, 3) := ⟨⟨by decide +kernel, by decide +kernel⟩, List.mem_of_getElem? (i := 95) (by decide +kernel), List.mem_of_getElem? (i := 457) (by decide +kernel), List.mem_of_getElem? (i := 458) (by decide +kernel)⟩
theorem lw_p7 : lw_okq (⟨"LaneWishes$Book", "canWishOneMore", "([III)Z"⟩, 3) := ⟨⟨by decide +kernel, by decide +kernel⟩, List.mem_of_getElem? (i := 95) (by decide +kernel), List.mem_of_getElem? (i := 487) (by decide +kernel), List.mem_of_getElem? (i := 488) (by decide +kernel)⟩
theorem lw_p8 : lw_okq (⟨"LaneWishes$RisingBook", "fillEndings", "(II)V"⟩, 1) := ⟨⟨by decide +kernel, by decide +kernel⟩, List.mem_of_getElem? (i := 112) (by decide +kernel), List.mem_of_getElem? (i := 526) (by decide +kernel), List.mem_of_getElem? (i := 527) (by decide +kernel)⟩
theorem lw_p9 : lw_okq (⟨"LaneWishes", "hasTree", "()Z"⟩, 10) := ⟨⟨by decide +kernel, by decide +kernel⟩, List.mem_of_getElem? (i := 17) (by decide +kernel), List.mem_of_getElem? (i := 554) (by decide +kernel), List.mem_of_getElem? (i := 555) (by decide +kernel)⟩
theorem lw_p10 : lw_okq (⟨"LaneWishes$Road", "lastOfGreatestWish", "()I"⟩, 10) := ⟨⟨by decide +kernel, by decide +kernel⟩, List.mem_of_getElem? (i := 38) (by decide +kernel), List.mem_of_getElem? (i := 582) (by decide +kernel), List.mem_of_getElem? (i := 583) (by decide +kernel)⟩
theorem lw_p11 : lw_okq (⟨"LaneWishes$Tree", "hangCars", "([I)V"⟩, 8) := ⟨⟨by decide +kernel, by decide +kernel⟩, List.mem_of_getElem? (i := 124) (by decide +kernel), List.mem_of_getElem? (i := 594) (by decide +kernel), List.mem_of_getElem? (i := 595) (by decide +kernel)⟩
theorem lw_p12 : lw_okq (⟨"LaneWishes$Tree", "greatestWithOne", "()I"⟩, 8) := ⟨⟨by decide +kernel, by decide +kernel⟩, List.mem_of_getElem? (i := 124) (by decide +kernel), List.mem_of_getElem? (i := 614) (by decide +kernel), List.mem_of_getElem? (i := 615) (by decide +kernel)⟩
theorem lw_p13 : lw_okq (⟨"LaneWishes$Tree", "strike", "(II)V"⟩, 8) := ⟨⟨by decide +kernel, by decide +kernel⟩, List.mem_of_getElem? (i := 124) (by decide +kernel), List.mem_of_getElem? (i := 618) (by decide +kernel), List.mem_of_getElem? (i := 619) (by decide +kernel)⟩
theorem lw_p14 : lw_okq (⟨"LaneWishes$Walk", "countsFor", "(II)Z"⟩, 3) := ⟨⟨by decide +kernel, by decide +kernel⟩, List.mem_of_getElem? (i := 160) (by decide +kernel), List.mem_of_getElem? (i := 686) (by decide +kernel), List.mem_of_getElem? (i := 687) (by decide +kernel)⟩
theorem lw_p15 : lw_okq (⟨"LaneWishes$Pairs", "element", "(II)I"⟩, 3) := ⟨⟨by decide +kernel, by decide +kernel⟩, List.mem_of_getElem? (i := 178) (by decide +kernel), List.mem_of_getElem? (i := 702) (by decide +kernel), List.mem_of_getElem? (i := 703) (by decide +kernel)⟩
def lw_privs_1 : List (MethodName × Nat) := [(⟨"LaneWishes$Masks", "moveOn", "(LLaneWishes$Road;II)V"⟩, 1), (⟨"LaneWishes", "isRowSize", "(I)Z"⟩, 10), (⟨"LaneWishes", "isPlainGood", "()Z"⟩, 10), (⟨"LaneWishes$Book", "forgetWishers", "()V"⟩, 3), (⟨"LaneWishes$Book", "rowsWith", "(III)J"⟩, 3), (⟨"LaneWishes$Book", "endings", "(II)J"⟩, 3), (⟨"LaneWishes$Book", "wishHere", "(II)J"⟩, 3), (⟨"LaneWishes$Book", "canWishOneMore", "([III)Z"⟩, 3), (⟨"LaneWishes$RisingBook", "fillEndings", "(II)V"⟩, 1), (⟨"LaneWishes", "hasTree", "()Z"⟩, 10), (⟨"LaneWishes$Road", "lastOfGreatestWish", "()I"⟩, 10), (⟨"LaneWishes$Tree", "hangCars", "([I)V"⟩, 8), (⟨"LaneWishes$Tree", "greatestWithOne", "()I"⟩, 8), (⟨"LaneWishes$Tree", "strike", "(II)V"⟩, 8), (⟨"LaneWishes$Walk", "countsFor", "(II)Z"⟩, 3), (⟨"LaneWishes$Pairs", "element", "(II)I"⟩, 3)]
theorem lw_r1 : ∀ q ∈ lw_privs_1, lw_okq q := List.forall_mem_cons.mpr ⟨lw_p0, List.forall_mem_cons.mpr ⟨lw_p1, List.forall_mem_cons.mpr ⟨lw_p2, List.forall_mem_cons.mpr ⟨lw_p3, List.forall_mem_cons.mpr ⟨lw_p4, List.forall_mem_cons.mpr ⟨lw_p5, List.forall_mem_cons.mpr ⟨lw_p6, List.forall_mem_cons.mpr ⟨lw_p7, List.forall_mem_cons.mpr ⟨lw_p8, List.forall_mem_cons.mpr ⟨lw_p9, List.forall_mem_cons.mpr ⟨lw_p10, List.forall_mem_cons.mpr ⟨lw_p11, List.forall_mem_cons.mpr ⟨lw_p12, List.forall_mem_cons.mpr ⟨lw_p13, List.forall_mem_cons.mpr ⟨lw_p14, List.forall_mem_cons.mpr ⟨lw_p15, fun _ h => absurd h List.not_mem_nil⟩⟩⟩⟩⟩⟩⟩⟩⟩⟩⟩⟩⟩⟩⟩⟩
theorem lw_p16 : lw_okq (⟨"LaneWishes$Spreads", "learn", "(I)V"⟩, 5) := ⟨⟨by decide +kernel, by decide +kernel⟩, List.mem_of_getElem? (i := 196) (by decide +kernel), List.mem_of_getElem? (i := 719) (by decide +kernel), List.mem_of_getElem? (i := 720) (by decide +kernel)⟩
theorem lw_p17 : lw_okq (⟨"LaneWishes$Spreads", "addGoes", "(II)V"⟩, 5) := ⟨⟨by decide +kernel, by decide +kernel⟩, List.mem_of_getElem? (i := 196) (by decide +kernel), List.mem_of_getElem? (i := 723) (by decide +kernel), List.mem_of_getElem? (i := 724) (by decide +kernel)⟩
theorem lw_p18 : lw_okq (⟨"LaneWishes$Spreads", "mostGoes", "(I)I"⟩, 5) := ⟨⟨by decide +kernel, by decide +kernel⟩, List.mem_of_getElem? (i := 196) (by decide +kernel), List.mem_of_getElem? (i := 727) (by decide +kernel), List.mem_of_getElem? (i := 728) (by decide +kernel)⟩
theorem lw_p19 : lw_okq (⟨"LaneWishes$Spreads", "addLucky", "(II)V"⟩, 5) := ⟨⟨by decide +kernel, by decide +kernel⟩, List.mem_of_getElem? (i := 196) (by decide +kernel), List.mem_of_getElem? (i := 732) (by decide +kernel), List.mem_of_getElem? (i := 733) (by decide +kernel)⟩
theorem lw_p20 : lw_okq (⟨"LaneWishes$Spreads", "sidesOf", "(II)J"⟩, 5) := ⟨⟨by decide +kernel, by decide +kernel⟩, List.mem_of_getElem? (i := 196) (by decide +kernel), List.mem_of_getElem? (i := 745) (by decide +kernel), List.mem_of_getElem? (i := 746) (by decide +kernel)⟩
theorem lw_p21 : lw_okq (⟨"LaneWishes$Spreads", "goodRows", "(I)J"⟩, 5) := ⟨⟨by decide +kernel, by decide +kernel⟩, List.mem_of_getElem? (i := 196) (by decide +kernel), List.mem_of_getElem? (i := 749) (by decide +kernel), List.mem_of_getElem? (i := 750) (by decide +kernel)⟩
theorem lw_p22 : lw_okq (⟨"LaneWishes$Spreads", "withOnePartMore", "(I)J"⟩, 5) := ⟨⟨by decide +kernel, by decide +kernel⟩, List.mem_of_getElem? (i := 196) (by decide +kernel), List.mem_of_getElem? (i := 766) (by decide +kernel), List.mem_of_getElem? (i := 767) (by decide +kernel)⟩
theorem lw_p23 : lw_okq (⟨"LaneWishesModel", "add", "(I)V"⟩, 30) := ⟨⟨by decide +kernel, by decide +kernel⟩, List.mem_of_getElem? (i := 805) (by decide +kernel), List.mem_of_getElem? (i := 916) (by decide +kernel), List.mem_of_getElem? (i := 917) (by decide +kernel)⟩
theorem lw_p24 : lw_okq (⟨"LaneWishesModel", "isCar", "(I)Z"⟩, 30) := ⟨⟨by decide +kernel, by decide +kernel⟩, List.mem_of_getElem? (i := 805) (by decide +kernel), List.mem_of_getElem? (i := 924) (by decide +kernel), List.mem_of_getElem? (i := 925) (by decide +kernel)⟩
theorem lw_p25 : lw_okq (⟨"LaneWishesModel", "drive", "()V"⟩, 30) := ⟨⟨by decide +kernel, by decide +kernel⟩, List.mem_of_getElem? (i := 805) (by decide +kernel), List.mem_of_getElem? (i := 945) (by decide +kernel), List.mem_of_getElem? (i := 946) (by decide +kernel)⟩
theorem lw_p26 : lw_okq (⟨"LaneWishesModel", "placeFor", "(I)I"⟩, 30) := ⟨⟨by decide +kernel, by decide +kernel⟩, List.mem_of_getElem? (i := 805) (by decide +kernel), List.mem_of_getElem? (i := 949) (by decide +kernel), List.mem_of_getElem? (i := 950) (by decide +kernel)⟩
theorem lw_p27 : lw_okq (⟨"LaneWishesModel", "fits", "(II)Z"⟩, 30) := ⟨⟨by decide +kernel, by decide +kernel⟩, List.mem_of_getElem? (i := 805) (by decide +kernel), List.mem_of_getElem? (i := 953) (by decide +kernel), List.mem_of_getElem? (i := 954) (by decide +kernel)⟩
theorem lw_p28 : lw_okq (⟨"LaneWishesModel", "goes", "(I)I"⟩, 30) := ⟨⟨by decide +kernel, by decide +kernel⟩, List.mem_of_getElem? (i := 805) (by decide +kernel), List.mem_of_getElem? (i := 957) (by decide +kernel), List.mem_of_getElem? (i := 958) (by decide +kernel)⟩
theorem lw_p29 : lw_okq (⟨"LaneWishesModel", "isGood", "()Z"⟩, 30) := ⟨⟨by decide +kernel, by decide +kernel⟩, List.mem_of_getElem? (i := 805) (by decide +kernel), List.mem_of_getElem? (i := 974) (by decide +kernel), List.mem_of_getElem? (i := 975) (by decide +kernel)⟩
theorem lw_p30 : lw_okq (⟨"LaneWishesModel", "step", "()Z"⟩, 30) := ⟨⟨by decide +kernel, by decide +kernel⟩, List.mem_of_getElem? (i := 805) (by decide +kernel), List.mem_of_getElem? (i := 983) (by decide +kernel), List.mem_of_getElem? (i := 984) (by decide +kernel)⟩
theorem lw_p31 : lw_okq (⟨"LaneWishesModel", "rowsOf", "(I)J"⟩, 30) := ⟨⟨by decide +kernel, by decide +kernel⟩, List.mem_of_getElem? (i := 805) (by decide +kernel), List.mem_of_getElem? (i := 991) (by decide +kernel), List.mem_of_getElem? (i := 992) (by decide +kernel)⟩
def lw_privs_2 : List (MethodName × Nat) := [(⟨"LaneWishes$Spreads", "learn", "(I)V"⟩, 5), (⟨"LaneWishes$Spreads", "addGoes", "(II)V"⟩, 5), (⟨"LaneWishes$Spreads", "mostGoes", "(I)I"⟩, 5), (⟨"LaneWishes$Spreads", "addLucky", "(II)V"⟩, 5), (⟨"LaneWishes$Spreads", "sidesOf", "(II)J"⟩, 5), (⟨"LaneWishes$Spreads", "goodRows", "(I)J"⟩, 5), (⟨"LaneWishes$Spreads", "withOnePartMore", "(I)J"⟩, 5), (⟨"LaneWishesModel", "add", "(I)V"⟩, 30), (⟨"LaneWishesModel", "isCar", "(I)Z"⟩, 30), (⟨"LaneWishesModel", "drive", "()V"⟩, 30), (⟨"LaneWishesModel", "placeFor", "(I)I"⟩, 30), (⟨"LaneWishesModel", "fits", "(II)Z"⟩, 30), (⟨"LaneWishesModel", "goes", "(I)I"⟩, 30), (⟨"LaneWishesModel", "isGood", "()Z"⟩, 30), (⟨"LaneWishesModel", "step", "()Z"⟩, 30), (⟨"LaneWishesModel", "rowsOf", "(I)J"⟩, 30)]
theorem lw_r2 : ∀ q ∈ lw_privs_2, lw_okq q := List.forall_mem_cons.mpr ⟨lw_p16, List.forall_mem_cons.mpr ⟨lw_p17, List.forall_mem_cons.mpr ⟨lw_p18, List.forall_mem_cons.mpr ⟨lw_p19, List.forall_mem_cons.mpr ⟨lw_p20, List.forall_mem_cons.mpr ⟨lw_p21, List.forall_mem_cons.mpr ⟨lw_p22, List.forall_mem_cons.mpr ⟨lw_p23, List.forall_mem_cons.mpr ⟨lw_p24, List.forall_mem_cons.mpr ⟨lw_p25, List.forall_mem_cons.mpr ⟨lw_p26, List.forall_mem_cons.mpr ⟨lw_p27, List.forall_mem_cons.mpr ⟨lw_p28, List.forall_mem_cons.mpr ⟨lw_p29, List.forall_mem_cons.mpr ⟨lw_p30, List.forall_mem_cons.mpr ⟨lw_p31, fun _ h => absurd h List.not_mem_nil⟩⟩⟩⟩⟩⟩⟩⟩⟩⟩⟩⟩⟩⟩⟩⟩
theorem lw_p32 : lw_okq (⟨"LaneWishesModel", "clearTold", "()V"⟩, 30) := ⟨⟨by decide +kernel, by decide +kernel⟩, List.mem_of_getElem? (i := 805) (by decide +kernel), List.mem_of_getElem? (i := 995) (by decide +kernel), List.mem_of_getElem? (i := 996) (by decide +kernel)⟩
theorem lw_p33 : lw_okq (⟨"LaneWishesModel", "finishes", "(II)J"⟩, 30) := ⟨⟨by decide +kernel, by decide +kernel⟩, List.mem_of_getElem? (i := 805) (by decide +kernel), List.mem_of_getElem? (i := 999) (by decide +kernel), List.mem_of_getElem? (i := 1000) (by decide +kernel)⟩
theorem lw_p34 : lw_okq (⟨"LaneWishesModel", "choose", "(II)J"⟩, 30) := ⟨⟨by decide +kernel, by decide +kernel⟩, List.mem_of_getElem? (i := 805) (by decide +kernel), List.mem_of_getElem? (i := 1003) (by decide +kernel), List.mem_of_getElem? (i := 1004) (by decide +kernel)⟩
theorem lw_p35 : lw_okq (⟨"LaneWishesModel", "isWell", "()Z"⟩, 30) := ⟨⟨by decide +kernel, by decide +kernel⟩, List.mem_of_getElem? (i := 805) (by decide +kernel), List.mem_of_getElem? (i := 1012) (by decide +kernel), List.mem_of_getElem? (i := 1013) (by decide +kernel)⟩
theorem lw_p36 : lw_okq (⟨"LaneWishesModel", "isPlain", "()Z"⟩, 30) := ⟨⟨by decide +kernel, by decide +kernel⟩, List.mem_of_getElem? (i := 805) (by decide +kernel), List.mem_of_getElem? (i := 1016) (by decide +kernel), List.mem_of_getElem? (i := 1017) (by decide +kernel)⟩
theorem lw_p37 : lw_okq (⟨"LaneWishesModel", "rankOf", "()J"⟩, 30) := ⟨⟨by decide +kernel, by decide +kernel⟩, List.mem_of_getElem? (i := 805) (by decide +kernel), List.mem_of_getElem? (i := 1020) (by decide +kernel), List.mem_of_getElem? (i := 1021) (by decide +kernel)⟩
theorem lw_p38 : lw_okq (⟨"LaneWishesModel", "fromRank", "(IJ)V"⟩, 30) := ⟨⟨by decide +kernel, by decide +kernel⟩, List.mem_of_getElem? (i := 805) (by decide +kernel), List.mem_of_getElem? (i := 1029) (by decide +kernel), List.mem_of_getElem? (i := 1030) (by decide +kernel)⟩
theorem lw_p39 : lw_okq (⟨"LaneWishesModel", "sort", "()V"⟩, 30) := ⟨⟨by decide +kernel, by decide +kernel⟩, List.mem_of_getElem? (i := 805) (by decide +kernel), List.mem_of_getElem? (i := 1049) (by decide +kernel), List.mem_of_getElem? (i := 1050) (by decide +kernel)⟩
theorem lw_p40 : lw_okq (⟨"LaneWishesModel", "risingsOf", "(I)J"⟩, 30) := ⟨⟨by decide +kernel, by decide +kernel⟩, List.mem_of_getElem? (i := 805) (by decide +kernel), List.mem_of_getElem? (i := 1057) (by decide +kernel), List.mem_of_getElem? (i := 1058) (by decide +kernel)⟩
theorem lw_p41 : lw_okq (⟨"LaneWishesModel", "findRising", "(I)V"⟩, 30) := ⟨⟨by decide +kernel, by decide +kernel⟩, List.mem_of_getElem? (i := 805) (by decide +kernel), List.mem_of_getElem? (i := 1061) (by decide +kernel), List.mem_of_getElem? (i := 1062) (by decide +kernel)⟩
theorem lw_p42 : lw_okq (⟨"LaneWishesModel", "isFull", "()Z"⟩, 30) := ⟨⟨by decide +kernel, by decide +kernel⟩, List.mem_of_getElem? (i := 805) (by decide +kernel), List.mem_of_getElem? (i := 1077) (by decide +kernel), List.mem_of_getElem? (i := 1078) (by decide +kernel)⟩
theorem lw_p43 : lw_okq (⟨"LaneWishesModel", "wishUpTo", "(I)I"⟩, 30) := ⟨⟨by decide +kernel, by decide +kernel⟩, List.mem_of_getElem? (i := 805) (by decide +kernel), List.mem_of_getElem? (i := 1081) (by decide +kernel), List.mem_of_getElem? (i := 1082) (by decide +kernel)⟩
theorem lw_p44 : lw_okq (⟨"LaneWishesModel", "findTree", "()V"⟩, 30) := ⟨⟨by decide +kernel, by decide +kernel⟩, List.mem_of_getElem? (i := 805) (by decide +kernel), List.mem_of_getElem? (i := 1103) (by decide +kernel), List.mem_of_getElem? (i := 1104) (by decide +kernel)⟩
theorem lw_p45 : lw_okq (⟨"LaneWishesModel", "isBelow", "(II)Z"⟩, 30) := ⟨⟨by decide +kernel, by decide +kernel⟩, List.mem_of_getElem? (i := 805) (by decide +kernel), List.mem_of_getElem? (i := 1107) (by decide +kernel), List.mem_of_getElem? (i := 1108) (by decide +kernel)⟩
theorem lw_p46 : lw_okq (⟨"LaneWishesModel", "neighbourOf", "(I)I"⟩, 30) := ⟨⟨by decide +kernel, by decide +kernel⟩, List.mem_of_getElem? (i := 805) (by decide +kernel), List.mem_of_getElem? (i := 1119) (by decide +kernel), List.mem_of_getElem? (i := 1120) (by decide +kernel)⟩
theorem lw_p47 : lw_okq (⟨"LaneWishesModel", "against", "(IIII)I"⟩, 30) := ⟨⟨by decide +kernel, by decide +kernel⟩, List.mem_of_getElem? (i := 805) (by decide +kernel), List.mem_of_getElem? (i := 1131) (by decide +kernel), List.mem_of_getElem? (i := 1132) (by decide +kernel)⟩
def lw_privs_3 : List (MethodName × Nat) := [(⟨"LaneWishesModel", "clearTold", "()V"⟩, 30), (⟨"LaneWishesModel", "finishes", "(II)J"⟩, 30), (⟨"LaneWishesModel", "choose", "(II)J"⟩, 30), (⟨"LaneWishesModel", "isWell", "()Z"⟩, 30), (⟨"LaneWishesModel", "isPlain", "()Z"⟩, 30), (⟨"LaneWishesModel", "rankOf", "()J"⟩, 30), (⟨"LaneWishesModel", "fromRank", "(IJ)V"⟩, 30), (⟨"LaneWishesModel", "sort", "()V"⟩, 30), (⟨"LaneWishesModel", "risingsOf", "(I)J"⟩, 30), (⟨"LaneWishesModel", "findRising", "(I)V"⟩, 30), (⟨"LaneWishesModel", "isFull", "()Z"⟩, 30), (⟨"LaneWishesModel", "wishUpTo", "(I)I"⟩, 30), (⟨"LaneWishesModel", "findTree", "()V"⟩, 30), (⟨"LaneWishesModel", "isBelow", "(II)Z"⟩, 30), (⟨"LaneWishesModel", "neighbourOf", "(I)I"⟩, 30), (⟨"LaneWishesModel", "against", "(IIII)I"⟩, 30)]
theorem lw_r3 : ∀ q ∈ lw_privs_3, lw_okq q := List.forall_mem_cons.mpr ⟨lw_p32, List.forall_mem_cons.mpr ⟨lw_p33, List.forall_mem_cons.mpr ⟨lw_p34, List.forall_mem_cons.mpr ⟨lw_p35, List.forall_mem_cons.mpr ⟨lw_p36, List.forall_mem_cons.mpr ⟨lw_p37, List.forall_mem_cons.mpr ⟨lw_p38, List.forall_mem_cons.mpr ⟨lw_p39, List.forall_mem_cons.mpr ⟨lw_p40, List.forall_mem_cons.mpr ⟨lw_p41, List.forall_mem_cons.mpr ⟨lw_p42, List.forall_mem_cons.mpr ⟨lw_p43, List.forall_mem_cons.mpr ⟨lw_p44, List.forall_mem_cons.mpr ⟨lw_p45, List.forall_mem_cons.mpr ⟨lw_p46, List.forall_mem_cons.mpr ⟨lw_p47, fun _ h => absurd h List.not_mem_nil⟩⟩⟩⟩⟩⟩⟩⟩⟩⟩⟩⟩⟩⟩⟩⟩
theorem lw_p48 : lw_okq (⟨"LaneWishesModel", "read", "(II)I"⟩, 30) := ⟨⟨by decide +kernel, by decide +kernel⟩, List.mem_of_getElem? (i := 805) (by decide +kernel), List.mem_of_getElem? (i := 1135) (by decide +kernel), List.mem_of_getElem? (i := 1136) (by decide +kernel)⟩
theorem lw_p49 : lw_okq (⟨"LaneWishesModel", "hang", "()V"⟩, 30) := ⟨⟨by decide +kernel, by decide +kernel⟩, List.mem_of_getElem? (i := 805) (by decide +kernel), List.mem_of_getElem? (i := 1139) (by decide +kernel), List.mem_of_getElem? (i := 1140) (by decide +kernel)⟩
theorem lw_p50 : lw_okq (⟨"LaneWishesModel", "plant", "()V"⟩, 30) := ⟨⟨by decide +kernel, by decide +kernel⟩, List.mem_of_getElem? (i := 805) (by decide +kernel), List.mem_of_getElem? (i := 1143) (by decide +kernel), List.mem_of_getElem? (i := 1144) (by decide +kernel)⟩
theorem lw_p51 : lw_okq (⟨"LaneWishesModel", "findWalk", "()V"⟩, 30) := ⟨⟨by decide +kernel, by decide +kernel⟩, List.mem_of_getElem? (i := 805) (by decide +kernel), List.mem_of_getElem? (i := 1155) (by decide +kernel), List.mem_of_getElem? (i := 1156) (by decide +kernel)⟩
theorem lw_p52 : lw_okq (⟨"LaneWishesModel", "area", "()I"⟩, 30) := ⟨⟨by decide +kernel, by decide +kernel⟩, List.mem_of_getElem? (i := 805) (by decide +kernel), List.mem_of_getElem? (i := 1163) (by decide +kernel), List.mem_of_getElem? (i := 1164) (by decide +kernel)⟩
theorem lw_p53 : lw_okq (⟨"LaneWishesModel", "dinv", "()I"⟩, 30) := ⟨⟨by decide +kernel, by decide +kernel⟩, List.mem_of_getElem? (i := 805) (by decide +kernel), List.mem_of_getElem? (i := 1167) (by decide +kernel), List.mem_of_getElem? (i := 1168) (by decide +kernel)⟩
theorem lw_p54 : lw_okq (⟨"LaneWishesModel", "withSum", "(II)J"⟩, 30) := ⟨⟨by decide +kernel, by decide +kernel⟩, List.mem_of_getElem? (i := 805) (by decide +kernel), List.mem_of_getElem? (i := 1180) (by decide +kernel), List.mem_of_getElem? (i := 1181) (by decide +kernel)⟩
theorem lw_p55 : lw_okq (⟨"LaneWishesModel", "withLucky", "(II)J"⟩, 30) := ⟨⟨by decide +kernel, by decide +kernel⟩, List.mem_of_getElem? (i := 805) (by decide +kernel), List.mem_of_getElem? (i := 1184) (by decide +kernel), List.mem_of_getElem? (i := 1185) (by decide +kernel)⟩
theorem lw_p56 : lw_okq (⟨"LaneWishesModel", "withParts", "(II)J"⟩, 30) := ⟨⟨by decide +kernel, by decide +kernel⟩, List.mem_of_getElem? (i := 805) (by decide +kernel), List.mem_of_getElem? (i := 1189) (by decide +kernel), List.mem_of_getElem? (i := 1190) (by decide +kernel)⟩
def lw_privs_4 : List (MethodName × Nat) := [(⟨"LaneWishesModel", "read", "(II)I"⟩, 30), (⟨"LaneWishesModel", "hang", "()V"⟩, 30), (⟨"LaneWishesModel", "plant", "()V"⟩, 30), (⟨"LaneWishesModel", "findWalk", "()V"⟩, 30), (⟨"LaneWishesModel", "area", "()I"⟩, 30), (⟨"LaneWishesModel", "dinv", "()I"⟩, 30), (⟨"LaneWishesModel", "withSum", "(II)J"⟩, 30), (⟨"LaneWishesModel", "withLucky", "(II)J"⟩, 30), (⟨"LaneWishesModel", "withParts", "(II)J"⟩, 30)]
theorem lw_r4 : ∀ q ∈ lw_privs_4, lw_okq q := List.forall_mem_cons.mpr ⟨lw_p48, List.forall_mem_cons.mpr ⟨lw_p49, List.forall_mem_cons.mpr ⟨lw_p50, List.forall_mem_cons.mpr ⟨lw_p51, List.forall_mem_cons.mpr ⟨lw_p52, List.forall_mem_cons.mpr ⟨lw_p53, List.forall_mem_cons.mpr ⟨lw_p54, List.forall_mem_cons.mpr ⟨lw_p55, List.forall_mem_cons.mpr ⟨lw_p56, fun _ h => absurd h List.not_mem_nil⟩⟩⟩⟩⟩⟩⟩⟩⟩
def lw_privs : List (MethodName × Nat) := lw_privs_1 ++ (lw_privs_2 ++ (lw_privs_3 ++ (lw_privs_4)))
def lw_tbl : List Cond := k2_sels lw_privs ++ tables_1
theorem lw_privs_ok : ∀ q ∈ lw_privs, lw_okq q := by
  show ∀ q ∈ lw_privs_1 ++ (lw_privs_2 ++ (lw_privs_3 ++ (lw_privs_4))), lw_okq q
  exact List.forall_mem_append.mpr ⟨lw_r1, List.forall_mem_append.mpr ⟨lw_r2, List.forall_mem_append.mpr ⟨lw_r3, lw_r4⟩⟩⟩
def RX0 : String := "LaneWishes$Book"
def TX0 : u_T := fun k => match k with
  | 0 => ("LaneWishes$Book", "choices", "LLaneWishes$Choices;", true)
  | 1 => ("LaneWishes$Book", "wishers", "[I", true)
  | _ => ("LaneWishes$Book", "ways", "[J", true)
def tyX0 : Nat → FieldType := fun k => match k with
  | 0 => .object "LaneWishes$Choices"
  | 1 => .array .int
  | _ => .array .long
theorem nmX0 : ∀ a, a < 3 → ∀ b, b < 3 → a ≠ b → (TX0 a).2.1 ≠ (TX0 b).2.1 := by decide +kernel
theorem tyX0_ok : ∀ k, k < 3 → parseFieldDescriptor (TX0 k).2.2.1 = some (tyX0 k) := by decide +kernel
abbrev cX0_init : ByteArray := prog_2_method_1_code
def yX0_init : MethodName := ⟨RX0, "<init>", "(LLaneWishes$Choices;)V"⟩
abbrev cX0_howMany : ByteArray := prog_2_method_2_code
def yX0_howMany : MethodName := ⟨RX0, "howMany", "(II)J"⟩
abbrev cX0_primeRows : ByteArray := prog_2_method_3_code
def yX0_primeRows : MethodName := ⟨RX0, "primeRows", "(I)J"⟩
abbrev cX0_numberOf : ByteArray := prog_2_method_4_code
def yX0_numberOf : MethodName := ⟨RX0, "numberOf", "([III)J"⟩
abbrev cX0_fillRow : ByteArray := prog_2_method_5_code
def yX0_fillRow : MethodName := ⟨RX0, "fillRow", "([IIIJ)V"⟩
abbrev cX0_stepOn : ByteArray := prog_2_method_6_code
def yX0_stepOn : MethodName := ⟨RX0, "stepOn", "([III)Z"⟩
abbrev cX0_canWishOneMore : ByteArray := prog_2_method_7_code
def yX0_canWishOneMore : MethodName := ⟨RX0, "canWishOneMore", "([III)Z"⟩
abbrev cX0_forgetWishers : ByteArray := prog_2_method_8_code
def yX0_forgetWishers : MethodName := ⟨RX0, "forgetWishers", "()V"⟩
abbrev cX0_rowsWith : ByteArray := prog_2_method_9_code
def yX0_rowsWith : MethodName := ⟨RX0, "rowsWith", "(III)J"⟩
abbrev cX0_endings : ByteArray := prog_2_method_10_code
def yX0_endings : MethodName := ⟨RX0, "endings", "(II)J"⟩
abbrev cX0_wishHere : ByteArray := prog_2_method_11_code
def yX0_wishHere : MethodName := ⟨RX0, "wishHere", "(II)J"⟩
def RX1 : String := "LaneWishes$Choices"
def TX1 : u_T := fun k => match k with
  | _ => ("LaneWishes$Choices", "table", "[[I", true)
def tyX1 : Nat → FieldType := fun k => match k with
  | _ => .array (.array .int)
theorem nmX1 : ∀ a, a < 1 → ∀ b, b < 1 → a ≠ b → (TX1 a).2.1 ≠ (TX1 b).2.1 := by decide +kernel
theorem tyX1_ok : ∀ k, k < 1 → parseFieldDescriptor (TX1 k).2.2.1 = some (tyX1 k) := by decide +kernel
abbrev cX1_init : ByteArray := prog_3_method_1_code
def yX1_init : MethodName := ⟨RX1, "<init>", "()V"⟩
abbrev cX1_of : ByteArray := prog_3_method_2_code
def yX1_of : MethodName := ⟨RX1, "of", "(II)I"⟩
def RX2 : String := "LaneWishes$Masks"
def TX2 : u_T := fun k => match k with
  | _ => ("LaneWishes$Masks", "rows", "[I", true)
def tyX2 : Nat → FieldType := fun k => match k with
  | _ => .array .int
theorem nmX2 : ∀ a, a < 1 → ∀ b, b < 1 → a ≠ b → (TX2 a).2.1 ≠ (TX2 b).2.1 := by decide +kernel
theorem tyX2_ok : ∀ k, k < 1 → parseFieldDescriptor (TX2 k).2.2.1 = some (tyX2 k) := by decide +kernel
abbrev cX2_init : ByteArray := prog_4_method_1_code
def yX2_init : MethodName := ⟨RX2, "<init>", "()V"⟩
abbrev cX2_goodRows : ByteArray := prog_4_method_2_code
def yX2_goodRows : MethodName := ⟨RX2, "goodRows", "(LLaneWishes$Road;)I"⟩
abbrev cX2_moveOn : ByteArray := prog_4_method_3_code
def yX2_moveOn : MethodName := ⟨RX2, "moveOn", "(LLaneWishes$Road;II)V"⟩
def RX3 : String := "LaneWishes$Pairs"
def TX3 : u_T := fun k => match k with
  | 0 => ("LaneWishes$Pairs", "filled", "[Z", true)
  | 1 => ("LaneWishes$Pairs", "rows", "[[I", true)
  | _ => ("LaneWishes$Pairs", "wish", "[I", true)
def tyX3 : Nat → FieldType := fun k => match k with
  | 0 => .array .boolean
  | 1 => .array (.array .int)
  | _ => .array .int
theorem nmX3 : ∀ a, a < 3 → ∀ b, b < 3 → a ≠ b → (TX3 a).2.1 ≠ (TX3 b).2.1 := by decide +kernel
theorem tyX3_ok : ∀ k, k < 3 → parseFieldDescriptor (TX3 k).2.2.1 = some (tyX3 k) := by decide +kernel
abbrev cX3_init : ByteArray := prog_5_method_1_code
def yX3_init : MethodName := ⟨RX3, "<init>", "()V"⟩
abbrev cX3_fill : ByteArray := prog_5_method_2_code
def yX3_fill : MethodName := ⟨RX3, "fill", "(ILLaneWishes$Book;LLaneWishes$Walk;)V"⟩
abbrev cX3_rowsWith : ByteArray := prog_5_method_3_code
def yX3_rowsWith : MethodName := ⟨RX3, "rowsWith", "(III)I"⟩
abbrev cX3_element : ByteArray := prog_5_method_4_code
def yX3_element : MethodName := ⟨RX3, "element", "(II)I"⟩
def RX4 : String := "LaneWishes$RisingBook"
def TX4 : u_T := fun k => match k with
  | _ => ("LaneWishes$RisingBook", "endings", "[[J", true)
def tyX4 : Nat → FieldType := fun k => match k with
  | _ => .array (.array .long)
theorem nmX4 : ∀ a, a < 1 → ∀ b, b < 1 → a ≠ b → (TX4 a).2.1 ≠ (TX4 b).2.1 := by decide +kernel
theorem tyX4_ok : ∀ k, k < 1 → parseFieldDescriptor (TX4 k).2.2.1 = some (tyX4 k) := by decide +kernel
abbrev cX4_init : ByteArray := prog_6_method_1_code
def yX4_init : MethodName := ⟨RX4, "<init>", "()V"⟩
abbrev cX4_howMany : ByteArray := prog_6_method_2_code
def yX4_howMany : MethodName := ⟨RX4, "howMany", "(II)J"⟩
abbrev cX4_numberOf : ByteArray := prog_6_method_3_code
def yX4_numberOf : MethodName := ⟨RX4, "numberOf", "([III)J"⟩
abbrev cX4_fillRow : ByteArray := prog_6_method_4_code
def yX4_fillRow : MethodName := ⟨RX4, "fillRow", "([IIIJ)V"⟩
abbrev cX4_fillEndings : ByteArray := prog_6_method_5_code
def yX4_fillEndings : MethodName := ⟨RX4, "fillEndings", "(II)V"⟩
def RX5 : String := "LaneWishes$Road"
def TX5 : u_T := fun k => match k with
  | 0 => ("LaneWishes$Road", "kind", "I", false)
  | 1 => ("LaneWishes$Road", "n", "I", false)
  | 2 => ("LaneWishes$Road", "back", "I", false)
  | 3 => ("LaneWishes$Road", "k", "I", false)
  | 4 => ("LaneWishes$Road", "taken", "I", false)
  | 5 => ("LaneWishes$Road", "wish", "[I", true)
  | 6 => ("LaneWishes$Road", "length", "[I", true)
  | 7 => ("LaneWishes$Road", "at", "[I", true)
  | 8 => ("LaneWishes$Road", "body", "[I", true)
  | _ => ("LaneWishes$Road", "oldWish", "[I", true)
def tyX5 : Nat → FieldType := fun k => match k with
  | 0 => .int
  | 1 => .int
  | 2 => .int
  | 3 => .int
  | 4 => .int
  | 5 => .array .int
  | 6 => .array .int
  | 7 => .array .int
  | 8 => .array .int
  | _ => .array .int
theorem nmX5 : ∀ a, a < 10 → ∀ b, b < 10 → a ≠ b → (TX5 a).2.1 ≠ (TX5 b).2.1 := by decide +kernel
theorem tyX5_ok : ∀ k, k < 10 → parseFieldDescriptor (TX5 k).2.2.1 = some (tyX5 k) := by decide +kernel
abbrev cX5_init : ByteArray := prog_7_method_1_code
def yX5_init : MethodName := ⟨RX5, "<init>", "()V"⟩
abbrev cX5_lay : ByteArray := prog_7_method_2_code
def yX5_lay : MethodName := ⟨RX5, "lay", "(III)V"⟩
abbrev cX5_add : ByteArray := prog_7_method_3_code
def yX5_add : MethodName := ⟨RX5, "add", "(I)V"⟩
abbrev cX5_leaveOnly : ByteArray := prog_7_method_4_code
def yX5_leaveOnly : MethodName := ⟨RX5, "leaveOnly", "(I)V"⟩
abbrev cX5_take : ByteArray := prog_7_method_5_code
def yX5_take : MethodName := ⟨RX5, "take", "([II)V"⟩
abbrev cX5_settle : ByteArray := prog_7_method_6_code
def yX5_settle : MethodName := ⟨RX5, "settle", "()V"⟩
abbrev cX5_isFree : ByteArray := prog_7_method_7_code
def yX5_isFree : MethodName := ⟨RX5, "isFree", "(II)Z"⟩
abbrev cX5_firstFree : ByteArray := prog_7_method_8_code
def yX5_firstFree : MethodName := ⟨RX5, "firstFree", "(II)I"⟩
abbrev cX5_bodyAt : ByteArray := prog_7_method_9_code
def yX5_bodyAt : MethodName := ⟨RX5, "bodyAt", "(III)I"⟩
abbrev cX5_hasPlace : ByteArray := prog_7_method_10_code
def yX5_hasPlace : MethodName := ⟨RX5, "hasPlace", "(I)Z"⟩
abbrev cX5_hasCar : ByteArray := prog_7_method_11_code
def yX5_hasCar : MethodName := ⟨RX5, "hasCar", "(I)Z"⟩
abbrev cX5_comesIn : ByteArray := prog_7_method_12_code
def yX5_comesIn : MethodName := ⟨RX5, "comesIn", "(I)Z"⟩
abbrev cX5_isLucky : ByteArray := prog_7_method_13_code
def yX5_isLucky : MethodName := ⟨RX5, "isLucky", "(I)Z"⟩
abbrev cX5_far : ByteArray := prog_7_method_14_code
def yX5_far : MethodName := ⟨RX5, "far", "(I)I"⟩
abbrev cX5_carOn : ByteArray := prog_7_method_15_code
def yX5_carOn : MethodName := ⟨RX5, "carOn", "(I)I"⟩
abbrev cX5_howManyIn : ByteArray := prog_7_method_16_code
def yX5_howManyIn : MethodName := ⟨RX5, "howManyIn", "()I"⟩
abbrev cX5_howManyLucky : ByteArray := prog_7_method_17_code
def yX5_howManyLucky : MethodName := ⟨RX5, "howManyLucky", "()I"⟩
abbrev cX5_farOfAll : ByteArray := prog_7_method_18_code
def yX5_farOfAll : MethodName := ⟨RX5, "farOfAll", "()I"⟩
abbrev cX5_farthest : ByteArray := prog_7_method_19_code
def yX5_farthest : MethodName := ⟨RX5, "farthest", "()I"⟩
abbrev cX5_allIn : ByteArray := prog_7_method_20_code
def yX5_allIn : MethodName := ⟨RX5, "allIn", "()Z"⟩
abbrev cX5_isPlain : ByteArray := prog_7_method_21_code
def yX5_isPlain : MethodName := ⟨RX5, "isPlain", "()Z"⟩
abbrev cX5_isRising : ByteArray := prog_7_method_22_code
def yX5_isRising : MethodName := ⟨RX5, "isRising", "()Z"⟩
abbrev cX5_hasFewRows : ByteArray := prog_7_method_23_code
def yX5_hasFewRows : MethodName := ⟨RX5, "hasFewRows", "()Z"⟩
abbrev cX5_rowsLikeIt : ByteArray := prog_7_method_24_code
def yX5_rowsLikeIt : MethodName := ⟨RX5, "rowsLikeIt", "()J"⟩
abbrev cX5_ordersOfWishes : ByteArray := prog_7_method_25_code
def yX5_ordersOfWishes : MethodName := ⟨RX5, "ordersOfWishes", "()J"⟩
abbrev cX5_wishesUpTo : ByteArray := prog_7_method_26_code
def yX5_wishesUpTo : MethodName := ⟨RX5, "wishesUpTo", "(I)I"⟩
abbrev cX5_sortWishes : ByteArray := prog_7_method_27_code
def yX5_sortWishes : MethodName := ⟨RX5, "sortWishes", "()I"⟩
abbrev cX5_cutBits : ByteArray := prog_7_method_28_code
def yX5_cutBits : MethodName := ⟨RX5, "cutBits", "()I"⟩
abbrev cX5_mendWishes : ByteArray := prog_7_method_29_code
def yX5_mendWishes : MethodName := ⟨RX5, "mendWishes", "()I"⟩
abbrev cX5_lastOfGreatestWish : ByteArray := prog_7_method_30_code
def yX5_lastOfGreatestWish : MethodName := ⟨RX5, "lastOfGreatestWish", "()I"⟩
def RX6 : String := "LaneWishes$Sheets"
def TX6 : u_T := fun k => match k with
  | 0 => ("LaneWishes$Sheets", "laneOf", "[I", true)
  | 1 => ("LaneWishes$Sheets", "sizeOf", "[I", true)
  | _ => ("LaneWishes$Sheets", "items", "[[I", true)
def tyX6 : Nat → FieldType := fun k => match k with
  | 0 => .array .int
  | 1 => .array .int
  | _ => .array (.array .int)
theorem nmX6 : ∀ a, a < 3 → ∀ b, b < 3 → a ≠ b → (TX6 a).2.1 ≠ (TX6 b).2.1 := by decide +kernel
theorem tyX6_ok : ∀ k, k < 3 → parseFieldDescriptor (TX6 k).2.2.1 = some (tyX6 k) := by decide +kernel
abbrev cX6_init : ByteArray := prog_8_method_1_code
def yX6_init : MethodName := ⟨RX6, "<init>", "()V"⟩
abbrev cX6_hasSheet : ByteArray := prog_8_method_2_code
def yX6_hasSheet : MethodName := ⟨RX6, "hasSheet", "(I)Z"⟩
abbrev cX6_hasLane : ByteArray := prog_8_method_3_code
def yX6_hasLane : MethodName := ⟨RX6, "hasLane", "(I)Z"⟩
abbrev cX6_holdsNothing : ByteArray := prog_8_method_4_code
def yX6_holdsNothing : MethodName := ⟨RX6, "holdsNothing", "(I)Z"⟩
abbrev cX6_refusal : ByteArray := prog_8_method_5_code
def yX6_refusal : MethodName := ⟨RX6, "refusal", "(IIII)I"⟩
abbrev cX6_renew : ByteArray := prog_8_method_6_code
def yX6_renew : MethodName := ⟨RX6, "renew", "(III)V"⟩
abbrev cX6_remove : ByteArray := prog_8_method_7_code
def yX6_remove : MethodName := ⟨RX6, "remove", "(I)I"⟩
abbrev cX6_put : ByteArray := prog_8_method_8_code
def yX6_put : MethodName := ⟨RX6, "put", "(III)V"⟩
abbrev cX6_allWithin : ByteArray := prog_8_method_9_code
def yX6_allWithin : MethodName := ⟨RX6, "allWithin", "(IIIII)Z"⟩
abbrev cX6_copyTo : ByteArray := prog_8_method_10_code
def yX6_copyTo : MethodName := ⟨RX6, "copyTo", "([IIII)V"⟩
def RX7 : String := "LaneWishes$Spreads"
def TX7 : u_T := fun k => match k with
  | 0 => ("LaneWishes$Spreads", "choices", "LLaneWishes$Choices;", true)
  | 1 => ("LaneWishes$Spreads", "known", "I", false)
  | 2 => ("LaneWishes$Spreads", "byGoes", "[[J", true)
  | 3 => ("LaneWishes$Spreads", "byLucky", "[[J", true)
  | _ => ("LaneWishes$Spreads", "byCuts", "[J", true)
def tyX7 : Nat → FieldType := fun k => match k with
  | 0 => .object "LaneWishes$Choices"
  | 1 => .int
  | 2 => .array (.array .long)
  | 3 => .array (.array .long)
  | _ => .array .long
theorem nmX7 : ∀ a, a < 5 → ∀ b, b < 5 → a ≠ b → (TX7 a).2.1 ≠ (TX7 b).2.1 := by decide +kernel
theorem tyX7_ok : ∀ k, k < 5 → parseFieldDescriptor (TX7 k).2.2.1 = some (tyX7 k) := by decide +kernel
abbrev cX7_init : ByteArray := prog_9_method_1_code
def yX7_init : MethodName := ⟨RX7, "<init>", "(LLaneWishes$Choices;)V"⟩
abbrev cX7_withGoes : ByteArray := prog_9_method_2_code
def yX7_withGoes : MethodName := ⟨RX7, "withGoes", "(II)J"⟩
abbrev cX7_withLucky : ByteArray := prog_9_method_3_code
def yX7_withLucky : MethodName := ⟨RX7, "withLucky", "(II)J"⟩
abbrev cX7_withLastAt : ByteArray := prog_9_method_4_code
def yX7_withLastAt : MethodName := ⟨RX7, "withLastAt", "(II)J"⟩
abbrev cX7_withFirstWish : ByteArray := prog_9_method_5_code
def yX7_withFirstWish : MethodName := ⟨RX7, "withFirstWish", "(II)J"⟩
abbrev cX7_withOnes : ByteArray := prog_9_method_6_code
def yX7_withOnes : MethodName := ⟨RX7, "withOnes", "(II)J"⟩
abbrev cX7_withCuts : ByteArray := prog_9_method_7_code
def yX7_withCuts : MethodName := ⟨RX7, "withCuts", "(II)J"⟩
abbrev cX7_withOnePartMore : ByteArray := prog_9_method_8_code
def yX7_withOnePartMore : MethodName := ⟨RX7, "withOnePartMore", "(I)J"⟩
abbrev cX7_sidesOf : ByteArray := prog_9_method_9_code
def yX7_sidesOf : MethodName := ⟨RX7, "sidesOf", "(II)J"⟩
abbrev cX7_goodRows : ByteArray := prog_9_method_10_code
def yX7_goodRows : MethodName := ⟨RX7, "goodRows", "(I)J"⟩
abbrev cX7_learn : ByteArray := prog_9_method_11_code
def yX7_learn : MethodName := ⟨RX7, "learn", "(I)V"⟩
abbrev cX7_mostGoes : ByteArray := prog_9_method_12_code
def yX7_mostGoes : MethodName := ⟨RX7, "mostGoes", "(I)I"⟩
abbrev cX7_addGoes : ByteArray := prog_9_method_13_code
def yX7_addGoes : MethodName := ⟨RX7, "addGoes", "(II)V"⟩
abbrev cX7_addLucky : ByteArray := prog_9_method_14_code
def yX7_addLucky : MethodName := ⟨RX7, "addLucky", "(II)V"⟩
def RX8 : String := "LaneWishes$Tree"
def TX8 : u_T := fun k => match k with
  | 0 => ("LaneWishes$Tree", "n", "I", false)
  | 1 => ("LaneWishes$Tree", "parent", "[I", true)
  | 2 => ("LaneWishes$Tree", "depth", "[I", true)
  | 3 => ("LaneWishes$Tree", "children", "[I", true)
  | 4 => ("LaneWishes$Tree", "below", "[I", true)
  | 5 => ("LaneWishes$Tree", "seenAs", "[I", true)
  | 6 => ("LaneWishes$Tree", "seen", "[I", true)
  | _ => ("LaneWishes$Tree", "neighbours", "[I", true)
def tyX8 : Nat → FieldType := fun k => match k with
  | 0 => .int
  | 1 => .array .int
  | 2 => .array .int
  | 3 => .array .int
  | 4 => .array .int
  | 5 => .array .int
  | 6 => .array .int
  | _ => .array .int
theorem nmX8 : ∀ a, a < 8 → ∀ b, b < 8 → a ≠ b → (TX8 a).2.1 ≠ (TX8 b).2.1 := by decide +kernel
theorem tyX8_ok : ∀ k, k < 8 → parseFieldDescriptor (TX8 k).2.2.1 = some (tyX8 k) := by decide +kernel
abbrev cX8_init : ByteArray := prog_10_method_1_code
def yX8_init : MethodName := ⟨RX8, "<init>", "()V"⟩
abbrev cX8_build : ByteArray := prog_10_method_2_code
def yX8_build : MethodName := ⟨RX8, "build", "([II)V"⟩
abbrev cX8_hangCars : ByteArray := prog_10_method_3_code
def yX8_hangCars : MethodName := ⟨RX8, "hangCars", "([I)V"⟩
abbrev cX8_inversions : ByteArray := prog_10_method_4_code
def yX8_inversions : MethodName := ⟨RX8, "inversions", "()I"⟩
abbrev cX8_codeNumber : ByteArray := prog_10_method_5_code
def yX8_codeNumber : MethodName := ⟨RX8, "codeNumber", "(I)I"⟩
abbrev cX8_parentsOfCode : ByteArray := prog_10_method_6_code
def yX8_parentsOfCode : MethodName := ⟨RX8, "parentsOfCode", "([II)V"⟩
abbrev cX8_greatestWithOne : ByteArray := prog_10_method_7_code
def yX8_greatestWithOne : MethodName := ⟨RX8, "greatestWithOne", "()I"⟩
abbrev cX8_strike : ByteArray := prog_10_method_8_code
def yX8_strike : MethodName := ⟨RX8, "strike", "(II)V"⟩
abbrev cX8_takeParents : ByteArray := prog_10_method_9_code
def yX8_takeParents : MethodName := ⟨RX8, "takeParents", "([II)V"⟩
abbrev cX8_wishesOfParents : ByteArray := prog_10_method_10_code
def yX8_wishesOfParents : MethodName := ⟨RX8, "wishesOfParents", "([I)Z"⟩
def RX9 : String := "LaneWishes$Walk"
def TX9 : u_T := fun k => match k with
  | 0 => ("LaneWishes$Walk", "n", "I", false)
  | 1 => ("LaneWishes$Walk", "car", "[I", true)
  | _ => ("LaneWishes$Walk", "height", "[I", true)
def tyX9 : Nat → FieldType := fun k => match k with
  | 0 => .int
  | 1 => .array .int
  | _ => .array .int
theorem nmX9 : ∀ a, a < 3 → ∀ b, b < 3 → a ≠ b → (TX9 a).2.1 ≠ (TX9 b).2.1 := by decide +kernel
theorem tyX9_ok : ∀ k, k < 3 → parseFieldDescriptor (TX9 k).2.2.1 = some (tyX9 k) := by decide +kernel
abbrev cX9_init : ByteArray := prog_11_method_1_code
def yX9_init : MethodName := ⟨RX9, "<init>", "()V"⟩
abbrev cX9_build : ByteArray := prog_11_method_2_code
def yX9_build : MethodName := ⟨RX9, "build", "([II)V"⟩
abbrev cX9_area : ByteArray := prog_11_method_3_code
def yX9_area : MethodName := ⟨RX9, "area", "()I"⟩
abbrev cX9_dinv : ByteArray := prog_11_method_4_code
def yX9_dinv : MethodName := ⟨RX9, "dinv", "()I"⟩
abbrev cX9_countsFor : ByteArray := prog_11_method_5_code
def yX9_countsFor : MethodName := ⟨RX9, "countsFor", "(II)Z"⟩
def RX10 : String := "LaneWishes"
def TX10 : u_T := fun k => match k with
  | 0 => ("LaneWishes", "road", "LLaneWishes$Road;", true)
  | 1 => ("LaneWishes", "masks", "LLaneWishes$Masks;", true)
  | 2 => ("LaneWishes", "book", "LLaneWishes$Book;", true)
  | 3 => ("LaneWishes", "risingBook", "LLaneWishes$RisingBook;", true)
  | 4 => ("LaneWishes", "tree", "LLaneWishes$Tree;", true)
  | 5 => ("LaneWishes", "path", "LLaneWishes$Walk;", true)
  | 6 => ("LaneWishes", "pairs", "LLaneWishes$Pairs;", true)
  | 7 => ("LaneWishes", "spreads", "LLaneWishes$Spreads;", true)
  | 8 => ("LaneWishes", "sheets", "LLaneWishes$Sheets;", true)
  | _ => ("LaneWishes", "row", "[I", true)
def tyX10 : Nat → FieldType := fun k => match k with
  | 0 => .object "LaneWishes$Road"
  | 1 => .object "LaneWishes$Masks"
  | 2 => .object "LaneWishes$Book"
  | 3 => .object "LaneWishes$RisingBook"
  | 4 => .object "LaneWishes$Tree"
  | 5 => .object "LaneWishes$Walk"
  | 6 => .object "LaneWishes$Pairs"
  | 7 => .object "LaneWishes$Spreads"
  | 8 => .object "LaneWishes$Sheets"
  | _ => .array .int
theorem nmX10 : ∀ a, a < 10 → ∀ b, b < 10 → a ≠ b → (TX10 a).2.1 ≠ (TX10 b).2.1 := by decide +kernel
theorem tyX10_ok : ∀ k, k < 10 → parseFieldDescriptor (TX10 k).2.2.1 = some (tyX10 k) := by decide +kernel
abbrev cX10_init : ByteArray := prog_1_method_1_code
def yX10_init : MethodName := ⟨RX10, "<init>", "()V"⟩
abbrev cX10_road : ByteArray := prog_1_method_2_code
def yX10_road : MethodName := ⟨RX10, "road", "(III)I"⟩
abbrev cX10_car : ByteArray := prog_1_method_3_code
def yX10_car : MethodName := ⟨RX10, "car", "(I)I"⟩
abbrev cX10_wish : ByteArray := prog_1_method_4_code
def yX10_wish : MethodName := ⟨RX10, "wish", "(II)I"⟩
abbrev cX10_length : ByteArray := prog_1_method_5_code
def yX10_length : MethodName := ⟨RX10, "length", "(II)I"⟩
abbrev cX10_undo : ByteArray := prog_1_method_6_code
def yX10_undo : MethodName := ⟨RX10, "undo", "()I"⟩
abbrev cX10_clear : ByteArray := prog_1_method_7_code
def yX10_clear : MethodName := ⟨RX10, "clear", "()I"⟩
abbrev cX10_told : ByteArray := prog_1_method_8_code
def yX10_told : MethodName := ⟨RX10, "told", "(II)I"⟩
abbrev cX10_on : ByteArray := prog_1_method_9_code
def yX10_on : MethodName := ⟨RX10, "on", "(I)I"⟩
abbrev cX10_count : ByteArray := prog_1_method_10_code
def yX10_count : MethodName := ⟨RX10, "count", "(I)I"⟩
abbrev cX10_good : ByteArray := prog_1_method_11_code
def yX10_good : MethodName := ⟨RX10, "good", "()I"⟩
abbrev cX10_ways : ByteArray := prog_1_method_12_code
def yX10_ways : MethodName := ⟨RX10, "ways", "()I"⟩
abbrev cX10_rows : ByteArray := prog_1_method_13_code
def yX10_rows : MethodName := ⟨RX10, "rows", "(I)J"⟩
abbrev cX10_rank : ByteArray := prog_1_method_14_code
def yX10_rank : MethodName := ⟨RX10, "rank", "()J"⟩
abbrev cX10_unrank : ByteArray := prog_1_method_15_code
def yX10_unrank : MethodName := ⟨RX10, "unrank", "(IJ)I"⟩
abbrev cX10_next : ByteArray := prog_1_method_16_code
def yX10_next : MethodName := ⟨RX10, "next", "()I"⟩
abbrev cX10_like : ByteArray := prog_1_method_17_code
def yX10_like : MethodName := ⟨RX10, "like", "()J"⟩
abbrev cX10_orders : ByteArray := prog_1_method_18_code
def yX10_orders : MethodName := ⟨RX10, "orders", "()J"⟩
abbrev cX10_rise : ByteArray := prog_1_method_19_code
def yX10_rise : MethodName := ⟨RX10, "rise", "()I"⟩
abbrev cX10_risings : ByteArray := prog_1_method_20_code
def yX10_risings : MethodName := ⟨RX10, "risings", "(I)J"⟩
abbrev cX10_riseRank : ByteArray := prog_1_method_21_code
def yX10_riseRank : MethodName := ⟨RX10, "riseRank", "()J"⟩
abbrev cX10_riseUnrank : ByteArray := prog_1_method_22_code
def yX10_riseUnrank : MethodName := ⟨RX10, "riseUnrank", "(IJ)I"⟩
abbrev cX10_cuts : ByteArray := prog_1_method_23_code
def yX10_cuts : MethodName := ⟨RX10, "cuts", "()I"⟩
abbrev cX10_primes : ByteArray := prog_1_method_24_code
def yX10_primes : MethodName := ⟨RX10, "primes", "()J"⟩
abbrev cX10_mend : ByteArray := prog_1_method_25_code
def yX10_mend : MethodName := ⟨RX10, "mend", "()I"⟩
abbrev cX10_node : ByteArray := prog_1_method_26_code
def yX10_node : MethodName := ⟨RX10, "node", "(II)I"⟩
abbrev cX10_inv : ByteArray := prog_1_method_27_code
def yX10_inv : MethodName := ⟨RX10, "inv", "()I"⟩
abbrev cX10_code : ByteArray := prog_1_method_28_code
def yX10_code : MethodName := ⟨RX10, "code", "(I)I"⟩
abbrev cX10_decode : ByteArray := prog_1_method_29_code
def yX10_decode : MethodName := ⟨RX10, "decode", "(III)I"⟩
abbrev cX10_grow : ByteArray := prog_1_method_30_code
def yX10_grow : MethodName := ⟨RX10, "grow", "(III)I"⟩
abbrev cX10_walk : ByteArray := prog_1_method_31_code
def yX10_walk : MethodName := ⟨RX10, "walk", "(II)I"⟩
abbrev cX10_counts : ByteArray := prog_1_method_32_code
def yX10_counts : MethodName := ⟨RX10, "counts", "(I)I"⟩
abbrev cX10_both : ByteArray := prog_1_method_33_code
def yX10_both : MethodName := ⟨RX10, "both", "(III)I"⟩
abbrev cX10_spread : ByteArray := prog_1_method_34_code
def yX10_spread : MethodName := ⟨RX10, "spread", "(III)J"⟩
abbrev cX10_sheet : ByteArray := prog_1_method_35_code
def yX10_sheet : MethodName := ⟨RX10, "sheet", "(III)I"⟩
abbrev cX10_drop : ByteArray := prog_1_method_36_code
def yX10_drop : MethodName := ⟨RX10, "drop", "(I)I"⟩
abbrev cX10_item : ByteArray := prog_1_method_37_code
def yX10_item : MethodName := ⟨RX10, "item", "(IIII)I"⟩
abbrev cX10_cars : ByteArray := prog_1_method_38_code
def yX10_cars : MethodName := ⟨RX10, "cars", "(IIII)I"⟩
abbrev cX10_keep : ByteArray := prog_1_method_39_code
def yX10_keep : MethodName := ⟨RX10, "keep", "(III)I"⟩
abbrev cX10_isRowSize : ByteArray := prog_1_method_40_code
def yX10_isRowSize : MethodName := ⟨RX10, "isRowSize", "(I)Z"⟩
abbrev cX10_isPlainGood : ByteArray := prog_1_method_41_code
def yX10_isPlainGood : MethodName := ⟨RX10, "isPlainGood", "()Z"⟩
abbrev cX10_hasTree : ByteArray := prog_1_method_42_code
def yX10_hasTree : MethodName := ⟨RX10, "hasTree", "()Z"⟩
abbrev cX10_power : ByteArray := prog_1_method_43_code
def yX10_power : MethodName := ⟨RX10, "power", "(JI)J"⟩
def RX11 : String := "LaneWishesModel"
def TX11 : u_T := fun k => match k with
  | 0 => ("LaneWishesModel", "kind", "I", false)
  | 1 => ("LaneWishesModel", "n", "I", false)
  | 2 => ("LaneWishesModel", "back", "I", false)
  | 3 => ("LaneWishesModel", "k", "I", false)
  | 4 => ("LaneWishesModel", "wishes", "[I", true)
  | 5 => ("LaneWishesModel", "lengths", "[I", true)
  | 6 => ("LaneWishesModel", "at", "[I", true)
  | 7 => ("LaneWishesModel", "on", "[I", true)
  | 8 => ("LaneWishesModel", "kept", "[I", true)
  | 9 => ("LaneWishesModel", "chooses", "[J", true)
  | 10 => ("LaneWishesModel", "told", "[I", true)
  | 11 => ("LaneWishesModel", "finish", "[J", true)
  | 12 => ("LaneWishesModel", "rising", "[J", true)
  | 13 => ("LaneWishesModel", "parents", "[I", true)
  | 14 => ("LaneWishesModel", "seen", "[I", true)
  | 15 => ("LaneWishesModel", "seenAs", "[I", true)
  | 16 => ("LaneWishesModel", "struck", "[Z", true)
  | 17 => ("LaneWishesModel", "degrees", "[I", true)
  | 18 => ("LaneWishesModel", "endOne", "[I", true)
  | 19 => ("LaneWishesModel", "endOther", "[I", true)
  | 20 => ("LaneWishesModel", "walked", "[I", true)
  | 21 => ("LaneWishesModel", "heights", "[I", true)
  | 22 => ("LaneWishesModel", "keptLengths", "[I", true)
  | 23 => ("LaneWishesModel", "keptWishes", "[I", true)
  | 24 => ("LaneWishesModel", "bySum", "[J", true)
  | 25 => ("LaneWishesModel", "lucky", "[J", true)
  | 26 => ("LaneWishesModel", "parted", "[J", true)
  | 27 => ("LaneWishesModel", "lanes", "[I", true)
  | 28 => ("LaneWishesModel", "sizes", "[I", true)
  | _ => ("LaneWishesModel", "items", "[I", true)
def tyX11 : Nat → FieldType := fun k => match k with
  | 0 => .int
  | 1 => .int
  | 2 => .int
  | 3 => .int
  | 4 => .array .int
  | 5 => .array .int
  | 6 => .array .int
  | 7 => .array .int
  | 8 => .array .int
  | 9 => .array .long
  | 10 => .array .int
  | 11 => .array .long
  | 12 => .array .long
  | 13 => .array .int
  | 14 => .array .int
  | 15 => .array .int
  | 16 => .array .boolean
  | 17 => .array .int
  | 18 => .array .int
  | 19 => .array .int
  | 20 => .array .int
  | 21 => .array .int
  | 22 => .array .int
  | 23 => .array .int
  | 24 => .array .long
  | 25 => .array .long
  | 26 => .array .long
  | 27 => .array .int
  | 28 => .array .int
  | _ => .array .int
theorem nmX11 : ∀ a, a < 30 → ∀ b, b < 30 → a ≠ b → (TX11 a).2.1 ≠ (TX11 b).2.1 := by decide +kernel
theorem tyX11_ok : ∀ k, k < 30 → parseFieldDescriptor (TX11 k).2.2.1 = some (tyX11 k) := by decide +kernel
abbrev cX11_in : ByteArray := prog_13_method_1_code
def yX11_in : MethodName := ⟨RX11, "in", "(JJJ)Z"⟩
abbrev cX11_init : ByteArray := prog_13_method_2_code
def yX11_init : MethodName := ⟨RX11, "<init>", "()V"⟩
abbrev cX11_road : ByteArray := prog_13_method_3_code
def yX11_road : MethodName := ⟨RX11, "road", "(III)I"⟩
abbrev cX11_add : ByteArray := prog_13_method_4_code
def yX11_add : MethodName := ⟨RX11, "add", "(I)V"⟩
abbrev cX11_car : ByteArray := prog_13_method_5_code
def yX11_car : MethodName := ⟨RX11, "car", "(I)I"⟩
abbrev cX11_isCar : ByteArray := prog_13_method_6_code
def yX11_isCar : MethodName := ⟨RX11, "isCar", "(I)Z"⟩
abbrev cX11_wish : ByteArray := prog_13_method_7_code
def yX11_wish : MethodName := ⟨RX11, "wish", "(II)I"⟩
abbrev cX11_length : ByteArray := prog_13_method_8_code
def yX11_length : MethodName := ⟨RX11, "length", "(II)I"⟩
abbrev cX11_undo : ByteArray := prog_13_method_9_code
def yX11_undo : MethodName := ⟨RX11, "undo", "()I"⟩
abbrev cX11_clear : ByteArray := prog_13_method_10_code
def yX11_clear : MethodName := ⟨RX11, "clear", "()I"⟩
abbrev cX11_placeFor : ByteArray := prog_13_method_11_code
def yX11_placeFor : MethodName := ⟨RX11, "placeFor", "(I)I"⟩
abbrev cX11_fits : ByteArray := prog_13_method_12_code
def yX11_fits : MethodName := ⟨RX11, "fits", "(II)Z"⟩
abbrev cX11_drive : ByteArray := prog_13_method_13_code
def yX11_drive : MethodName := ⟨RX11, "drive", "()V"⟩
abbrev cX11_goes : ByteArray := prog_13_method_14_code
def yX11_goes : MethodName := ⟨RX11, "goes", "(I)I"⟩
abbrev cX11_isGood : ByteArray := prog_13_method_15_code
def yX11_isGood : MethodName := ⟨RX11, "isGood", "()Z"⟩
abbrev cX11_isPlain : ByteArray := prog_13_method_16_code
def yX11_isPlain : MethodName := ⟨RX11, "isPlain", "()Z"⟩
abbrev cX11_told : ByteArray := prog_13_method_17_code
def yX11_told : MethodName := ⟨RX11, "told", "(II)I"⟩
abbrev cX11_on : ByteArray := prog_13_method_18_code
def yX11_on : MethodName := ⟨RX11, "on", "(I)I"⟩
abbrev cX11_count : ByteArray := prog_13_method_19_code
def yX11_count : MethodName := ⟨RX11, "count", "(I)I"⟩
abbrev cX11_good : ByteArray := prog_13_method_20_code
def yX11_good : MethodName := ⟨RX11, "good", "()I"⟩
abbrev cX11_step : ByteArray := prog_13_method_21_code
def yX11_step : MethodName := ⟨RX11, "step", "()Z"⟩
abbrev cX11_ways : ByteArray := prog_13_method_22_code
def yX11_ways : MethodName := ⟨RX11, "ways", "()I"⟩
abbrev cX11_choose : ByteArray := prog_13_method_23_code
def yX11_choose : MethodName := ⟨RX11, "choose", "(II)J"⟩
abbrev cX11_power : ByteArray := prog_13_method_24_code
def yX11_power : MethodName := ⟨RX11, "power", "(JI)J"⟩
abbrev cX11_finishes : ByteArray := prog_13_method_25_code
def yX11_finishes : MethodName := ⟨RX11, "finishes", "(II)J"⟩
abbrev cX11_clearTold : ByteArray := prog_13_method_26_code
def yX11_clearTold : MethodName := ⟨RX11, "clearTold", "()V"⟩
abbrev cX11_rowsOf : ByteArray := prog_13_method_27_code
def yX11_rowsOf : MethodName := ⟨RX11, "rowsOf", "(I)J"⟩
abbrev cX11_rows : ByteArray := prog_13_method_28_code
def yX11_rows : MethodName := ⟨RX11, "rows", "(I)J"⟩
abbrev cX11_isWell : ByteArray := prog_13_method_29_code
def yX11_isWell : MethodName := ⟨RX11, "isWell", "()Z"⟩
abbrev cX11_rankOf : ByteArray := prog_13_method_30_code
def yX11_rankOf : MethodName := ⟨RX11, "rankOf", "()J"⟩
abbrev cX11_rank : ByteArray := prog_13_method_31_code
def yX11_rank : MethodName := ⟨RX11, "rank", "()J"⟩
abbrev cX11_fromRank : ByteArray := prog_13_method_32_code
def yX11_fromRank : MethodName := ⟨RX11, "fromRank", "(IJ)V"⟩
abbrev cX11_unrank : ByteArray := prog_13_method_33_code
def yX11_unrank : MethodName := ⟨RX11, "unrank", "(IJ)I"⟩
abbrev cX11_next : ByteArray := prog_13_method_34_code
def yX11_next : MethodName := ⟨RX11, "next", "()I"⟩
abbrev cX11_like : ByteArray := prog_13_method_35_code
def yX11_like : MethodName := ⟨RX11, "like", "()J"⟩
abbrev cX11_orders : ByteArray := prog_13_method_36_code
def yX11_orders : MethodName := ⟨RX11, "orders", "()J"⟩
abbrev cX11_sort : ByteArray := prog_13_method_37_code
def yX11_sort : MethodName := ⟨RX11, "sort", "()V"⟩
abbrev cX11_rise : ByteArray := prog_13_method_38_code
def yX11_rise : MethodName := ⟨RX11, "rise", "()I"⟩
abbrev cX11_findRising : ByteArray := prog_13_method_39_code
def yX11_findRising : MethodName := ⟨RX11, "findRising", "(I)V"⟩
abbrev cX11_risingsOf : ByteArray := prog_13_method_40_code
def yX11_risingsOf : MethodName := ⟨RX11, "risingsOf", "(I)J"⟩
abbrev cX11_risings : ByteArray := prog_13_method_41_code
def yX11_risings : MethodName := ⟨RX11, "risings", "(I)J"⟩
abbrev cX11_riseRank : ByteArray := prog_13_method_42_code
def yX11_riseRank : MethodName := ⟨RX11, "riseRank", "()J"⟩
abbrev cX11_riseUnrank : ByteArray := prog_13_method_43_code
def yX11_riseUnrank : MethodName := ⟨RX11, "riseUnrank", "(IJ)I"⟩
abbrev cX11_isFull : ByteArray := prog_13_method_44_code
def yX11_isFull : MethodName := ⟨RX11, "isFull", "()Z"⟩
abbrev cX11_wishUpTo : ByteArray := prog_13_method_45_code
def yX11_wishUpTo : MethodName := ⟨RX11, "wishUpTo", "(I)I"⟩
abbrev cX11_cuts : ByteArray := prog_13_method_46_code
def yX11_cuts : MethodName := ⟨RX11, "cuts", "()I"⟩
abbrev cX11_primesOf : ByteArray := prog_13_method_47_code
def yX11_primesOf : MethodName := ⟨RX11, "primesOf", "(I)J"⟩
abbrev cX11_primes : ByteArray := prog_13_method_48_code
def yX11_primes : MethodName := ⟨RX11, "primes", "()J"⟩
abbrev cX11_mend : ByteArray := prog_13_method_49_code
def yX11_mend : MethodName := ⟨RX11, "mend", "()I"⟩
abbrev cX11_findTree : ByteArray := prog_13_method_50_code
def yX11_findTree : MethodName := ⟨RX11, "findTree", "()V"⟩
abbrev cX11_isBelow : ByteArray := prog_13_method_51_code
def yX11_isBelow : MethodName := ⟨RX11, "isBelow", "(II)Z"⟩
abbrev cX11_node : ByteArray := prog_13_method_52_code
def yX11_node : MethodName := ⟨RX11, "node", "(II)I"⟩
abbrev cX11_inv : ByteArray := prog_13_method_53_code
def yX11_inv : MethodName := ⟨RX11, "inv", "()I"⟩
abbrev cX11_neighbourOf : ByteArray := prog_13_method_54_code
def yX11_neighbourOf : MethodName := ⟨RX11, "neighbourOf", "(I)I"⟩
abbrev cX11_code : ByteArray := prog_13_method_55_code
def yX11_code : MethodName := ⟨RX11, "code", "(I)I"⟩
abbrev cX11_read : ByteArray := prog_13_method_56_code
def yX11_read : MethodName := ⟨RX11, "read", "(II)I"⟩
abbrev cX11_plant : ByteArray := prog_13_method_57_code
def yX11_plant : MethodName := ⟨RX11, "plant", "()V"⟩
abbrev cX11_decode : ByteArray := prog_13_method_58_code
def yX11_decode : MethodName := ⟨RX11, "decode", "(III)I"⟩
abbrev cX11_hang : ByteArray := prog_13_method_59_code
def yX11_hang : MethodName := ⟨RX11, "hang", "()V"⟩
abbrev cX11_grow : ByteArray := prog_13_method_60_code
def yX11_grow : MethodName := ⟨RX11, "grow", "(III)I"⟩
abbrev cX11_findWalk : ByteArray := prog_13_method_61_code
def yX11_findWalk : MethodName := ⟨RX11, "findWalk", "()V"⟩
abbrev cX11_area : ByteArray := prog_13_method_62_code
def yX11_area : MethodName := ⟨RX11, "area", "()I"⟩
abbrev cX11_dinv : ByteArray := prog_13_method_63_code
def yX11_dinv : MethodName := ⟨RX11, "dinv", "()I"⟩
abbrev cX11_walk : ByteArray := prog_13_method_64_code
def yX11_walk : MethodName := ⟨RX11, "walk", "(II)I"⟩
abbrev cX11_counts : ByteArray := prog_13_method_65_code
def yX11_counts : MethodName := ⟨RX11, "counts", "(I)I"⟩
abbrev cX11_both : ByteArray := prog_13_method_66_code
def yX11_both : MethodName := ⟨RX11, "both", "(III)I"⟩
abbrev cX11_withSum : ByteArray := prog_13_method_67_code
def yX11_withSum : MethodName := ⟨RX11, "withSum", "(II)J"⟩
abbrev cX11_withLucky : ByteArray := prog_13_method_68_code
def yX11_withLucky : MethodName := ⟨RX11, "withLucky", "(II)J"⟩
abbrev cX11_allOf : ByteArray := prog_13_method_69_code
def yX11_allOf : MethodName := ⟨RX11, "allOf", "(I)J"⟩
abbrev cX11_withParts : ByteArray := prog_13_method_70_code
def yX11_withParts : MethodName := ⟨RX11, "withParts", "(II)J"⟩
abbrev cX11_spread : ByteArray := prog_13_method_71_code
def yX11_spread : MethodName := ⟨RX11, "spread", "(III)J"⟩
abbrev cX11_isSheet : ByteArray := prog_13_method_72_code
def yX11_isSheet : MethodName := ⟨RX11, "isSheet", "(II)Z"⟩
abbrev cX11_sheet : ByteArray := prog_13_method_73_code
def yX11_sheet : MethodName := ⟨RX11, "sheet", "(III)I"⟩
abbrev cX11_drop : ByteArray := prog_13_method_74_code
def yX11_drop : MethodName := ⟨RX11, "drop", "(I)I"⟩
abbrev cX11_against : ByteArray := prog_13_method_75_code
def yX11_against : MethodName := ⟨RX11, "against", "(IIII)I"⟩
abbrev cX11_item : ByteArray := prog_13_method_76_code
def yX11_item : MethodName := ⟨RX11, "item", "(IIII)I"⟩
abbrev cX11_cars : ByteArray := prog_13_method_77_code
def yX11_cars : MethodName := ⟨RX11, "cars", "(IIII)I"⟩
abbrev cX11_keep : ByteArray := prog_13_method_78_code
def yX11_keep : MethodName := ⟨RX11, "keep", "(III)I"⟩
def RJ6 : String := "java/lang/Integer"
def TJ6 : u_T := fun k => match k with
  | _ => ("", "", "", false)
def tyJ6 : Nat → FieldType := fun k => match k with
  | _ => .int
theorem nmJ6 : ∀ a, a < 0 → ∀ b, b < 0 → a ≠ b → (TJ6 a).2.1 ≠ (TJ6 b).2.1 := by decide +kernel
theorem tyJ6_ok : ∀ k, k < 0 → parseFieldDescriptor (TJ6 k).2.2.1 = some (tyJ6 k) := by decide +kernel
abbrev cJ6_bitCount_0f7a4 : ByteArray := prog_14_method_49_code
def yJ6_bitCount_0f7a4 : MethodName := ⟨RJ6, "bitCount", "(I)I"⟩
def RJ9 : String := "java/lang/Math"
def TJ9 : u_T := fun k => match k with
  | _ => ("", "", "", false)
def tyJ9 : Nat → FieldType := fun k => match k with
  | _ => .int
theorem nmJ9 : ∀ a, a < 0 → ∀ b, b < 0 → a ≠ b → (TJ9 a).2.1 ≠ (TJ9 b).2.1 := by decide +kernel
theorem tyJ9_ok : ∀ k, k < 0 → parseFieldDescriptor (TJ9 k).2.2.1 = some (tyJ9 k) := by decide +kernel
abbrev cJ9_max_7cf53 : ByteArray := prog_15_method_65_code
def yJ9_max_7cf53 : MethodName := ⟨RJ9, "max", "(II)I"⟩
def RJ10 : String := "java/lang/System"
def TJ10 : u_T := fun k => match k with
  | _ => ("", "", "", false)
def tyJ10 : Nat → FieldType := fun k => match k with
  | _ => .int
theorem nmJ10 : ∀ a, a < 0 → ∀ b, b < 0 → a ≠ b → (TJ10 a).2.1 ≠ (TJ10 b).2.1 := by decide +kernel
theorem tyJ10_ok : ∀ k, k < 0 → parseFieldDescriptor (TJ10 k).2.2.1 = some (tyJ10 k) := by decide +kernel
def RL : String := "LaneWishesLaw"
abbrev cL_law : ByteArray := code
def yL_law : MethodName := ⟨RL, "law", "([I)Z"⟩
abbrev vwCl : List vw_C := [(RX0, TX0, 3), (RX1, TX1, 1), (RX2, TX2, 1), (RX3, TX3, 3), (RX4, TX4, 1), (RX5, TX5, 10), (RX6, TX6, 3), (RX7, TX7, 5), (RX8, TX8, 8), (RX9, TX9, 3), (RX10, TX10, 10), (RX11, TX11, 30)]
