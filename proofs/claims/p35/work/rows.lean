section
-- ===== PART A: goes FIRST, ahead of the names: the tables' words, and 'selects' of the private methods out of them =====
/-- a private method of a class that the tables say can be made, by its rows of tables_1 -/
def lw_okq (q : MethodName × Nat) : Prop := (q.1.cls ≠ "java/lang/invoke/MethodHandle" ∧ q.1.cls ≠ "java/lang/invoke/VarHandle") ∧ Cond.instantiable q.1.cls q.2 ∈ tables_1 ∧ Cond.privateMethod q.1 ∈ tables_1 ∧ Cond.instanceMethod q.1 ∈ tables_1
theorem lw_p0 : lw_okq (⟨"LaneWishes$Masks", "moveOn", "(LLaneWishes$Road;II)V"⟩, 1) := ⟨⟨by decide +kernel, by decide +kernel⟩, List.mem_of_getElem? (i := 85) (by decide +kernel), List.mem_of_getElem? (i := 407) (by decide +kernel), List.mem_of_getElem? (i := 408) (by decide +kernel)⟩
theorem lw_p1 : lw_okq (⟨"LaneWishes", "isRowSize", "(I)Z"⟩, 10) := ⟨⟨by decide +kernel, by decide +kernel⟩, List.mem_of_getElem? (i := 17) (by decide +kernel), List.mem_of_getElem? (i := 417) (by decide +kernel), List.mem_of_getElem? (i := 418) (by decide +kernel)⟩
theorem lw_p2 : lw_okq (⟨"LaneWishes", "isPlainGood", "()Z"⟩, 10) := ⟨⟨by decide +kernel, by decide +kernel⟩, List.mem_of_getElem? (i := 17) (by decide +kernel), List.mem_of_getElem? (i := 433) (by decide +kernel), List.mem_of_getElem? (i := 434) (by decide +kernel)⟩
theorem lw_p3 : lw_okq (⟨"LaneWishes$Book", "forgetWishers", "()V"⟩, 3) := ⟨⟨by decide +kernel, by decide +kernel⟩, List.mem_of_getElem? (i := 95) (by decide +kernel), List.mem_of_getElem? (i := 445) (by decide +kernel), List.mem_of_getElem? (i := 446) (by decide +kernel)⟩
theorem lw_p4 : lw_okq (⟨"LaneWishes$Book", "rowsWith", "(III)J"⟩, 3) := ⟨⟨by decide +kernel, by decide +kernel⟩, List.mem_of_getElem? (i := 95) (by decide +kernel), List.mem_of_getElem? (i := 449) (by decide +kernel), List.mem_of_getElem? (i := 450) (by decide +kernel)⟩
theorem lw_p5 : lw_okq (⟨"LaneWishes$Book", "endings", "(II)J"⟩, 3) := ⟨⟨by decide +kernel, by decide +kernel⟩, List.mem_of_getElem? (i := 95) (by decide +kernel), List.mem_of_getElem? (i := 453) (by decide +kernel), List.mem_of_getElem? (i := 454) (by decide +kernel)⟩
theorem lw_p6 : lw_okq (⟨"LaneWishes$Book", "wishHere", "(II)J"⟩, 3) := ⟨⟨by decide +kernel, by decide +kernel⟩, List.mem_of_getElem? (i := 95) (by decide +kernel), List.mem_of_getElem? (i := 457) (by decide +kernel), List.mem_of_getElem? (i := 458) (by decide +kernel)⟩
theorem lw_p7 : lw_okq (⟨"LaneWishes$Book", "canWishOneMore", "([III)Z"⟩, 3) := ⟨⟨by decide +kernel, by decide +kernel⟩, List.mem_of_getElem? (i := 95) (by decide +kernel), List.mem_of_getElem? (i := 487) (by decide +kernel), List.mem_of_getElem? (i := 488) (by decide +kernel)⟩
theorem lw_p8 : lw_okq (⟨"LaneWishes$RisingBook", "fillEndings", "(II)V"⟩, 1) := ⟨⟨by decide +kernel, by decide +kernel⟩, List.mem_of_getElem? (i := 112) (by decide +kernel), List.mem_of_getElem? (i := 526) (by decide +kernel), List.mem_of_getElem? (i := 527) (by decide +kernel)⟩
theorem lw_p9 : lw_okq (⟨"LaneWishes", "hasTree", "()Z"⟩, 10) := ⟨⟨by decide +kernel, by decide +kernel⟩, List.mem_of_getElem? (i := 17) (by decide +kernel), List.mem_of_getElem? (i := 554) (by decide +kernel), List.mem_of_getElem? (i := 555) (by decide +kernel)⟩
theorem lw_p10 : lw_okq (⟨"LaneWishes$Road", "lastOfGreatestWish", "()I"⟩, 10) := ⟨⟨by decide +kernel, by decide +kernel⟩, List.mem_of_getElem? (i := 38) (by decide +kernel), List.mem_of_getElem? (i := 582) (by decide +kernel), List.mem_of_getElem? (i := 583) (by decide +kernel)⟩
theorem lw_p11 : lw_okq (⟨"LaneWishes$Tree", "hangCars", "([I)V"⟩, 8) := ⟨⟨by decide +kernel, by decide +kernel⟩, List.mem_of_getElem? (i := 124) (by decide +kernel), List.mem_of_getElem? (i := 594) (by decide +kernel), List.mem_of_getElem? (i := 595) (by decide +kernel)⟩
theorem lw_p12 : lw_okq (⟨"LaneWishes$Tree", "greatestWithOne", "()I"⟩, 8) := ⟨⟨by decide +kernel, by decide +kernel⟩, List.mem_of_getElem? (i := 124) (by decide +kernel), List.mem_of_getElem? (i := 614) (by decide +kernel), List.mem_of_getElem? (i := 615) (by decide +kernel)⟩
theorem lw_p13 : lw_okq (⟨"LaneWishes$Tree", "strike", "(II)V"⟩, 8) := ⟨⟨by decide +kernel, by decide +kernel⟩, List.mem_of_getElem? (i := 124) (by decide +kernel), List.mem_of_getElem? (i := 618) (by decide +kernel), List.mem_of_getElem? (i := 619) (by decide +kernel)⟩
theorem lw_p14 : lw_okq (⟨"LaneWishes$Walk", "countsFor", "(II)Z"⟩, 3) := ⟨⟨by decide +kernel, by decide +kernel⟩, List.mem_of_getElem? (i := 160) (by decide +kernel), List.mem_of_getElem? (i := 686) (by decide +kernel), List.mem_of_getElem? (i := 687) (by decide +kernel)⟩
theorem lw_p15 : lw_okq (⟨"LaneWishes$Pairs", "element", "(II)I"⟩, 3) := ⟨⟨by decide +kernel, by decide +kernel⟩, List.mem_of_getElem? (i := 178) (by decide +kernel), List.mem_of_getElem? (i := 702) (by decide +kernel), List.mem_of_getElem? (i := 703) (by decide +kernel)⟩
def lw_privs_1 : List (MethodName × Nat) := [(⟨"LaneWishes$Masks", "moveOn", "(LLaneWishes$Road;II)V"⟩, 1), (⟨"LaneWishes", "isRowSize", "(I)Z"⟩, 10), (⟨"LaneWishes", "isPlainGood", "()Z"⟩, 10), (⟨"LaneWishes$Book", "forgetWishers", "()V"⟩, 3), (⟨"LaneWishes$Book", "rowsWith", "(III)J"⟩, 3), (⟨"LaneWishes$Book", "endings", "(II)J"⟩, 3), (⟨"LaneWishes$Book", "wishHere", "(II)J"⟩, 3), (⟨"LaneWishes$Book", "canWishOneMore", "([III)Z"⟩, 3), (⟨"LaneWishes$RisingBook", "fillEndings", "(II)V"⟩, 1), (⟨"LaneWishes", "hasTree", "()Z"⟩, 10), (⟨"LaneWishes$Road", "lastOfGreatestWish", "()I"⟩, 10), (⟨"LaneWishes$Tree", "hangCars", "([I)V"⟩, 8), (⟨"LaneWishes$Tree", "greatestWithOne", "()I"⟩, 8), (⟨"LaneWishes$Tree", "strike", "(II)V"⟩, 8), (⟨"LaneWishes$Walk", "countsFor", "(II)Z"⟩, 3), (⟨"LaneWishes$Pairs", "element", "(II)I"⟩, 3)]
theorem lw_r1 : ∀ q ∈ lw_privs_1, lw_okq q := List.forall_mem_cons.mpr ⟨lw_p0, List.forall_mem_cons.mpr ⟨lw_p1, List.forall_mem_cons.mpr ⟨lw_p2, List.forall_mem_cons.mpr ⟨lw_p3, List.forall_mem_cons.mpr ⟨lw_p4, List.forall_mem_cons.mpr ⟨lw_p5, List.forall_mem_cons.mpr ⟨lw_p6, List.forall_mem_cons.mpr ⟨lw_p7, List.forall_mem_cons.mpr ⟨lw_p8, List.forall_mem_cons.mpr ⟨lw_p9, List.forall_mem_cons.mpr ⟨lw_p10, List.forall_mem_cons.mpr ⟨lw_p11, List.forall_mem_cons.mpr ⟨lw_p12, List.forall_mem_cons.mpr ⟨lw_p13, List.forall_mem_cons.mpr ⟨lw_p14, List.forall_mem_cons.mpr ⟨lw_p15, fun _ h => absurd h List.not_mem_nil⟩⟩⟩⟩⟩⟩⟩⟩⟩⟩⟩⟩⟩⟩⟩⟩
theorem lw_p16 : lw_okq (⟨"LaneWishes$Spreads", "learn", "(I)V"⟩, 5) := ⟨⟨by decide +kernel, by decide +kernel⟩, List.mem_of_getElem? (i := 196) (by decide +kernel), List.mem_of_getElem? (i := 719) (by decide +kernel), List.mem_of_getElem? (i := 720) (by decide +kernel)⟩
theorem lw_p17 : lw_okq (⟨"LaneWishes$Spreads", "addGoes", "(II)V"⟩, 5) := ⟨⟨by decide +kernel, by decide +kernel⟩, List.mem_of_getElem? (i := 196) (by decide +kernel), List.mem_of_getElem? (i := 723) (by decide +kernel), List.mem_of_getElem? (i := 724) (by decide +kernel)⟩
theorem lw_p18 : lw_okq (⟨"LaneWishes$Spreads", "mostGoes", "(I)I"⟩, 5) := ⟨⟨by decide +kernel, by decide +kernel⟩, List.mem_of_getElem? (i := 196) (by decide +kernel), List.mem_of_getElem? (i := 727) (by decide +kernel), List.mem_of_getElem? (i := 728) (by decide +kernel)⟩
theorem lw_p19 : lw_okq (⟨"LaneWishes$Spreads", "addLucky", "(II)V"⟩, 5) := ⟨⟨by decide +kernel, by decide +kernel⟩, List.mem_of_getElem? (i := 196) (by decide +kernel), List.mem_of_getElem? (i := 732) (by decide +kernel), List.mem_of_getElem? (i := 733) (by decide +kernel)⟩
theorem lw_p20 : lw_okq (⟨"LaneWishes$Spreads", "sidesOf", "(II)J"⟩, 5) := ⟨⟨by decide +kernel, by decide +kernel⟩, List.mem_of_getElem? (i := 196) (by decide +kernel), List.mem_of_getElem? (i := 745) (by decide +kernel), List.mem_of_getElem? (i := 746) (by decide +kernel)⟩
theorem lw_p21 : lw_okq (⟨"LaneWishes$Spreads", "goodRows", "(I)J"⟩, 5) := ⟨⟨by decide +kernel, by decide +kernel⟩, List.mem_of_getElem? (i := 196) (by decide +kernel), List.mem_of_getElem? (i := 749) (by decide +kernel), List.mem_of_getElem? (i := 750) (by decide +kernel)⟩
theorem lw_p22 : lw_okq (⟨"LaneWishes$Spreads", "withOnePartMore", "(I)J"⟩, 5) := ⟨⟨by decide +kernel, by decide +kernel⟩, List.mem_of_getElem? (i := 196) (by decide +kernel), List.mem_of_getElem? (i := 766) (by decide +kernel), List.mem_of_getElem? (i := 767) (by decide +kernel)⟩
theorem lw_p23 : lw_okq (⟨"LaneWishesModel", "add", "(I)V"⟩, 30) := ⟨⟨by decide +kernel, by decide +kernel⟩, List.mem_of_getElem? (i := 805) (by decide +kernel), List.mem_of_getElem? (i := 916) (by decide +kernel), List.mem_of_getElem? (i := 917) (by decide +kernel)⟩
theorem lw_p24 : lw_okq (⟨"LaneWishesModel", "isCar", "(I)Z"⟩, 30) := ⟨⟨by decide +kernel, by decide +kernel⟩, List.mem_of_getElem? (i := 805) (by decide +kernel), List.mem_of_getElem? (i := 924) (by decide +kernel), List.mem_of_getElem? (i := 925) (by decide +kernel)⟩
theorem lw_p25 : lw_okq (⟨"LaneWishesModel", "drive", "()V"⟩, 30) := ⟨⟨by decide +kernel, by decide +kernel⟩, List.mem_of_getElem? (i := 805) (by decide +kernel), List.mem_of_getElem? (i := 945) (by decide +kernel), List.mem_of_getElem? (i := 946) (by decide +kernel)⟩
theorem lw_p26 : lw_okq (⟨"LaneWishesModel", "placeFor", "(I)I"⟩, 30) := ⟨⟨by decide +kernel, by decide +kernel⟩, List.mem_of_getElem? (i := 805) (by decide +kernel), List.mem_of_getElem? (i := 949) (by decide +kernel), List.mem_of_getElem? (i := 950) (by decide +kernel)⟩
theorem lw_p27 : lw_okq (⟨"LaneWishesModel", "fits", "(II)Z"⟩, 30) := ⟨⟨by decide +kernel, by decide +kernel⟩, List.mem_of_getElem? (i := 805) (by decide +kernel), List.mem_of_getElem? (i := 953) (by decide +kernel), List.mem_of_getElem? (i := 954) (by decide +kernel)⟩
theorem lw_p28 : lw_okq (⟨"LaneWishesModel", "goes", "(I)I"⟩, 30) := ⟨⟨by decide +kernel, by decide +kernel⟩, List.mem_of_getElem? (i := 805) (by decide +kernel), List.mem_of_getElem? (i := 957) (by decide +kernel), List.mem_of_getElem? (i := 958) (by decide +kernel)⟩
theorem lw_p29 : lw_okq (⟨"LaneWishesModel", "isGood", "()Z"⟩, 30) := ⟨⟨by decide +kernel, by decide +kernel⟩, List.mem_of_getElem? (i := 805) (by decide +kernel), List.mem_of_getElem? (i := 974) (by decide +kernel), List.mem_of_getElem? (i := 975) (by decide +kernel)⟩
theorem lw_p30 : lw_okq (⟨"LaneWishesModel", "step", "()Z"⟩, 30) := ⟨⟨by decide +kernel, by decide +kernel⟩, List.mem_of_getElem? (i := 805) (by decide +kernel), List.mem_of_getElem? (i := 983) (by decide +kernel), List.mem_of_getElem? (i := 984) (by decide +kernel)⟩
theorem lw_p31 : lw_okq (⟨"LaneWishesModel", "rowsOf", "(I)J"⟩, 30) := ⟨⟨by decide +kernel, by decide +kernel⟩, List.mem_of_getElem? (i := 805) (by decide +kernel), List.mem_of_getElem? (i := 991) (by decide +kernel), List.mem_of_getElem? (i := 992) (by decide +kernel)⟩
def lw_privs_2 : List (MethodName × Nat) := [(⟨"LaneWishes$Spreads", "learn", "(I)V"⟩, 5), (⟨"LaneWishes$Spreads", "addGoes", "(II)V"⟩, 5), (⟨"LaneWishes$Spreads", "mostGoes", "(I)I"⟩, 5), (⟨"LaneWishes$Spreads", "addLucky", "(II)V"⟩, 5), (⟨"LaneWishes$Spreads", "sidesOf", "(II)J"⟩, 5), (⟨"LaneWishes$Spreads", "goodRows", "(I)J"⟩, 5), (⟨"LaneWishes$Spreads", "withOnePartMore", "(I)J"⟩, 5), (⟨"LaneWishesModel", "add", "(I)V"⟩, 30), (⟨"LaneWishesModel", "isCar", "(I)Z"⟩, 30), (⟨"LaneWishesModel", "drive", "()V"⟩, 30), (⟨"LaneWishesModel", "placeFor", "(I)I"⟩, 30), (⟨"LaneWishesModel", "fits", "(II)Z"⟩, 30), (⟨"LaneWishesModel", "goes", "(I)I"⟩, 30), (⟨"LaneWishesModel", "isGood", "()Z"⟩, 30), (⟨"LaneWishesModel", "step", "()Z"⟩, 30), (⟨"LaneWishesModel", "rowsOf", "(I)J"⟩, 30)]
theorem lw_r2 : ∀ q ∈ lw_privs_2, lw_okq q := List.forall_mem_cons.mpr ⟨lw_p16, List.forall_mem_cons.mpr ⟨lw_p17, List.forall_mem_cons.mpr ⟨lw_p18, List.forall_mem_cons.mpr ⟨lw_p19, List.forall_mem_cons.mpr ⟨lw_p20, List.forall_mem_cons.mpr ⟨lw_p21, List.forall_mem_cons.mpr ⟨lw_p22, List.forall_mem_cons.mpr ⟨lw_p23, List.forall_mem_cons.mpr ⟨lw_p24, List.forall_mem_cons.mpr ⟨lw_p25, List.forall_mem_cons.mpr ⟨lw_p26, List.forall_mem_cons.mpr ⟨lw_p27, List.forall_mem_cons.mpr ⟨lw_p28, List.forall_mem_cons.mpr ⟨lw_p29, List.forall_mem_cons.mpr ⟨lw_p30, List.forall_mem_cons.mpr ⟨lw_p31, fun _ h => absurd h List.not_mem_nil⟩⟩⟩⟩⟩⟩⟩⟩⟩⟩⟩⟩⟩⟩⟩⟩
theorem lw_p32 : lw_okq (⟨"LaneWishesModel", "clearTold", "()V"⟩, 30) := ⟨⟨by decide +kernel, by decide +kernel⟩, List.mem_of_getElem? (i := 805) (by decide +kernel), List.mem_of_getElem? (i := 995) (by decide +kernel), List.mem_of_getElem? (i := 996) (by decide +kernel)⟩
theorem lw_p33 : lw_okq (⟨"LaneWishesModel", "finishes", "(II)J"⟩, 30) := ⟨⟨by decide +kernel, by decide +kernel⟩, List.mem_of_getElem? (i := 805) (by decide +kernel), List.mem_of_getElem? (i := 999) (by decide +kernel), List.mem_of_getElem? (i := 1000) (by decide +kernel)⟩
theorem lw_p34 : lw_okq (⟨"LaneWishesModel", "choose", "(II)J"⟩, 30) := ⟨⟨by decide +kernel, by decide +kernel⟩, List.mem_of_getElem? (i := 805) (by decide +kernel), List.mem_of_getElem? (i := 1003) (by decide +kernel), List.mem_of_getElem? (i := 1004) (by decide +kernel)⟩
theorem lw_p35 : lw_okq (⟨"LaneWishesModel", "isWell", "()Z"⟩, 30) := ⟨⟨by decide +kernel, by decide +kernel⟩, List.mem_of_getElem? (i := 805) (by decide +kernel), List.mem_of_getElem? (i := 1012) (by decide +kernel), List.mem_of_getElem? (i := 1013) (by decide +kernel)⟩
theorem lw_p36 : lw_okq (⟨"LaneWishesModel", "isPlain", "()Z"⟩, 30) := ⟨⟨by decide +kernel, by decide +kernel⟩, List.mem_of_getElem? (i := 805) (by decide +kernel), List.mem_of_getElem? (i := 1016) (by decide +kernel), List.mem_of_getElem? (i := 1017) (by decide +kernel)⟩
theorem lw_p37 : lw_okq (⟨"LaneWishesModel", "rankOf", "()J"⟩, 30) := ⟨⟨by decide +kernel, by decide +kernel⟩, List.mem_of_getElem? (i := 805) (by decide +kernel), List.mem_of_getElem? (i := 1020) (by decide +kernel), List.mem_of_getElem? (i := 1021) (by decide +kernel)⟩
theorem lw_p38 : lw_okq (⟨"LaneWishesModel", "fromRank", "(IJ)V"⟩, 30) := ⟨⟨by decide +kernel, by decide +kernel⟩, List.mem_of_getElem? (i := 805) (by decide +kernel), List.mem_of_getElem? (i := 1029) (by decide +kernel), List.mem_of_getElem? (i := 1030) (by decide +kernel)⟩
theorem lw_p39 : lw_okq (⟨"LaneWishesModel", "sort", "()V"⟩, 30) := ⟨⟨by decide +kernel, by decide +kernel⟩, List.mem_of_getElem? (i := 805) (by decide +kernel), List.mem_of_getElem? (i := 1049) (by decide +kernel), List.mem_of_getElem? (i := 1050) (by decide +kernel)⟩
theorem lw_p40 : lw_okq (⟨"LaneWishesModel", "risingsOf", "(I)J"⟩, 30) := ⟨⟨by decide +kernel, by decide +kernel⟩, List.mem_of_getElem? (i := 805) (by decide +kernel), List.mem_of_getElem? (i := 1057) (by decide +kernel), List.mem_of_getElem? (i := 1058) (by decide +kernel)⟩
theorem lw_p41 : lw_okq (⟨"LaneWishesModel", "findRising", "(I)V"⟩, 30) := ⟨⟨by decide +kernel, by decide +kernel⟩, List.mem_of_getElem? (i := 805) (by decide +kernel), List.mem_of_getElem? (i := 1061) (by decide +kernel), List.mem_of_getElem? (i := 1062) (by decide +kernel)⟩
theorem lw_p42 : lw_okq (⟨"LaneWishesModel", "isFull", "()Z"⟩, 30) := ⟨⟨by decide +kernel, by decide +kernel⟩, List.mem_of_getElem? (i := 805) (by decide +kernel), List.mem_of_getElem? (i := 1077) (by decide +kernel), List.mem_of_getElem? (i := 1078) (by decide +kernel)⟩
theorem lw_p43 : lw_okq (⟨"LaneWishesModel", "wishUpTo", "(I)I"⟩, 30) := ⟨⟨by decide +kernel, by decide +kernel⟩, List.mem_of_getElem? (i := 805) (by decide +kernel), List.mem_of_getElem? (i := 1081) (by decide +kernel), List.mem_of_getElem? (i := 1082) (by decide +kernel)⟩
theorem lw_p44 : lw_okq (⟨"LaneWishesModel", "findTree", "()V"⟩, 30) := ⟨⟨by decide +kernel, by decide +kernel⟩, List.mem_of_getElem? (i := 805) (by decide +kernel), List.mem_of_getElem? (i := 1103) (by decide +kernel), List.mem_of_getElem? (i := 1104) (by decide +kernel)⟩
theorem lw_p45 : lw_okq (⟨"LaneWishesModel", "isBelow", "(II)Z"⟩, 30) := ⟨⟨by decide +kernel, by decide +kernel⟩, List.mem_of_getElem? (i := 805) (by decide +kernel), List.mem_of_getElem? (i := 1107) (by decide +kernel), List.mem_of_getElem? (i := 1108) (by decide +kernel)⟩
theorem lw_p46 : lw_okq (⟨"LaneWishesModel", "neighbourOf", "(I)I"⟩, 30) := ⟨⟨by decide +kernel, by decide +kernel⟩, List.mem_of_getElem? (i := 805) (by decide +kernel), List.mem_of_getElem? (i := 1119) (by decide +kernel), List.mem_of_getElem? (i := 1120) (by decide +kernel)⟩
theorem lw_p47 : lw_okq (⟨"LaneWishesModel", "against", "(IIII)I"⟩, 30) := ⟨⟨by decide +kernel, by decide +kernel⟩, List.mem_of_getElem? (i := 805) (by decide +kernel), List.mem_of_getElem? (i := 1131) (by decide +kernel), List.mem_of_getElem? (i := 1132) (by decide +kernel)⟩
def lw_privs_3 : List (MethodName × Nat) := [(⟨"LaneWishesModel", "clearTold", "()V"⟩, 30), (⟨"LaneWishesModel", "finishes", "(II)J"⟩, 30), (⟨"LaneWishesModel", "choose", "(II)J"⟩, 30), (⟨"LaneWishesModel", "isWell", "()Z"⟩, 30), (⟨"LaneWishesModel", "isPlain", "()Z"⟩, 30), (⟨"LaneWishesModel", "rankOf", "()J"⟩, 30), (⟨"LaneWishesModel", "fromRank", "(IJ)V"⟩, 30), (⟨"LaneWishesModel", "sort", "()V"⟩, 30), (⟨"LaneWishesModel", "risingsOf", "(I)J"⟩, 30), (⟨"LaneWishesModel", "findRising", "(I)V"⟩, 30), (⟨"LaneWishesModel", "isFull", "()Z"⟩, 30), (⟨"LaneWishesModel", "wishUpTo", "(I)I"⟩, 30), (⟨"LaneWishesModel", "findTree", "()V"⟩, 30), (⟨"LaneWishesModel", "isBelow", "(II)Z"⟩, 30), (⟨"LaneWishesModel", "neighbourOf", "(I)I"⟩, 30), (⟨"LaneWishesModel", "against", "(IIII)I"⟩, 30)]
theorem lw_r3 : ∀ q ∈ lw_privs_3, lw_okq q := List.forall_mem_cons.mpr ⟨lw_p32, List.forall_mem_cons.mpr ⟨lw_p33, List.forall_mem_cons.mpr ⟨lw_p34, List.forall_mem_cons.mpr ⟨lw_p35, List.forall_mem_cons.mpr ⟨lw_p36, List.forall_mem_cons.mpr ⟨lw_p37, List.forall_mem_cons.mpr ⟨lw_p38, List.forall_mem_cons.mpr ⟨lw_p39, List.forall_mem_cons.mpr ⟨lw_p40, List.forall_mem_cons.mpr ⟨lw_p41, List.forall_mem_cons.mpr ⟨lw_p42, List.forall_mem_cons.mpr ⟨lw_p43, List.forall_mem_cons.mpr ⟨lw_p44, List.forall_mem_cons.mpr ⟨lw_p45, List.forall_mem_cons.mpr ⟨lw_p46, List.forall_mem_cons.mpr ⟨lw_p47, fun _ h => absurd h List.not_mem_nil⟩⟩⟩⟩⟩⟩⟩⟩⟩⟩⟩⟩⟩⟩⟩⟩
theorem lw_p48 : lw_okq (⟨"LaneWishesModel", "read", "(II)I"⟩, 30) := ⟨⟨by decide +kernel, by decide +kernel⟩, List.mem_of_getElem? (i := 805) (by decide +kernel), List.mem_of_getElem? (i := 1135) (by decide +kernel), List.mem_of_getElem? (i := 1136) (by decide +kernel)⟩
theorem lw_p49 : lw_okq (⟨"LaneWishesModel", "hang", "()V"⟩, 30) := ⟨⟨by decide +kernel, by decide +kernel⟩, List.mem_of_getElem? (i := 805) (by decide +kernel), List.mem_of_getElem? (i := 1139) (by decide +kernel), List.mem_of_getElem? (i := 1140) (by decide +kernel)⟩
theorem lw_p50 : lw_okq (⟨"LaneWishesModel", "plant", "()V"⟩, 30) := ⟨⟨by decide +kernel, by decide +kernel⟩, List.mem_of_getElem? (i := 805) (by decide +kernel), List.mem_of_getElem? (i := 1143) (by decide +kernel), List.mem_of_getElem? (i := 1144) (by decide +kernel)⟩
theorem lw_p51 : lw_okq (⟨"LaneWishesModel", "findWalk", "()V"⟩, 30) := ⟨⟨by decide +kernel, by decide +kernel⟩, List.mem_of_getElem? (i := 805) (by decide +kernel), List.mem_of_getElem? (i := 1155) (by decide +kernel), List.mem_of_getElem? (i := 1156) (by decide +kernel)⟩
theorem lw_p52 : lw_okq (⟨"LaneWishesModel", "area", "()I"⟩, 30) := ⟨⟨by decide +kernel, by decide +kernel⟩, List.mem_of_getElem? (i := 805) (by decide +kernel), List.mem_of_getElem? (i := 1163) (by decide +kernel), List.mem_of_getElem? (i := 1164) (by decide +kernel)⟩
theorem lw_p53 : lw_okq (⟨"LaneWishesModel", "dinv", "()I"⟩, 30) := ⟨⟨by decide +kernel, by decide +kernel⟩, List.mem_of_getElem? (i := 805) (by decide +kernel), List.mem_of_getElem? (i := 1167) (by decide +kernel), List.mem_of_getElem? (i := 1168) (by decide +kernel)⟩
theorem lw_p54 : lw_okq (⟨"LaneWishesModel", "withSum", "(II)J"⟩, 30) := ⟨⟨by decide +kernel, by decide +kernel⟩, List.mem_of_getElem? (i := 805) (by decide +kernel), List.mem_of_getElem? (i := 1180) (by decide +kernel), List.mem_of_getElem? (i := 1181) (by decide +kernel)⟩
theorem lw_p55 : lw_okq (⟨"LaneWishesModel", "withLucky", "(II)J"⟩, 30) := ⟨⟨by decide +kernel, by decide +kernel⟩, List.mem_of_getElem? (i := 805) (by decide +kernel), List.mem_of_getElem? (i := 1184) (by decide +kernel), List.mem_of_getElem? (i := 1185) (by decide +kernel)⟩
theorem lw_p56 : lw_okq (⟨"LaneWishesModel", "withParts", "(II)J"⟩, 30) := ⟨⟨by decide +kernel, by decide +kernel⟩, List.mem_of_getElem? (i := 805) (by decide +kernel), List.mem_of_getElem? (i := 1189) (by decide +kernel), List.mem_of_getElem? (i := 1190) (by decide +kernel)⟩
def lw_privs_4 : List (MethodName × Nat) := [(⟨"LaneWishesModel", "read", "(II)I"⟩, 30), (⟨"LaneWishesModel", "hang", "()V"⟩, 30), (⟨"LaneWishesModel", "plant", "()V"⟩, 30), (⟨"LaneWishesModel", "findWalk", "()V"⟩, 30), (⟨"LaneWishesModel", "area", "()I"⟩, 30), (⟨"LaneWishesModel", "dinv", "()I"⟩, 30), (⟨"LaneWishesModel", "withSum", "(II)J"⟩, 30), (⟨"LaneWishesModel", "withLucky", "(II)J"⟩, 30), (⟨"LaneWishesModel", "withParts", "(II)J"⟩, 30)]
theorem lw_r4 : ∀ q ∈ lw_privs_4, lw_okq q := List.forall_mem_cons.mpr ⟨lw_p48, List.forall_mem_cons.mpr ⟨lw_p49, List.forall_mem_cons.mpr ⟨lw_p50, List.forall_mem_cons.mpr ⟨lw_p51, List.forall_mem_cons.mpr ⟨lw_p52, List.forall_mem_cons.mpr ⟨lw_p53, List.forall_mem_cons.mpr ⟨lw_p54, List.forall_mem_cons.mpr ⟨lw_p55, List.forall_mem_cons.mpr ⟨lw_p56, fun _ h => absurd h List.not_mem_nil⟩⟩⟩⟩⟩⟩⟩⟩⟩
def lw_privs : List (MethodName × Nat) := lw_privs_1 ++ (lw_privs_2 ++ (lw_privs_3 ++ (lw_privs_4)))
def lw_tbl : List Cond := k2_sels lw_privs ++ tables_1
theorem lw_privs_ok : ∀ q ∈ lw_privs, lw_okq q := by
  show ∀ q ∈ lw_privs_1 ++ (lw_privs_2 ++ (lw_privs_3 ++ (lw_privs_4))), lw_okq q
  exact List.forall_mem_append.mpr ⟨lw_r1, List.forall_mem_append.mpr ⟨lw_r2, List.forall_mem_append.mpr ⟨lw_r3, lw_r4⟩⟩⟩
def RX0 : String := "LaneWishes$Book"
def TX0 : u_T := fun k => match k with
  | 0 => ("LaneWishes$Book", "choices", "LLaneWishes$Choices;", true)
  | 1 => ("LaneWishes$Book", "wishers", "[I", true)
  | _ => ("LaneWishes$Book", "ways", "[J", true)
def tyX0 : Nat → FieldType := fun k => match k with
  | 0 => .object "LaneWishes$Choices"
  | 1 => .array .int
  | _ => .array .long
theorem nmX0 : ∀ a, a < 3 → ∀ b, b < 3 → a ≠ b → (TX0 a).2.1 ≠ (TX0 b).2.1 := by decide +kernel
theorem tyX0_ok : ∀ k, k < 3 → parseFieldDescriptor (TX0 k).2.2.1 = some (tyX0 k) := by decide +kernel
abbrev cX0_init : ByteArray := prog_2_method_1_code
def yX0_init : MethodName := ⟨RX0, "<init>", "(LLaneWishes$Choices;)V"⟩
abbrev cX0_howMany : ByteArray := prog_2_method_2_code
def yX0_howMany : MethodName := ⟨RX0, "howMany", "(II)J"⟩
abbrev cX0_primeRows : ByteArray := prog_2_method_3_code
def yX0_primeRows : MethodName := ⟨RX0, "primeRows", "(I)J"⟩
abbrev cX0_numberOf : ByteArray := prog_2_method_4_code
def yX0_numberOf : MethodName := ⟨RX0, "numberOf", "([III)J"⟩
abbrev cX0_fillRow : ByteArray := prog_2_method_5_code
def yX0_fillRow : MethodName := ⟨RX0, "fillRow", "([IIIJ)V"⟩
abbrev cX0_stepOn : ByteArray := prog_2_method_6_code
def yX0_stepOn : MethodName := ⟨RX0, "stepOn", "([III)Z"⟩
abbrev cX0_canWishOneMore : ByteArray := prog_2_method_7_code
def yX0_canWishOneMore : MethodName := ⟨RX0, "canWishOneMore", "([III)Z"⟩
abbrev cX0_forgetWishers : ByteArray := prog_2_method_8_code
def yX0_forgetWishers : MethodName := ⟨RX0, "forgetWishers", "()V"⟩
abbrev cX0_rowsWith : ByteArray := prog_2_method_9_code
def yX0_rowsWith : MethodName := ⟨RX0, "rowsWith", "(III)J"⟩
abbrev cX0_endings : ByteArray := prog_2_method_10_code
def yX0_endings : MethodName := ⟨RX0, "endings", "(II)J"⟩
abbrev cX0_wishHere : ByteArray := prog_2_method_11_code
def yX0_wishHere : MethodName := ⟨RX0, "wishHere", "(II)J"⟩
def RX1 : String := "LaneWishes$Choices"
def TX1 : u_T := fun k => match k with
  | _ => ("LaneWishes$Choices", "table", "[[I", true)
def tyX1 : Nat → FieldType := fun k => match k with
  | _ => .array (.array .int)
theorem nmX1 : ∀ a, a < 1 → ∀ b, b < 1 → a ≠ b → (TX1 a).2.1 ≠ (TX1 b).2.1 := by decide +kernel
theorem tyX1_ok : ∀ k, k < 1 → parseFieldDescriptor (TX1 k).2.2.1 = some (tyX1 k) := by decide +kernel
abbrev cX1_init : ByteArray := prog_3_method_1_code
def yX1_init : MethodName := ⟨RX1, "<init>", "()V"⟩
abbrev cX1_of : ByteArray := prog_3_method_2_code
def yX1_of : MethodName := ⟨RX1, "of", "(II)I"⟩
def RX2 : String := "LaneWishes$Masks"
def TX2 : u_T := fun k => match k with
  | _ => ("LaneWishes$Masks", "rows", "[I", true)
def tyX2 : Nat → FieldType := fun k => match k with
  | _ => .array .int
theorem nmX2 : ∀ a, a < 1 → ∀ b, b < 1 → a ≠ b → (TX2 a).2.1 ≠ (TX2 b).2.1 := by decide +kernel
theorem tyX2_ok : ∀ k, k < 1 → parseFieldDescriptor (TX2 k).2.2.1 = some (tyX2 k) := by decide +kernel
abbrev cX2_init : ByteArray := prog_4_method_1_code
def yX2_init : MethodName := ⟨RX2, "<init>", "()V"⟩
abbrev cX2_goodRows : ByteArray := prog_4_method_2_code
def yX2_goodRows : MethodName := ⟨RX2, "goodRows", "(LLaneWishes$Road;)I"⟩
abbrev cX2_moveOn : ByteArray := prog_4_method_3_code
def yX2_moveOn : MethodName := ⟨RX2, "moveOn", "(LLaneWishes$Road;II)V"⟩
def RX3 : String := "LaneWishes$Pairs"
def TX3 : u_T := fun k => match k with
  | 0 => ("LaneWishes$Pairs", "filled", "[Z", true)
  | 1 => ("LaneWishes$Pairs", "rows", "[[I", true)
  | _ => ("LaneWishes$Pairs", "wish", "[I", true)
def tyX3 : Nat → FieldType := fun k => match k with
  | 0 => .array .boolean
  | 1 => .array (.array .int)
  | _ => .array .int
theorem nmX3 : ∀ a, a < 3 → ∀ b, b < 3 → a ≠ b → (TX3 a).2.1 ≠ (TX3 b).2.1 := by decide +kernel
theorem tyX3_ok : ∀ k, k < 3 → parseFieldDescriptor (TX3 k).2.2.1 = some (tyX3 k) := by decide +kernel
abbrev cX3_init : ByteArray := prog_5_method_1_code
def yX3_init : MethodName := ⟨RX3, "<init>", "()V"⟩
abbrev cX3_fill : ByteArray := prog_5_method_2_code
def yX3_fill : MethodName := ⟨RX3, "fill", "(ILLaneWishes$Book;LLaneWishes$Walk;)V"⟩
abbrev cX3_rowsWith : ByteArray := prog_5_method_3_code
def yX3_rowsWith : MethodName := ⟨RX3, "rowsWith", "(III)I"⟩
abbrev cX3_element : ByteArray := prog_5_method_4_code
def yX3_element : MethodName := ⟨RX3, "element", "(II)I"⟩
def RX4 : String := "LaneWishes$RisingBook"
def TX4 : u_T := fun k => match k with
  | _ => ("LaneWishes$RisingBook", "endings", "[[J", true)
def tyX4 : Nat → FieldType := fun k => match k with
  | _ => .array (.array .long)
theorem nmX4 : ∀ a, a < 1 → ∀ b, b < 1 → a ≠ b → (TX4 a).2.1 ≠ (TX4 b).2.1 := by decide +kernel
theorem tyX4_ok : ∀ k, k < 1 → parseFieldDescriptor (TX4 k).2.2.1 = some (tyX4 k) := by decide +kernel
abbrev cX4_init : ByteArray := prog_6_method_1_code
def yX4_init : MethodName := ⟨RX4, "<init>", "()V"⟩
abbrev cX4_howMany : ByteArray := prog_6_method_2_code
def yX4_howMany : MethodName := ⟨RX4, "howMany", "(II)J"⟩
abbrev cX4_numberOf : ByteArray := prog_6_method_3_code
def yX4_numberOf : MethodName := ⟨RX4, "numberOf", "([III)J"⟩
abbrev cX4_fillRow : ByteArray := prog_6_method_4_code
def yX4_fillRow : MethodName := ⟨RX4, "fillRow", "([IIIJ)V"⟩
abbrev cX4_fillEndings : ByteArray := prog_6_method_5_code
def yX4_fillEndings : MethodName := ⟨RX4, "fillEndings", "(II)V"⟩
def RX5 : String := "LaneWishes$Road"
def TX5 : u_T := fun k => match k with
  | 0 => ("LaneWishes$Road", "kind", "I", false)
  | 1 => ("LaneWishes$Road", "n", "I", false)
  | 2 => ("LaneWishes$Road", "back", "I", false)
  | 3 => ("LaneWishes$Road", "k", "I", false)
  | 4 => ("LaneWishes$Road", "taken", "I", false)
  | 5 => ("LaneWishes$Road", "wish", "[I", true)
  | 6 => ("LaneWishes$Road", "length", "[I", true)
  | 7 => ("LaneWishes$Road", "at", "[I", true)
  | 8 => ("LaneWishes$Road", "body", "[I", true)
  | _ => ("LaneWishes$Road", "oldWish", "[I", true)
def tyX5 : Nat → FieldType := fun k => match k with
  | 0 => .int
  | 1 => .int
  | 2 => .int
  | 3 => .int
  | 4 => .int
  | 5 => .array .int
  | 6 => .array .int
  | 7 => .array .int
  | 8 => .array .int
  | _ => .array .int
theorem nmX5 : ∀ a, a < 10 → ∀ b, b < 10 → a ≠ b → (TX5 a).2.1 ≠ (TX5 b).2.1 := by decide +kernel
theorem tyX5_ok : ∀ k, k < 10 → parseFieldDescriptor (TX5 k).2.2.1 = some (tyX5 k) := by decide +kernel
abbrev cX5_init : ByteArray := prog_7_method_1_code
def yX5_init : MethodName := ⟨RX5, "<init>", "()V"⟩
abbrev cX5_lay : ByteArray := prog_7_method_2_code
def yX5_lay : MethodName := ⟨RX5, "lay", "(III)V"⟩
abbrev cX5_add : ByteArray := prog_7_method_3_code
def yX5_add : MethodName := ⟨RX5, "add", "(I)V"⟩
abbrev cX5_leaveOnly : ByteArray := prog_7_method_4_code
def yX5_leaveOnly : MethodName := ⟨RX5, "leaveOnly", "(I)V"⟩
abbrev cX5_take : ByteArray := prog_7_method_5_code
def yX5_take : MethodName := ⟨RX5, "take", "([II)V"⟩
abbrev cX5_settle : ByteArray := prog_7_method_6_code
def yX5_settle : MethodName := ⟨RX5, "settle", "()V"⟩
abbrev cX5_isFree : ByteArray := prog_7_method_7_code
def yX5_isFree : MethodName := ⟨RX5, "isFree", "(II)Z"⟩
abbrev cX5_firstFree : ByteArray := prog_7_method_8_code
def yX5_firstFree : MethodName := ⟨RX5, "firstFree", "(II)I"⟩
abbrev cX5_bodyAt : ByteArray := prog_7_method_9_code
def yX5_bodyAt : MethodName := ⟨RX5, "bodyAt", "(III)I"⟩
abbrev cX5_hasPlace : ByteArray := prog_7_method_10_code
def yX5_hasPlace : MethodName := ⟨RX5, "hasPlace", "(I)Z"⟩
abbrev cX5_hasCar : ByteArray := prog_7_method_11_code
def yX5_hasCar : MethodName := ⟨RX5, "hasCar", "(I)Z"⟩
abbrev cX5_comesIn : ByteArray := prog_7_method_12_code
def yX5_comesIn : MethodName := ⟨RX5, "comesIn", "(I)Z"⟩
abbrev cX5_isLucky : ByteArray := prog_7_method_13_code
def yX5_isLucky : MethodName := ⟨RX5, "isLucky", "(I)Z"⟩
abbrev cX5_far : ByteArray := prog_7_method_14_code
def yX5_far : MethodName := ⟨RX5, "far", "(I)I"⟩
abbrev cX5_carOn : ByteArray := prog_7_method_15_code
def yX5_carOn : MethodName := ⟨RX5, "carOn", "(I)I"⟩
abbrev cX5_howManyIn : ByteArray := prog_7_method_16_code
def yX5_howManyIn : MethodName := ⟨RX5, "howManyIn", "()I"⟩
abbrev cX5_howManyLucky : ByteArray := prog_7_method_17_code
def yX5_howManyLucky : MethodName := ⟨RX5, "howManyLucky", "()I"⟩
abbrev cX5_farOfAll : ByteArray := prog_7_method_18_code
def yX5_farOfAll : MethodName := ⟨RX5, "farOfAll", "()I"⟩
abbrev cX5_farthest : ByteArray := prog_7_method_19_code
def yX5_farthest : MethodName := ⟨RX5, "farthest", "()I"⟩
abbrev cX5_allIn : ByteArray := prog_7_method_20_code
def yX5_allIn : MethodName := ⟨RX5, "allIn", "()Z"⟩
abbrev cX5_isPlain : ByteArray := prog_7_method_21_code
def yX5_isPlain : MethodName := ⟨RX5, "isPlain", "()Z"⟩
abbrev cX5_isRising : ByteArray := prog_7_method_22_code
def yX5_isRising : MethodName := ⟨RX5, "isRising", "()Z"⟩
abbrev cX5_hasFewRows : ByteArray := prog_7_method_23_code
def yX5_hasFewRows : MethodName := ⟨RX5, "hasFewRows", "()Z"⟩
abbrev cX5_rowsLikeIt : ByteArray := prog_7_method_24_code
def yX5_rowsLikeIt : MethodName := ⟨RX5, "rowsLikeIt", "()J"⟩
abbrev cX5_ordersOfWishes : ByteArray := prog_7_method_25_code
def yX5_ordersOfWishes : MethodName := ⟨RX5, "ordersOfWishes", "()J"⟩
abbrev cX5_wishesUpTo : ByteArray := prog_7_method_26_code
def yX5_wishesUpTo : MethodName := ⟨RX5, "wishesUpTo", "(I)I"⟩
abbrev cX5_sortWishes : ByteArray := prog_7_method_27_code
def yX5_sortWishes : MethodName := ⟨RX5, "sortWishes", "()I"⟩
abbrev cX5_cutBits : ByteArray := prog_7_method_28_code
def yX5_cutBits : MethodName := ⟨RX5, "cutBits", "()I"⟩
abbrev cX5_mendWishes : ByteArray := prog_7_method_29_code
def yX5_mendWishes : MethodName := ⟨RX5, "mendWishes", "()I"⟩
abbrev cX5_lastOfGreatestWish : ByteArray := prog_7_method_30_code
def yX5_lastOfGreatestWish : MethodName := ⟨RX5, "lastOfGreatestWish", "()I"⟩
def RX6 : String := "LaneWishes$Sheets"
def TX6 : u_T := fun k => match k with
  | 0 => ("LaneWishes$Sheets", "laneOf", "[I", true)
  | 1 => ("LaneWishes$Sheets", "sizeOf", "[I", true)
  | _ => ("LaneWishes$Sheets", "items", "[[I", true)
def tyX6 : Nat → FieldType := fun k => match k with
  | 0 => .array .int
  | 1 => .array .int
  | _ => .array (.array .int)
theorem nmX6 : ∀ a, a < 3 → ∀ b, b < 3 → a ≠ b → (TX6 a).2.1 ≠ (TX6 b).2.1 := by decide +kernel
theorem tyX6_ok : ∀ k, k < 3 → parseFieldDescriptor (TX6 k).2.2.1 = some (tyX6 k) := by decide +kernel
abbrev cX6_init : ByteArray := prog_8_method_1_code
def yX6_init : MethodName := ⟨RX6, "<init>", "()V"⟩
abbrev cX6_hasSheet : ByteArray := prog_8_method_2_code
def yX6_hasSheet : MethodName := ⟨RX6, "hasSheet", "(I)Z"⟩
abbrev cX6_hasLane : ByteArray := prog_8_method_3_code
def yX6_hasLane : MethodName := ⟨RX6, "hasLane", "(I)Z"⟩
abbrev cX6_holdsNothing : ByteArray := prog_8_method_4_code
def yX6_holdsNothing : MethodName := ⟨RX6, "holdsNothing", "(I)Z"⟩
abbrev cX6_refusal : ByteArray := prog_8_method_5_code
def yX6_refusal : MethodName := ⟨RX6, "refusal", "(IIII)I"⟩
abbrev cX6_renew : ByteArray := prog_8_method_6_code
def yX6_renew : MethodName := ⟨RX6, "renew", "(III)V"⟩
abbrev cX6_remove : ByteArray := prog_8_method_7_code
def yX6_remove : MethodName := ⟨RX6, "remove", "(I)I"⟩
abbrev cX6_put : ByteArray := prog_8_method_8_code
def yX6_put : MethodName := ⟨RX6, "put", "(III)V"⟩
abbrev cX6_allWithin : ByteArray := prog_8_method_9_code
def yX6_allWithin : MethodName := ⟨RX6, "allWithin", "(IIIII)Z"⟩
abbrev cX6_copyTo : ByteArray := prog_8_method_10_code
def yX6_copyTo : MethodName := ⟨RX6, "copyTo", "([IIII)V"⟩
def RX7 : String := "LaneWishes$Spreads"
def TX7 : u_T := fun k => match k with
  | 0 => ("LaneWishes$Spreads", "choices", "LLaneWishes$Choices;", true)
  | 1 => ("LaneWishes$Spreads", "known", "I", false)
  | 2 => ("LaneWishes$Spreads", "byGoes", "[[J", true)
  | 3 => ("LaneWishes$Spreads", "byLucky", "[[J", true)
  | _ => ("LaneWishes$Spreads", "byCuts", "[J", true)
def tyX7 : Nat → FieldType := fun k => match k with
  | 0 => .object "LaneWishes$Choices"
  | 1 => .int
  | 2 => .array (.array .long)
  | 3 => .array (.array .long)
  | _ => .array .long
theorem nmX7 : ∀ a, a < 5 → ∀ b, b < 5 → a ≠ b → (TX7 a).2.1 ≠ (TX7 b).2.1 := by decide +kernel
theorem tyX7_ok : ∀ k, k < 5 → parseFieldDescriptor (TX7 k).2.2.1 = some (tyX7 k) := by decide +kernel
abbrev cX7_init : ByteArray := prog_9_method_1_code
def yX7_init : MethodName := ⟨RX7, "<init>", "(LLaneWishes$Choices;)V"⟩
abbrev cX7_withGoes : ByteArray := prog_9_method_2_code
def yX7_withGoes : MethodName := ⟨RX7, "withGoes", "(II)J"⟩
abbrev cX7_withLucky : ByteArray := prog_9_method_3_code
def yX7_withLucky : MethodName := ⟨RX7, "withLucky", "(II)J"⟩
abbrev cX7_withLastAt : ByteArray := prog_9_method_4_code
def yX7_withLastAt : MethodName := ⟨RX7, "withLastAt", "(II)J"⟩
abbrev cX7_withFirstWish : ByteArray := prog_9_method_5_code
def yX7_withFirstWish : MethodName := ⟨RX7, "withFirstWish", "(II)J"⟩
abbrev cX7_withOnes : ByteArray := prog_9_method_6_code
def yX7_withOnes : MethodName := ⟨RX7, "withOnes", "(II)J"⟩
abbrev cX7_withCuts : ByteArray := prog_9_method_7_code
def yX7_withCuts : MethodName := ⟨RX7, "withCuts", "(II)J"⟩
abbrev cX7_withOnePartMore : ByteArray := prog_9_method_8_code
def yX7_withOnePartMore : MethodName := ⟨RX7, "withOnePartMore", "(I)J"⟩
abbrev cX7_sidesOf : ByteArray := prog_9_method_9_code
def yX7_sidesOf : MethodName := ⟨RX7, "sidesOf", "(II)J"⟩
abbrev cX7_goodRows : ByteArray := prog_9_method_10_code
def yX7_goodRows : MethodName := ⟨RX7, "goodRows", "(I)J"⟩
abbrev cX7_learn : ByteArray := prog_9_method_11_code
def yX7_learn : MethodName := ⟨RX7, "learn", "(I)V"⟩
abbrev cX7_mostGoes : ByteArray := prog_9_method_12_code
def yX7_mostGoes : MethodName := ⟨RX7, "mostGoes", "(I)I"⟩
abbrev cX7_addGoes : ByteArray := prog_9_method_13_code
def yX7_addGoes : MethodName := ⟨RX7, "addGoes", "(II)V"⟩
abbrev cX7_addLucky : ByteArray := prog_9_method_14_code
def yX7_addLucky : MethodName := ⟨RX7, "addLucky", "(II)V"⟩
def RX8 : String := "LaneWishes$Tree"
def TX8 : u_T := fun k => match k with
  | 0 => ("LaneWishes$Tree", "n", "I", false)
  | 1 => ("LaneWishes$Tree", "parent", "[I", true)
  | 2 => ("LaneWishes$Tree", "depth", "[I", true)
  | 3 => ("LaneWishes$Tree", "children", "[I", true)
  | 4 => ("LaneWishes$Tree", "below", "[I", true)
  | 5 => ("LaneWishes$Tree", "seenAs", "[I", true)
  | 6 => ("LaneWishes$Tree", "seen", "[I", true)
  | _ => ("LaneWishes$Tree", "neighbours", "[I", true)
def tyX8 : Nat → FieldType := fun k => match k with
  | 0 => .int
  | 1 => .array .int
  | 2 => .array .int
  | 3 => .array .int
  | 4 => .array .int
  | 5 => .array .int
  | 6 => .array .int
  | _ => .array .int
theorem nmX8 : ∀ a, a < 8 → ∀ b, b < 8 → a ≠ b → (TX8 a).2.1 ≠ (TX8 b).2.1 := by decide +kernel
theorem tyX8_ok : ∀ k, k < 8 → parseFieldDescriptor (TX8 k).2.2.1 = some (tyX8 k) := by decide +kernel
abbrev cX8_init : ByteArray := prog_10_method_1_code
def yX8_init : MethodName := ⟨RX8, "<init>", "()V"⟩
abbrev cX8_build : ByteArray := prog_10_method_2_code
def yX8_build : MethodName := ⟨RX8, "build", "([II)V"⟩
abbrev cX8_hangCars : ByteArray := prog_10_method_3_code
def yX8_hangCars : MethodName := ⟨RX8, "hangCars", "([I)V"⟩
abbrev cX8_inversions : ByteArray := prog_10_method_4_code
def yX8_inversions : MethodName := ⟨RX8, "inversions", "()I"⟩
abbrev cX8_codeNumber : ByteArray := prog_10_method_5_code
def yX8_codeNumber : MethodName := ⟨RX8, "codeNumber", "(I)I"⟩
abbrev cX8_parentsOfCode : ByteArray := prog_10_method_6_code
def yX8_parentsOfCode : MethodName := ⟨RX8, "parentsOfCode", "([II)V"⟩
abbrev cX8_greatestWithOne : ByteArray := prog_10_method_7_code
def yX8_greatestWithOne : MethodName := ⟨RX8, "greatestWithOne", "()I"⟩
abbrev cX8_strike : ByteArray := prog_10_method_8_code
def yX8_strike : MethodName := ⟨RX8, "strike", "(II)V"⟩
abbrev cX8_takeParents : ByteArray := prog_10_method_9_code
def yX8_takeParents : MethodName := ⟨RX8, "takeParents", "([II)V"⟩
abbrev cX8_wishesOfParents : ByteArray := prog_10_method_10_code
def yX8_wishesOfParents : MethodName := ⟨RX8, "wishesOfParents", "([I)Z"⟩
def RX9 : String := "LaneWishes$Walk"
def TX9 : u_T := fun k => match k with
  | 0 => ("LaneWishes$Walk", "n", "I", false)
  | 1 => ("LaneWishes$Walk", "car", "[I", true)
  | _ => ("LaneWishes$Walk", "height", "[I", true)
def tyX9 : Nat → FieldType := fun k => match k with
  | 0 => .int
  | 1 => .array .int
  | _ => .array .int
theorem nmX9 : ∀ a, a < 3 → ∀ b, b < 3 → a ≠ b → (TX9 a).2.1 ≠ (TX9 b).2.1 := by decide +kernel
theorem tyX9_ok : ∀ k, k < 3 → parseFieldDescriptor (TX9 k).2.2.1 = some (tyX9 k) := by decide +kernel
abbrev cX9_init : ByteArray := prog_11_method_1_code
def yX9_init : MethodName := ⟨RX9, "<init>", "()V"⟩
abbrev cX9_build : ByteArray := prog_11_method_2_code
def yX9_build : MethodName := ⟨RX9, "build", "([II)V"⟩
abbrev cX9_area : ByteArray := prog_11_method_3_code
def yX9_area : MethodName := ⟨RX9, "area", "()I"⟩
abbrev cX9_dinv : ByteArray := prog_11_method_4_code
def yX9_dinv : MethodName := ⟨RX9, "dinv", "()I"⟩
abbrev cX9_countsFor : ByteArray := prog_11_method_5_code
def yX9_countsFor : MethodName := ⟨RX9, "countsFor", "(II)Z"⟩
def RX10 : String := "LaneWishes"
def TX10 : u_T := fun k => match k with
  | 0 => ("LaneWishes", "road", "LLaneWishes$Road;", true)
  | 1 => ("LaneWishes", "masks", "LLaneWishes$Masks;", true)
  | 2 => ("LaneWishes", "book", "LLaneWishes$Book;", true)
  | 3 => ("LaneWishes", "risingBook", "LLaneWishes$RisingBook;", true)
  | 4 => ("LaneWishes", "tree", "LLaneWishes$Tree;", true)
  | 5 => ("LaneWishes", "path", "LLaneWishes$Walk;", true)
  | 6 => ("LaneWishes", "pairs", "LLaneWishes$Pairs;", true)
  | 7 => ("LaneWishes", "spreads", "LLaneWishes$Spreads;", true)
  | 8 => ("LaneWishes", "sheets", "LLaneWishes$Sheets;", true)
  | _ => ("LaneWishes", "row", "[I", true)
def tyX10 : Nat → FieldType := fun k => match k with
  | 0 => .object "LaneWishes$Road"
  | 1 => .object "LaneWishes$Masks"
  | 2 => .object "LaneWishes$Book"
  | 3 => .object "LaneWishes$RisingBook"
  | 4 => .object "LaneWishes$Tree"
  | 5 => .object "LaneWishes$Walk"
  | 6 => .object "LaneWishes$Pairs"
  | 7 => .object "LaneWishes$Spreads"
  | 8 => .object "LaneWishes$Sheets"
  | _ => .array .int
theorem nmX10 : ∀ a, a < 10 → ∀ b, b < 10 → a ≠ b → (TX10 a).2.1 ≠ (TX10 b).2.1 := by decide +kernel
theorem tyX10_ok : ∀ k, k < 10 → parseFieldDescriptor (TX10 k).2.2.1 = some (tyX10 k) := by decide +kernel
abbrev cX10_init : ByteArray := prog_1_method_1_code
def yX10_init : MethodName := ⟨RX10, "<init>", "()V"⟩
abbrev cX10_road : ByteArray := prog_1_method_2_code
def yX10_road : MethodName := ⟨RX10, "road", "(III)I"⟩
abbrev cX10_car : ByteArray := prog_1_method_3_code
def yX10_car : MethodName := ⟨RX10, "car", "(I)I"⟩
abbrev cX10_wish : ByteArray := prog_1_method_4_code
def yX10_wish : MethodName := ⟨RX10, "wish", "(II)I"⟩
abbrev cX10_length : ByteArray := prog_1_method_5_code
def yX10_length : MethodName := ⟨RX10, "length", "(II)I"⟩
abbrev cX10_undo : ByteArray := prog_1_method_6_code
def yX10_undo : MethodName := ⟨RX10, "undo", "()I"⟩
abbrev cX10_clear : ByteArray := prog_1_method_7_code
def yX10_clear : MethodName := ⟨RX10, "clear", "()I"⟩
abbrev cX10_told : ByteArray := prog_1_method_8_code
def yX10_told : MethodName := ⟨RX10, "told", "(II)I"⟩
abbrev cX10_on : ByteArray := prog_1_method_9_code
def yX10_on : MethodName := ⟨RX10, "on", "(I)I"⟩
abbrev cX10_count : ByteArray := prog_1_method_10_code
def yX10_count : MethodName := ⟨RX10, "count", "(I)I"⟩
abbrev cX10_good : ByteArray := prog_1_method_11_code
def yX10_good : MethodName := ⟨RX10, "good", "()I"⟩
abbrev cX10_ways : ByteArray := prog_1_method_12_code
def yX10_ways : MethodName := ⟨RX10, "ways", "()I"⟩
abbrev cX10_rows : ByteArray := prog_1_method_13_code
def yX10_rows : MethodName := ⟨RX10, "rows", "(I)J"⟩
abbrev cX10_rank : ByteArray := prog_1_method_14_code
def yX10_rank : MethodName := ⟨RX10, "rank", "()J"⟩
abbrev cX10_unrank : ByteArray := prog_1_method_15_code
def yX10_unrank : MethodName := ⟨RX10, "unrank", "(IJ)I"⟩
abbrev cX10_next : ByteArray := prog_1_method_16_code
def yX10_next : MethodName := ⟨RX10, "next", "()I"⟩
abbrev cX10_like : ByteArray := prog_1_method_17_code
def yX10_like : MethodName := ⟨RX10, "like", "()J"⟩
abbrev cX10_orders : ByteArray := prog_1_method_18_code
def yX10_orders : MethodName := ⟨RX10, "orders", "()J"⟩
abbrev cX10_rise : ByteArray := prog_1_method_19_code
def yX10_rise : MethodName := ⟨RX10, "rise", "()I"⟩
abbrev cX10_risings : ByteArray := prog_1_method_20_code
def yX10_risings : MethodName := ⟨RX10, "risings", "(I)J"⟩
abbrev cX10_riseRank : ByteArray := prog_1_method_21_code
def yX10_riseRank : MethodName := ⟨RX10, "riseRank", "()J"⟩
abbrev cX10_riseUnrank : ByteArray := prog_1_method_22_code
def yX10_riseUnrank : MethodName := ⟨RX10, "riseUnrank", "(IJ)I"⟩
abbrev cX10_cuts : ByteArray := prog_1_method_23_code
def yX10_cuts : MethodName := ⟨RX10, "cuts", "()I"⟩
abbrev cX10_primes : ByteArray := prog_1_method_24_code
def yX10_primes : MethodName := ⟨RX10, "primes", "()J"⟩
abbrev cX10_mend : ByteArray := prog_1_method_25_code
def yX10_mend : MethodName := ⟨RX10, "mend", "()I"⟩
abbrev cX10_node : ByteArray := prog_1_method_26_code
def yX10_node : MethodName := ⟨RX10, "node", "(II)I"⟩
abbrev cX10_inv : ByteArray := prog_1_method_27_code
def yX10_inv : MethodName := ⟨RX10, "inv", "()I"⟩
abbrev cX10_code : ByteArray := prog_1_method_28_code
def yX10_code : MethodName := ⟨RX10, "code", "(I)I"⟩
abbrev cX10_decode : ByteArray := prog_1_method_29_code
def yX10_decode : MethodName := ⟨RX10, "decode", "(III)I"⟩
abbrev cX10_grow : ByteArray := prog_1_method_30_code
def yX10_grow : MethodName := ⟨RX10, "grow", "(III)I"⟩
abbrev cX10_walk : ByteArray := prog_1_method_31_code
def yX10_walk : MethodName := ⟨RX10, "walk", "(II)I"⟩
abbrev cX10_counts : ByteArray := prog_1_method_32_code
def yX10_counts : MethodName := ⟨RX10, "counts", "(I)I"⟩
abbrev cX10_both : ByteArray := prog_1_method_33_code
def yX10_both : MethodName := ⟨RX10, "both", "(III)I"⟩
abbrev cX10_spread : ByteArray := prog_1_method_34_code
def yX10_spread : MethodName := ⟨RX10, "spread", "(III)J"⟩
abbrev cX10_sheet : ByteArray := prog_1_method_35_code
def yX10_sheet : MethodName := ⟨RX10, "sheet", "(III)I"⟩
abbrev cX10_drop : ByteArray := prog_1_method_36_code
def yX10_drop : MethodName := ⟨RX10, "drop", "(I)I"⟩
abbrev cX10_item : ByteArray := prog_1_method_37_code
def yX10_item : MethodName := ⟨RX10, "item", "(IIII)I"⟩
abbrev cX10_cars : ByteArray := prog_1_method_38_code
def yX10_cars : MethodName := ⟨RX10, "cars", "(IIII)I"⟩
abbrev cX10_keep : ByteArray := prog_1_method_39_code
def yX10_keep : MethodName := ⟨RX10, "keep", "(III)I"⟩
abbrev cX10_isRowSize : ByteArray := prog_1_method_40_code
def yX10_isRowSize : MethodName := ⟨RX10, "isRowSize", "(I)Z"⟩
abbrev cX10_isPlainGood : ByteArray := prog_1_method_41_code
def yX10_isPlainGood : MethodName := ⟨RX10, "isPlainGood", "()Z"⟩
abbrev cX10_hasTree : ByteArray := prog_1_method_42_code
def yX10_hasTree : MethodName := ⟨RX10, "hasTree", "()Z"⟩
abbrev cX10_power : ByteArray := prog_1_method_43_code
def yX10_power : MethodName := ⟨RX10, "power", "(JI)J"⟩
def RX11 : String := "LaneWishesModel"
def TX11 : u_T := fun k => match k with
  | 0 => ("LaneWishesModel", "kind", "I", false)
  | 1 => ("LaneWishesModel", "n", "I", false)
  | 2 => ("LaneWishesModel", "back", "I", false)
  | 3 => ("LaneWishesModel", "k", "I", false)
  | 4 => ("LaneWishesModel", "wishes", "[I", true)
  | 5 => ("LaneWishesModel", "lengths", "[I", true)
  | 6 => ("LaneWishesModel", "at", "[I", true)
  | 7 => ("LaneWishesModel", "on", "[I", true)
  | 8 => ("LaneWishesModel", "kept", "[I", true)
  | 9 => ("LaneWishesModel", "chooses", "[J", true)
  | 10 => ("LaneWishesModel", "told", "[I", true)
  | 11 => ("LaneWishesModel", "finish", "[J", true)
  | 12 => ("LaneWishesModel", "rising", "[J", true)
  | 13 => ("LaneWishesModel", "parents", "[I", true)
  | 14 => ("LaneWishesModel", "seen", "[I", true)
  | 15 => ("LaneWishesModel", "seenAs", "[I", true)
  | 16 => ("LaneWishesModel", "struck", "[Z", true)
  | 17 => ("LaneWishesModel", "degrees", "[I", true)
  | 18 => ("LaneWishesModel", "endOne", "[I", true)
  | 19 => ("LaneWishesModel", "endOther", "[I", true)
  | 20 => ("LaneWishesModel", "walked", "[I", true)
  | 21 => ("LaneWishesModel", "heights", "[I", true)
  | 22 => ("LaneWishesModel", "keptLengths", "[I", true)
  | 23 => ("LaneWishesModel", "keptWishes", "[I", true)
  | 24 => ("LaneWishesModel", "bySum", "[J", true)
  | 25 => ("LaneWishesModel", "lucky", "[J", true)
  | 26 => ("LaneWishesModel", "parted", "[J", true)
  | 27 => ("LaneWishesModel", "lanes", "[I", true)
  | 28 => ("LaneWishesModel", "sizes", "[I", true)
  | _ => ("LaneWishesModel", "items", "[I", true)
def tyX11 : Nat → FieldType := fun k => match k with
  | 0 => .int
  | 1 => .int
  | 2 => .int
  | 3 => .int
  | 4 => .array .int
  | 5 => .array .int
  | 6 => .array .int
  | 7 => .array .int
  | 8 => .array .int
  | 9 => .array .long
  | 10 => .array .int
  | 11 => .array .long
  | 12 => .array .long
  | 13 => .array .int
  | 14 => .array .int
  | 15 => .array .int
  | 16 => .array .boolean
  | 17 => .array .int
  | 18 => .array .int
  | 19 => .array .int
  | 20 => .array .int
  | 21 => .array .int
  | 22 => .array .int
  | 23 => .array .int
  | 24 => .array .long
  | 25 => .array .long
  | 26 => .array .long
  | 27 => .array .int
  | 28 => .array .int
  | _ => .array .int
theorem nmX11 : ∀ a, a < 30 → ∀ b, b < 30 → a ≠ b → (TX11 a).2.1 ≠ (TX11 b).2.1 := by decide +kernel
theorem tyX11_ok : ∀ k, k < 30 → parseFieldDescriptor (TX11 k).2.2.1 = some (tyX11 k) := by decide +kernel
abbrev cX11_in : ByteArray := prog_13_method_1_code
def yX11_in : MethodName := ⟨RX11, "in", "(JJJ)Z"⟩
abbrev cX11_init : ByteArray := prog_13_method_2_code
def yX11_init : MethodName := ⟨RX11, "<init>", "()V"⟩
abbrev cX11_road : ByteArray := prog_13_method_3_code
def yX11_road : MethodName := ⟨RX11, "road", "(III)I"⟩
abbrev cX11_add : ByteArray := prog_13_method_4_code
def yX11_add : MethodName := ⟨RX11, "add", "(I)V"⟩
abbrev cX11_car : ByteArray := prog_13_method_5_code
def yX11_car : MethodName := ⟨RX11, "car", "(I)I"⟩
abbrev cX11_isCar : ByteArray := prog_13_method_6_code
def yX11_isCar : MethodName := ⟨RX11, "isCar", "(I)Z"⟩
abbrev cX11_wish : ByteArray := prog_13_method_7_code
def yX11_wish : MethodName := ⟨RX11, "wish", "(II)I"⟩
abbrev cX11_length : ByteArray := prog_13_method_8_code
def yX11_length : MethodName := ⟨RX11, "length", "(II)I"⟩
abbrev cX11_undo : ByteArray := prog_13_method_9_code
def yX11_undo : MethodName := ⟨RX11, "undo", "()I"⟩
abbrev cX11_clear : ByteArray := prog_13_method_10_code
def yX11_clear : MethodName := ⟨RX11, "clear", "()I"⟩
abbrev cX11_placeFor : ByteArray := prog_13_method_11_code
def yX11_placeFor : MethodName := ⟨RX11, "placeFor", "(I)I"⟩
abbrev cX11_fits : ByteArray := prog_13_method_12_code
def yX11_fits : MethodName := ⟨RX11, "fits", "(II)Z"⟩
abbrev cX11_drive : ByteArray := prog_13_method_13_code
def yX11_drive : MethodName := ⟨RX11, "drive", "()V"⟩
abbrev cX11_goes : ByteArray := prog_13_method_14_code
def yX11_goes : MethodName := ⟨RX11, "goes", "(I)I"⟩
abbrev cX11_isGood : ByteArray := prog_13_method_15_code
def yX11_isGood : MethodName := ⟨RX11, "isGood", "()Z"⟩
abbrev cX11_isPlain : ByteArray := prog_13_method_16_code
def yX11_isPlain : MethodName := ⟨RX11, "isPlain", "()Z"⟩
abbrev cX11_told : ByteArray := prog_13_method_17_code
def yX11_told : MethodName := ⟨RX11, "told", "(II)I"⟩
abbrev cX11_on : ByteArray := prog_13_method_18_code
def yX11_on : MethodName := ⟨RX11, "on", "(I)I"⟩
abbrev cX11_count : ByteArray := prog_13_method_19_code
def yX11_count : MethodName := ⟨RX11, "count", "(I)I"⟩
abbrev cX11_good : ByteArray := prog_13_method_20_code
def yX11_good : MethodName := ⟨RX11, "good", "()I"⟩
abbrev cX11_step : ByteArray := prog_13_method_21_code
def yX11_step : MethodName := ⟨RX11, "step", "()Z"⟩
abbrev cX11_ways : ByteArray := prog_13_method_22_code
def yX11_ways : MethodName := ⟨RX11, "ways", "()I"⟩
abbrev cX11_choose : ByteArray := prog_13_method_23_code
def yX11_choose : MethodName := ⟨RX11, "choose", "(II)J"⟩
abbrev cX11_power : ByteArray := prog_13_method_24_code
def yX11_power : MethodName := ⟨RX11, "power", "(JI)J"⟩
abbrev cX11_finishes : ByteArray := prog_13_method_25_code
def yX11_finishes : MethodName := ⟨RX11, "finishes", "(II)J"⟩
abbrev cX11_clearTold : ByteArray := prog_13_method_26_code
def yX11_clearTold : MethodName := ⟨RX11, "clearTold", "()V"⟩
abbrev cX11_rowsOf : ByteArray := prog_13_method_27_code
def yX11_rowsOf : MethodName := ⟨RX11, "rowsOf", "(I)J"⟩
abbrev cX11_rows : ByteArray := prog_13_method_28_code
def yX11_rows : MethodName := ⟨RX11, "rows", "(I)J"⟩
abbrev cX11_isWell : ByteArray := prog_13_method_29_code
def yX11_isWell : MethodName := ⟨RX11, "isWell", "()Z"⟩
abbrev cX11_rankOf : ByteArray := prog_13_method_30_code
def yX11_rankOf : MethodName := ⟨RX11, "rankOf", "()J"⟩
abbrev cX11_rank : ByteArray := prog_13_method_31_code
def yX11_rank : MethodName := ⟨RX11, "rank", "()J"⟩
abbrev cX11_fromRank : ByteArray := prog_13_method_32_code
def yX11_fromRank : MethodName := ⟨RX11, "fromRank", "(IJ)V"⟩
abbrev cX11_unrank : ByteArray := prog_13_method_33_code
def yX11_unrank : MethodName := ⟨RX11, "unrank", "(IJ)I"⟩
abbrev cX11_next : ByteArray := prog_13_method_34_code
def yX11_next : MethodName := ⟨RX11, "next", "()I"⟩
abbrev cX11_like : ByteArray := prog_13_method_35_code
def yX11_like : MethodName := ⟨RX11, "like", "()J"⟩
abbrev cX11_orders : ByteArray := prog_13_method_36_code
def yX11_orders : MethodName := ⟨RX11, "orders", "()J"⟩
abbrev cX11_sort : ByteArray := prog_13_method_37_code
def yX11_sort : MethodName := ⟨RX11, "sort", "()V"⟩
abbrev cX11_rise : ByteArray := prog_13_method_38_code
def yX11_rise : MethodName := ⟨RX11, "rise", "()I"⟩
abbrev cX11_findRising : ByteArray := prog_13_method_39_code
def yX11_findRising : MethodName := ⟨RX11, "findRising", "(I)V"⟩
abbrev cX11_risingsOf : ByteArray := prog_13_method_40_code
def yX11_risingsOf : MethodName := ⟨RX11, "risingsOf", "(I)J"⟩
abbrev cX11_risings : ByteArray := prog_13_method_41_code
def yX11_risings : MethodName := ⟨RX11, "risings", "(I)J"⟩
abbrev cX11_riseRank : ByteArray := prog_13_method_42_code
def yX11_riseRank : MethodName := ⟨RX11, "riseRank", "()J"⟩
abbrev cX11_riseUnrank : ByteArray := prog_13_method_43_code
def yX11_riseUnrank : MethodName := ⟨RX11, "riseUnrank", "(IJ)I"⟩
abbrev cX11_isFull : ByteArray := prog_13_method_44_code
def yX11_isFull : MethodName := ⟨RX11, "isFull", "()Z"⟩
abbrev cX11_wishUpTo : ByteArray := prog_13_method_45_code
def yX11_wishUpTo : MethodName := ⟨RX11, "wishUpTo", "(I)I"⟩
abbrev cX11_cuts : ByteArray := prog_13_method_46_code
def yX11_cuts : MethodName := ⟨RX11, "cuts", "()I"⟩
abbrev cX11_primesOf : ByteArray := prog_13_method_47_code
def yX11_primesOf : MethodName := ⟨RX11, "primesOf", "(I)J"⟩
abbrev cX11_primes : ByteArray := prog_13_method_48_code
def yX11_primes : MethodName := ⟨RX11, "primes", "()J"⟩
abbrev cX11_mend : ByteArray := prog_13_method_49_code
def yX11_mend : MethodName := ⟨RX11, "mend", "()I"⟩
abbrev cX11_findTree : ByteArray := prog_13_method_50_code
def yX11_findTree : MethodName := ⟨RX11, "findTree", "()V"⟩
abbrev cX11_isBelow : ByteArray := prog_13_method_51_code
def yX11_isBelow : MethodName := ⟨RX11, "isBelow", "(II)Z"⟩
abbrev cX11_node : ByteArray := prog_13_method_52_code
def yX11_node : MethodName := ⟨RX11, "node", "(II)I"⟩
abbrev cX11_inv : ByteArray := prog_13_method_53_code
def yX11_inv : MethodName := ⟨RX11, "inv", "()I"⟩
abbrev cX11_neighbourOf : ByteArray := prog_13_method_54_code
def yX11_neighbourOf : MethodName := ⟨RX11, "neighbourOf", "(I)I"⟩
abbrev cX11_code : ByteArray := prog_13_method_55_code
def yX11_code : MethodName := ⟨RX11, "code", "(I)I"⟩
abbrev cX11_read : ByteArray := prog_13_method_56_code
def yX11_read : MethodName := ⟨RX11, "read", "(II)I"⟩
abbrev cX11_plant : ByteArray := prog_13_method_57_code
def yX11_plant : MethodName := ⟨RX11, "plant", "()V"⟩
abbrev cX11_decode : ByteArray := prog_13_method_58_code
def yX11_decode : MethodName := ⟨RX11, "decode", "(III)I"⟩
abbrev cX11_hang : ByteArray := prog_13_method_59_code
def yX11_hang : MethodName := ⟨RX11, "hang", "()V"⟩
abbrev cX11_grow : ByteArray := prog_13_method_60_code
def yX11_grow : MethodName := ⟨RX11, "grow", "(III)I"⟩
abbrev cX11_findWalk : ByteArray := prog_13_method_61_code
def yX11_findWalk : MethodName := ⟨RX11, "findWalk", "()V"⟩
abbrev cX11_area : ByteArray := prog_13_method_62_code
def yX11_area : MethodName := ⟨RX11, "area", "()I"⟩
abbrev cX11_dinv : ByteArray := prog_13_method_63_code
def yX11_dinv : MethodName := ⟨RX11, "dinv", "()I"⟩
abbrev cX11_walk : ByteArray := prog_13_method_64_code
def yX11_walk : MethodName := ⟨RX11, "walk", "(II)I"⟩
abbrev cX11_counts : ByteArray := prog_13_method_65_code
def yX11_counts : MethodName := ⟨RX11, "counts", "(I)I"⟩
abbrev cX11_both : ByteArray := prog_13_method_66_code
def yX11_both : MethodName := ⟨RX11, "both", "(III)I"⟩
abbrev cX11_withSum : ByteArray := prog_13_method_67_code
def yX11_withSum : MethodName := ⟨RX11, "withSum", "(II)J"⟩
abbrev cX11_withLucky : ByteArray := prog_13_method_68_code
def yX11_withLucky : MethodName := ⟨RX11, "withLucky", "(II)J"⟩
abbrev cX11_allOf : ByteArray := prog_13_method_69_code
def yX11_allOf : MethodName := ⟨RX11, "allOf", "(I)J"⟩
abbrev cX11_withParts : ByteArray := prog_13_method_70_code
def yX11_withParts : MethodName := ⟨RX11, "withParts", "(II)J"⟩
abbrev cX11_spread : ByteArray := prog_13_method_71_code
def yX11_spread : MethodName := ⟨RX11, "spread", "(III)J"⟩
abbrev cX11_isSheet : ByteArray := prog_13_method_72_code
def yX11_isSheet : MethodName := ⟨RX11, "isSheet", "(II)Z"⟩
abbrev cX11_sheet : ByteArray := prog_13_method_73_code
def yX11_sheet : MethodName := ⟨RX11, "sheet", "(III)I"⟩
abbrev cX11_drop : ByteArray := prog_13_method_74_code
def yX11_drop : MethodName := ⟨RX11, "drop", "(I)I"⟩
abbrev cX11_against : ByteArray := prog_13_method_75_code
def yX11_against : MethodName := ⟨RX11, "against", "(IIII)I"⟩
abbrev cX11_item : ByteArray := prog_13_method_76_code
def yX11_item : MethodName := ⟨RX11, "item", "(IIII)I"⟩
abbrev cX11_cars : ByteArray := prog_13_method_77_code
def yX11_cars : MethodName := ⟨RX11, "cars", "(IIII)I"⟩
abbrev cX11_keep : ByteArray := prog_13_method_78_code
def yX11_keep : MethodName := ⟨RX11, "keep", "(III)I"⟩
def RJ6 : String := "java/lang/Integer"
def TJ6 : u_T := fun k => match k with
  | _ => ("", "", "", false)
def tyJ6 : Nat → FieldType := fun k => match k with
  | _ => .int
theorem nmJ6 : ∀ a, a < 0 → ∀ b, b < 0 → a ≠ b → (TJ6 a).2.1 ≠ (TJ6 b).2.1 := by decide +kernel
theorem tyJ6_ok : ∀ k, k < 0 → parseFieldDescriptor (TJ6 k).2.2.1 = some (tyJ6 k) := by decide +kernel
abbrev cJ6_bitCount_0f7a4 : ByteArray := prog_14_method_49_code
def yJ6_bitCount_0f7a4 : MethodName := ⟨RJ6, "bitCount", "(I)I"⟩
def RJ9 : String := "java/lang/Math"
def TJ9 : u_T := fun k => match k with
  | _ => ("", "", "", false)
def tyJ9 : Nat → FieldType := fun k => match k with
  | _ => .int
theorem nmJ9 : ∀ a, a < 0 → ∀ b, b < 0 → a ≠ b → (TJ9 a).2.1 ≠ (TJ9 b).2.1 := by decide +kernel
theorem tyJ9_ok : ∀ k, k < 0 → parseFieldDescriptor (TJ9 k).2.2.1 = some (tyJ9 k) := by decide +kernel
abbrev cJ9_max_7cf53 : ByteArray := prog_15_method_65_code
def yJ9_max_7cf53 : MethodName := ⟨RJ9, "max", "(II)I"⟩
def RJ10 : String := "java/lang/System"
def TJ10 : u_T := fun k => match k with
  | _ => ("", "", "", false)
def tyJ10 : Nat → FieldType := fun k => match k with
  | _ => .int
theorem nmJ10 : ∀ a, a < 0 → ∀ b, b < 0 → a ≠ b → (TJ10 a).2.1 ≠ (TJ10 b).2.1 := by decide +kernel
theorem tyJ10_ok : ∀ k, k < 0 → parseFieldDescriptor (TJ10 k).2.2.1 = some (tyJ10 k) := by decide +kernel
def RL : String := "LaneWishesLaw"
abbrev cL_law : ByteArray := code
def yL_law : MethodName := ⟨RL, "law", "([I)Z"⟩
abbrev vwCl : List vw_C := [(RX0, TX0, 3), (RX1, TX1, 1), (RX2, TX2, 1), (RX3, TX3, 3), (RX4, TX4, 1), (RX5, TX5, 10), (RX6, TX6, 3), (RX7, TX7, 5), (RX8, TX8, 8), (RX9, TX9, 3), (RX10, TX10, 10), (RX11, TX11, 30)]
end
section
theorem dX0_init_0 : decode cX0_init 0 = .ok (.aload_n 0, 1) := by decide +kernel
theorem dX0_init_1 : decode cX0_init 1 = .ok (.invokespecial 3, 3) := by decide +kernel
theorem dX0_init_4 : decode cX0_init 4 = .ok (.aload_n 0, 1) := by decide +kernel
theorem dX0_init_5 : decode cX0_init 5 = .ok (.bipush 11, 2) := by decide +kernel
theorem dX0_init_7 : decode cX0_init 7 = .ok (.newarray .int, 2) := by decide +kernel
theorem dX0_init_9 : decode cX0_init 9 = .ok (.putfield 9, 3) := by decide +kernel
theorem dX0_init_12 : decode cX0_init 12 = .ok (.aload_n 0, 1) := by decide +kernel
theorem dX0_init_13 : decode cX0_init 13 = .ok (.bipush 11, 2) := by decide +kernel
theorem dX0_init_15 : decode cX0_init 15 = .ok (.newarray .long, 2) := by decide +kernel
theorem dX0_init_17 : decode cX0_init 17 = .ok (.putfield 15, 3) := by decide +kernel
theorem dX0_init_20 : decode cX0_init 20 = .ok (.aload_n 0, 1) := by decide +kernel
theorem dX0_init_21 : decode cX0_init 21 = .ok (.aload_n 1, 1) := by decide +kernel
theorem dX0_init_22 : decode cX0_init 22 = .ok (.putfield 19, 3) := by decide +kernel
theorem dX0_init_25 : decode cX0_init 25 = .ok (.return_, 1) := by decide +kernel
theorem dX0_howMany_0 : decode cX0_howMany 0 = .ok (.iload_n 2, 1) := by decide +kernel
theorem dX0_howMany_1 : decode cX0_howMany 1 = .ok (.ifCond .ne 7, 3) := by decide +kernel
theorem dX0_howMany_4 : decode cX0_howMany 4 = .ok (.lconst 1, 1) := by decide +kernel
theorem dX0_howMany_5 : decode cX0_howMany 5 = .ok (.goto 20, 3) := by decide +kernel
theorem dX0_howMany_8 : decode cX0_howMany 8 = .ok (.iload_n 1, 1) := by decide +kernel
theorem dX0_howMany_9 : decode cX0_howMany 9 = .ok (.iconst 1, 1) := by decide +kernel
theorem dX0_howMany_10 : decode cX0_howMany 10 = .ok (.iadd, 1) := by decide +kernel
theorem dX0_howMany_11 : decode cX0_howMany 11 = .ok (.iload_n 2, 1) := by decide +kernel
theorem dX0_howMany_12 : decode cX0_howMany 12 = .ok (.isub, 1) := by decide +kernel
theorem dX0_howMany_13 : decode cX0_howMany 13 = .ok (.i2l, 1) := by decide +kernel
theorem dX0_howMany_14 : decode cX0_howMany 14 = .ok (.iload_n 1, 1) := by decide +kernel
theorem dX0_howMany_15 : decode cX0_howMany 15 = .ok (.iconst 1, 1) := by decide +kernel
theorem dX0_howMany_16 : decode cX0_howMany 16 = .ok (.iadd, 1) := by decide +kernel
theorem dX0_howMany_17 : decode cX0_howMany 17 = .ok (.i2l, 1) := by decide +kernel
theorem dX0_howMany_18 : decode cX0_howMany 18 = .ok (.iload_n 2, 1) := by decide +kernel
theorem dX0_howMany_19 : decode cX0_howMany 19 = .ok (.iconst 1, 1) := by decide +kernel
theorem dX0_howMany_20 : decode cX0_howMany 20 = .ok (.isub, 1) := by decide +kernel
theorem dX0_howMany_21 : decode cX0_howMany 21 = .ok (.invokestatic 23, 3) := by decide +kernel
theorem dX0_howMany_24 : decode cX0_howMany 24 = .ok (.lmul, 1) := by decide +kernel
theorem dX0_howMany_25 : decode cX0_howMany 25 = .ok (.lreturn, 1) := by decide +kernel
theorem dX0_primeRows_0 : decode cX0_primeRows 0 = .ok (.iload_n 1, 1) := by decide +kernel
theorem dX0_primeRows_1 : decode cX0_primeRows 1 = .ok (.iconst 1, 1) := by decide +kernel
theorem dX0_primeRows_2 : decode cX0_primeRows 2 = .ok (.isub, 1) := by decide +kernel
theorem dX0_primeRows_3 : decode cX0_primeRows 3 = .ok (.i2l, 1) := by decide +kernel
theorem dX0_primeRows_4 : decode cX0_primeRows 4 = .ok (.iload_n 1, 1) := by decide +kernel
theorem dX0_primeRows_5 : decode cX0_primeRows 5 = .ok (.iconst 1, 1) := by decide +kernel
theorem dX0_primeRows_6 : decode cX0_primeRows 6 = .ok (.isub, 1) := by decide +kernel
theorem dX0_primeRows_7 : decode cX0_primeRows 7 = .ok (.invokestatic 23, 3) := by decide +kernel
theorem dX0_primeRows_10 : decode cX0_primeRows 10 = .ok (.lreturn, 1) := by decide +kernel
theorem dX0_numberOf_0 : decode cX0_numberOf 0 = .ok (.aload_n 0, 1) := by decide +kernel
theorem dX0_numberOf_1 : decode cX0_numberOf 1 = .ok (.invokevirtual 27, 3) := by decide +kernel
theorem dX0_numberOf_4 : decode cX0_numberOf 4 = .ok (.lconst 0, 1) := by decide +kernel
theorem dX0_numberOf_5 : decode cX0_numberOf 5 = .ok (.lstore 4, 2) := by decide +kernel
theorem dX0_numberOf_7 : decode cX0_numberOf 7 = .ok (.iconst 1, 1) := by decide +kernel
theorem dX0_numberOf_8 : decode cX0_numberOf 8 = .ok (.istore 6, 2) := by decide +kernel
theorem dX0_numberOf_10 : decode cX0_numberOf 10 = .ok (.iload 6, 2) := by decide +kernel
theorem dX0_numberOf_12 : decode cX0_numberOf 12 = .ok (.iload_n 3, 1) := by decide +kernel
theorem dX0_numberOf_13 : decode cX0_numberOf 13 = .ok (.if_icmp .gt 56, 3) := by decide +kernel
theorem dX0_numberOf_16 : decode cX0_numberOf 16 = .ok (.iconst 1, 1) := by decide +kernel
theorem dX0_numberOf_17 : decode cX0_numberOf 17 = .ok (.istore 7, 2) := by decide +kernel
theorem dX0_numberOf_19 : decode cX0_numberOf 19 = .ok (.iload 7, 2) := by decide +kernel
theorem dX0_numberOf_21 : decode cX0_numberOf 21 = .ok (.aload_n 1, 1) := by decide +kernel
theorem dX0_numberOf_22 : decode cX0_numberOf 22 = .ok (.iload 6, 2) := by decide +kernel
theorem dX0_numberOf_24 : decode cX0_numberOf 24 = .ok (.iaload, 1) := by decide +kernel
theorem dX0_numberOf_25 : decode cX0_numberOf 25 = .ok (.if_icmp .ge 25, 3) := by decide +kernel
theorem dX0_numberOf_28 : decode cX0_numberOf 28 = .ok (.lload 4, 2) := by decide +kernel
theorem dX0_numberOf_30 : decode cX0_numberOf 30 = .ok (.aload_n 0, 1) := by decide +kernel
theorem dX0_numberOf_31 : decode cX0_numberOf 31 = .ok (.iload 7, 2) := by decide +kernel
theorem dX0_numberOf_33 : decode cX0_numberOf 33 = .ok (.iload_n 2, 1) := by decide +kernel
theorem dX0_numberOf_34 : decode cX0_numberOf 34 = .ok (.iload_n 3, 1) := by decide +kernel
theorem dX0_numberOf_35 : decode cX0_numberOf 35 = .ok (.iload 6, 2) := by decide +kernel
theorem dX0_numberOf_37 : decode cX0_numberOf 37 = .ok (.isub, 1) := by decide +kernel
theorem dX0_numberOf_38 : decode cX0_numberOf 38 = .ok (.invokevirtual 30, 3) := by decide +kernel
theorem dX0_numberOf_41 : decode cX0_numberOf 41 = .ok (.ladd, 1) := by decide +kernel
theorem dX0_numberOf_42 : decode cX0_numberOf 42 = .ok (.lstore 4, 2) := by decide +kernel
theorem dX0_numberOf_44 : decode cX0_numberOf 44 = .ok (.iinc 7 1, 3) := by decide +kernel
theorem dX0_numberOf_47 : decode cX0_numberOf 47 = .ok (.goto (-28), 3) := by decide +kernel
theorem dX0_numberOf_50 : decode cX0_numberOf 50 = .ok (.aload_n 0, 1) := by decide +kernel
theorem dX0_numberOf_51 : decode cX0_numberOf 51 = .ok (.getfield 9, 3) := by decide +kernel
theorem dX0_numberOf_54 : decode cX0_numberOf 54 = .ok (.aload_n 1, 1) := by decide +kernel
theorem dX0_numberOf_55 : decode cX0_numberOf 55 = .ok (.iload 6, 2) := by decide +kernel
theorem dX0_numberOf_57 : decode cX0_numberOf 57 = .ok (.iaload, 1) := by decide +kernel
theorem dX0_numberOf_58 : decode cX0_numberOf 58 = .ok (.dup2, 1) := by decide +kernel
theorem dX0_numberOf_59 : decode cX0_numberOf 59 = .ok (.iaload, 1) := by decide +kernel
theorem dX0_numberOf_60 : decode cX0_numberOf 60 = .ok (.iconst 1, 1) := by decide +kernel
theorem dX0_numberOf_61 : decode cX0_numberOf 61 = .ok (.iadd, 1) := by decide +kernel
theorem dX0_numberOf_62 : decode cX0_numberOf 62 = .ok (.iastore, 1) := by decide +kernel
theorem dX0_numberOf_63 : decode cX0_numberOf 63 = .ok (.iinc 6 1, 3) := by decide +kernel
theorem dX0_numberOf_66 : decode cX0_numberOf 66 = .ok (.goto (-56), 3) := by decide +kernel
theorem dX0_numberOf_69 : decode cX0_numberOf 69 = .ok (.lload 4, 2) := by decide +kernel
theorem dX0_numberOf_71 : decode cX0_numberOf 71 = .ok (.lreturn, 1) := by decide +kernel
theorem dX0_fillRow_0 : decode cX0_fillRow 0 = .ok (.aload_n 0, 1) := by decide +kernel
theorem dX0_fillRow_1 : decode cX0_fillRow 1 = .ok (.invokevirtual 27, 3) := by decide +kernel
theorem dX0_fillRow_4 : decode cX0_fillRow 4 = .ok (.lload 4, 2) := by decide +kernel
theorem dX0_fillRow_6 : decode cX0_fillRow 6 = .ok (.lstore 6, 2) := by decide +kernel
theorem dX0_fillRow_8 : decode cX0_fillRow 8 = .ok (.iconst 1, 1) := by decide +kernel
theorem dX0_fillRow_9 : decode cX0_fillRow 9 = .ok (.istore 8, 2) := by decide +kernel
theorem dX0_fillRow_11 : decode cX0_fillRow 11 = .ok (.iload 8, 2) := by decide +kernel
theorem dX0_fillRow_13 : decode cX0_fillRow 13 = .ok (.iload_n 3, 1) := by decide +kernel
theorem dX0_fillRow_14 : decode cX0_fillRow 14 = .ok (.if_icmp .gt 82, 3) := by decide +kernel
theorem dX0_fillRow_17 : decode cX0_fillRow 17 = .ok (.iconst 1, 1) := by decide +kernel
theorem dX0_fillRow_18 : decode cX0_fillRow 18 = .ok (.istore 9, 2) := by decide +kernel
theorem dX0_fillRow_20 : decode cX0_fillRow 20 = .ok (.aload_n 0, 1) := by decide +kernel
theorem dX0_fillRow_21 : decode cX0_fillRow 21 = .ok (.iload 9, 2) := by decide +kernel
theorem dX0_fillRow_23 : decode cX0_fillRow 23 = .ok (.iload_n 2, 1) := by decide +kernel
theorem dX0_fillRow_24 : decode cX0_fillRow 24 = .ok (.iload_n 3, 1) := by decide +kernel
theorem dX0_fillRow_25 : decode cX0_fillRow 25 = .ok (.iload 8, 2) := by decide +kernel
theorem dX0_fillRow_27 : decode cX0_fillRow 27 = .ok (.isub, 1) := by decide +kernel
theorem dX0_fillRow_28 : decode cX0_fillRow 28 = .ok (.invokevirtual 30, 3) := by decide +kernel
theorem dX0_fillRow_31 : decode cX0_fillRow 31 = .ok (.lstore 10, 2) := by decide +kernel
theorem dX0_fillRow_33 : decode cX0_fillRow 33 = .ok (.lload 6, 2) := by decide +kernel
theorem dX0_fillRow_35 : decode cX0_fillRow 35 = .ok (.lload 10, 2) := by decide +kernel
theorem dX0_fillRow_37 : decode cX0_fillRow 37 = .ok (.lcmp, 1) := by decide +kernel
theorem dX0_fillRow_38 : decode cX0_fillRow 38 = .ok (.ifCond .lt 35, 3) := by decide +kernel
theorem dX0_fillRow_41 : decode cX0_fillRow 41 = .ok (.iload 9, 2) := by decide +kernel
theorem dX0_fillRow_43 : decode cX0_fillRow 43 = .ok (.iload_n 2, 1) := by decide +kernel
theorem dX0_fillRow_44 : decode cX0_fillRow 44 = .ok (.if_icmp .ge 29, 3) := by decide +kernel
theorem dX0_fillRow_47 : decode cX0_fillRow 47 = .ok (.lload 6, 2) := by decide +kernel
theorem dX0_fillRow_49 : decode cX0_fillRow 49 = .ok (.lload 10, 2) := by decide +kernel
theorem dX0_fillRow_51 : decode cX0_fillRow 51 = .ok (.lsub, 1) := by decide +kernel
theorem dX0_fillRow_52 : decode cX0_fillRow 52 = .ok (.lstore 6, 2) := by decide +kernel
theorem dX0_fillRow_54 : decode cX0_fillRow 54 = .ok (.iinc 9 1, 3) := by decide +kernel
theorem dX0_fillRow_57 : decode cX0_fillRow 57 = .ok (.aload_n 0, 1) := by decide +kernel
theorem dX0_fillRow_58 : decode cX0_fillRow 58 = .ok (.iload 9, 2) := by decide +kernel
theorem dX0_fillRow_60 : decode cX0_fillRow 60 = .ok (.iload_n 2, 1) := by decide +kernel
theorem dX0_fillRow_61 : decode cX0_fillRow 61 = .ok (.iload_n 3, 1) := by decide +kernel
theorem dX0_fillRow_62 : decode cX0_fillRow 62 = .ok (.iload 8, 2) := by decide +kernel
theorem dX0_fillRow_64 : decode cX0_fillRow 64 = .ok (.isub, 1) := by decide +kernel
theorem dX0_fillRow_65 : decode cX0_fillRow 65 = .ok (.invokevirtual 30, 3) := by decide +kernel
theorem dX0_fillRow_68 : decode cX0_fillRow 68 = .ok (.lstore 10, 2) := by decide +kernel
theorem dX0_fillRow_70 : decode cX0_fillRow 70 = .ok (.goto (-37), 3) := by decide +kernel
theorem dX0_fillRow_73 : decode cX0_fillRow 73 = .ok (.aload_n 1, 1) := by decide +kernel
theorem dX0_fillRow_74 : decode cX0_fillRow 74 = .ok (.iload 8, 2) := by decide +kernel
theorem dX0_fillRow_76 : decode cX0_fillRow 76 = .ok (.iload 9, 2) := by decide +kernel
theorem dX0_fillRow_78 : decode cX0_fillRow 78 = .ok (.iastore, 1) := by decide +kernel
theorem dX0_fillRow_79 : decode cX0_fillRow 79 = .ok (.aload_n 0, 1) := by decide +kernel
theorem dX0_fillRow_80 : decode cX0_fillRow 80 = .ok (.getfield 9, 3) := by decide +kernel
theorem dX0_fillRow_83 : decode cX0_fillRow 83 = .ok (.iload 9, 2) := by decide +kernel
theorem dX0_fillRow_85 : decode cX0_fillRow 85 = .ok (.dup2, 1) := by decide +kernel
theorem dX0_fillRow_86 : decode cX0_fillRow 86 = .ok (.iaload, 1) := by decide +kernel
theorem dX0_fillRow_87 : decode cX0_fillRow 87 = .ok (.iconst 1, 1) := by decide +kernel
theorem dX0_fillRow_88 : decode cX0_fillRow 88 = .ok (.iadd, 1) := by decide +kernel
theorem dX0_fillRow_89 : decode cX0_fillRow 89 = .ok (.iastore, 1) := by decide +kernel
theorem dX0_fillRow_90 : decode cX0_fillRow 90 = .ok (.iinc 8 1, 3) := by decide +kernel
theorem dX0_fillRow_93 : decode cX0_fillRow 93 = .ok (.goto (-82), 3) := by decide +kernel
theorem dX0_fillRow_96 : decode cX0_fillRow 96 = .ok (.return_, 1) := by decide +kernel
theorem dX0_stepOn_0 : decode cX0_stepOn 0 = .ok (.iload_n 3, 1) := by decide +kernel
theorem dX0_stepOn_1 : decode cX0_stepOn 1 = .ok (.istore 4, 2) := by decide +kernel
theorem dX0_stepOn_3 : decode cX0_stepOn 3 = .ok (.iload 4, 2) := by decide +kernel
theorem dX0_stepOn_5 : decode cX0_stepOn 5 = .ok (.iconst 1, 1) := by decide +kernel
theorem dX0_stepOn_6 : decode cX0_stepOn 6 = .ok (.if_icmp .lt 53, 3) := by decide +kernel
theorem dX0_stepOn_9 : decode cX0_stepOn 9 = .ok (.aload_n 0, 1) := by decide +kernel
theorem dX0_stepOn_10 : decode cX0_stepOn 10 = .ok (.aload_n 1, 1) := by decide +kernel
theorem dX0_stepOn_11 : decode cX0_stepOn 11 = .ok (.iload_n 2, 1) := by decide +kernel
theorem dX0_stepOn_12 : decode cX0_stepOn 12 = .ok (.iload 4, 2) := by decide +kernel
theorem dX0_stepOn_14 : decode cX0_stepOn 14 = .ok (.invokevirtual 34, 3) := by decide +kernel
theorem dX0_stepOn_17 : decode cX0_stepOn 17 = .ok (.ifCond .eq 36, 3) := by decide +kernel
theorem dX0_stepOn_20 : decode cX0_stepOn 20 = .ok (.aload_n 1, 1) := by decide +kernel
theorem dX0_stepOn_21 : decode cX0_stepOn 21 = .ok (.iload 4, 2) := by decide +kernel
theorem dX0_stepOn_23 : decode cX0_stepOn 23 = .ok (.dup2, 1) := by decide +kernel
theorem dX0_stepOn_24 : decode cX0_stepOn 24 = .ok (.iaload, 1) := by decide +kernel
theorem dX0_stepOn_25 : decode cX0_stepOn 25 = .ok (.iconst 1, 1) := by decide +kernel
theorem dX0_stepOn_26 : decode cX0_stepOn 26 = .ok (.iadd, 1) := by decide +kernel
theorem dX0_stepOn_27 : decode cX0_stepOn 27 = .ok (.iastore, 1) := by decide +kernel
theorem dX0_stepOn_28 : decode cX0_stepOn 28 = .ok (.iload 4, 2) := by decide +kernel
theorem dX0_stepOn_30 : decode cX0_stepOn 30 = .ok (.iconst 1, 1) := by decide +kernel
theorem dX0_stepOn_31 : decode cX0_stepOn 31 = .ok (.iadd, 1) := by decide +kernel
theorem dX0_stepOn_32 : decode cX0_stepOn 32 = .ok (.istore 5, 2) := by decide +kernel
theorem dX0_stepOn_34 : decode cX0_stepOn 34 = .ok (.iload 5, 2) := by decide +kernel
theorem dX0_stepOn_36 : decode cX0_stepOn 36 = .ok (.iload_n 3, 1) := by decide +kernel
theorem dX0_stepOn_37 : decode cX0_stepOn 37 = .ok (.if_icmp .gt 14, 3) := by decide +kernel
theorem dX0_stepOn_40 : decode cX0_stepOn 40 = .ok (.aload_n 1, 1) := by decide +kernel
theorem dX0_stepOn_41 : decode cX0_stepOn 41 = .ok (.iload 5, 2) := by decide +kernel
theorem dX0_stepOn_43 : decode cX0_stepOn 43 = .ok (.iconst 1, 1) := by decide +kernel
theorem dX0_stepOn_44 : decode cX0_stepOn 44 = .ok (.iastore, 1) := by decide +kernel
theorem dX0_stepOn_45 : decode cX0_stepOn 45 = .ok (.iinc 5 1, 3) := by decide +kernel
theorem dX0_stepOn_48 : decode cX0_stepOn 48 = .ok (.goto (-14), 3) := by decide +kernel
theorem dX0_stepOn_51 : decode cX0_stepOn 51 = .ok (.iconst 1, 1) := by decide +kernel
theorem dX0_stepOn_52 : decode cX0_stepOn 52 = .ok (.ireturn, 1) := by decide +kernel
theorem dX0_stepOn_53 : decode cX0_stepOn 53 = .ok (.iinc 4 (-1), 3) := by decide +kernel
theorem dX0_stepOn_56 : decode cX0_stepOn 56 = .ok (.goto (-53), 3) := by decide +kernel
theorem dX0_stepOn_59 : decode cX0_stepOn 59 = .ok (.iconst 0, 1) := by decide +kernel
theorem dX0_stepOn_60 : decode cX0_stepOn 60 = .ok (.ireturn, 1) := by decide +kernel
theorem dX0_canWishOneMore_0 : decode cX0_canWishOneMore 0 = .ok (.iconst 1, 1) := by decide +kernel
theorem dX0_canWishOneMore_1 : decode cX0_canWishOneMore 1 = .ok (.istore 4, 2) := by decide +kernel
theorem dX0_canWishOneMore_3 : decode cX0_canWishOneMore 3 = .ok (.iconst 1, 1) := by decide +kernel
theorem dX0_canWishOneMore_4 : decode cX0_canWishOneMore 4 = .ok (.istore 5, 2) := by decide +kernel
theorem dX0_canWishOneMore_6 : decode cX0_canWishOneMore 6 = .ok (.iload 5, 2) := by decide +kernel
theorem dX0_canWishOneMore_8 : decode cX0_canWishOneMore 8 = .ok (.iload_n 3, 1) := by decide +kernel
theorem dX0_canWishOneMore_9 : decode cX0_canWishOneMore 9 = .ok (.if_icmp .ge 22, 3) := by decide +kernel
theorem dX0_canWishOneMore_12 : decode cX0_canWishOneMore 12 = .ok (.aload_n 1, 1) := by decide +kernel
theorem dX0_canWishOneMore_13 : decode cX0_canWishOneMore 13 = .ok (.iload 5, 2) := by decide +kernel
theorem dX0_canWishOneMore_15 : decode cX0_canWishOneMore 15 = .ok (.iaload, 1) := by decide +kernel
theorem dX0_canWishOneMore_16 : decode cX0_canWishOneMore 16 = .ok (.aload_n 1, 1) := by decide +kernel
theorem dX0_canWishOneMore_17 : decode cX0_canWishOneMore 17 = .ok (.iload_n 3, 1) := by decide +kernel
theorem dX0_canWishOneMore_18 : decode cX0_canWishOneMore 18 = .ok (.iaload, 1) := by decide +kernel
theorem dX0_canWishOneMore_19 : decode cX0_canWishOneMore 19 = .ok (.if_icmp .le 6, 3) := by decide +kernel
theorem dX0_canWishOneMore_22 : decode cX0_canWishOneMore 22 = .ok (.iinc 4 1, 3) := by decide +kernel
theorem dX0_canWishOneMore_25 : decode cX0_canWishOneMore 25 = .ok (.iinc 5 1, 3) := by decide +kernel
theorem dX0_canWishOneMore_28 : decode cX0_canWishOneMore 28 = .ok (.goto (-22), 3) := by decide +kernel
theorem dX0_canWishOneMore_31 : decode cX0_canWishOneMore 31 = .ok (.iload 4, 2) := by decide +kernel
theorem dX0_canWishOneMore_33 : decode cX0_canWishOneMore 33 = .ok (.iload_n 2, 1) := by decide +kernel
theorem dX0_canWishOneMore_34 : decode cX0_canWishOneMore 34 = .ok (.aload_n 1, 1) := by decide +kernel
theorem dX0_canWishOneMore_35 : decode cX0_canWishOneMore 35 = .ok (.iload_n 3, 1) := by decide +kernel
theorem dX0_canWishOneMore_36 : decode cX0_canWishOneMore 36 = .ok (.iaload, 1) := by decide +kernel
theorem dX0_canWishOneMore_37 : decode cX0_canWishOneMore 37 = .ok (.isub, 1) := by decide +kernel
theorem dX0_canWishOneMore_38 : decode cX0_canWishOneMore 38 = .ok (.if_icmp .gt 7, 3) := by decide +kernel
theorem dX0_canWishOneMore_41 : decode cX0_canWishOneMore 41 = .ok (.iconst 1, 1) := by decide +kernel
theorem dX0_canWishOneMore_42 : decode cX0_canWishOneMore 42 = .ok (.goto 4, 3) := by decide +kernel
theorem dX0_canWishOneMore_45 : decode cX0_canWishOneMore 45 = .ok (.iconst 0, 1) := by decide +kernel
theorem dX0_canWishOneMore_46 : decode cX0_canWishOneMore 46 = .ok (.ireturn, 1) := by decide +kernel
theorem dX0_forgetWishers_0 : decode cX0_forgetWishers 0 = .ok (.iconst 0, 1) := by decide +kernel
theorem dX0_forgetWishers_1 : decode cX0_forgetWishers 1 = .ok (.istore_n 1, 1) := by decide +kernel
theorem dX0_forgetWishers_2 : decode cX0_forgetWishers 2 = .ok (.iload_n 1, 1) := by decide +kernel
theorem dX0_forgetWishers_3 : decode cX0_forgetWishers 3 = .ok (.bipush 10, 2) := by decide +kernel
theorem dX0_forgetWishers_5 : decode cX0_forgetWishers 5 = .ok (.if_icmp .gt 16, 3) := by decide +kernel
theorem dX0_forgetWishers_8 : decode cX0_forgetWishers 8 = .ok (.aload_n 0, 1) := by decide +kernel
theorem dX0_forgetWishers_9 : decode cX0_forgetWishers 9 = .ok (.getfield 9, 3) := by decide +kernel
theorem dX0_forgetWishers_12 : decode cX0_forgetWishers 12 = .ok (.iload_n 1, 1) := by decide +kernel
theorem dX0_forgetWishers_13 : decode cX0_forgetWishers 13 = .ok (.iconst 0, 1) := by decide +kernel
theorem dX0_forgetWishers_14 : decode cX0_forgetWishers 14 = .ok (.iastore, 1) := by decide +kernel
theorem dX0_forgetWishers_15 : decode cX0_forgetWishers 15 = .ok (.iinc 1 1, 3) := by decide +kernel
theorem dX0_forgetWishers_18 : decode cX0_forgetWishers 18 = .ok (.goto (-16), 3) := by decide +kernel
theorem dX0_forgetWishers_21 : decode cX0_forgetWishers 21 = .ok (.return_, 1) := by decide +kernel
theorem dX0_rowsWith_0 : decode cX0_rowsWith 0 = .ok (.aload_n 0, 1) := by decide +kernel
theorem dX0_rowsWith_1 : decode cX0_rowsWith 1 = .ok (.getfield 9, 3) := by decide +kernel
theorem dX0_rowsWith_4 : decode cX0_rowsWith 4 = .ok (.iload_n 1, 1) := by decide +kernel
theorem dX0_rowsWith_5 : decode cX0_rowsWith 5 = .ok (.dup2, 1) := by decide +kernel
theorem dX0_rowsWith_6 : decode cX0_rowsWith 6 = .ok (.iaload, 1) := by decide +kernel
theorem dX0_rowsWith_7 : decode cX0_rowsWith 7 = .ok (.iconst 1, 1) := by decide +kernel
theorem dX0_rowsWith_8 : decode cX0_rowsWith 8 = .ok (.iadd, 1) := by decide +kernel
theorem dX0_rowsWith_9 : decode cX0_rowsWith 9 = .ok (.iastore, 1) := by decide +kernel
theorem dX0_rowsWith_10 : decode cX0_rowsWith 10 = .ok (.aload_n 0, 1) := by decide +kernel
theorem dX0_rowsWith_11 : decode cX0_rowsWith 11 = .ok (.iload_n 2, 1) := by decide +kernel
theorem dX0_rowsWith_12 : decode cX0_rowsWith 12 = .ok (.iload_n 3, 1) := by decide +kernel
theorem dX0_rowsWith_13 : decode cX0_rowsWith 13 = .ok (.invokevirtual 38, 3) := by decide +kernel
theorem dX0_rowsWith_16 : decode cX0_rowsWith 16 = .ok (.lstore 4, 2) := by decide +kernel
theorem dX0_rowsWith_18 : decode cX0_rowsWith 18 = .ok (.aload_n 0, 1) := by decide +kernel
theorem dX0_rowsWith_19 : decode cX0_rowsWith 19 = .ok (.getfield 9, 3) := by decide +kernel
theorem dX0_rowsWith_22 : decode cX0_rowsWith 22 = .ok (.iload_n 1, 1) := by decide +kernel
theorem dX0_rowsWith_23 : decode cX0_rowsWith 23 = .ok (.dup2, 1) := by decide +kernel
theorem dX0_rowsWith_24 : decode cX0_rowsWith 24 = .ok (.iaload, 1) := by decide +kernel
theorem dX0_rowsWith_25 : decode cX0_rowsWith 25 = .ok (.iconst 1, 1) := by decide +kernel
theorem dX0_rowsWith_26 : decode cX0_rowsWith 26 = .ok (.isub, 1) := by decide +kernel
theorem dX0_rowsWith_27 : decode cX0_rowsWith 27 = .ok (.iastore, 1) := by decide +kernel
theorem dX0_rowsWith_28 : decode cX0_rowsWith 28 = .ok (.lload 4, 2) := by decide +kernel
theorem dX0_rowsWith_30 : decode cX0_rowsWith 30 = .ok (.lreturn, 1) := by decide +kernel
theorem dX0_endings_0 : decode cX0_endings 0 = .ok (.iconst 1, 1) := by decide +kernel
theorem dX0_endings_1 : decode cX0_endings 1 = .ok (.istore_n 3, 1) := by decide +kernel
theorem dX0_endings_2 : decode cX0_endings 2 = .ok (.iload_n 3, 1) := by decide +kernel
theorem dX0_endings_3 : decode cX0_endings 3 = .ok (.iload_n 2, 1) := by decide +kernel
theorem dX0_endings_4 : decode cX0_endings 4 = .ok (.if_icmp .gt 16, 3) := by decide +kernel
theorem dX0_endings_7 : decode cX0_endings 7 = .ok (.aload_n 0, 1) := by decide +kernel
theorem dX0_endings_8 : decode cX0_endings 8 = .ok (.getfield 15, 3) := by decide +kernel
theorem dX0_endings_11 : decode cX0_endings 11 = .ok (.iload_n 3, 1) := by decide +kernel
theorem dX0_endings_12 : decode cX0_endings 12 = .ok (.lconst 0, 1) := by decide +kernel
theorem dX0_endings_13 : decode cX0_endings 13 = .ok (.lastore, 1) := by decide +kernel
theorem dX0_endings_14 : decode cX0_endings 14 = .ok (.iinc 3 1, 3) := by decide +kernel
theorem dX0_endings_17 : decode cX0_endings 17 = .ok (.goto (-15), 3) := by decide +kernel
theorem dX0_endings_20 : decode cX0_endings 20 = .ok (.aload_n 0, 1) := by decide +kernel
theorem dX0_endings_21 : decode cX0_endings 21 = .ok (.getfield 15, 3) := by decide +kernel
theorem dX0_endings_24 : decode cX0_endings 24 = .ok (.iconst 0, 1) := by decide +kernel
theorem dX0_endings_25 : decode cX0_endings 25 = .ok (.lconst 1, 1) := by decide +kernel
theorem dX0_endings_26 : decode cX0_endings 26 = .ok (.lastore, 1) := by decide +kernel
theorem dX0_endings_27 : decode cX0_endings 27 = .ok (.iconst 0, 1) := by decide +kernel
theorem dX0_endings_28 : decode cX0_endings 28 = .ok (.istore_n 3, 1) := by decide +kernel
theorem dX0_endings_29 : decode cX0_endings 29 = .ok (.iload_n 1, 1) := by decide +kernel
theorem dX0_endings_30 : decode cX0_endings 30 = .ok (.istore 4, 2) := by decide +kernel
theorem dX0_endings_32 : decode cX0_endings 32 = .ok (.iload 4, 2) := by decide +kernel
theorem dX0_endings_34 : decode cX0_endings 34 = .ok (.iconst 1, 1) := by decide +kernel
theorem dX0_endings_35 : decode cX0_endings 35 = .ok (.if_icmp .lt 59, 3) := by decide +kernel
theorem dX0_endings_38 : decode cX0_endings 38 = .ok (.iload_n 3, 1) := by decide +kernel
theorem dX0_endings_39 : decode cX0_endings 39 = .ok (.iconst 1, 1) := by decide +kernel
theorem dX0_endings_40 : decode cX0_endings 40 = .ok (.aload_n 0, 1) := by decide +kernel
theorem dX0_endings_41 : decode cX0_endings 41 = .ok (.getfield 9, 3) := by decide +kernel
theorem dX0_endings_44 : decode cX0_endings 44 = .ok (.iload 4, 2) := by decide +kernel
theorem dX0_endings_46 : decode cX0_endings 46 = .ok (.iaload, 1) := by decide +kernel
theorem dX0_endings_47 : decode cX0_endings 47 = .ok (.isub, 1) := by decide +kernel
theorem dX0_endings_48 : decode cX0_endings 48 = .ok (.iadd, 1) := by decide +kernel
theorem dX0_endings_49 : decode cX0_endings 49 = .ok (.istore_n 3, 1) := by decide +kernel
theorem dX0_endings_50 : decode cX0_endings 50 = .ok (.iload_n 2, 1) := by decide +kernel
theorem dX0_endings_51 : decode cX0_endings 51 = .ok (.istore 5, 2) := by decide +kernel
theorem dX0_endings_53 : decode cX0_endings 53 = .ok (.iload 5, 2) := by decide +kernel
theorem dX0_endings_55 : decode cX0_endings 55 = .ok (.ifCond .lt 33, 3) := by decide +kernel
theorem dX0_endings_58 : decode cX0_endings 58 = .ok (.aload_n 0, 1) := by decide +kernel
theorem dX0_endings_59 : decode cX0_endings 59 = .ok (.getfield 15, 3) := by decide +kernel
theorem dX0_endings_62 : decode cX0_endings 62 = .ok (.iload 5, 2) := by decide +kernel
theorem dX0_endings_64 : decode cX0_endings 64 = .ok (.iload 5, 2) := by decide +kernel
theorem dX0_endings_66 : decode cX0_endings 66 = .ok (.iload_n 3, 1) := by decide +kernel
theorem dX0_endings_67 : decode cX0_endings 67 = .ok (.if_icmp .le 7, 3) := by decide +kernel
theorem dX0_endings_70 : decode cX0_endings 70 = .ok (.lconst 0, 1) := by decide +kernel
theorem dX0_endings_71 : decode cX0_endings 71 = .ok (.goto 10, 3) := by decide +kernel
theorem dX0_endings_74 : decode cX0_endings 74 = .ok (.aload_n 0, 1) := by decide +kernel
theorem dX0_endings_75 : decode cX0_endings 75 = .ok (.iload 5, 2) := by decide +kernel
theorem dX0_endings_77 : decode cX0_endings 77 = .ok (.iload_n 2, 1) := by decide +kernel
theorem dX0_endings_78 : decode cX0_endings 78 = .ok (.invokevirtual 42, 3) := by decide +kernel
theorem dX0_endings_81 : decode cX0_endings 81 = .ok (.lastore, 1) := by decide +kernel
theorem dX0_endings_82 : decode cX0_endings 82 = .ok (.iinc 5 (-1), 3) := by decide +kernel
theorem dX0_endings_85 : decode cX0_endings 85 = .ok (.goto (-32), 3) := by decide +kernel
theorem dX0_endings_88 : decode cX0_endings 88 = .ok (.iinc 4 (-1), 3) := by decide +kernel
theorem dX0_endings_91 : decode cX0_endings 91 = .ok (.goto (-59), 3) := by decide +kernel
theorem dX0_endings_94 : decode cX0_endings 94 = .ok (.aload_n 0, 1) := by decide +kernel
theorem dX0_endings_95 : decode cX0_endings 95 = .ok (.getfield 15, 3) := by decide +kernel
theorem dX0_endings_98 : decode cX0_endings 98 = .ok (.iload_n 2, 1) := by decide +kernel
theorem dX0_endings_99 : decode cX0_endings 99 = .ok (.laload, 1) := by decide +kernel
theorem dX0_endings_100 : decode cX0_endings 100 = .ok (.lreturn, 1) := by decide +kernel
theorem dX0_wishHere_0 : decode cX0_wishHere 0 = .ok (.lconst 0, 1) := by decide +kernel
theorem dX0_wishHere_1 : decode cX0_wishHere 1 = .ok (.lstore_n 3, 1) := by decide +kernel
theorem dX0_wishHere_2 : decode cX0_wishHere 2 = .ok (.iconst 0, 1) := by decide +kernel
theorem dX0_wishHere_3 : decode cX0_wishHere 3 = .ok (.istore 5, 2) := by decide +kernel
theorem dX0_wishHere_5 : decode cX0_wishHere 5 = .ok (.iload 5, 2) := by decide +kernel
theorem dX0_wishHere_7 : decode cX0_wishHere 7 = .ok (.iload_n 1, 1) := by decide +kernel
theorem dX0_wishHere_8 : decode cX0_wishHere 8 = .ok (.if_icmp .gt 36, 3) := by decide +kernel
theorem dX0_wishHere_11 : decode cX0_wishHere 11 = .ok (.lload_n 3, 1) := by decide +kernel
theorem dX0_wishHere_12 : decode cX0_wishHere 12 = .ok (.aload_n 0, 1) := by decide +kernel
theorem dX0_wishHere_13 : decode cX0_wishHere 13 = .ok (.getfield 15, 3) := by decide +kernel
theorem dX0_wishHere_16 : decode cX0_wishHere 16 = .ok (.iload 5, 2) := by decide +kernel
theorem dX0_wishHere_18 : decode cX0_wishHere 18 = .ok (.laload, 1) := by decide +kernel
theorem dX0_wishHere_19 : decode cX0_wishHere 19 = .ok (.aload_n 0, 1) := by decide +kernel
theorem dX0_wishHere_20 : decode cX0_wishHere 20 = .ok (.getfield 19, 3) := by decide +kernel
theorem dX0_wishHere_23 : decode cX0_wishHere 23 = .ok (.iload_n 2, 1) := by decide +kernel
theorem dX0_wishHere_24 : decode cX0_wishHere 24 = .ok (.iload 5, 2) := by decide +kernel
theorem dX0_wishHere_26 : decode cX0_wishHere 26 = .ok (.isub, 1) := by decide +kernel
theorem dX0_wishHere_27 : decode cX0_wishHere 27 = .ok (.iload_n 1, 1) := by decide +kernel
theorem dX0_wishHere_28 : decode cX0_wishHere 28 = .ok (.iload 5, 2) := by decide +kernel
theorem dX0_wishHere_30 : decode cX0_wishHere 30 = .ok (.isub, 1) := by decide +kernel
theorem dX0_wishHere_31 : decode cX0_wishHere 31 = .ok (.invokevirtual 45, 3) := by decide +kernel
theorem dX0_wishHere_34 : decode cX0_wishHere 34 = .ok (.i2l, 1) := by decide +kernel
theorem dX0_wishHere_35 : decode cX0_wishHere 35 = .ok (.lmul, 1) := by decide +kernel
theorem dX0_wishHere_36 : decode cX0_wishHere 36 = .ok (.ladd, 1) := by decide +kernel
theorem dX0_wishHere_37 : decode cX0_wishHere 37 = .ok (.lstore_n 3, 1) := by decide +kernel
theorem dX0_wishHere_38 : decode cX0_wishHere 38 = .ok (.iinc 5 1, 3) := by decide +kernel
theorem dX0_wishHere_41 : decode cX0_wishHere 41 = .ok (.goto (-36), 3) := by decide +kernel
theorem dX0_wishHere_44 : decode cX0_wishHere 44 = .ok (.lload_n 3, 1) := by decide +kernel
theorem dX0_wishHere_45 : decode cX0_wishHere 45 = .ok (.lreturn, 1) := by decide +kernel
theorem dX1_init_0 : decode cX1_init 0 = .ok (.aload_n 0, 1) := by decide +kernel
theorem dX1_init_1 : decode cX1_init 1 = .ok (.invokespecial 3, 3) := by decide +kernel
theorem dX1_init_4 : decode cX1_init 4 = .ok (.aload_n 0, 1) := by decide +kernel
theorem dX1_init_5 : decode cX1_init 5 = .ok (.bipush 11, 2) := by decide +kernel
theorem dX1_init_7 : decode cX1_init 7 = .ok (.bipush 11, 2) := by decide +kernel
theorem dX1_init_9 : decode cX1_init 9 = .ok (.multianewarray 9 2, 4) := by decide +kernel
theorem dX1_init_13 : decode cX1_init 13 = .ok (.putfield 11, 3) := by decide +kernel
theorem dX1_init_16 : decode cX1_init 16 = .ok (.iconst 0, 1) := by decide +kernel
theorem dX1_init_17 : decode cX1_init 17 = .ok (.istore_n 1, 1) := by decide +kernel
theorem dX1_init_18 : decode cX1_init 18 = .ok (.iload_n 1, 1) := by decide +kernel
theorem dX1_init_19 : decode cX1_init 19 = .ok (.bipush 10, 2) := by decide +kernel
theorem dX1_init_21 : decode cX1_init 21 = .ok (.if_icmp .gt 62, 3) := by decide +kernel
theorem dX1_init_24 : decode cX1_init 24 = .ok (.aload_n 0, 1) := by decide +kernel
theorem dX1_init_25 : decode cX1_init 25 = .ok (.getfield 11, 3) := by decide +kernel
theorem dX1_init_28 : decode cX1_init 28 = .ok (.iload_n 1, 1) := by decide +kernel
theorem dX1_init_29 : decode cX1_init 29 = .ok (.aaload, 1) := by decide +kernel
theorem dX1_init_30 : decode cX1_init 30 = .ok (.iconst 0, 1) := by decide +kernel
theorem dX1_init_31 : decode cX1_init 31 = .ok (.iconst 1, 1) := by decide +kernel
theorem dX1_init_32 : decode cX1_init 32 = .ok (.iastore, 1) := by decide +kernel
theorem dX1_init_33 : decode cX1_init 33 = .ok (.iconst 1, 1) := by decide +kernel
theorem dX1_init_34 : decode cX1_init 34 = .ok (.istore_n 2, 1) := by decide +kernel
theorem dX1_init_35 : decode cX1_init 35 = .ok (.iload_n 2, 1) := by decide +kernel
theorem dX1_init_36 : decode cX1_init 36 = .ok (.iload_n 1, 1) := by decide +kernel
theorem dX1_init_37 : decode cX1_init 37 = .ok (.if_icmp .gt 40, 3) := by decide +kernel
theorem dX1_init_40 : decode cX1_init 40 = .ok (.aload_n 0, 1) := by decide +kernel
theorem dX1_init_41 : decode cX1_init 41 = .ok (.getfield 11, 3) := by decide +kernel
theorem dX1_init_44 : decode cX1_init 44 = .ok (.iload_n 1, 1) := by decide +kernel
theorem dX1_init_45 : decode cX1_init 45 = .ok (.aaload, 1) := by decide +kernel
theorem dX1_init_46 : decode cX1_init 46 = .ok (.iload_n 2, 1) := by decide +kernel
theorem dX1_init_47 : decode cX1_init 47 = .ok (.aload_n 0, 1) := by decide +kernel
theorem dX1_init_48 : decode cX1_init 48 = .ok (.getfield 11, 3) := by decide +kernel
theorem dX1_init_51 : decode cX1_init 51 = .ok (.iload_n 1, 1) := by decide +kernel
theorem dX1_init_52 : decode cX1_init 52 = .ok (.iconst 1, 1) := by decide +kernel
theorem dX1_init_53 : decode cX1_init 53 = .ok (.isub, 1) := by decide +kernel
theorem dX1_init_54 : decode cX1_init 54 = .ok (.aaload, 1) := by decide +kernel
theorem dX1_init_55 : decode cX1_init 55 = .ok (.iload_n 2, 1) := by decide +kernel
theorem dX1_init_56 : decode cX1_init 56 = .ok (.iconst 1, 1) := by decide +kernel
theorem dX1_init_57 : decode cX1_init 57 = .ok (.isub, 1) := by decide +kernel
theorem dX1_init_58 : decode cX1_init 58 = .ok (.iaload, 1) := by decide +kernel
theorem dX1_init_59 : decode cX1_init 59 = .ok (.aload_n 0, 1) := by decide +kernel
theorem dX1_init_60 : decode cX1_init 60 = .ok (.getfield 11, 3) := by decide +kernel
theorem dX1_init_63 : decode cX1_init 63 = .ok (.iload_n 1, 1) := by decide +kernel
theorem dX1_init_64 : decode cX1_init 64 = .ok (.iconst 1, 1) := by decide +kernel
theorem dX1_init_65 : decode cX1_init 65 = .ok (.isub, 1) := by decide +kernel
theorem dX1_init_66 : decode cX1_init 66 = .ok (.aaload, 1) := by decide +kernel
theorem dX1_init_67 : decode cX1_init 67 = .ok (.iload_n 2, 1) := by decide +kernel
theorem dX1_init_68 : decode cX1_init 68 = .ok (.iaload, 1) := by decide +kernel
theorem dX1_init_69 : decode cX1_init 69 = .ok (.iadd, 1) := by decide +kernel
theorem dX1_init_70 : decode cX1_init 70 = .ok (.iastore, 1) := by decide +kernel
theorem dX1_init_71 : decode cX1_init 71 = .ok (.iinc 2 1, 3) := by decide +kernel
theorem dX1_init_74 : decode cX1_init 74 = .ok (.goto (-39), 3) := by decide +kernel
theorem dX1_init_77 : decode cX1_init 77 = .ok (.iinc 1 1, 3) := by decide +kernel
theorem dX1_init_80 : decode cX1_init 80 = .ok (.goto (-62), 3) := by decide +kernel
theorem dX1_init_83 : decode cX1_init 83 = .ok (.return_, 1) := by decide +kernel
theorem dX1_of_0 : decode cX1_of 0 = .ok (.iload_n 2, 1) := by decide +kernel
theorem dX1_of_1 : decode cX1_of 1 = .ok (.ifCond .lt 14, 3) := by decide +kernel
theorem dX1_of_4 : decode cX1_of 4 = .ok (.iload_n 2, 1) := by decide +kernel
theorem dX1_of_5 : decode cX1_of 5 = .ok (.iload_n 1, 1) := by decide +kernel
theorem dX1_of_6 : decode cX1_of 6 = .ok (.if_icmp .gt 9, 3) := by decide +kernel
theorem dX1_of_9 : decode cX1_of 9 = .ok (.iload_n 1, 1) := by decide +kernel
theorem dX1_of_10 : decode cX1_of 10 = .ok (.bipush 10, 2) := by decide +kernel
theorem dX1_of_12 : decode cX1_of 12 = .ok (.if_icmp .le 7, 3) := by decide +kernel
theorem dX1_of_15 : decode cX1_of 15 = .ok (.iconst 0, 1) := by decide +kernel
theorem dX1_of_16 : decode cX1_of 16 = .ok (.goto 11, 3) := by decide +kernel
theorem dX1_of_19 : decode cX1_of 19 = .ok (.aload_n 0, 1) := by decide +kernel
theorem dX1_of_20 : decode cX1_of 20 = .ok (.getfield 11, 3) := by decide +kernel
theorem dX1_of_23 : decode cX1_of 23 = .ok (.iload_n 1, 1) := by decide +kernel
theorem dX1_of_24 : decode cX1_of 24 = .ok (.aaload, 1) := by decide +kernel
theorem dX1_of_25 : decode cX1_of 25 = .ok (.iload_n 2, 1) := by decide +kernel
theorem dX1_of_26 : decode cX1_of 26 = .ok (.iaload, 1) := by decide +kernel
theorem dX1_of_27 : decode cX1_of 27 = .ok (.ireturn, 1) := by decide +kernel
theorem dX2_init_0 : decode cX2_init 0 = .ok (.aload_n 0, 1) := by decide +kernel
theorem dX2_init_1 : decode cX2_init 1 = .ok (.invokespecial 3, 3) := by decide +kernel
theorem dX2_init_4 : decode cX2_init 4 = .ok (.aload_n 0, 1) := by decide +kernel
theorem dX2_init_5 : decode cX2_init 5 = .ok (.sipush 1024, 3) := by decide +kernel
theorem dX2_init_8 : decode cX2_init 8 = .ok (.newarray .int, 2) := by decide +kernel
theorem dX2_init_10 : decode cX2_init 10 = .ok (.putfield 9, 3) := by decide +kernel
theorem dX2_init_13 : decode cX2_init 13 = .ok (.return_, 1) := by decide +kernel
theorem dX2_goodRows_0 : decode cX2_goodRows 0 = .ok (.iconst 1, 1) := by decide +kernel
theorem dX2_goodRows_1 : decode cX2_goodRows 1 = .ok (.aload_n 1, 1) := by decide +kernel
theorem dX2_goodRows_2 : decode cX2_goodRows 2 = .ok (.getfield 15, 3) := by decide +kernel
theorem dX2_goodRows_5 : decode cX2_goodRows 5 = .ok (.ishl, 1) := by decide +kernel
theorem dX2_goodRows_6 : decode cX2_goodRows 6 = .ok (.istore_n 2, 1) := by decide +kernel
theorem dX2_goodRows_7 : decode cX2_goodRows 7 = .ok (.iconst 0, 1) := by decide +kernel
theorem dX2_goodRows_8 : decode cX2_goodRows 8 = .ok (.istore_n 3, 1) := by decide +kernel
theorem dX2_goodRows_9 : decode cX2_goodRows 9 = .ok (.iload_n 3, 1) := by decide +kernel
theorem dX2_goodRows_10 : decode cX2_goodRows 10 = .ok (.iload_n 2, 1) := by decide +kernel
theorem dX2_goodRows_11 : decode cX2_goodRows 11 = .ok (.if_icmp .ge 16, 3) := by decide +kernel
theorem dX2_goodRows_14 : decode cX2_goodRows 14 = .ok (.aload_n 0, 1) := by decide +kernel
theorem dX2_goodRows_15 : decode cX2_goodRows 15 = .ok (.getfield 9, 3) := by decide +kernel
theorem dX2_goodRows_18 : decode cX2_goodRows 18 = .ok (.iload_n 3, 1) := by decide +kernel
theorem dX2_goodRows_19 : decode cX2_goodRows 19 = .ok (.iconst 0, 1) := by decide +kernel
theorem dX2_goodRows_20 : decode cX2_goodRows 20 = .ok (.iastore, 1) := by decide +kernel
theorem dX2_goodRows_21 : decode cX2_goodRows 21 = .ok (.iinc 3 1, 3) := by decide +kernel
theorem dX2_goodRows_24 : decode cX2_goodRows 24 = .ok (.goto (-15), 3) := by decide +kernel
theorem dX2_goodRows_27 : decode cX2_goodRows 27 = .ok (.aload_n 0, 1) := by decide +kernel
theorem dX2_goodRows_28 : decode cX2_goodRows 28 = .ok (.getfield 9, 3) := by decide +kernel
theorem dX2_goodRows_31 : decode cX2_goodRows 31 = .ok (.iconst 0, 1) := by decide +kernel
theorem dX2_goodRows_32 : decode cX2_goodRows 32 = .ok (.iconst 1, 1) := by decide +kernel
theorem dX2_goodRows_33 : decode cX2_goodRows 33 = .ok (.iastore, 1) := by decide +kernel
theorem dX2_goodRows_34 : decode cX2_goodRows 34 = .ok (.iconst 1, 1) := by decide +kernel
theorem dX2_goodRows_35 : decode cX2_goodRows 35 = .ok (.istore_n 3, 1) := by decide +kernel
theorem dX2_goodRows_36 : decode cX2_goodRows 36 = .ok (.iload_n 3, 1) := by decide +kernel
theorem dX2_goodRows_37 : decode cX2_goodRows 37 = .ok (.aload_n 1, 1) := by decide +kernel
theorem dX2_goodRows_38 : decode cX2_goodRows 38 = .ok (.getfield 21, 3) := by decide +kernel
theorem dX2_goodRows_41 : decode cX2_goodRows 41 = .ok (.if_icmp .gt 48, 3) := by decide +kernel
theorem dX2_goodRows_44 : decode cX2_goodRows 44 = .ok (.iload_n 2, 1) := by decide +kernel
theorem dX2_goodRows_45 : decode cX2_goodRows 45 = .ok (.iconst 1, 1) := by decide +kernel
theorem dX2_goodRows_46 : decode cX2_goodRows 46 = .ok (.isub, 1) := by decide +kernel
theorem dX2_goodRows_47 : decode cX2_goodRows 47 = .ok (.istore 4, 2) := by decide +kernel
theorem dX2_goodRows_49 : decode cX2_goodRows 49 = .ok (.iload 4, 2) := by decide +kernel
theorem dX2_goodRows_51 : decode cX2_goodRows 51 = .ok (.ifCond .lt 32, 3) := by decide +kernel
theorem dX2_goodRows_54 : decode cX2_goodRows 54 = .ok (.aload_n 0, 1) := by decide +kernel
theorem dX2_goodRows_55 : decode cX2_goodRows 55 = .ok (.getfield 9, 3) := by decide +kernel
theorem dX2_goodRows_58 : decode cX2_goodRows 58 = .ok (.iload 4, 2) := by decide +kernel
theorem dX2_goodRows_60 : decode cX2_goodRows 60 = .ok (.iaload, 1) := by decide +kernel
theorem dX2_goodRows_61 : decode cX2_goodRows 61 = .ok (.ifCond .eq 16, 3) := by decide +kernel
theorem dX2_goodRows_64 : decode cX2_goodRows 64 = .ok (.aload_n 0, 1) := by decide +kernel
theorem dX2_goodRows_65 : decode cX2_goodRows 65 = .ok (.aload_n 1, 1) := by decide +kernel
theorem dX2_goodRows_66 : decode cX2_goodRows 66 = .ok (.iload 4, 2) := by decide +kernel
theorem dX2_goodRows_68 : decode cX2_goodRows 68 = .ok (.aload_n 1, 1) := by decide +kernel
theorem dX2_goodRows_69 : decode cX2_goodRows 69 = .ok (.getfield 24, 3) := by decide +kernel
theorem dX2_goodRows_72 : decode cX2_goodRows 72 = .ok (.iload_n 3, 1) := by decide +kernel
theorem dX2_goodRows_73 : decode cX2_goodRows 73 = .ok (.iaload, 1) := by decide +kernel
theorem dX2_goodRows_74 : decode cX2_goodRows 74 = .ok (.invokevirtual 27, 3) := by decide +kernel
theorem dX2_goodRows_77 : decode cX2_goodRows 77 = .ok (.iinc 4 (-1), 3) := by decide +kernel
theorem dX2_goodRows_80 : decode cX2_goodRows 80 = .ok (.goto (-31), 3) := by decide +kernel
theorem dX2_goodRows_83 : decode cX2_goodRows 83 = .ok (.iinc 3 1, 3) := by decide +kernel
theorem dX2_goodRows_86 : decode cX2_goodRows 86 = .ok (.goto (-50), 3) := by decide +kernel
theorem dX2_goodRows_89 : decode cX2_goodRows 89 = .ok (.iconst 0, 1) := by decide +kernel
theorem dX2_goodRows_90 : decode cX2_goodRows 90 = .ok (.istore_n 3, 1) := by decide +kernel
theorem dX2_goodRows_91 : decode cX2_goodRows 91 = .ok (.iconst 0, 1) := by decide +kernel
theorem dX2_goodRows_92 : decode cX2_goodRows 92 = .ok (.istore 4, 2) := by decide +kernel
theorem dX2_goodRows_94 : decode cX2_goodRows 94 = .ok (.iload 4, 2) := by decide +kernel
theorem dX2_goodRows_96 : decode cX2_goodRows 96 = .ok (.iload_n 2, 1) := by decide +kernel
theorem dX2_goodRows_97 : decode cX2_goodRows 97 = .ok (.if_icmp .ge 19, 3) := by decide +kernel
theorem dX2_goodRows_100 : decode cX2_goodRows 100 = .ok (.iload_n 3, 1) := by decide +kernel
theorem dX2_goodRows_101 : decode cX2_goodRows 101 = .ok (.aload_n 0, 1) := by decide +kernel
theorem dX2_goodRows_102 : decode cX2_goodRows 102 = .ok (.getfield 9, 3) := by decide +kernel
theorem dX2_goodRows_105 : decode cX2_goodRows 105 = .ok (.iload 4, 2) := by decide +kernel
theorem dX2_goodRows_107 : decode cX2_goodRows 107 = .ok (.iaload, 1) := by decide +kernel
theorem dX2_goodRows_108 : decode cX2_goodRows 108 = .ok (.iadd, 1) := by decide +kernel
theorem dX2_goodRows_109 : decode cX2_goodRows 109 = .ok (.istore_n 3, 1) := by decide +kernel
theorem dX2_goodRows_110 : decode cX2_goodRows 110 = .ok (.iinc 4 1, 3) := by decide +kernel
theorem dX2_goodRows_113 : decode cX2_goodRows 113 = .ok (.goto (-19), 3) := by decide +kernel
theorem dX2_goodRows_116 : decode cX2_goodRows 116 = .ok (.iload_n 3, 1) := by decide +kernel
theorem dX2_goodRows_117 : decode cX2_goodRows 117 = .ok (.ireturn, 1) := by decide +kernel
theorem dX2_moveOn_0 : decode cX2_moveOn 0 = .ok (.aload_n 0, 1) := by decide +kernel
theorem dX2_moveOn_1 : decode cX2_moveOn 1 = .ok (.getfield 9, 3) := by decide +kernel
theorem dX2_moveOn_4 : decode cX2_moveOn 4 = .ok (.iload_n 2, 1) := by decide +kernel
theorem dX2_moveOn_5 : decode cX2_moveOn 5 = .ok (.iaload, 1) := by decide +kernel
theorem dX2_moveOn_6 : decode cX2_moveOn 6 = .ok (.istore 4, 2) := by decide +kernel
theorem dX2_moveOn_8 : decode cX2_moveOn 8 = .ok (.aload_n 0, 1) := by decide +kernel
theorem dX2_moveOn_9 : decode cX2_moveOn 9 = .ok (.getfield 9, 3) := by decide +kernel
theorem dX2_moveOn_12 : decode cX2_moveOn 12 = .ok (.iload_n 2, 1) := by decide +kernel
theorem dX2_moveOn_13 : decode cX2_moveOn 13 = .ok (.iconst 0, 1) := by decide +kernel
theorem dX2_moveOn_14 : decode cX2_moveOn 14 = .ok (.iastore, 1) := by decide +kernel
theorem dX2_moveOn_15 : decode cX2_moveOn 15 = .ok (.iconst 1, 1) := by decide +kernel
theorem dX2_moveOn_16 : decode cX2_moveOn 16 = .ok (.istore 5, 2) := by decide +kernel
theorem dX2_moveOn_18 : decode cX2_moveOn 18 = .ok (.iload 5, 2) := by decide +kernel
theorem dX2_moveOn_20 : decode cX2_moveOn 20 = .ok (.aload_n 1, 1) := by decide +kernel
theorem dX2_moveOn_21 : decode cX2_moveOn 21 = .ok (.getfield 15, 3) := by decide +kernel
theorem dX2_moveOn_24 : decode cX2_moveOn 24 = .ok (.if_icmp .gt 43, 3) := by decide +kernel
theorem dX2_moveOn_27 : decode cX2_moveOn 27 = .ok (.aload_n 1, 1) := by decide +kernel
theorem dX2_moveOn_28 : decode cX2_moveOn 28 = .ok (.iload_n 2, 1) := by decide +kernel
theorem dX2_moveOn_29 : decode cX2_moveOn 29 = .ok (.aload_n 1, 1) := by decide +kernel
theorem dX2_moveOn_30 : decode cX2_moveOn 30 = .ok (.iload_n 2, 1) := by decide +kernel
theorem dX2_moveOn_31 : decode cX2_moveOn 31 = .ok (.iload 5, 2) := by decide +kernel
theorem dX2_moveOn_33 : decode cX2_moveOn 33 = .ok (.invokevirtual 31, 3) := by decide +kernel
theorem dX2_moveOn_36 : decode cX2_moveOn 36 = .ok (.iload_n 3, 1) := by decide +kernel
theorem dX2_moveOn_37 : decode cX2_moveOn 37 = .ok (.invokevirtual 35, 3) := by decide +kernel
theorem dX2_moveOn_40 : decode cX2_moveOn 40 = .ok (.istore 6, 2) := by decide +kernel
theorem dX2_moveOn_42 : decode cX2_moveOn 42 = .ok (.iload 6, 2) := by decide +kernel
theorem dX2_moveOn_44 : decode cX2_moveOn 44 = .ok (.ifCond .eq 17, 3) := by decide +kernel
theorem dX2_moveOn_47 : decode cX2_moveOn 47 = .ok (.aload_n 0, 1) := by decide +kernel
theorem dX2_moveOn_48 : decode cX2_moveOn 48 = .ok (.getfield 9, 3) := by decide +kernel
theorem dX2_moveOn_51 : decode cX2_moveOn 51 = .ok (.iload_n 2, 1) := by decide +kernel
theorem dX2_moveOn_52 : decode cX2_moveOn 52 = .ok (.iload 6, 2) := by decide +kernel
theorem dX2_moveOn_54 : decode cX2_moveOn 54 = .ok (.ior, 1) := by decide +kernel
theorem dX2_moveOn_55 : decode cX2_moveOn 55 = .ok (.dup2, 1) := by decide +kernel
theorem dX2_moveOn_56 : decode cX2_moveOn 56 = .ok (.iaload, 1) := by decide +kernel
theorem dX2_moveOn_57 : decode cX2_moveOn 57 = .ok (.iload 4, 2) := by decide +kernel
theorem dX2_moveOn_59 : decode cX2_moveOn 59 = .ok (.iadd, 1) := by decide +kernel
theorem dX2_moveOn_60 : decode cX2_moveOn 60 = .ok (.iastore, 1) := by decide +kernel
theorem dX2_moveOn_61 : decode cX2_moveOn 61 = .ok (.iinc 5 1, 3) := by decide +kernel
theorem dX2_moveOn_64 : decode cX2_moveOn 64 = .ok (.goto (-46), 3) := by decide +kernel
theorem dX2_moveOn_67 : decode cX2_moveOn 67 = .ok (.return_, 1) := by decide +kernel
theorem dX3_init_0 : decode cX3_init 0 = .ok (.aload_n 0, 1) := by decide +kernel
theorem dX3_init_1 : decode cX3_init 1 = .ok (.invokespecial 3, 3) := by decide +kernel
theorem dX3_init_4 : decode cX3_init 4 = .ok (.aload_n 0, 1) := by decide +kernel
theorem dX3_init_5 : decode cX3_init 5 = .ok (.bipush 6, 2) := by decide +kernel
theorem dX3_init_7 : decode cX3_init 7 = .ok (.newarray .boolean, 2) := by decide +kernel
theorem dX3_init_9 : decode cX3_init 9 = .ok (.putfield 9, 3) := by decide +kernel
theorem dX3_init_12 : decode cX3_init 12 = .ok (.aload_n 0, 1) := by decide +kernel
theorem dX3_init_13 : decode cX3_init 13 = .ok (.bipush 6, 2) := by decide +kernel
theorem dX3_init_15 : decode cX3_init 15 = .ok (.bipush 121, 2) := by decide +kernel
theorem dX3_init_17 : decode cX3_init 17 = .ok (.multianewarray 15 2, 4) := by decide +kernel
theorem dX3_init_21 : decode cX3_init 21 = .ok (.putfield 17, 3) := by decide +kernel
theorem dX3_init_24 : decode cX3_init 24 = .ok (.aload_n 0, 1) := by decide +kernel
theorem dX3_init_25 : decode cX3_init 25 = .ok (.bipush 6, 2) := by decide +kernel
theorem dX3_init_27 : decode cX3_init 27 = .ok (.newarray .int, 2) := by decide +kernel
theorem dX3_init_29 : decode cX3_init 29 = .ok (.putfield 20, 3) := by decide +kernel
theorem dX3_init_32 : decode cX3_init 32 = .ok (.return_, 1) := by decide +kernel
theorem dX3_fill_0 : decode cX3_fill 0 = .ok (.aload_n 0, 1) := by decide +kernel
theorem dX3_fill_1 : decode cX3_fill 1 = .ok (.getfield 9, 3) := by decide +kernel
theorem dX3_fill_4 : decode cX3_fill 4 = .ok (.iload_n 1, 1) := by decide +kernel
theorem dX3_fill_5 : decode cX3_fill 5 = .ok (.baload, 1) := by decide +kernel
theorem dX3_fill_6 : decode cX3_fill 6 = .ok (.ifCond .eq 4, 3) := by decide +kernel
theorem dX3_fill_9 : decode cX3_fill 9 = .ok (.return_, 1) := by decide +kernel
theorem dX3_fill_10 : decode cX3_fill 10 = .ok (.aload_n 0, 1) := by decide +kernel
theorem dX3_fill_11 : decode cX3_fill 11 = .ok (.getfield 9, 3) := by decide +kernel
theorem dX3_fill_14 : decode cX3_fill 14 = .ok (.iload_n 1, 1) := by decide +kernel
theorem dX3_fill_15 : decode cX3_fill 15 = .ok (.iconst 1, 1) := by decide +kernel
theorem dX3_fill_16 : decode cX3_fill 16 = .ok (.bastore, 1) := by decide +kernel
theorem dX3_fill_17 : decode cX3_fill 17 = .ok (.iconst 1, 1) := by decide +kernel
theorem dX3_fill_18 : decode cX3_fill 18 = .ok (.istore 4, 2) := by decide +kernel
theorem dX3_fill_20 : decode cX3_fill 20 = .ok (.iload 4, 2) := by decide +kernel
theorem dX3_fill_22 : decode cX3_fill 22 = .ok (.iload_n 1, 1) := by decide +kernel
theorem dX3_fill_23 : decode cX3_fill 23 = .ok (.if_icmp .gt 17, 3) := by decide +kernel
theorem dX3_fill_26 : decode cX3_fill 26 = .ok (.aload_n 0, 1) := by decide +kernel
theorem dX3_fill_27 : decode cX3_fill 27 = .ok (.getfield 20, 3) := by decide +kernel
theorem dX3_fill_30 : decode cX3_fill 30 = .ok (.iload 4, 2) := by decide +kernel
theorem dX3_fill_32 : decode cX3_fill 32 = .ok (.iconst 1, 1) := by decide +kernel
theorem dX3_fill_33 : decode cX3_fill 33 = .ok (.iastore, 1) := by decide +kernel
theorem dX3_fill_34 : decode cX3_fill 34 = .ok (.iinc 4 1, 3) := by decide +kernel
theorem dX3_fill_37 : decode cX3_fill 37 = .ok (.goto (-17), 3) := by decide +kernel
theorem dX3_fill_40 : decode cX3_fill 40 = .ok (.aload_n 2, 1) := by decide +kernel
theorem dX3_fill_41 : decode cX3_fill 41 = .ok (.iload_n 1, 1) := by decide +kernel
theorem dX3_fill_42 : decode cX3_fill 42 = .ok (.iload_n 1, 1) := by decide +kernel
theorem dX3_fill_43 : decode cX3_fill 43 = .ok (.invokevirtual 24, 3) := by decide +kernel
theorem dX3_fill_46 : decode cX3_fill 46 = .ok (.lstore 4, 2) := by decide +kernel
theorem dX3_fill_48 : decode cX3_fill 48 = .ok (.lload 4, 2) := by decide +kernel
theorem dX3_fill_50 : decode cX3_fill 50 = .ok (.lconst 0, 1) := by decide +kernel
theorem dX3_fill_51 : decode cX3_fill 51 = .ok (.lcmp, 1) := by decide +kernel
theorem dX3_fill_52 : decode cX3_fill 52 = .ok (.ifCond .le 55, 3) := by decide +kernel
theorem dX3_fill_55 : decode cX3_fill 55 = .ok (.aload_n 3, 1) := by decide +kernel
theorem dX3_fill_56 : decode cX3_fill 56 = .ok (.aload_n 0, 1) := by decide +kernel
theorem dX3_fill_57 : decode cX3_fill 57 = .ok (.getfield 20, 3) := by decide +kernel
theorem dX3_fill_60 : decode cX3_fill 60 = .ok (.iload_n 1, 1) := by decide +kernel
theorem dX3_fill_61 : decode cX3_fill 61 = .ok (.invokevirtual 30, 3) := by decide +kernel
theorem dX3_fill_64 : decode cX3_fill 64 = .ok (.aload_n 0, 1) := by decide +kernel
theorem dX3_fill_65 : decode cX3_fill 65 = .ok (.getfield 17, 3) := by decide +kernel
theorem dX3_fill_68 : decode cX3_fill 68 = .ok (.iload_n 1, 1) := by decide +kernel
theorem dX3_fill_69 : decode cX3_fill 69 = .ok (.aaload, 1) := by decide +kernel
theorem dX3_fill_70 : decode cX3_fill 70 = .ok (.aload_n 0, 1) := by decide +kernel
theorem dX3_fill_71 : decode cX3_fill 71 = .ok (.aload_n 3, 1) := by decide +kernel
theorem dX3_fill_72 : decode cX3_fill 72 = .ok (.invokevirtual 36, 3) := by decide +kernel
theorem dX3_fill_75 : decode cX3_fill 75 = .ok (.aload_n 3, 1) := by decide +kernel
theorem dX3_fill_76 : decode cX3_fill 76 = .ok (.invokevirtual 40, 3) := by decide +kernel
theorem dX3_fill_79 : decode cX3_fill 79 = .ok (.invokevirtual 43, 3) := by decide +kernel
theorem dX3_fill_82 : decode cX3_fill 82 = .ok (.dup2, 1) := by decide +kernel
theorem dX3_fill_83 : decode cX3_fill 83 = .ok (.iaload, 1) := by decide +kernel
theorem dX3_fill_84 : decode cX3_fill 84 = .ok (.iconst 1, 1) := by decide +kernel
theorem dX3_fill_85 : decode cX3_fill 85 = .ok (.iadd, 1) := by decide +kernel
theorem dX3_fill_86 : decode cX3_fill 86 = .ok (.iastore, 1) := by decide +kernel
theorem dX3_fill_87 : decode cX3_fill 87 = .ok (.aload_n 2, 1) := by decide +kernel
theorem dX3_fill_88 : decode cX3_fill 88 = .ok (.aload_n 0, 1) := by decide +kernel
theorem dX3_fill_89 : decode cX3_fill 89 = .ok (.getfield 20, 3) := by decide +kernel
theorem dX3_fill_92 : decode cX3_fill 92 = .ok (.iload_n 1, 1) := by decide +kernel
theorem dX3_fill_93 : decode cX3_fill 93 = .ok (.iload_n 1, 1) := by decide +kernel
theorem dX3_fill_94 : decode cX3_fill 94 = .ok (.invokevirtual 47, 3) := by decide +kernel
theorem dX3_fill_97 : decode cX3_fill 97 = .ok (.pop, 1) := by decide +kernel
theorem dX3_fill_98 : decode cX3_fill 98 = .ok (.lload 4, 2) := by decide +kernel
theorem dX3_fill_100 : decode cX3_fill 100 = .ok (.lconst 1, 1) := by decide +kernel
theorem dX3_fill_101 : decode cX3_fill 101 = .ok (.lsub, 1) := by decide +kernel
theorem dX3_fill_102 : decode cX3_fill 102 = .ok (.lstore 4, 2) := by decide +kernel
theorem dX3_fill_104 : decode cX3_fill 104 = .ok (.goto (-56), 3) := by decide +kernel
theorem dX3_fill_107 : decode cX3_fill 107 = .ok (.return_, 1) := by decide +kernel
theorem dX3_rowsWith_0 : decode cX3_rowsWith 0 = .ok (.aload_n 0, 1) := by decide +kernel
theorem dX3_rowsWith_1 : decode cX3_rowsWith 1 = .ok (.getfield 17, 3) := by decide +kernel
theorem dX3_rowsWith_4 : decode cX3_rowsWith 4 = .ok (.iload_n 1, 1) := by decide +kernel
theorem dX3_rowsWith_5 : decode cX3_rowsWith 5 = .ok (.aaload, 1) := by decide +kernel
theorem dX3_rowsWith_6 : decode cX3_rowsWith 6 = .ok (.aload_n 0, 1) := by decide +kernel
theorem dX3_rowsWith_7 : decode cX3_rowsWith 7 = .ok (.iload_n 2, 1) := by decide +kernel
theorem dX3_rowsWith_8 : decode cX3_rowsWith 8 = .ok (.iload_n 3, 1) := by decide +kernel
theorem dX3_rowsWith_9 : decode cX3_rowsWith 9 = .ok (.invokevirtual 43, 3) := by decide +kernel
theorem dX3_rowsWith_12 : decode cX3_rowsWith 12 = .ok (.iaload, 1) := by decide +kernel
theorem dX3_rowsWith_13 : decode cX3_rowsWith 13 = .ok (.ireturn, 1) := by decide +kernel
theorem dX3_element_0 : decode cX3_element 0 = .ok (.iload_n 1, 1) := by decide +kernel
theorem dX3_element_1 : decode cX3_element 1 = .ok (.bipush 11, 2) := by decide +kernel
theorem dX3_element_3 : decode cX3_element 3 = .ok (.imul, 1) := by decide +kernel
theorem dX3_element_4 : decode cX3_element 4 = .ok (.iload_n 2, 1) := by decide +kernel
theorem dX3_element_5 : decode cX3_element 5 = .ok (.iadd, 1) := by decide +kernel
theorem dX3_element_6 : decode cX3_element 6 = .ok (.ireturn, 1) := by decide +kernel
theorem dX4_init_0 : decode cX4_init 0 = .ok (.aload_n 0, 1) := by decide +kernel
theorem dX4_init_1 : decode cX4_init 1 = .ok (.invokespecial 3, 3) := by decide +kernel
theorem dX4_init_4 : decode cX4_init 4 = .ok (.aload_n 0, 1) := by decide +kernel
theorem dX4_init_5 : decode cX4_init 5 = .ok (.bipush 12, 2) := by decide +kernel
theorem dX4_init_7 : decode cX4_init 7 = .ok (.bipush 12, 2) := by decide +kernel
theorem dX4_init_9 : decode cX4_init 9 = .ok (.multianewarray 9 2, 4) := by decide +kernel
theorem dX4_init_13 : decode cX4_init 13 = .ok (.putfield 11, 3) := by decide +kernel
theorem dX4_init_16 : decode cX4_init 16 = .ok (.return_, 1) := by decide +kernel
theorem dX4_howMany_0 : decode cX4_howMany 0 = .ok (.aload_n 0, 1) := by decide +kernel
theorem dX4_howMany_1 : decode cX4_howMany 1 = .ok (.iload_n 1, 1) := by decide +kernel
theorem dX4_howMany_2 : decode cX4_howMany 2 = .ok (.iload_n 2, 1) := by decide +kernel
theorem dX4_howMany_3 : decode cX4_howMany 3 = .ok (.invokevirtual 16, 3) := by decide +kernel
theorem dX4_howMany_6 : decode cX4_howMany 6 = .ok (.aload_n 0, 1) := by decide +kernel
theorem dX4_howMany_7 : decode cX4_howMany 7 = .ok (.getfield 11, 3) := by decide +kernel
theorem dX4_howMany_10 : decode cX4_howMany 10 = .ok (.iconst 1, 1) := by decide +kernel
theorem dX4_howMany_11 : decode cX4_howMany 11 = .ok (.aaload, 1) := by decide +kernel
theorem dX4_howMany_12 : decode cX4_howMany 12 = .ok (.iconst 1, 1) := by decide +kernel
theorem dX4_howMany_13 : decode cX4_howMany 13 = .ok (.laload, 1) := by decide +kernel
theorem dX4_howMany_14 : decode cX4_howMany 14 = .ok (.lreturn, 1) := by decide +kernel
theorem dX4_numberOf_0 : decode cX4_numberOf 0 = .ok (.aload_n 0, 1) := by decide +kernel
theorem dX4_numberOf_1 : decode cX4_numberOf 1 = .ok (.iload_n 2, 1) := by decide +kernel
theorem dX4_numberOf_2 : decode cX4_numberOf 2 = .ok (.iload_n 3, 1) := by decide +kernel
theorem dX4_numberOf_3 : decode cX4_numberOf 3 = .ok (.invokevirtual 16, 3) := by decide +kernel
theorem dX4_numberOf_6 : decode cX4_numberOf 6 = .ok (.lconst 0, 1) := by decide +kernel
theorem dX4_numberOf_7 : decode cX4_numberOf 7 = .ok (.lstore 4, 2) := by decide +kernel
theorem dX4_numberOf_9 : decode cX4_numberOf 9 = .ok (.iconst 1, 1) := by decide +kernel
theorem dX4_numberOf_10 : decode cX4_numberOf 10 = .ok (.istore 6, 2) := by decide +kernel
theorem dX4_numberOf_12 : decode cX4_numberOf 12 = .ok (.iconst 1, 1) := by decide +kernel
theorem dX4_numberOf_13 : decode cX4_numberOf 13 = .ok (.istore 7, 2) := by decide +kernel
theorem dX4_numberOf_15 : decode cX4_numberOf 15 = .ok (.iload 7, 2) := by decide +kernel
theorem dX4_numberOf_17 : decode cX4_numberOf 17 = .ok (.iload_n 3, 1) := by decide +kernel
theorem dX4_numberOf_18 : decode cX4_numberOf 18 = .ok (.if_icmp .gt 51, 3) := by decide +kernel
theorem dX4_numberOf_21 : decode cX4_numberOf 21 = .ok (.iload 6, 2) := by decide +kernel
theorem dX4_numberOf_23 : decode cX4_numberOf 23 = .ok (.istore 8, 2) := by decide +kernel
theorem dX4_numberOf_25 : decode cX4_numberOf 25 = .ok (.iload 8, 2) := by decide +kernel
theorem dX4_numberOf_27 : decode cX4_numberOf 27 = .ok (.aload_n 1, 1) := by decide +kernel
theorem dX4_numberOf_28 : decode cX4_numberOf 28 = .ok (.iload 7, 2) := by decide +kernel
theorem dX4_numberOf_30 : decode cX4_numberOf 30 = .ok (.iaload, 1) := by decide +kernel
theorem dX4_numberOf_31 : decode cX4_numberOf 31 = .ok (.if_icmp .ge 26, 3) := by decide +kernel
theorem dX4_numberOf_34 : decode cX4_numberOf 34 = .ok (.lload 4, 2) := by decide +kernel
theorem dX4_numberOf_36 : decode cX4_numberOf 36 = .ok (.aload_n 0, 1) := by decide +kernel
theorem dX4_numberOf_37 : decode cX4_numberOf 37 = .ok (.getfield 11, 3) := by decide +kernel
theorem dX4_numberOf_40 : decode cX4_numberOf 40 = .ok (.iload 7, 2) := by decide +kernel
theorem dX4_numberOf_42 : decode cX4_numberOf 42 = .ok (.iconst 1, 1) := by decide +kernel
theorem dX4_numberOf_43 : decode cX4_numberOf 43 = .ok (.iadd, 1) := by decide +kernel
theorem dX4_numberOf_44 : decode cX4_numberOf 44 = .ok (.aaload, 1) := by decide +kernel
theorem dX4_numberOf_45 : decode cX4_numberOf 45 = .ok (.iload 8, 2) := by decide +kernel
theorem dX4_numberOf_47 : decode cX4_numberOf 47 = .ok (.laload, 1) := by decide +kernel
theorem dX4_numberOf_48 : decode cX4_numberOf 48 = .ok (.ladd, 1) := by decide +kernel
theorem dX4_numberOf_49 : decode cX4_numberOf 49 = .ok (.lstore 4, 2) := by decide +kernel
theorem dX4_numberOf_51 : decode cX4_numberOf 51 = .ok (.iinc 8 1, 3) := by decide +kernel
theorem dX4_numberOf_54 : decode cX4_numberOf 54 = .ok (.goto (-29), 3) := by decide +kernel
theorem dX4_numberOf_57 : decode cX4_numberOf 57 = .ok (.aload_n 1, 1) := by decide +kernel
theorem dX4_numberOf_58 : decode cX4_numberOf 58 = .ok (.iload 7, 2) := by decide +kernel
theorem dX4_numberOf_60 : decode cX4_numberOf 60 = .ok (.iaload, 1) := by decide +kernel
theorem dX4_numberOf_61 : decode cX4_numberOf 61 = .ok (.istore 6, 2) := by decide +kernel
theorem dX4_numberOf_63 : decode cX4_numberOf 63 = .ok (.iinc 7 1, 3) := by decide +kernel
theorem dX4_numberOf_66 : decode cX4_numberOf 66 = .ok (.goto (-51), 3) := by decide +kernel
theorem dX4_numberOf_69 : decode cX4_numberOf 69 = .ok (.lload 4, 2) := by decide +kernel
theorem dX4_numberOf_71 : decode cX4_numberOf 71 = .ok (.lreturn, 1) := by decide +kernel
theorem dX4_fillRow_0 : decode cX4_fillRow 0 = .ok (.aload_n 0, 1) := by decide +kernel
theorem dX4_fillRow_1 : decode cX4_fillRow 1 = .ok (.iload_n 2, 1) := by decide +kernel
theorem dX4_fillRow_2 : decode cX4_fillRow 2 = .ok (.iload_n 3, 1) := by decide +kernel
theorem dX4_fillRow_3 : decode cX4_fillRow 3 = .ok (.invokevirtual 16, 3) := by decide +kernel
theorem dX4_fillRow_6 : decode cX4_fillRow 6 = .ok (.lload 4, 2) := by decide +kernel
theorem dX4_fillRow_8 : decode cX4_fillRow 8 = .ok (.lstore 6, 2) := by decide +kernel
theorem dX4_fillRow_10 : decode cX4_fillRow 10 = .ok (.iconst 1, 1) := by decide +kernel
theorem dX4_fillRow_11 : decode cX4_fillRow 11 = .ok (.istore 8, 2) := by decide +kernel
theorem dX4_fillRow_13 : decode cX4_fillRow 13 = .ok (.iconst 1, 1) := by decide +kernel
theorem dX4_fillRow_14 : decode cX4_fillRow 14 = .ok (.istore 9, 2) := by decide +kernel
theorem dX4_fillRow_16 : decode cX4_fillRow 16 = .ok (.iload 9, 2) := by decide +kernel
theorem dX4_fillRow_18 : decode cX4_fillRow 18 = .ok (.iload_n 3, 1) := by decide +kernel
theorem dX4_fillRow_19 : decode cX4_fillRow 19 = .ok (.if_icmp .gt 67, 3) := by decide +kernel
theorem dX4_fillRow_22 : decode cX4_fillRow 22 = .ok (.lload 6, 2) := by decide +kernel
theorem dX4_fillRow_24 : decode cX4_fillRow 24 = .ok (.aload_n 0, 1) := by decide +kernel
theorem dX4_fillRow_25 : decode cX4_fillRow 25 = .ok (.getfield 11, 3) := by decide +kernel
theorem dX4_fillRow_28 : decode cX4_fillRow 28 = .ok (.iload 9, 2) := by decide +kernel
theorem dX4_fillRow_30 : decode cX4_fillRow 30 = .ok (.iconst 1, 1) := by decide +kernel
theorem dX4_fillRow_31 : decode cX4_fillRow 31 = .ok (.iadd, 1) := by decide +kernel
theorem dX4_fillRow_32 : decode cX4_fillRow 32 = .ok (.aaload, 1) := by decide +kernel
theorem dX4_fillRow_33 : decode cX4_fillRow 33 = .ok (.iload 8, 2) := by decide +kernel
theorem dX4_fillRow_35 : decode cX4_fillRow 35 = .ok (.laload, 1) := by decide +kernel
theorem dX4_fillRow_36 : decode cX4_fillRow 36 = .ok (.lcmp, 1) := by decide +kernel
theorem dX4_fillRow_37 : decode cX4_fillRow 37 = .ok (.ifCond .lt 37, 3) := by decide +kernel
theorem dX4_fillRow_40 : decode cX4_fillRow 40 = .ok (.iload 8, 2) := by decide +kernel
theorem dX4_fillRow_42 : decode cX4_fillRow 42 = .ok (.iload_n 2, 1) := by decide +kernel
theorem dX4_fillRow_43 : decode cX4_fillRow 43 = .ok (.iload_n 3, 1) := by decide +kernel
theorem dX4_fillRow_44 : decode cX4_fillRow 44 = .ok (.isub, 1) := by decide +kernel
theorem dX4_fillRow_45 : decode cX4_fillRow 45 = .ok (.iload 9, 2) := by decide +kernel
theorem dX4_fillRow_47 : decode cX4_fillRow 47 = .ok (.iadd, 1) := by decide +kernel
theorem dX4_fillRow_48 : decode cX4_fillRow 48 = .ok (.if_icmp .ge 26, 3) := by decide +kernel
theorem dX4_fillRow_51 : decode cX4_fillRow 51 = .ok (.lload 6, 2) := by decide +kernel
theorem dX4_fillRow_53 : decode cX4_fillRow 53 = .ok (.aload_n 0, 1) := by decide +kernel
theorem dX4_fillRow_54 : decode cX4_fillRow 54 = .ok (.getfield 11, 3) := by decide +kernel
theorem dX4_fillRow_57 : decode cX4_fillRow 57 = .ok (.iload 9, 2) := by decide +kernel
theorem dX4_fillRow_59 : decode cX4_fillRow 59 = .ok (.iconst 1, 1) := by decide +kernel
theorem dX4_fillRow_60 : decode cX4_fillRow 60 = .ok (.iadd, 1) := by decide +kernel
theorem dX4_fillRow_61 : decode cX4_fillRow 61 = .ok (.aaload, 1) := by decide +kernel
theorem dX4_fillRow_62 : decode cX4_fillRow 62 = .ok (.iload 8, 2) := by decide +kernel
theorem dX4_fillRow_64 : decode cX4_fillRow 64 = .ok (.laload, 1) := by decide +kernel
theorem dX4_fillRow_65 : decode cX4_fillRow 65 = .ok (.lsub, 1) := by decide +kernel
theorem dX4_fillRow_66 : decode cX4_fillRow 66 = .ok (.lstore 6, 2) := by decide +kernel
theorem dX4_fillRow_68 : decode cX4_fillRow 68 = .ok (.iinc 8 1, 3) := by decide +kernel
theorem dX4_fillRow_71 : decode cX4_fillRow 71 = .ok (.goto (-49), 3) := by decide +kernel
theorem dX4_fillRow_74 : decode cX4_fillRow 74 = .ok (.aload_n 1, 1) := by decide +kernel
theorem dX4_fillRow_75 : decode cX4_fillRow 75 = .ok (.iload 9, 2) := by decide +kernel
theorem dX4_fillRow_77 : decode cX4_fillRow 77 = .ok (.iload 8, 2) := by decide +kernel
theorem dX4_fillRow_79 : decode cX4_fillRow 79 = .ok (.iastore, 1) := by decide +kernel
theorem dX4_fillRow_80 : decode cX4_fillRow 80 = .ok (.iinc 9 1, 3) := by decide +kernel
theorem dX4_fillRow_83 : decode cX4_fillRow 83 = .ok (.goto (-67), 3) := by decide +kernel
theorem dX4_fillRow_86 : decode cX4_fillRow 86 = .ok (.return_, 1) := by decide +kernel
theorem dX4_fillEndings_0 : decode cX4_fillEndings 0 = .ok (.iconst 1, 1) := by decide +kernel
theorem dX4_fillEndings_1 : decode cX4_fillEndings 1 = .ok (.istore_n 3, 1) := by decide +kernel
theorem dX4_fillEndings_2 : decode cX4_fillEndings 2 = .ok (.iload_n 3, 1) := by decide +kernel
theorem dX4_fillEndings_3 : decode cX4_fillEndings 3 = .ok (.iload_n 1, 1) := by decide +kernel
theorem dX4_fillEndings_4 : decode cX4_fillEndings 4 = .ok (.iconst 1, 1) := by decide +kernel
theorem dX4_fillEndings_5 : decode cX4_fillEndings 5 = .ok (.iadd, 1) := by decide +kernel
theorem dX4_fillEndings_6 : decode cX4_fillEndings 6 = .ok (.if_icmp .gt 20, 3) := by decide +kernel
theorem dX4_fillEndings_9 : decode cX4_fillEndings 9 = .ok (.aload_n 0, 1) := by decide +kernel
theorem dX4_fillEndings_10 : decode cX4_fillEndings 10 = .ok (.getfield 11, 3) := by decide +kernel
theorem dX4_fillEndings_13 : decode cX4_fillEndings 13 = .ok (.iload_n 2, 1) := by decide +kernel
theorem dX4_fillEndings_14 : decode cX4_fillEndings 14 = .ok (.iconst 1, 1) := by decide +kernel
theorem dX4_fillEndings_15 : decode cX4_fillEndings 15 = .ok (.iadd, 1) := by decide +kernel
theorem dX4_fillEndings_16 : decode cX4_fillEndings 16 = .ok (.aaload, 1) := by decide +kernel
theorem dX4_fillEndings_17 : decode cX4_fillEndings 17 = .ok (.iload_n 3, 1) := by decide +kernel
theorem dX4_fillEndings_18 : decode cX4_fillEndings 18 = .ok (.lconst 1, 1) := by decide +kernel
theorem dX4_fillEndings_19 : decode cX4_fillEndings 19 = .ok (.lastore, 1) := by decide +kernel
theorem dX4_fillEndings_20 : decode cX4_fillEndings 20 = .ok (.iinc 3 1, 3) := by decide +kernel
theorem dX4_fillEndings_23 : decode cX4_fillEndings 23 = .ok (.goto (-21), 3) := by decide +kernel
theorem dX4_fillEndings_26 : decode cX4_fillEndings 26 = .ok (.iload_n 2, 1) := by decide +kernel
theorem dX4_fillEndings_27 : decode cX4_fillEndings 27 = .ok (.istore_n 3, 1) := by decide +kernel
theorem dX4_fillEndings_28 : decode cX4_fillEndings 28 = .ok (.iload_n 3, 1) := by decide +kernel
theorem dX4_fillEndings_29 : decode cX4_fillEndings 29 = .ok (.iconst 1, 1) := by decide +kernel
theorem dX4_fillEndings_30 : decode cX4_fillEndings 30 = .ok (.if_icmp .lt 72, 3) := by decide +kernel
theorem dX4_fillEndings_33 : decode cX4_fillEndings 33 = .ok (.iload_n 1, 1) := by decide +kernel
theorem dX4_fillEndings_34 : decode cX4_fillEndings 34 = .ok (.iconst 1, 1) := by decide +kernel
theorem dX4_fillEndings_35 : decode cX4_fillEndings 35 = .ok (.iadd, 1) := by decide +kernel
theorem dX4_fillEndings_36 : decode cX4_fillEndings 36 = .ok (.istore 4, 2) := by decide +kernel
theorem dX4_fillEndings_38 : decode cX4_fillEndings 38 = .ok (.iload 4, 2) := by decide +kernel
theorem dX4_fillEndings_40 : decode cX4_fillEndings 40 = .ok (.iconst 1, 1) := by decide +kernel
theorem dX4_fillEndings_41 : decode cX4_fillEndings 41 = .ok (.if_icmp .lt 55, 3) := by decide +kernel
theorem dX4_fillEndings_44 : decode cX4_fillEndings 44 = .ok (.aload_n 0, 1) := by decide +kernel
theorem dX4_fillEndings_45 : decode cX4_fillEndings 45 = .ok (.getfield 11, 3) := by decide +kernel
theorem dX4_fillEndings_48 : decode cX4_fillEndings 48 = .ok (.iload_n 3, 1) := by decide +kernel
theorem dX4_fillEndings_49 : decode cX4_fillEndings 49 = .ok (.aaload, 1) := by decide +kernel
theorem dX4_fillEndings_50 : decode cX4_fillEndings 50 = .ok (.iload 4, 2) := by decide +kernel
theorem dX4_fillEndings_52 : decode cX4_fillEndings 52 = .ok (.iload 4, 2) := by decide +kernel
theorem dX4_fillEndings_54 : decode cX4_fillEndings 54 = .ok (.iload_n 1, 1) := by decide +kernel
theorem dX4_fillEndings_55 : decode cX4_fillEndings 55 = .ok (.iload_n 2, 1) := by decide +kernel
theorem dX4_fillEndings_56 : decode cX4_fillEndings 56 = .ok (.isub, 1) := by decide +kernel
theorem dX4_fillEndings_57 : decode cX4_fillEndings 57 = .ok (.iload_n 3, 1) := by decide +kernel
theorem dX4_fillEndings_58 : decode cX4_fillEndings 58 = .ok (.iadd, 1) := by decide +kernel
theorem dX4_fillEndings_59 : decode cX4_fillEndings 59 = .ok (.if_icmp .le 7, 3) := by decide +kernel
theorem dX4_fillEndings_62 : decode cX4_fillEndings 62 = .ok (.lconst 0, 1) := by decide +kernel
theorem dX4_fillEndings_63 : decode cX4_fillEndings 63 = .ok (.goto 26, 3) := by decide +kernel
theorem dX4_fillEndings_66 : decode cX4_fillEndings 66 = .ok (.aload_n 0, 1) := by decide +kernel
theorem dX4_fillEndings_67 : decode cX4_fillEndings 67 = .ok (.getfield 11, 3) := by decide +kernel
theorem dX4_fillEndings_70 : decode cX4_fillEndings 70 = .ok (.iload_n 3, 1) := by decide +kernel
theorem dX4_fillEndings_71 : decode cX4_fillEndings 71 = .ok (.aaload, 1) := by decide +kernel
theorem dX4_fillEndings_72 : decode cX4_fillEndings 72 = .ok (.iload 4, 2) := by decide +kernel
theorem dX4_fillEndings_74 : decode cX4_fillEndings 74 = .ok (.iconst 1, 1) := by decide +kernel
theorem dX4_fillEndings_75 : decode cX4_fillEndings 75 = .ok (.iadd, 1) := by decide +kernel
theorem dX4_fillEndings_76 : decode cX4_fillEndings 76 = .ok (.laload, 1) := by decide +kernel
theorem dX4_fillEndings_77 : decode cX4_fillEndings 77 = .ok (.aload_n 0, 1) := by decide +kernel
theorem dX4_fillEndings_78 : decode cX4_fillEndings 78 = .ok (.getfield 11, 3) := by decide +kernel
theorem dX4_fillEndings_81 : decode cX4_fillEndings 81 = .ok (.iload_n 3, 1) := by decide +kernel
theorem dX4_fillEndings_82 : decode cX4_fillEndings 82 = .ok (.iconst 1, 1) := by decide +kernel
theorem dX4_fillEndings_83 : decode cX4_fillEndings 83 = .ok (.iadd, 1) := by decide +kernel
theorem dX4_fillEndings_84 : decode cX4_fillEndings 84 = .ok (.aaload, 1) := by decide +kernel
theorem dX4_fillEndings_85 : decode cX4_fillEndings 85 = .ok (.iload 4, 2) := by decide +kernel
theorem dX4_fillEndings_87 : decode cX4_fillEndings 87 = .ok (.laload, 1) := by decide +kernel
theorem dX4_fillEndings_88 : decode cX4_fillEndings 88 = .ok (.ladd, 1) := by decide +kernel
theorem dX4_fillEndings_89 : decode cX4_fillEndings 89 = .ok (.lastore, 1) := by decide +kernel
theorem dX4_fillEndings_90 : decode cX4_fillEndings 90 = .ok (.iinc 4 (-1), 3) := by decide +kernel
theorem dX4_fillEndings_93 : decode cX4_fillEndings 93 = .ok (.goto (-55), 3) := by decide +kernel
theorem dX4_fillEndings_96 : decode cX4_fillEndings 96 = .ok (.iinc 3 (-1), 3) := by decide +kernel
theorem dX4_fillEndings_99 : decode cX4_fillEndings 99 = .ok (.goto (-71), 3) := by decide +kernel
theorem dX4_fillEndings_102 : decode cX4_fillEndings 102 = .ok (.return_, 1) := by decide +kernel
theorem dX5_init_0 : decode cX5_init 0 = .ok (.aload_n 0, 1) := by decide +kernel
theorem dX5_init_1 : decode cX5_init 1 = .ok (.invokespecial 3, 3) := by decide +kernel
theorem dX5_init_4 : decode cX5_init 4 = .ok (.aload_n 0, 1) := by decide +kernel
theorem dX5_init_5 : decode cX5_init 5 = .ok (.iconst 0, 1) := by decide +kernel
theorem dX5_init_6 : decode cX5_init 6 = .ok (.putfield 9, 3) := by decide +kernel
theorem dX5_init_9 : decode cX5_init 9 = .ok (.aload_n 0, 1) := by decide +kernel
theorem dX5_init_10 : decode cX5_init 10 = .ok (.iconst 5, 1) := by decide +kernel
theorem dX5_init_11 : decode cX5_init 11 = .ok (.putfield 15, 3) := by decide +kernel
theorem dX5_init_14 : decode cX5_init 14 = .ok (.aload_n 0, 1) := by decide +kernel
theorem dX5_init_15 : decode cX5_init 15 = .ok (.iconst 0, 1) := by decide +kernel
theorem dX5_init_16 : decode cX5_init 16 = .ok (.putfield 18, 3) := by decide +kernel
theorem dX5_init_19 : decode cX5_init 19 = .ok (.aload_n 0, 1) := by decide +kernel
theorem dX5_init_20 : decode cX5_init 20 = .ok (.iconst 0, 1) := by decide +kernel
theorem dX5_init_21 : decode cX5_init 21 = .ok (.putfield 21, 3) := by decide +kernel
theorem dX5_init_24 : decode cX5_init 24 = .ok (.aload_n 0, 1) := by decide +kernel
theorem dX5_init_25 : decode cX5_init 25 = .ok (.iconst 0, 1) := by decide +kernel
theorem dX5_init_26 : decode cX5_init 26 = .ok (.putfield 24, 3) := by decide +kernel
theorem dX5_init_29 : decode cX5_init 29 = .ok (.aload_n 0, 1) := by decide +kernel
theorem dX5_init_30 : decode cX5_init 30 = .ok (.bipush 11, 2) := by decide +kernel
theorem dX5_init_32 : decode cX5_init 32 = .ok (.newarray .int, 2) := by decide +kernel
theorem dX5_init_34 : decode cX5_init 34 = .ok (.putfield 27, 3) := by decide +kernel
theorem dX5_init_37 : decode cX5_init 37 = .ok (.aload_n 0, 1) := by decide +kernel
theorem dX5_init_38 : decode cX5_init 38 = .ok (.bipush 11, 2) := by decide +kernel
theorem dX5_init_40 : decode cX5_init 40 = .ok (.newarray .int, 2) := by decide +kernel
theorem dX5_init_42 : decode cX5_init 42 = .ok (.putfield 31, 3) := by decide +kernel
theorem dX5_init_45 : decode cX5_init 45 = .ok (.aload_n 0, 1) := by decide +kernel
theorem dX5_init_46 : decode cX5_init 46 = .ok (.bipush 11, 2) := by decide +kernel
theorem dX5_init_48 : decode cX5_init 48 = .ok (.newarray .int, 2) := by decide +kernel
theorem dX5_init_50 : decode cX5_init 50 = .ok (.putfield 34, 3) := by decide +kernel
theorem dX5_init_53 : decode cX5_init 53 = .ok (.aload_n 0, 1) := by decide +kernel
theorem dX5_init_54 : decode cX5_init 54 = .ok (.bipush 11, 2) := by decide +kernel
theorem dX5_init_56 : decode cX5_init 56 = .ok (.newarray .int, 2) := by decide +kernel
theorem dX5_init_58 : decode cX5_init 58 = .ok (.putfield 37, 3) := by decide +kernel
theorem dX5_init_61 : decode cX5_init 61 = .ok (.aload_n 0, 1) := by decide +kernel
theorem dX5_init_62 : decode cX5_init 62 = .ok (.bipush 11, 2) := by decide +kernel
theorem dX5_init_64 : decode cX5_init 64 = .ok (.newarray .int, 2) := by decide +kernel
theorem dX5_init_66 : decode cX5_init 66 = .ok (.putfield 40, 3) := by decide +kernel
theorem dX5_init_69 : decode cX5_init 69 = .ok (.return_, 1) := by decide +kernel
theorem dX5_lay_0 : decode cX5_lay 0 = .ok (.aload_n 0, 1) := by decide +kernel
theorem dX5_lay_1 : decode cX5_lay 1 = .ok (.iload_n 1, 1) := by decide +kernel
theorem dX5_lay_2 : decode cX5_lay 2 = .ok (.putfield 9, 3) := by decide +kernel
theorem dX5_lay_5 : decode cX5_lay 5 = .ok (.aload_n 0, 1) := by decide +kernel
theorem dX5_lay_6 : decode cX5_lay 6 = .ok (.iload_n 2, 1) := by decide +kernel
theorem dX5_lay_7 : decode cX5_lay 7 = .ok (.putfield 15, 3) := by decide +kernel
theorem dX5_lay_10 : decode cX5_lay 10 = .ok (.aload_n 0, 1) := by decide +kernel
theorem dX5_lay_11 : decode cX5_lay 11 = .ok (.iload_n 3, 1) := by decide +kernel
theorem dX5_lay_12 : decode cX5_lay 12 = .ok (.putfield 18, 3) := by decide +kernel
theorem dX5_lay_15 : decode cX5_lay 15 = .ok (.aload_n 0, 1) := by decide +kernel
theorem dX5_lay_16 : decode cX5_lay 16 = .ok (.iconst 0, 1) := by decide +kernel
theorem dX5_lay_17 : decode cX5_lay 17 = .ok (.invokevirtual 43, 3) := by decide +kernel
theorem dX5_lay_20 : decode cX5_lay 20 = .ok (.return_, 1) := by decide +kernel
theorem dX5_add_0 : decode cX5_add 0 = .ok (.aload_n 0, 1) := by decide +kernel
theorem dX5_add_1 : decode cX5_add 1 = .ok (.dup, 1) := by decide +kernel
theorem dX5_add_2 : decode cX5_add 2 = .ok (.getfield 21, 3) := by decide +kernel
theorem dX5_add_5 : decode cX5_add 5 = .ok (.iconst 1, 1) := by decide +kernel
theorem dX5_add_6 : decode cX5_add 6 = .ok (.iadd, 1) := by decide +kernel
theorem dX5_add_7 : decode cX5_add 7 = .ok (.putfield 21, 3) := by decide +kernel
theorem dX5_add_10 : decode cX5_add 10 = .ok (.aload_n 0, 1) := by decide +kernel
theorem dX5_add_11 : decode cX5_add 11 = .ok (.getfield 27, 3) := by decide +kernel
theorem dX5_add_14 : decode cX5_add 14 = .ok (.aload_n 0, 1) := by decide +kernel
theorem dX5_add_15 : decode cX5_add 15 = .ok (.getfield 21, 3) := by decide +kernel
theorem dX5_add_18 : decode cX5_add 18 = .ok (.iload_n 1, 1) := by decide +kernel
theorem dX5_add_19 : decode cX5_add 19 = .ok (.iastore, 1) := by decide +kernel
theorem dX5_add_20 : decode cX5_add 20 = .ok (.aload_n 0, 1) := by decide +kernel
theorem dX5_add_21 : decode cX5_add 21 = .ok (.getfield 31, 3) := by decide +kernel
theorem dX5_add_24 : decode cX5_add 24 = .ok (.aload_n 0, 1) := by decide +kernel
theorem dX5_add_25 : decode cX5_add 25 = .ok (.getfield 21, 3) := by decide +kernel
theorem dX5_add_28 : decode cX5_add 28 = .ok (.iconst 1, 1) := by decide +kernel
theorem dX5_add_29 : decode cX5_add 29 = .ok (.iastore, 1) := by decide +kernel
theorem dX5_add_30 : decode cX5_add 30 = .ok (.return_, 1) := by decide +kernel
theorem dX5_leaveOnly_0 : decode cX5_leaveOnly 0 = .ok (.aload_n 0, 1) := by decide +kernel
theorem dX5_leaveOnly_1 : decode cX5_leaveOnly 1 = .ok (.iload_n 1, 1) := by decide +kernel
theorem dX5_leaveOnly_2 : decode cX5_leaveOnly 2 = .ok (.putfield 21, 3) := by decide +kernel
theorem dX5_leaveOnly_5 : decode cX5_leaveOnly 5 = .ok (.aload_n 0, 1) := by decide +kernel
theorem dX5_leaveOnly_6 : decode cX5_leaveOnly 6 = .ok (.invokevirtual 47, 3) := by decide +kernel
theorem dX5_leaveOnly_9 : decode cX5_leaveOnly 9 = .ok (.return_, 1) := by decide +kernel
theorem dX5_take_0 : decode cX5_take 0 = .ok (.aload_n 0, 1) := by decide +kernel
theorem dX5_take_1 : decode cX5_take 1 = .ok (.iconst 0, 1) := by decide +kernel
theorem dX5_take_2 : decode cX5_take 2 = .ok (.putfield 21, 3) := by decide +kernel
theorem dX5_take_5 : decode cX5_take 5 = .ok (.iconst 1, 1) := by decide +kernel
theorem dX5_take_6 : decode cX5_take 6 = .ok (.istore_n 3, 1) := by decide +kernel
theorem dX5_take_7 : decode cX5_take 7 = .ok (.iload_n 3, 1) := by decide +kernel
theorem dX5_take_8 : decode cX5_take 8 = .ok (.iload_n 2, 1) := by decide +kernel
theorem dX5_take_9 : decode cX5_take 9 = .ok (.if_icmp .gt 16, 3) := by decide +kernel
theorem dX5_take_12 : decode cX5_take 12 = .ok (.aload_n 0, 1) := by decide +kernel
theorem dX5_take_13 : decode cX5_take 13 = .ok (.aload_n 1, 1) := by decide +kernel
theorem dX5_take_14 : decode cX5_take 14 = .ok (.iload_n 3, 1) := by decide +kernel
theorem dX5_take_15 : decode cX5_take 15 = .ok (.iaload, 1) := by decide +kernel
theorem dX5_take_16 : decode cX5_take 16 = .ok (.invokevirtual 50, 3) := by decide +kernel
theorem dX5_take_19 : decode cX5_take 19 = .ok (.iinc 3 1, 3) := by decide +kernel
theorem dX5_take_22 : decode cX5_take 22 = .ok (.goto (-15), 3) := by decide +kernel
theorem dX5_take_25 : decode cX5_take 25 = .ok (.aload_n 0, 1) := by decide +kernel
theorem dX5_take_26 : decode cX5_take 26 = .ok (.invokevirtual 47, 3) := by decide +kernel
theorem dX5_take_29 : decode cX5_take 29 = .ok (.return_, 1) := by decide +kernel
theorem dX5_settle_0 : decode cX5_settle 0 = .ok (.aload_n 0, 1) := by decide +kernel
theorem dX5_settle_1 : decode cX5_settle 1 = .ok (.iconst 0, 1) := by decide +kernel
theorem dX5_settle_2 : decode cX5_settle 2 = .ok (.putfield 24, 3) := by decide +kernel
theorem dX5_settle_5 : decode cX5_settle 5 = .ok (.iconst 1, 1) := by decide +kernel
theorem dX5_settle_6 : decode cX5_settle 6 = .ok (.istore_n 1, 1) := by decide +kernel
theorem dX5_settle_7 : decode cX5_settle 7 = .ok (.iload_n 1, 1) := by decide +kernel
theorem dX5_settle_8 : decode cX5_settle 8 = .ok (.aload_n 0, 1) := by decide +kernel
theorem dX5_settle_9 : decode cX5_settle 9 = .ok (.getfield 21, 3) := by decide +kernel
theorem dX5_settle_12 : decode cX5_settle 12 = .ok (.if_icmp .gt 80, 3) := by decide +kernel
theorem dX5_settle_15 : decode cX5_settle 15 = .ok (.aload_n 0, 1) := by decide +kernel
theorem dX5_settle_16 : decode cX5_settle 16 = .ok (.aload_n 0, 1) := by decide +kernel
theorem dX5_settle_17 : decode cX5_settle 17 = .ok (.getfield 24, 3) := by decide +kernel
theorem dX5_settle_20 : decode cX5_settle 20 = .ok (.aload_n 0, 1) := by decide +kernel
theorem dX5_settle_21 : decode cX5_settle 21 = .ok (.getfield 27, 3) := by decide +kernel
theorem dX5_settle_24 : decode cX5_settle 24 = .ok (.iload_n 1, 1) := by decide +kernel
theorem dX5_settle_25 : decode cX5_settle 25 = .ok (.iaload, 1) := by decide +kernel
theorem dX5_settle_26 : decode cX5_settle 26 = .ok (.invokevirtual 53, 3) := by decide +kernel
theorem dX5_settle_29 : decode cX5_settle 29 = .ok (.istore_n 2, 1) := by decide +kernel
theorem dX5_settle_30 : decode cX5_settle 30 = .ok (.aload_n 0, 1) := by decide +kernel
theorem dX5_settle_31 : decode cX5_settle 31 = .ok (.getfield 37, 3) := by decide +kernel
theorem dX5_settle_34 : decode cX5_settle 34 = .ok (.iload_n 1, 1) := by decide +kernel
theorem dX5_settle_35 : decode cX5_settle 35 = .ok (.aload_n 0, 1) := by decide +kernel
theorem dX5_settle_36 : decode cX5_settle 36 = .ok (.aload_n 0, 1) := by decide +kernel
theorem dX5_settle_37 : decode cX5_settle 37 = .ok (.getfield 24, 3) := by decide +kernel
theorem dX5_settle_40 : decode cX5_settle 40 = .ok (.iload_n 2, 1) := by decide +kernel
theorem dX5_settle_41 : decode cX5_settle 41 = .ok (.aload_n 0, 1) := by decide +kernel
theorem dX5_settle_42 : decode cX5_settle 42 = .ok (.getfield 31, 3) := by decide +kernel
theorem dX5_settle_45 : decode cX5_settle 45 = .ok (.iload_n 1, 1) := by decide +kernel
theorem dX5_settle_46 : decode cX5_settle 46 = .ok (.iaload, 1) := by decide +kernel
theorem dX5_settle_47 : decode cX5_settle 47 = .ok (.invokevirtual 57, 3) := by decide +kernel
theorem dX5_settle_50 : decode cX5_settle 50 = .ok (.iastore, 1) := by decide +kernel
theorem dX5_settle_51 : decode cX5_settle 51 = .ok (.aload_n 0, 1) := by decide +kernel
theorem dX5_settle_52 : decode cX5_settle 52 = .ok (.getfield 34, 3) := by decide +kernel
theorem dX5_settle_55 : decode cX5_settle 55 = .ok (.iload_n 1, 1) := by decide +kernel
theorem dX5_settle_56 : decode cX5_settle 56 = .ok (.aload_n 0, 1) := by decide +kernel
theorem dX5_settle_57 : decode cX5_settle 57 = .ok (.getfield 37, 3) := by decide +kernel
theorem dX5_settle_60 : decode cX5_settle 60 = .ok (.iload_n 1, 1) := by decide +kernel
theorem dX5_settle_61 : decode cX5_settle 61 = .ok (.iaload, 1) := by decide +kernel
theorem dX5_settle_62 : decode cX5_settle 62 = .ok (.ifCond .ne 7, 3) := by decide +kernel
theorem dX5_settle_65 : decode cX5_settle 65 = .ok (.iconst 0, 1) := by decide +kernel
theorem dX5_settle_66 : decode cX5_settle 66 = .ok (.goto 4, 3) := by decide +kernel
theorem dX5_settle_69 : decode cX5_settle 69 = .ok (.iload_n 2, 1) := by decide +kernel
theorem dX5_settle_70 : decode cX5_settle 70 = .ok (.iastore, 1) := by decide +kernel
theorem dX5_settle_71 : decode cX5_settle 71 = .ok (.aload_n 0, 1) := by decide +kernel
theorem dX5_settle_72 : decode cX5_settle 72 = .ok (.dup, 1) := by decide +kernel
theorem dX5_settle_73 : decode cX5_settle 73 = .ok (.getfield 24, 3) := by decide +kernel
theorem dX5_settle_76 : decode cX5_settle 76 = .ok (.aload_n 0, 1) := by decide +kernel
theorem dX5_settle_77 : decode cX5_settle 77 = .ok (.getfield 37, 3) := by decide +kernel
theorem dX5_settle_80 : decode cX5_settle 80 = .ok (.iload_n 1, 1) := by decide +kernel
theorem dX5_settle_81 : decode cX5_settle 81 = .ok (.iaload, 1) := by decide +kernel
theorem dX5_settle_82 : decode cX5_settle 82 = .ok (.ior, 1) := by decide +kernel
theorem dX5_settle_83 : decode cX5_settle 83 = .ok (.putfield 24, 3) := by decide +kernel
theorem dX5_settle_86 : decode cX5_settle 86 = .ok (.iinc 1 1, 3) := by decide +kernel
theorem dX5_settle_89 : decode cX5_settle 89 = .ok (.goto (-82), 3) := by decide +kernel
theorem dX5_settle_92 : decode cX5_settle 92 = .ok (.return_, 1) := by decide +kernel
theorem dX5_isFree_0 : decode cX5_isFree 0 = .ok (.iload_n 1, 1) := by decide +kernel
theorem dX5_isFree_1 : decode cX5_isFree 1 = .ok (.iload_n 2, 1) := by decide +kernel
theorem dX5_isFree_2 : decode cX5_isFree 2 = .ok (.iconst 1, 1) := by decide +kernel
theorem dX5_isFree_3 : decode cX5_isFree 3 = .ok (.isub, 1) := by decide +kernel
theorem dX5_isFree_4 : decode cX5_isFree 4 = .ok (.ishr, 1) := by decide +kernel
theorem dX5_isFree_5 : decode cX5_isFree 5 = .ok (.iconst 1, 1) := by decide +kernel
theorem dX5_isFree_6 : decode cX5_isFree 6 = .ok (.iand, 1) := by decide +kernel
theorem dX5_isFree_7 : decode cX5_isFree 7 = .ok (.ifCond .ne 7, 3) := by decide +kernel
theorem dX5_isFree_10 : decode cX5_isFree 10 = .ok (.iconst 1, 1) := by decide +kernel
theorem dX5_isFree_11 : decode cX5_isFree 11 = .ok (.goto 4, 3) := by decide +kernel
theorem dX5_isFree_14 : decode cX5_isFree 14 = .ok (.iconst 0, 1) := by decide +kernel
theorem dX5_isFree_15 : decode cX5_isFree 15 = .ok (.ireturn, 1) := by decide +kernel
theorem dX5_firstFree_0 : decode cX5_firstFree 0 = .ok (.aload_n 0, 1) := by decide +kernel
theorem dX5_firstFree_1 : decode cX5_firstFree 1 = .ok (.getfield 9, 3) := by decide +kernel
theorem dX5_firstFree_4 : decode cX5_firstFree 4 = .ok (.iconst 2, 1) := by decide +kernel
theorem dX5_firstFree_5 : decode cX5_firstFree 5 = .ok (.if_icmp .ne 48, 3) := by decide +kernel
theorem dX5_firstFree_8 : decode cX5_firstFree 8 = .ok (.aload_n 0, 1) := by decide +kernel
theorem dX5_firstFree_9 : decode cX5_firstFree 9 = .ok (.iload_n 1, 1) := by decide +kernel
theorem dX5_firstFree_10 : decode cX5_firstFree 10 = .ok (.iload_n 2, 1) := by decide +kernel
theorem dX5_firstFree_11 : decode cX5_firstFree 11 = .ok (.invokevirtual 61, 3) := by decide +kernel
theorem dX5_firstFree_14 : decode cX5_firstFree 14 = .ok (.ifCond .ne 39, 3) := by decide +kernel
theorem dX5_firstFree_17 : decode cX5_firstFree 17 = .ok (.iload_n 2, 1) := by decide +kernel
theorem dX5_firstFree_18 : decode cX5_firstFree 18 = .ok (.iconst 1, 1) := by decide +kernel
theorem dX5_firstFree_19 : decode cX5_firstFree 19 = .ok (.isub, 1) := by decide +kernel
theorem dX5_firstFree_20 : decode cX5_firstFree 20 = .ok (.istore_n 3, 1) := by decide +kernel
theorem dX5_firstFree_21 : decode cX5_firstFree 21 = .ok (.iload_n 3, 1) := by decide +kernel
theorem dX5_firstFree_22 : decode cX5_firstFree 22 = .ok (.iconst 1, 1) := by decide +kernel
theorem dX5_firstFree_23 : decode cX5_firstFree 23 = .ok (.if_icmp .lt 30, 3) := by decide +kernel
theorem dX5_firstFree_26 : decode cX5_firstFree 26 = .ok (.iload_n 3, 1) := by decide +kernel
theorem dX5_firstFree_27 : decode cX5_firstFree 27 = .ok (.iload_n 2, 1) := by decide +kernel
theorem dX5_firstFree_28 : decode cX5_firstFree 28 = .ok (.aload_n 0, 1) := by decide +kernel
theorem dX5_firstFree_29 : decode cX5_firstFree 29 = .ok (.getfield 18, 3) := by decide +kernel
theorem dX5_firstFree_32 : decode cX5_firstFree 32 = .ok (.isub, 1) := by decide +kernel
theorem dX5_firstFree_33 : decode cX5_firstFree 33 = .ok (.if_icmp .lt 20, 3) := by decide +kernel
theorem dX5_firstFree_36 : decode cX5_firstFree 36 = .ok (.aload_n 0, 1) := by decide +kernel
theorem dX5_firstFree_37 : decode cX5_firstFree 37 = .ok (.iload_n 1, 1) := by decide +kernel
theorem dX5_firstFree_38 : decode cX5_firstFree 38 = .ok (.iload_n 3, 1) := by decide +kernel
theorem dX5_firstFree_39 : decode cX5_firstFree 39 = .ok (.invokevirtual 61, 3) := by decide +kernel
theorem dX5_firstFree_42 : decode cX5_firstFree 42 = .ok (.ifCond .eq 5, 3) := by decide +kernel
theorem dX5_firstFree_45 : decode cX5_firstFree 45 = .ok (.iload_n 3, 1) := by decide +kernel
theorem dX5_firstFree_46 : decode cX5_firstFree 46 = .ok (.ireturn, 1) := by decide +kernel
theorem dX5_firstFree_47 : decode cX5_firstFree 47 = .ok (.iinc 3 (-1), 3) := by decide +kernel
theorem dX5_firstFree_50 : decode cX5_firstFree 50 = .ok (.goto (-29), 3) := by decide +kernel
theorem dX5_firstFree_53 : decode cX5_firstFree 53 = .ok (.iload_n 2, 1) := by decide +kernel
theorem dX5_firstFree_54 : decode cX5_firstFree 54 = .ok (.istore_n 3, 1) := by decide +kernel
theorem dX5_firstFree_55 : decode cX5_firstFree 55 = .ok (.iload_n 3, 1) := by decide +kernel
theorem dX5_firstFree_56 : decode cX5_firstFree 56 = .ok (.aload_n 0, 1) := by decide +kernel
theorem dX5_firstFree_57 : decode cX5_firstFree 57 = .ok (.getfield 15, 3) := by decide +kernel
theorem dX5_firstFree_60 : decode cX5_firstFree 60 = .ok (.if_icmp .gt 20, 3) := by decide +kernel
theorem dX5_firstFree_63 : decode cX5_firstFree 63 = .ok (.aload_n 0, 1) := by decide +kernel
theorem dX5_firstFree_64 : decode cX5_firstFree 64 = .ok (.iload_n 1, 1) := by decide +kernel
theorem dX5_firstFree_65 : decode cX5_firstFree 65 = .ok (.iload_n 3, 1) := by decide +kernel
theorem dX5_firstFree_66 : decode cX5_firstFree 66 = .ok (.invokevirtual 61, 3) := by decide +kernel
theorem dX5_firstFree_69 : decode cX5_firstFree 69 = .ok (.ifCond .eq 5, 3) := by decide +kernel
theorem dX5_firstFree_72 : decode cX5_firstFree 72 = .ok (.iload_n 3, 1) := by decide +kernel
theorem dX5_firstFree_73 : decode cX5_firstFree 73 = .ok (.ireturn, 1) := by decide +kernel
theorem dX5_firstFree_74 : decode cX5_firstFree 74 = .ok (.iinc 3 1, 3) := by decide +kernel
theorem dX5_firstFree_77 : decode cX5_firstFree 77 = .ok (.goto (-22), 3) := by decide +kernel
theorem dX5_firstFree_80 : decode cX5_firstFree 80 = .ok (.iconst 1, 1) := by decide +kernel
theorem dX5_firstFree_81 : decode cX5_firstFree 81 = .ok (.istore_n 3, 1) := by decide +kernel
theorem dX5_firstFree_82 : decode cX5_firstFree 82 = .ok (.aload_n 0, 1) := by decide +kernel
theorem dX5_firstFree_83 : decode cX5_firstFree 83 = .ok (.getfield 9, 3) := by decide +kernel
theorem dX5_firstFree_86 : decode cX5_firstFree 86 = .ok (.iconst 1, 1) := by decide +kernel
theorem dX5_firstFree_87 : decode cX5_firstFree 87 = .ok (.if_icmp .ne 25, 3) := by decide +kernel
theorem dX5_firstFree_90 : decode cX5_firstFree 90 = .ok (.iload_n 3, 1) := by decide +kernel
theorem dX5_firstFree_91 : decode cX5_firstFree 91 = .ok (.iload_n 2, 1) := by decide +kernel
theorem dX5_firstFree_92 : decode cX5_firstFree 92 = .ok (.if_icmp .ge 20, 3) := by decide +kernel
theorem dX5_firstFree_95 : decode cX5_firstFree 95 = .ok (.aload_n 0, 1) := by decide +kernel
theorem dX5_firstFree_96 : decode cX5_firstFree 96 = .ok (.iload_n 1, 1) := by decide +kernel
theorem dX5_firstFree_97 : decode cX5_firstFree 97 = .ok (.iload_n 3, 1) := by decide +kernel
theorem dX5_firstFree_98 : decode cX5_firstFree 98 = .ok (.invokevirtual 61, 3) := by decide +kernel
theorem dX5_firstFree_101 : decode cX5_firstFree 101 = .ok (.ifCond .eq 5, 3) := by decide +kernel
theorem dX5_firstFree_104 : decode cX5_firstFree 104 = .ok (.iload_n 3, 1) := by decide +kernel
theorem dX5_firstFree_105 : decode cX5_firstFree 105 = .ok (.ireturn, 1) := by decide +kernel
theorem dX5_firstFree_106 : decode cX5_firstFree 106 = .ok (.iinc 3 1, 3) := by decide +kernel
theorem dX5_firstFree_109 : decode cX5_firstFree 109 = .ok (.goto (-27), 3) := by decide +kernel
theorem dX5_firstFree_112 : decode cX5_firstFree 112 = .ok (.iconst 0, 1) := by decide +kernel
theorem dX5_firstFree_113 : decode cX5_firstFree 113 = .ok (.ireturn, 1) := by decide +kernel
theorem dX5_bodyAt_0 : decode cX5_bodyAt 0 = .ok (.iload_n 2, 1) := by decide +kernel
theorem dX5_bodyAt_1 : decode cX5_bodyAt 1 = .ok (.ifCond .eq 11, 3) := by decide +kernel
theorem dX5_bodyAt_4 : decode cX5_bodyAt 4 = .ok (.iload_n 3, 1) := by decide +kernel
theorem dX5_bodyAt_5 : decode cX5_bodyAt 5 = .ok (.aload_n 0, 1) := by decide +kernel
theorem dX5_bodyAt_6 : decode cX5_bodyAt 6 = .ok (.getfield 15, 3) := by decide +kernel
theorem dX5_bodyAt_9 : decode cX5_bodyAt 9 = .ok (.if_icmp .le 5, 3) := by decide +kernel
theorem dX5_bodyAt_12 : decode cX5_bodyAt 12 = .ok (.iconst 0, 1) := by decide +kernel
theorem dX5_bodyAt_13 : decode cX5_bodyAt 13 = .ok (.ireturn, 1) := by decide +kernel
theorem dX5_bodyAt_14 : decode cX5_bodyAt 14 = .ok (.iconst 0, 1) := by decide +kernel
theorem dX5_bodyAt_15 : decode cX5_bodyAt 15 = .ok (.istore 4, 2) := by decide +kernel
theorem dX5_bodyAt_17 : decode cX5_bodyAt 17 = .ok (.iload_n 2, 1) := by decide +kernel
theorem dX5_bodyAt_18 : decode cX5_bodyAt 18 = .ok (.istore 5, 2) := by decide +kernel
theorem dX5_bodyAt_20 : decode cX5_bodyAt 20 = .ok (.iload 5, 2) := by decide +kernel
theorem dX5_bodyAt_22 : decode cX5_bodyAt 22 = .ok (.iload_n 2, 1) := by decide +kernel
theorem dX5_bodyAt_23 : decode cX5_bodyAt 23 = .ok (.iload_n 3, 1) := by decide +kernel
theorem dX5_bodyAt_24 : decode cX5_bodyAt 24 = .ok (.iadd, 1) := by decide +kernel
theorem dX5_bodyAt_25 : decode cX5_bodyAt 25 = .ok (.if_icmp .ge 74, 3) := by decide +kernel
theorem dX5_bodyAt_28 : decode cX5_bodyAt 28 = .ok (.iload 5, 2) := by decide +kernel
theorem dX5_bodyAt_30 : decode cX5_bodyAt 30 = .ok (.aload_n 0, 1) := by decide +kernel
theorem dX5_bodyAt_31 : decode cX5_bodyAt 31 = .ok (.getfield 15, 3) := by decide +kernel
theorem dX5_bodyAt_34 : decode cX5_bodyAt 34 = .ok (.if_icmp .le 13, 3) := by decide +kernel
theorem dX5_bodyAt_37 : decode cX5_bodyAt 37 = .ok (.aload_n 0, 1) := by decide +kernel
theorem dX5_bodyAt_38 : decode cX5_bodyAt 38 = .ok (.getfield 9, 3) := by decide +kernel
theorem dX5_bodyAt_41 : decode cX5_bodyAt 41 = .ok (.iconst 1, 1) := by decide +kernel
theorem dX5_bodyAt_42 : decode cX5_bodyAt 42 = .ok (.if_icmp .eq 5, 3) := by decide +kernel
theorem dX5_bodyAt_45 : decode cX5_bodyAt 45 = .ok (.iconst 0, 1) := by decide +kernel
theorem dX5_bodyAt_46 : decode cX5_bodyAt 46 = .ok (.ireturn, 1) := by decide +kernel
theorem dX5_bodyAt_47 : decode cX5_bodyAt 47 = .ok (.iload 5, 2) := by decide +kernel
theorem dX5_bodyAt_49 : decode cX5_bodyAt 49 = .ok (.aload_n 0, 1) := by decide +kernel
theorem dX5_bodyAt_50 : decode cX5_bodyAt 50 = .ok (.getfield 15, 3) := by decide +kernel
theorem dX5_bodyAt_53 : decode cX5_bodyAt 53 = .ok (.if_icmp .le 13, 3) := by decide +kernel
theorem dX5_bodyAt_56 : decode cX5_bodyAt 56 = .ok (.iload 5, 2) := by decide +kernel
theorem dX5_bodyAt_58 : decode cX5_bodyAt 58 = .ok (.aload_n 0, 1) := by decide +kernel
theorem dX5_bodyAt_59 : decode cX5_bodyAt 59 = .ok (.getfield 15, 3) := by decide +kernel
theorem dX5_bodyAt_62 : decode cX5_bodyAt 62 = .ok (.isub, 1) := by decide +kernel
theorem dX5_bodyAt_63 : decode cX5_bodyAt 63 = .ok (.goto 5, 3) := by decide +kernel
theorem dX5_bodyAt_66 : decode cX5_bodyAt 66 = .ok (.iload 5, 2) := by decide +kernel
theorem dX5_bodyAt_68 : decode cX5_bodyAt 68 = .ok (.istore 6, 2) := by decide +kernel
theorem dX5_bodyAt_70 : decode cX5_bodyAt 70 = .ok (.aload_n 0, 1) := by decide +kernel
theorem dX5_bodyAt_71 : decode cX5_bodyAt 71 = .ok (.iload_n 1, 1) := by decide +kernel
theorem dX5_bodyAt_72 : decode cX5_bodyAt 72 = .ok (.iload 6, 2) := by decide +kernel
theorem dX5_bodyAt_74 : decode cX5_bodyAt 74 = .ok (.invokevirtual 61, 3) := by decide +kernel
theorem dX5_bodyAt_77 : decode cX5_bodyAt 77 = .ok (.ifCond .ne 5, 3) := by decide +kernel
theorem dX5_bodyAt_80 : decode cX5_bodyAt 80 = .ok (.iconst 0, 1) := by decide +kernel
theorem dX5_bodyAt_81 : decode cX5_bodyAt 81 = .ok (.ireturn, 1) := by decide +kernel
theorem dX5_bodyAt_82 : decode cX5_bodyAt 82 = .ok (.iload 4, 2) := by decide +kernel
theorem dX5_bodyAt_84 : decode cX5_bodyAt 84 = .ok (.iconst 1, 1) := by decide +kernel
theorem dX5_bodyAt_85 : decode cX5_bodyAt 85 = .ok (.iload 6, 2) := by decide +kernel
theorem dX5_bodyAt_87 : decode cX5_bodyAt 87 = .ok (.iconst 1, 1) := by decide +kernel
theorem dX5_bodyAt_88 : decode cX5_bodyAt 88 = .ok (.isub, 1) := by decide +kernel
theorem dX5_bodyAt_89 : decode cX5_bodyAt 89 = .ok (.ishl, 1) := by decide +kernel
theorem dX5_bodyAt_90 : decode cX5_bodyAt 90 = .ok (.ior, 1) := by decide +kernel
theorem dX5_bodyAt_91 : decode cX5_bodyAt 91 = .ok (.istore 4, 2) := by decide +kernel
theorem dX5_bodyAt_93 : decode cX5_bodyAt 93 = .ok (.iinc 5 1, 3) := by decide +kernel
theorem dX5_bodyAt_96 : decode cX5_bodyAt 96 = .ok (.goto (-76), 3) := by decide +kernel
theorem dX5_bodyAt_99 : decode cX5_bodyAt 99 = .ok (.iload 4, 2) := by decide +kernel
theorem dX5_bodyAt_101 : decode cX5_bodyAt 101 = .ok (.ireturn, 1) := by decide +kernel
theorem dX5_hasPlace_0 : decode cX5_hasPlace 0 = .ok (.iload_n 1, 1) := by decide +kernel
theorem dX5_hasPlace_1 : decode cX5_hasPlace 1 = .ok (.iconst 1, 1) := by decide +kernel
theorem dX5_hasPlace_2 : decode cX5_hasPlace 2 = .ok (.if_icmp .lt 15, 3) := by decide +kernel
theorem dX5_hasPlace_5 : decode cX5_hasPlace 5 = .ok (.iload_n 1, 1) := by decide +kernel
theorem dX5_hasPlace_6 : decode cX5_hasPlace 6 = .ok (.aload_n 0, 1) := by decide +kernel
theorem dX5_hasPlace_7 : decode cX5_hasPlace 7 = .ok (.getfield 15, 3) := by decide +kernel
theorem dX5_hasPlace_10 : decode cX5_hasPlace 10 = .ok (.if_icmp .gt 7, 3) := by decide +kernel
theorem dX5_hasPlace_13 : decode cX5_hasPlace 13 = .ok (.iconst 1, 1) := by decide +kernel
theorem dX5_hasPlace_14 : decode cX5_hasPlace 14 = .ok (.goto 4, 3) := by decide +kernel
theorem dX5_hasPlace_17 : decode cX5_hasPlace 17 = .ok (.iconst 0, 1) := by decide +kernel
theorem dX5_hasPlace_18 : decode cX5_hasPlace 18 = .ok (.ireturn, 1) := by decide +kernel
theorem dX5_hasCar_0 : decode cX5_hasCar 0 = .ok (.iload_n 1, 1) := by decide +kernel
theorem dX5_hasCar_1 : decode cX5_hasCar 1 = .ok (.iconst 1, 1) := by decide +kernel
theorem dX5_hasCar_2 : decode cX5_hasCar 2 = .ok (.if_icmp .lt 15, 3) := by decide +kernel
theorem dX5_hasCar_5 : decode cX5_hasCar 5 = .ok (.iload_n 1, 1) := by decide +kernel
theorem dX5_hasCar_6 : decode cX5_hasCar 6 = .ok (.aload_n 0, 1) := by decide +kernel
theorem dX5_hasCar_7 : decode cX5_hasCar 7 = .ok (.getfield 21, 3) := by decide +kernel
theorem dX5_hasCar_10 : decode cX5_hasCar 10 = .ok (.if_icmp .gt 7, 3) := by decide +kernel
theorem dX5_hasCar_13 : decode cX5_hasCar 13 = .ok (.iconst 1, 1) := by decide +kernel
theorem dX5_hasCar_14 : decode cX5_hasCar 14 = .ok (.goto 4, 3) := by decide +kernel
theorem dX5_hasCar_17 : decode cX5_hasCar 17 = .ok (.iconst 0, 1) := by decide +kernel
theorem dX5_hasCar_18 : decode cX5_hasCar 18 = .ok (.ireturn, 1) := by decide +kernel
theorem dX5_comesIn_0 : decode cX5_comesIn 0 = .ok (.aload_n 0, 1) := by decide +kernel
theorem dX5_comesIn_1 : decode cX5_comesIn 1 = .ok (.getfield 34, 3) := by decide +kernel
theorem dX5_comesIn_4 : decode cX5_comesIn 4 = .ok (.iload_n 1, 1) := by decide +kernel
theorem dX5_comesIn_5 : decode cX5_comesIn 5 = .ok (.iaload, 1) := by decide +kernel
theorem dX5_comesIn_6 : decode cX5_comesIn 6 = .ok (.ifCond .eq 7, 3) := by decide +kernel
theorem dX5_comesIn_9 : decode cX5_comesIn 9 = .ok (.iconst 1, 1) := by decide +kernel
theorem dX5_comesIn_10 : decode cX5_comesIn 10 = .ok (.goto 4, 3) := by decide +kernel
theorem dX5_comesIn_13 : decode cX5_comesIn 13 = .ok (.iconst 0, 1) := by decide +kernel
theorem dX5_comesIn_14 : decode cX5_comesIn 14 = .ok (.ireturn, 1) := by decide +kernel
theorem dX5_isLucky_0 : decode cX5_isLucky 0 = .ok (.aload_n 0, 1) := by decide +kernel
theorem dX5_isLucky_1 : decode cX5_isLucky 1 = .ok (.getfield 34, 3) := by decide +kernel
theorem dX5_isLucky_4 : decode cX5_isLucky 4 = .ok (.iload_n 1, 1) := by decide +kernel
theorem dX5_isLucky_5 : decode cX5_isLucky 5 = .ok (.iaload, 1) := by decide +kernel
theorem dX5_isLucky_6 : decode cX5_isLucky 6 = .ok (.aload_n 0, 1) := by decide +kernel
theorem dX5_isLucky_7 : decode cX5_isLucky 7 = .ok (.getfield 27, 3) := by decide +kernel
theorem dX5_isLucky_10 : decode cX5_isLucky 10 = .ok (.iload_n 1, 1) := by decide +kernel
theorem dX5_isLucky_11 : decode cX5_isLucky 11 = .ok (.iaload, 1) := by decide +kernel
theorem dX5_isLucky_12 : decode cX5_isLucky 12 = .ok (.if_icmp .ne 7, 3) := by decide +kernel
theorem dX5_isLucky_15 : decode cX5_isLucky 15 = .ok (.iconst 1, 1) := by decide +kernel
theorem dX5_isLucky_16 : decode cX5_isLucky 16 = .ok (.goto 4, 3) := by decide +kernel
theorem dX5_isLucky_19 : decode cX5_isLucky 19 = .ok (.iconst 0, 1) := by decide +kernel
theorem dX5_isLucky_20 : decode cX5_isLucky 20 = .ok (.ireturn, 1) := by decide +kernel
theorem dX5_far_0 : decode cX5_far 0 = .ok (.aload_n 0, 1) := by decide +kernel
theorem dX5_far_1 : decode cX5_far 1 = .ok (.getfield 34, 3) := by decide +kernel
theorem dX5_far_4 : decode cX5_far 4 = .ok (.iload_n 1, 1) := by decide +kernel
theorem dX5_far_5 : decode cX5_far 5 = .ok (.iaload, 1) := by decide +kernel
theorem dX5_far_6 : decode cX5_far 6 = .ok (.aload_n 0, 1) := by decide +kernel
theorem dX5_far_7 : decode cX5_far 7 = .ok (.getfield 27, 3) := by decide +kernel
theorem dX5_far_10 : decode cX5_far 10 = .ok (.iload_n 1, 1) := by decide +kernel
theorem dX5_far_11 : decode cX5_far 11 = .ok (.iaload, 1) := by decide +kernel
theorem dX5_far_12 : decode cX5_far 12 = .ok (.isub, 1) := by decide +kernel
theorem dX5_far_13 : decode cX5_far 13 = .ok (.istore_n 2, 1) := by decide +kernel
theorem dX5_far_14 : decode cX5_far 14 = .ok (.iload_n 2, 1) := by decide +kernel
theorem dX5_far_15 : decode cX5_far 15 = .ok (.ifCond .lt 5, 3) := by decide +kernel
theorem dX5_far_18 : decode cX5_far 18 = .ok (.iload_n 2, 1) := by decide +kernel
theorem dX5_far_19 : decode cX5_far 19 = .ok (.ireturn, 1) := by decide +kernel
theorem dX5_far_20 : decode cX5_far 20 = .ok (.aload_n 0, 1) := by decide +kernel
theorem dX5_far_21 : decode cX5_far 21 = .ok (.getfield 9, 3) := by decide +kernel
theorem dX5_far_24 : decode cX5_far 24 = .ok (.iconst 1, 1) := by decide +kernel
theorem dX5_far_25 : decode cX5_far 25 = .ok (.if_icmp .ne 12, 3) := by decide +kernel
theorem dX5_far_28 : decode cX5_far 28 = .ok (.iload_n 2, 1) := by decide +kernel
theorem dX5_far_29 : decode cX5_far 29 = .ok (.aload_n 0, 1) := by decide +kernel
theorem dX5_far_30 : decode cX5_far 30 = .ok (.getfield 15, 3) := by decide +kernel
theorem dX5_far_33 : decode cX5_far 33 = .ok (.iadd, 1) := by decide +kernel
theorem dX5_far_34 : decode cX5_far 34 = .ok (.goto 5, 3) := by decide +kernel
theorem dX5_far_37 : decode cX5_far 37 = .ok (.iload_n 2, 1) := by decide +kernel
theorem dX5_far_38 : decode cX5_far 38 = .ok (.ineg, 1) := by decide +kernel
theorem dX5_far_39 : decode cX5_far 39 = .ok (.ireturn, 1) := by decide +kernel
theorem dX5_carOn_0 : decode cX5_carOn 0 = .ok (.iconst 1, 1) := by decide +kernel
theorem dX5_carOn_1 : decode cX5_carOn 1 = .ok (.istore_n 2, 1) := by decide +kernel
theorem dX5_carOn_2 : decode cX5_carOn 2 = .ok (.iload_n 2, 1) := by decide +kernel
theorem dX5_carOn_3 : decode cX5_carOn 3 = .ok (.aload_n 0, 1) := by decide +kernel
theorem dX5_carOn_4 : decode cX5_carOn 4 = .ok (.getfield 21, 3) := by decide +kernel
theorem dX5_carOn_7 : decode cX5_carOn 7 = .ok (.if_icmp .gt 25, 3) := by decide +kernel
theorem dX5_carOn_10 : decode cX5_carOn 10 = .ok (.aload_n 0, 1) := by decide +kernel
theorem dX5_carOn_11 : decode cX5_carOn 11 = .ok (.aload_n 0, 1) := by decide +kernel
theorem dX5_carOn_12 : decode cX5_carOn 12 = .ok (.getfield 37, 3) := by decide +kernel
theorem dX5_carOn_15 : decode cX5_carOn 15 = .ok (.iload_n 2, 1) := by decide +kernel
theorem dX5_carOn_16 : decode cX5_carOn 16 = .ok (.iaload, 1) := by decide +kernel
theorem dX5_carOn_17 : decode cX5_carOn 17 = .ok (.iload_n 1, 1) := by decide +kernel
theorem dX5_carOn_18 : decode cX5_carOn 18 = .ok (.invokevirtual 61, 3) := by decide +kernel
theorem dX5_carOn_21 : decode cX5_carOn 21 = .ok (.ifCond .ne 5, 3) := by decide +kernel
theorem dX5_carOn_24 : decode cX5_carOn 24 = .ok (.iload_n 2, 1) := by decide +kernel
theorem dX5_carOn_25 : decode cX5_carOn 25 = .ok (.ireturn, 1) := by decide +kernel
theorem dX5_carOn_26 : decode cX5_carOn 26 = .ok (.iinc 2 1, 3) := by decide +kernel
theorem dX5_carOn_29 : decode cX5_carOn 29 = .ok (.goto (-27), 3) := by decide +kernel
theorem dX5_carOn_32 : decode cX5_carOn 32 = .ok (.bipush (-4), 2) := by decide +kernel
theorem dX5_carOn_34 : decode cX5_carOn 34 = .ok (.ireturn, 1) := by decide +kernel
theorem dX5_howManyIn_0 : decode cX5_howManyIn 0 = .ok (.iconst 0, 1) := by decide +kernel
theorem dX5_howManyIn_1 : decode cX5_howManyIn 1 = .ok (.istore_n 1, 1) := by decide +kernel
theorem dX5_howManyIn_2 : decode cX5_howManyIn 2 = .ok (.iconst 1, 1) := by decide +kernel
theorem dX5_howManyIn_3 : decode cX5_howManyIn 3 = .ok (.istore_n 2, 1) := by decide +kernel
theorem dX5_howManyIn_4 : decode cX5_howManyIn 4 = .ok (.iload_n 2, 1) := by decide +kernel
theorem dX5_howManyIn_5 : decode cX5_howManyIn 5 = .ok (.aload_n 0, 1) := by decide +kernel
theorem dX5_howManyIn_6 : decode cX5_howManyIn 6 = .ok (.getfield 21, 3) := by decide +kernel
theorem dX5_howManyIn_9 : decode cX5_howManyIn 9 = .ok (.if_icmp .gt 20, 3) := by decide +kernel
theorem dX5_howManyIn_12 : decode cX5_howManyIn 12 = .ok (.aload_n 0, 1) := by decide +kernel
theorem dX5_howManyIn_13 : decode cX5_howManyIn 13 = .ok (.iload_n 2, 1) := by decide +kernel
theorem dX5_howManyIn_14 : decode cX5_howManyIn 14 = .ok (.invokevirtual 65, 3) := by decide +kernel
theorem dX5_howManyIn_17 : decode cX5_howManyIn 17 = .ok (.ifCond .eq 6, 3) := by decide +kernel
theorem dX5_howManyIn_20 : decode cX5_howManyIn 20 = .ok (.iinc 1 1, 3) := by decide +kernel
theorem dX5_howManyIn_23 : decode cX5_howManyIn 23 = .ok (.iinc 2 1, 3) := by decide +kernel
theorem dX5_howManyIn_26 : decode cX5_howManyIn 26 = .ok (.goto (-22), 3) := by decide +kernel
theorem dX5_howManyIn_29 : decode cX5_howManyIn 29 = .ok (.iload_n 1, 1) := by decide +kernel
theorem dX5_howManyIn_30 : decode cX5_howManyIn 30 = .ok (.ireturn, 1) := by decide +kernel
theorem dX5_howManyLucky_0 : decode cX5_howManyLucky 0 = .ok (.iconst 0, 1) := by decide +kernel
theorem dX5_howManyLucky_1 : decode cX5_howManyLucky 1 = .ok (.istore_n 1, 1) := by decide +kernel
theorem dX5_howManyLucky_2 : decode cX5_howManyLucky 2 = .ok (.iconst 1, 1) := by decide +kernel
theorem dX5_howManyLucky_3 : decode cX5_howManyLucky 3 = .ok (.istore_n 2, 1) := by decide +kernel
theorem dX5_howManyLucky_4 : decode cX5_howManyLucky 4 = .ok (.iload_n 2, 1) := by decide +kernel
theorem dX5_howManyLucky_5 : decode cX5_howManyLucky 5 = .ok (.aload_n 0, 1) := by decide +kernel
theorem dX5_howManyLucky_6 : decode cX5_howManyLucky 6 = .ok (.getfield 21, 3) := by decide +kernel
theorem dX5_howManyLucky_9 : decode cX5_howManyLucky 9 = .ok (.if_icmp .gt 20, 3) := by decide +kernel
theorem dX5_howManyLucky_12 : decode cX5_howManyLucky 12 = .ok (.aload_n 0, 1) := by decide +kernel
theorem dX5_howManyLucky_13 : decode cX5_howManyLucky 13 = .ok (.iload_n 2, 1) := by decide +kernel
theorem dX5_howManyLucky_14 : decode cX5_howManyLucky 14 = .ok (.invokevirtual 69, 3) := by decide +kernel
theorem dX5_howManyLucky_17 : decode cX5_howManyLucky 17 = .ok (.ifCond .eq 6, 3) := by decide +kernel
theorem dX5_howManyLucky_20 : decode cX5_howManyLucky 20 = .ok (.iinc 1 1, 3) := by decide +kernel
theorem dX5_howManyLucky_23 : decode cX5_howManyLucky 23 = .ok (.iinc 2 1, 3) := by decide +kernel
theorem dX5_howManyLucky_26 : decode cX5_howManyLucky 26 = .ok (.goto (-22), 3) := by decide +kernel
theorem dX5_howManyLucky_29 : decode cX5_howManyLucky 29 = .ok (.iload_n 1, 1) := by decide +kernel
theorem dX5_howManyLucky_30 : decode cX5_howManyLucky 30 = .ok (.ireturn, 1) := by decide +kernel
theorem dX5_farOfAll_0 : decode cX5_farOfAll 0 = .ok (.iconst 0, 1) := by decide +kernel
theorem dX5_farOfAll_1 : decode cX5_farOfAll 1 = .ok (.istore_n 1, 1) := by decide +kernel
theorem dX5_farOfAll_2 : decode cX5_farOfAll 2 = .ok (.iconst 1, 1) := by decide +kernel
theorem dX5_farOfAll_3 : decode cX5_farOfAll 3 = .ok (.istore_n 2, 1) := by decide +kernel
theorem dX5_farOfAll_4 : decode cX5_farOfAll 4 = .ok (.iload_n 2, 1) := by decide +kernel
theorem dX5_farOfAll_5 : decode cX5_farOfAll 5 = .ok (.aload_n 0, 1) := by decide +kernel
theorem dX5_farOfAll_6 : decode cX5_farOfAll 6 = .ok (.getfield 21, 3) := by decide +kernel
theorem dX5_farOfAll_9 : decode cX5_farOfAll 9 = .ok (.if_icmp .gt 25, 3) := by decide +kernel
theorem dX5_farOfAll_12 : decode cX5_farOfAll 12 = .ok (.aload_n 0, 1) := by decide +kernel
theorem dX5_farOfAll_13 : decode cX5_farOfAll 13 = .ok (.iload_n 2, 1) := by decide +kernel
theorem dX5_farOfAll_14 : decode cX5_farOfAll 14 = .ok (.invokevirtual 65, 3) := by decide +kernel
theorem dX5_farOfAll_17 : decode cX5_farOfAll 17 = .ok (.ifCond .eq 11, 3) := by decide +kernel
theorem dX5_farOfAll_20 : decode cX5_farOfAll 20 = .ok (.iload_n 1, 1) := by decide +kernel
theorem dX5_farOfAll_21 : decode cX5_farOfAll 21 = .ok (.aload_n 0, 1) := by decide +kernel
theorem dX5_farOfAll_22 : decode cX5_farOfAll 22 = .ok (.iload_n 2, 1) := by decide +kernel
theorem dX5_farOfAll_23 : decode cX5_farOfAll 23 = .ok (.invokevirtual 72, 3) := by decide +kernel
theorem dX5_farOfAll_26 : decode cX5_farOfAll 26 = .ok (.iadd, 1) := by decide +kernel
theorem dX5_farOfAll_27 : decode cX5_farOfAll 27 = .ok (.istore_n 1, 1) := by decide +kernel
theorem dX5_farOfAll_28 : decode cX5_farOfAll 28 = .ok (.iinc 2 1, 3) := by decide +kernel
theorem dX5_farOfAll_31 : decode cX5_farOfAll 31 = .ok (.goto (-27), 3) := by decide +kernel
theorem dX5_farOfAll_34 : decode cX5_farOfAll 34 = .ok (.iload_n 1, 1) := by decide +kernel
theorem dX5_farOfAll_35 : decode cX5_farOfAll 35 = .ok (.ireturn, 1) := by decide +kernel
theorem dX5_farthest_0 : decode cX5_farthest 0 = .ok (.iconst 0, 1) := by decide +kernel
theorem dX5_farthest_1 : decode cX5_farthest 1 = .ok (.istore_n 1, 1) := by decide +kernel
theorem dX5_farthest_2 : decode cX5_farthest 2 = .ok (.iconst 1, 1) := by decide +kernel
theorem dX5_farthest_3 : decode cX5_farthest 3 = .ok (.istore_n 2, 1) := by decide +kernel
theorem dX5_farthest_4 : decode cX5_farthest 4 = .ok (.iload_n 2, 1) := by decide +kernel
theorem dX5_farthest_5 : decode cX5_farthest 5 = .ok (.aload_n 0, 1) := by decide +kernel
theorem dX5_farthest_6 : decode cX5_farthest 6 = .ok (.getfield 21, 3) := by decide +kernel
theorem dX5_farthest_9 : decode cX5_farthest 9 = .ok (.if_icmp .gt 27, 3) := by decide +kernel
theorem dX5_farthest_12 : decode cX5_farthest 12 = .ok (.aload_n 0, 1) := by decide +kernel
theorem dX5_farthest_13 : decode cX5_farthest 13 = .ok (.iload_n 2, 1) := by decide +kernel
theorem dX5_farthest_14 : decode cX5_farthest 14 = .ok (.invokevirtual 65, 3) := by decide +kernel
theorem dX5_farthest_17 : decode cX5_farthest 17 = .ok (.ifCond .eq 13, 3) := by decide +kernel
theorem dX5_farthest_20 : decode cX5_farthest 20 = .ok (.iload_n 1, 1) := by decide +kernel
theorem dX5_farthest_21 : decode cX5_farthest 21 = .ok (.aload_n 0, 1) := by decide +kernel
theorem dX5_farthest_22 : decode cX5_farthest 22 = .ok (.iload_n 2, 1) := by decide +kernel
theorem dX5_farthest_23 : decode cX5_farthest 23 = .ok (.invokevirtual 72, 3) := by decide +kernel
theorem dX5_farthest_26 : decode cX5_farthest 26 = .ok (.invokestatic 76, 3) := by decide +kernel
theorem dX5_farthest_29 : decode cX5_farthest 29 = .ok (.istore_n 1, 1) := by decide +kernel
theorem dX5_farthest_30 : decode cX5_farthest 30 = .ok (.iinc 2 1, 3) := by decide +kernel
theorem dX5_farthest_33 : decode cX5_farthest 33 = .ok (.goto (-29), 3) := by decide +kernel
theorem dX5_farthest_36 : decode cX5_farthest 36 = .ok (.iload_n 1, 1) := by decide +kernel
theorem dX5_farthest_37 : decode cX5_farthest 37 = .ok (.ireturn, 1) := by decide +kernel
theorem dX5_allIn_0 : decode cX5_allIn 0 = .ok (.aload_n 0, 1) := by decide +kernel
theorem dX5_allIn_1 : decode cX5_allIn 1 = .ok (.invokevirtual 81, 3) := by decide +kernel
theorem dX5_allIn_4 : decode cX5_allIn 4 = .ok (.aload_n 0, 1) := by decide +kernel
theorem dX5_allIn_5 : decode cX5_allIn 5 = .ok (.getfield 21, 3) := by decide +kernel
theorem dX5_allIn_8 : decode cX5_allIn 8 = .ok (.if_icmp .ne 7, 3) := by decide +kernel
theorem dX5_allIn_11 : decode cX5_allIn 11 = .ok (.iconst 1, 1) := by decide +kernel
theorem dX5_allIn_12 : decode cX5_allIn 12 = .ok (.goto 4, 3) := by decide +kernel
theorem dX5_allIn_15 : decode cX5_allIn 15 = .ok (.iconst 0, 1) := by decide +kernel
theorem dX5_allIn_16 : decode cX5_allIn 16 = .ok (.ireturn, 1) := by decide +kernel
theorem dX5_isPlain_0 : decode cX5_isPlain 0 = .ok (.iconst 1, 1) := by decide +kernel
theorem dX5_isPlain_1 : decode cX5_isPlain 1 = .ok (.istore_n 1, 1) := by decide +kernel
theorem dX5_isPlain_2 : decode cX5_isPlain 2 = .ok (.iload_n 1, 1) := by decide +kernel
theorem dX5_isPlain_3 : decode cX5_isPlain 3 = .ok (.aload_n 0, 1) := by decide +kernel
theorem dX5_isPlain_4 : decode cX5_isPlain 4 = .ok (.getfield 21, 3) := by decide +kernel
theorem dX5_isPlain_7 : decode cX5_isPlain 7 = .ok (.if_icmp .gt 21, 3) := by decide +kernel
theorem dX5_isPlain_10 : decode cX5_isPlain 10 = .ok (.aload_n 0, 1) := by decide +kernel
theorem dX5_isPlain_11 : decode cX5_isPlain 11 = .ok (.getfield 31, 3) := by decide +kernel
theorem dX5_isPlain_14 : decode cX5_isPlain 14 = .ok (.iload_n 1, 1) := by decide +kernel
theorem dX5_isPlain_15 : decode cX5_isPlain 15 = .ok (.iaload, 1) := by decide +kernel
theorem dX5_isPlain_16 : decode cX5_isPlain 16 = .ok (.iconst 1, 1) := by decide +kernel
theorem dX5_isPlain_17 : decode cX5_isPlain 17 = .ok (.if_icmp .eq 5, 3) := by decide +kernel
theorem dX5_isPlain_20 : decode cX5_isPlain 20 = .ok (.iconst 0, 1) := by decide +kernel
theorem dX5_isPlain_21 : decode cX5_isPlain 21 = .ok (.ireturn, 1) := by decide +kernel
theorem dX5_isPlain_22 : decode cX5_isPlain 22 = .ok (.iinc 1 1, 3) := by decide +kernel
theorem dX5_isPlain_25 : decode cX5_isPlain 25 = .ok (.goto (-23), 3) := by decide +kernel
theorem dX5_isPlain_28 : decode cX5_isPlain 28 = .ok (.aload_n 0, 1) := by decide +kernel
theorem dX5_isPlain_29 : decode cX5_isPlain 29 = .ok (.getfield 9, 3) := by decide +kernel
theorem dX5_isPlain_32 : decode cX5_isPlain 32 = .ok (.ifCond .ne 7, 3) := by decide +kernel
theorem dX5_isPlain_35 : decode cX5_isPlain 35 = .ok (.iconst 1, 1) := by decide +kernel
theorem dX5_isPlain_36 : decode cX5_isPlain 36 = .ok (.goto 4, 3) := by decide +kernel
theorem dX5_isPlain_39 : decode cX5_isPlain 39 = .ok (.iconst 0, 1) := by decide +kernel
theorem dX5_isPlain_40 : decode cX5_isPlain 40 = .ok (.ireturn, 1) := by decide +kernel
theorem dX5_isRising_0 : decode cX5_isRising 0 = .ok (.iconst 2, 1) := by decide +kernel
theorem dX5_isRising_1 : decode cX5_isRising 1 = .ok (.istore_n 1, 1) := by decide +kernel
theorem dX5_isRising_2 : decode cX5_isRising 2 = .ok (.iload_n 1, 1) := by decide +kernel
theorem dX5_isRising_3 : decode cX5_isRising 3 = .ok (.aload_n 0, 1) := by decide +kernel
theorem dX5_isRising_4 : decode cX5_isRising 4 = .ok (.getfield 21, 3) := by decide +kernel
theorem dX5_isRising_7 : decode cX5_isRising 7 = .ok (.if_icmp .gt 28, 3) := by decide +kernel
theorem dX5_isRising_10 : decode cX5_isRising 10 = .ok (.aload_n 0, 1) := by decide +kernel
theorem dX5_isRising_11 : decode cX5_isRising 11 = .ok (.getfield 27, 3) := by decide +kernel
theorem dX5_isRising_14 : decode cX5_isRising 14 = .ok (.iload_n 1, 1) := by decide +kernel
theorem dX5_isRising_15 : decode cX5_isRising 15 = .ok (.iaload, 1) := by decide +kernel
theorem dX5_isRising_16 : decode cX5_isRising 16 = .ok (.aload_n 0, 1) := by decide +kernel
theorem dX5_isRising_17 : decode cX5_isRising 17 = .ok (.getfield 27, 3) := by decide +kernel
theorem dX5_isRising_20 : decode cX5_isRising 20 = .ok (.iload_n 1, 1) := by decide +kernel
theorem dX5_isRising_21 : decode cX5_isRising 21 = .ok (.iconst 1, 1) := by decide +kernel
theorem dX5_isRising_22 : decode cX5_isRising 22 = .ok (.isub, 1) := by decide +kernel
theorem dX5_isRising_23 : decode cX5_isRising 23 = .ok (.iaload, 1) := by decide +kernel
theorem dX5_isRising_24 : decode cX5_isRising 24 = .ok (.if_icmp .ge 5, 3) := by decide +kernel
theorem dX5_isRising_27 : decode cX5_isRising 27 = .ok (.iconst 0, 1) := by decide +kernel
theorem dX5_isRising_28 : decode cX5_isRising 28 = .ok (.ireturn, 1) := by decide +kernel
theorem dX5_isRising_29 : decode cX5_isRising 29 = .ok (.iinc 1 1, 3) := by decide +kernel
theorem dX5_isRising_32 : decode cX5_isRising 32 = .ok (.goto (-30), 3) := by decide +kernel
theorem dX5_isRising_35 : decode cX5_isRising 35 = .ok (.iconst 1, 1) := by decide +kernel
theorem dX5_isRising_36 : decode cX5_isRising 36 = .ok (.ireturn, 1) := by decide +kernel
theorem dX5_hasFewRows_0 : decode cX5_hasFewRows 0 = .ok (.iconst 1, 1) := by decide +kernel
theorem dX5_hasFewRows_1 : decode cX5_hasFewRows 1 = .ok (.istore_n 1, 1) := by decide +kernel
theorem dX5_hasFewRows_2 : decode cX5_hasFewRows 2 = .ok (.iconst 1, 1) := by decide +kernel
theorem dX5_hasFewRows_3 : decode cX5_hasFewRows 3 = .ok (.istore_n 2, 1) := by decide +kernel
theorem dX5_hasFewRows_4 : decode cX5_hasFewRows 4 = .ok (.iload_n 2, 1) := by decide +kernel
theorem dX5_hasFewRows_5 : decode cX5_hasFewRows 5 = .ok (.aload_n 0, 1) := by decide +kernel
theorem dX5_hasFewRows_6 : decode cX5_hasFewRows 6 = .ok (.getfield 21, 3) := by decide +kernel
theorem dX5_hasFewRows_9 : decode cX5_hasFewRows 9 = .ok (.if_icmp .gt 22, 3) := by decide +kernel
theorem dX5_hasFewRows_12 : decode cX5_hasFewRows 12 = .ok (.iload_n 1, 1) := by decide +kernel
theorem dX5_hasFewRows_13 : decode cX5_hasFewRows 13 = .ok (.ldc 85, 2) := by decide +kernel
theorem dX5_hasFewRows_15 : decode cX5_hasFewRows 15 = .ok (.if_icmp .gt 16, 3) := by decide +kernel
theorem dX5_hasFewRows_18 : decode cX5_hasFewRows 18 = .ok (.iload_n 1, 1) := by decide +kernel
theorem dX5_hasFewRows_19 : decode cX5_hasFewRows 19 = .ok (.aload_n 0, 1) := by decide +kernel
theorem dX5_hasFewRows_20 : decode cX5_hasFewRows 20 = .ok (.getfield 15, 3) := by decide +kernel
theorem dX5_hasFewRows_23 : decode cX5_hasFewRows 23 = .ok (.imul, 1) := by decide +kernel
theorem dX5_hasFewRows_24 : decode cX5_hasFewRows 24 = .ok (.istore_n 1, 1) := by decide +kernel
theorem dX5_hasFewRows_25 : decode cX5_hasFewRows 25 = .ok (.iinc 2 1, 3) := by decide +kernel
theorem dX5_hasFewRows_28 : decode cX5_hasFewRows 28 = .ok (.goto (-24), 3) := by decide +kernel
theorem dX5_hasFewRows_31 : decode cX5_hasFewRows 31 = .ok (.iload_n 1, 1) := by decide +kernel
theorem dX5_hasFewRows_32 : decode cX5_hasFewRows 32 = .ok (.ldc 85, 2) := by decide +kernel
theorem dX5_hasFewRows_34 : decode cX5_hasFewRows 34 = .ok (.if_icmp .gt 7, 3) := by decide +kernel
theorem dX5_hasFewRows_37 : decode cX5_hasFewRows 37 = .ok (.iconst 1, 1) := by decide +kernel
theorem dX5_hasFewRows_38 : decode cX5_hasFewRows 38 = .ok (.goto 4, 3) := by decide +kernel
theorem dX5_hasFewRows_41 : decode cX5_hasFewRows 41 = .ok (.iconst 0, 1) := by decide +kernel
theorem dX5_hasFewRows_42 : decode cX5_hasFewRows 42 = .ok (.ireturn, 1) := by decide +kernel
theorem dX5_rowsLikeIt_0 : decode cX5_rowsLikeIt 0 = .ok (.lconst 1, 1) := by decide +kernel
theorem dX5_rowsLikeIt_1 : decode cX5_rowsLikeIt 1 = .ok (.lstore_n 1, 1) := by decide +kernel
theorem dX5_rowsLikeIt_2 : decode cX5_rowsLikeIt 2 = .ok (.iconst 0, 1) := by decide +kernel
theorem dX5_rowsLikeIt_3 : decode cX5_rowsLikeIt 3 = .ok (.istore_n 3, 1) := by decide +kernel
theorem dX5_rowsLikeIt_4 : decode cX5_rowsLikeIt 4 = .ok (.iconst 1, 1) := by decide +kernel
theorem dX5_rowsLikeIt_5 : decode cX5_rowsLikeIt 5 = .ok (.istore 4, 2) := by decide +kernel
theorem dX5_rowsLikeIt_7 : decode cX5_rowsLikeIt 7 = .ok (.iload 4, 2) := by decide +kernel
theorem dX5_rowsLikeIt_9 : decode cX5_rowsLikeIt 9 = .ok (.aload_n 0, 1) := by decide +kernel
theorem dX5_rowsLikeIt_10 : decode cX5_rowsLikeIt 10 = .ok (.getfield 21, 3) := by decide +kernel
theorem dX5_rowsLikeIt_13 : decode cX5_rowsLikeIt 13 = .ok (.if_icmp .gt 68, 3) := by decide +kernel
theorem dX5_rowsLikeIt_16 : decode cX5_rowsLikeIt 16 = .ok (.aload_n 0, 1) := by decide +kernel
theorem dX5_rowsLikeIt_17 : decode cX5_rowsLikeIt 17 = .ok (.getfield 34, 3) := by decide +kernel
theorem dX5_rowsLikeIt_20 : decode cX5_rowsLikeIt 20 = .ok (.iload 4, 2) := by decide +kernel
theorem dX5_rowsLikeIt_22 : decode cX5_rowsLikeIt 22 = .ok (.iaload, 1) := by decide +kernel
theorem dX5_rowsLikeIt_23 : decode cX5_rowsLikeIt 23 = .ok (.istore 5, 2) := by decide +kernel
theorem dX5_rowsLikeIt_25 : decode cX5_rowsLikeIt 25 = .ok (.iload 5, 2) := by decide +kernel
theorem dX5_rowsLikeIt_27 : decode cX5_rowsLikeIt 27 = .ok (.iconst 1, 1) := by decide +kernel
theorem dX5_rowsLikeIt_28 : decode cX5_rowsLikeIt 28 = .ok (.if_icmp .le 21, 3) := by decide +kernel
theorem dX5_rowsLikeIt_31 : decode cX5_rowsLikeIt 31 = .ok (.aload_n 0, 1) := by decide +kernel
theorem dX5_rowsLikeIt_32 : decode cX5_rowsLikeIt 32 = .ok (.iload_n 3, 1) := by decide +kernel
theorem dX5_rowsLikeIt_33 : decode cX5_rowsLikeIt 33 = .ok (.iload 5, 2) := by decide +kernel
theorem dX5_rowsLikeIt_35 : decode cX5_rowsLikeIt 35 = .ok (.iconst 1, 1) := by decide +kernel
theorem dX5_rowsLikeIt_36 : decode cX5_rowsLikeIt 36 = .ok (.isub, 1) := by decide +kernel
theorem dX5_rowsLikeIt_37 : decode cX5_rowsLikeIt 37 = .ok (.invokevirtual 61, 3) := by decide +kernel
theorem dX5_rowsLikeIt_40 : decode cX5_rowsLikeIt 40 = .ok (.ifCond .ne 9, 3) := by decide +kernel
theorem dX5_rowsLikeIt_43 : decode cX5_rowsLikeIt 43 = .ok (.iinc 5 (-1), 3) := by decide +kernel
theorem dX5_rowsLikeIt_46 : decode cX5_rowsLikeIt 46 = .ok (.goto (-21), 3) := by decide +kernel
theorem dX5_rowsLikeIt_49 : decode cX5_rowsLikeIt 49 = .ok (.lload_n 1, 1) := by decide +kernel
theorem dX5_rowsLikeIt_50 : decode cX5_rowsLikeIt 50 = .ok (.aload_n 0, 1) := by decide +kernel
theorem dX5_rowsLikeIt_51 : decode cX5_rowsLikeIt 51 = .ok (.getfield 34, 3) := by decide +kernel
theorem dX5_rowsLikeIt_54 : decode cX5_rowsLikeIt 54 = .ok (.iload 4, 2) := by decide +kernel
theorem dX5_rowsLikeIt_56 : decode cX5_rowsLikeIt 56 = .ok (.iaload, 1) := by decide +kernel
theorem dX5_rowsLikeIt_57 : decode cX5_rowsLikeIt 57 = .ok (.iload 5, 2) := by decide +kernel
theorem dX5_rowsLikeIt_59 : decode cX5_rowsLikeIt 59 = .ok (.isub, 1) := by decide +kernel
theorem dX5_rowsLikeIt_60 : decode cX5_rowsLikeIt 60 = .ok (.iconst 1, 1) := by decide +kernel
theorem dX5_rowsLikeIt_61 : decode cX5_rowsLikeIt 61 = .ok (.iadd, 1) := by decide +kernel
theorem dX5_rowsLikeIt_62 : decode cX5_rowsLikeIt 62 = .ok (.i2l, 1) := by decide +kernel
theorem dX5_rowsLikeIt_63 : decode cX5_rowsLikeIt 63 = .ok (.lmul, 1) := by decide +kernel
theorem dX5_rowsLikeIt_64 : decode cX5_rowsLikeIt 64 = .ok (.lstore_n 1, 1) := by decide +kernel
theorem dX5_rowsLikeIt_65 : decode cX5_rowsLikeIt 65 = .ok (.iload_n 3, 1) := by decide +kernel
theorem dX5_rowsLikeIt_66 : decode cX5_rowsLikeIt 66 = .ok (.aload_n 0, 1) := by decide +kernel
theorem dX5_rowsLikeIt_67 : decode cX5_rowsLikeIt 67 = .ok (.getfield 37, 3) := by decide +kernel
theorem dX5_rowsLikeIt_70 : decode cX5_rowsLikeIt 70 = .ok (.iload 4, 2) := by decide +kernel
theorem dX5_rowsLikeIt_72 : decode cX5_rowsLikeIt 72 = .ok (.iaload, 1) := by decide +kernel
theorem dX5_rowsLikeIt_73 : decode cX5_rowsLikeIt 73 = .ok (.ior, 1) := by decide +kernel
theorem dX5_rowsLikeIt_74 : decode cX5_rowsLikeIt 74 = .ok (.istore_n 3, 1) := by decide +kernel
theorem dX5_rowsLikeIt_75 : decode cX5_rowsLikeIt 75 = .ok (.iinc 4 1, 3) := by decide +kernel
theorem dX5_rowsLikeIt_78 : decode cX5_rowsLikeIt 78 = .ok (.goto (-71), 3) := by decide +kernel
theorem dX5_rowsLikeIt_81 : decode cX5_rowsLikeIt 81 = .ok (.lload_n 1, 1) := by decide +kernel
theorem dX5_rowsLikeIt_82 : decode cX5_rowsLikeIt 82 = .ok (.lreturn, 1) := by decide +kernel
theorem dX5_ordersOfWishes_0 : decode cX5_ordersOfWishes 0 = .ok (.lconst 1, 1) := by decide +kernel
theorem dX5_ordersOfWishes_1 : decode cX5_ordersOfWishes 1 = .ok (.lstore_n 1, 1) := by decide +kernel
theorem dX5_ordersOfWishes_2 : decode cX5_ordersOfWishes 2 = .ok (.iconst 1, 1) := by decide +kernel
theorem dX5_ordersOfWishes_3 : decode cX5_ordersOfWishes 3 = .ok (.istore_n 3, 1) := by decide +kernel
theorem dX5_ordersOfWishes_4 : decode cX5_ordersOfWishes 4 = .ok (.iload_n 3, 1) := by decide +kernel
theorem dX5_ordersOfWishes_5 : decode cX5_ordersOfWishes 5 = .ok (.aload_n 0, 1) := by decide +kernel
theorem dX5_ordersOfWishes_6 : decode cX5_ordersOfWishes 6 = .ok (.getfield 21, 3) := by decide +kernel
theorem dX5_ordersOfWishes_9 : decode cX5_ordersOfWishes 9 = .ok (.if_icmp .gt 55, 3) := by decide +kernel
theorem dX5_ordersOfWishes_12 : decode cX5_ordersOfWishes 12 = .ok (.iconst 1, 1) := by decide +kernel
theorem dX5_ordersOfWishes_13 : decode cX5_ordersOfWishes 13 = .ok (.istore 4, 2) := by decide +kernel
theorem dX5_ordersOfWishes_15 : decode cX5_ordersOfWishes 15 = .ok (.iconst 1, 1) := by decide +kernel
theorem dX5_ordersOfWishes_16 : decode cX5_ordersOfWishes 16 = .ok (.istore 5, 2) := by decide +kernel
theorem dX5_ordersOfWishes_18 : decode cX5_ordersOfWishes 18 = .ok (.iload 5, 2) := by decide +kernel
theorem dX5_ordersOfWishes_20 : decode cX5_ordersOfWishes 20 = .ok (.iload_n 3, 1) := by decide +kernel
theorem dX5_ordersOfWishes_21 : decode cX5_ordersOfWishes 21 = .ok (.if_icmp .ge 28, 3) := by decide +kernel
theorem dX5_ordersOfWishes_24 : decode cX5_ordersOfWishes 24 = .ok (.aload_n 0, 1) := by decide +kernel
theorem dX5_ordersOfWishes_25 : decode cX5_ordersOfWishes 25 = .ok (.getfield 27, 3) := by decide +kernel
theorem dX5_ordersOfWishes_28 : decode cX5_ordersOfWishes 28 = .ok (.iload 5, 2) := by decide +kernel
theorem dX5_ordersOfWishes_30 : decode cX5_ordersOfWishes 30 = .ok (.iaload, 1) := by decide +kernel
theorem dX5_ordersOfWishes_31 : decode cX5_ordersOfWishes 31 = .ok (.aload_n 0, 1) := by decide +kernel
theorem dX5_ordersOfWishes_32 : decode cX5_ordersOfWishes 32 = .ok (.getfield 27, 3) := by decide +kernel
theorem dX5_ordersOfWishes_35 : decode cX5_ordersOfWishes 35 = .ok (.iload_n 3, 1) := by decide +kernel
theorem dX5_ordersOfWishes_36 : decode cX5_ordersOfWishes 36 = .ok (.iaload, 1) := by decide +kernel
theorem dX5_ordersOfWishes_37 : decode cX5_ordersOfWishes 37 = .ok (.if_icmp .ne 6, 3) := by decide +kernel
theorem dX5_ordersOfWishes_40 : decode cX5_ordersOfWishes 40 = .ok (.iinc 4 1, 3) := by decide +kernel
theorem dX5_ordersOfWishes_43 : decode cX5_ordersOfWishes 43 = .ok (.iinc 5 1, 3) := by decide +kernel
theorem dX5_ordersOfWishes_46 : decode cX5_ordersOfWishes 46 = .ok (.goto (-28), 3) := by decide +kernel
theorem dX5_ordersOfWishes_49 : decode cX5_ordersOfWishes 49 = .ok (.lload_n 1, 1) := by decide +kernel
theorem dX5_ordersOfWishes_50 : decode cX5_ordersOfWishes 50 = .ok (.iload_n 3, 1) := by decide +kernel
theorem dX5_ordersOfWishes_51 : decode cX5_ordersOfWishes 51 = .ok (.i2l, 1) := by decide +kernel
theorem dX5_ordersOfWishes_52 : decode cX5_ordersOfWishes 52 = .ok (.lmul, 1) := by decide +kernel
theorem dX5_ordersOfWishes_53 : decode cX5_ordersOfWishes 53 = .ok (.iload 4, 2) := by decide +kernel
theorem dX5_ordersOfWishes_55 : decode cX5_ordersOfWishes 55 = .ok (.i2l, 1) := by decide +kernel
theorem dX5_ordersOfWishes_56 : decode cX5_ordersOfWishes 56 = .ok (.ldiv, 1) := by decide +kernel
theorem dX5_ordersOfWishes_57 : decode cX5_ordersOfWishes 57 = .ok (.lstore_n 1, 1) := by decide +kernel
theorem dX5_ordersOfWishes_58 : decode cX5_ordersOfWishes 58 = .ok (.iinc 3 1, 3) := by decide +kernel
theorem dX5_ordersOfWishes_61 : decode cX5_ordersOfWishes 61 = .ok (.goto (-57), 3) := by decide +kernel
theorem dX5_ordersOfWishes_64 : decode cX5_ordersOfWishes 64 = .ok (.lload_n 1, 1) := by decide +kernel
theorem dX5_ordersOfWishes_65 : decode cX5_ordersOfWishes 65 = .ok (.lreturn, 1) := by decide +kernel
theorem dX5_wishesUpTo_0 : decode cX5_wishesUpTo 0 = .ok (.iconst 0, 1) := by decide +kernel
theorem dX5_wishesUpTo_1 : decode cX5_wishesUpTo 1 = .ok (.istore_n 2, 1) := by decide +kernel
theorem dX5_wishesUpTo_2 : decode cX5_wishesUpTo 2 = .ok (.iconst 1, 1) := by decide +kernel
theorem dX5_wishesUpTo_3 : decode cX5_wishesUpTo 3 = .ok (.istore_n 3, 1) := by decide +kernel
theorem dX5_wishesUpTo_4 : decode cX5_wishesUpTo 4 = .ok (.iload_n 3, 1) := by decide +kernel
theorem dX5_wishesUpTo_5 : decode cX5_wishesUpTo 5 = .ok (.aload_n 0, 1) := by decide +kernel
theorem dX5_wishesUpTo_6 : decode cX5_wishesUpTo 6 = .ok (.getfield 21, 3) := by decide +kernel
theorem dX5_wishesUpTo_9 : decode cX5_wishesUpTo 9 = .ok (.if_icmp .gt 22, 3) := by decide +kernel
theorem dX5_wishesUpTo_12 : decode cX5_wishesUpTo 12 = .ok (.aload_n 0, 1) := by decide +kernel
theorem dX5_wishesUpTo_13 : decode cX5_wishesUpTo 13 = .ok (.getfield 27, 3) := by decide +kernel
theorem dX5_wishesUpTo_16 : decode cX5_wishesUpTo 16 = .ok (.iload_n 3, 1) := by decide +kernel
theorem dX5_wishesUpTo_17 : decode cX5_wishesUpTo 17 = .ok (.iaload, 1) := by decide +kernel
theorem dX5_wishesUpTo_18 : decode cX5_wishesUpTo 18 = .ok (.iload_n 1, 1) := by decide +kernel
theorem dX5_wishesUpTo_19 : decode cX5_wishesUpTo 19 = .ok (.if_icmp .gt 6, 3) := by decide +kernel
theorem dX5_wishesUpTo_22 : decode cX5_wishesUpTo 22 = .ok (.iinc 2 1, 3) := by decide +kernel
theorem dX5_wishesUpTo_25 : decode cX5_wishesUpTo 25 = .ok (.iinc 3 1, 3) := by decide +kernel
theorem dX5_wishesUpTo_28 : decode cX5_wishesUpTo 28 = .ok (.goto (-24), 3) := by decide +kernel
theorem dX5_wishesUpTo_31 : decode cX5_wishesUpTo 31 = .ok (.iload_n 2, 1) := by decide +kernel
theorem dX5_wishesUpTo_32 : decode cX5_wishesUpTo 32 = .ok (.ireturn, 1) := by decide +kernel
theorem dX5_sortWishes_0 : decode cX5_sortWishes 0 = .ok (.aload_n 0, 1) := by decide +kernel
theorem dX5_sortWishes_1 : decode cX5_sortWishes 1 = .ok (.getfield 27, 3) := by decide +kernel
theorem dX5_sortWishes_4 : decode cX5_sortWishes 4 = .ok (.iconst 0, 1) := by decide +kernel
theorem dX5_sortWishes_5 : decode cX5_sortWishes 5 = .ok (.aload_n 0, 1) := by decide +kernel
theorem dX5_sortWishes_6 : decode cX5_sortWishes 6 = .ok (.getfield 40, 3) := by decide +kernel
theorem dX5_sortWishes_9 : decode cX5_sortWishes 9 = .ok (.iconst 0, 1) := by decide +kernel
theorem dX5_sortWishes_10 : decode cX5_sortWishes 10 = .ok (.aload_n 0, 1) := by decide +kernel
theorem dX5_sortWishes_11 : decode cX5_sortWishes 11 = .ok (.getfield 27, 3) := by decide +kernel
theorem dX5_sortWishes_14 : decode cX5_sortWishes 14 = .ok (.arraylength, 1) := by decide +kernel
theorem dX5_sortWishes_15 : decode cX5_sortWishes 15 = .ok (.invokestatic 86, 3) := by decide +kernel
theorem dX5_sortWishes_18 : decode cX5_sortWishes 18 = .ok (.iconst 0, 1) := by decide +kernel
theorem dX5_sortWishes_19 : decode cX5_sortWishes 19 = .ok (.istore_n 1, 1) := by decide +kernel
theorem dX5_sortWishes_20 : decode cX5_sortWishes 20 = .ok (.iconst 1, 1) := by decide +kernel
theorem dX5_sortWishes_21 : decode cX5_sortWishes 21 = .ok (.istore_n 2, 1) := by decide +kernel
theorem dX5_sortWishes_22 : decode cX5_sortWishes 22 = .ok (.iload_n 2, 1) := by decide +kernel
theorem dX5_sortWishes_23 : decode cX5_sortWishes 23 = .ok (.aload_n 0, 1) := by decide +kernel
theorem dX5_sortWishes_24 : decode cX5_sortWishes 24 = .ok (.getfield 15, 3) := by decide +kernel
theorem dX5_sortWishes_27 : decode cX5_sortWishes 27 = .ok (.if_icmp .gt 45, 3) := by decide +kernel
theorem dX5_sortWishes_30 : decode cX5_sortWishes 30 = .ok (.iconst 1, 1) := by decide +kernel
theorem dX5_sortWishes_31 : decode cX5_sortWishes 31 = .ok (.istore_n 3, 1) := by decide +kernel
theorem dX5_sortWishes_32 : decode cX5_sortWishes 32 = .ok (.iload_n 3, 1) := by decide +kernel
theorem dX5_sortWishes_33 : decode cX5_sortWishes 33 = .ok (.aload_n 0, 1) := by decide +kernel
theorem dX5_sortWishes_34 : decode cX5_sortWishes 34 = .ok (.getfield 21, 3) := by decide +kernel
theorem dX5_sortWishes_37 : decode cX5_sortWishes 37 = .ok (.if_icmp .gt 29, 3) := by decide +kernel
theorem dX5_sortWishes_40 : decode cX5_sortWishes 40 = .ok (.aload_n 0, 1) := by decide +kernel
theorem dX5_sortWishes_41 : decode cX5_sortWishes 41 = .ok (.getfield 40, 3) := by decide +kernel
theorem dX5_sortWishes_44 : decode cX5_sortWishes 44 = .ok (.iload_n 3, 1) := by decide +kernel
theorem dX5_sortWishes_45 : decode cX5_sortWishes 45 = .ok (.iaload, 1) := by decide +kernel
theorem dX5_sortWishes_46 : decode cX5_sortWishes 46 = .ok (.iload_n 2, 1) := by decide +kernel
theorem dX5_sortWishes_47 : decode cX5_sortWishes 47 = .ok (.if_icmp .ne 13, 3) := by decide +kernel
theorem dX5_sortWishes_50 : decode cX5_sortWishes 50 = .ok (.iinc 1 1, 3) := by decide +kernel
theorem dX5_sortWishes_53 : decode cX5_sortWishes 53 = .ok (.aload_n 0, 1) := by decide +kernel
theorem dX5_sortWishes_54 : decode cX5_sortWishes 54 = .ok (.getfield 27, 3) := by decide +kernel
theorem dX5_sortWishes_57 : decode cX5_sortWishes 57 = .ok (.iload_n 1, 1) := by decide +kernel
theorem dX5_sortWishes_58 : decode cX5_sortWishes 58 = .ok (.iload_n 2, 1) := by decide +kernel
theorem dX5_sortWishes_59 : decode cX5_sortWishes 59 = .ok (.iastore, 1) := by decide +kernel
theorem dX5_sortWishes_60 : decode cX5_sortWishes 60 = .ok (.iinc 3 1, 3) := by decide +kernel
theorem dX5_sortWishes_63 : decode cX5_sortWishes 63 = .ok (.goto (-31), 3) := by decide +kernel
theorem dX5_sortWishes_66 : decode cX5_sortWishes 66 = .ok (.iinc 2 1, 3) := by decide +kernel
theorem dX5_sortWishes_69 : decode cX5_sortWishes 69 = .ok (.goto (-47), 3) := by decide +kernel
theorem dX5_sortWishes_72 : decode cX5_sortWishes 72 = .ok (.iconst 0, 1) := by decide +kernel
theorem dX5_sortWishes_73 : decode cX5_sortWishes 73 = .ok (.istore_n 2, 1) := by decide +kernel
theorem dX5_sortWishes_74 : decode cX5_sortWishes 74 = .ok (.iconst 1, 1) := by decide +kernel
theorem dX5_sortWishes_75 : decode cX5_sortWishes 75 = .ok (.istore_n 3, 1) := by decide +kernel
theorem dX5_sortWishes_76 : decode cX5_sortWishes 76 = .ok (.iload_n 3, 1) := by decide +kernel
theorem dX5_sortWishes_77 : decode cX5_sortWishes 77 = .ok (.aload_n 0, 1) := by decide +kernel
theorem dX5_sortWishes_78 : decode cX5_sortWishes 78 = .ok (.getfield 21, 3) := by decide +kernel
theorem dX5_sortWishes_81 : decode cX5_sortWishes 81 = .ok (.if_icmp .gt 27, 3) := by decide +kernel
theorem dX5_sortWishes_84 : decode cX5_sortWishes 84 = .ok (.aload_n 0, 1) := by decide +kernel
theorem dX5_sortWishes_85 : decode cX5_sortWishes 85 = .ok (.getfield 27, 3) := by decide +kernel
theorem dX5_sortWishes_88 : decode cX5_sortWishes 88 = .ok (.iload_n 3, 1) := by decide +kernel
theorem dX5_sortWishes_89 : decode cX5_sortWishes 89 = .ok (.iaload, 1) := by decide +kernel
theorem dX5_sortWishes_90 : decode cX5_sortWishes 90 = .ok (.aload_n 0, 1) := by decide +kernel
theorem dX5_sortWishes_91 : decode cX5_sortWishes 91 = .ok (.getfield 40, 3) := by decide +kernel
theorem dX5_sortWishes_94 : decode cX5_sortWishes 94 = .ok (.iload_n 3, 1) := by decide +kernel
theorem dX5_sortWishes_95 : decode cX5_sortWishes 95 = .ok (.iaload, 1) := by decide +kernel
theorem dX5_sortWishes_96 : decode cX5_sortWishes 96 = .ok (.if_icmp .eq 6, 3) := by decide +kernel
theorem dX5_sortWishes_99 : decode cX5_sortWishes 99 = .ok (.iinc 2 1, 3) := by decide +kernel
theorem dX5_sortWishes_102 : decode cX5_sortWishes 102 = .ok (.iinc 3 1, 3) := by decide +kernel
theorem dX5_sortWishes_105 : decode cX5_sortWishes 105 = .ok (.goto (-29), 3) := by decide +kernel
theorem dX5_sortWishes_108 : decode cX5_sortWishes 108 = .ok (.iload_n 2, 1) := by decide +kernel
theorem dX5_sortWishes_109 : decode cX5_sortWishes 109 = .ok (.ireturn, 1) := by decide +kernel
theorem dX5_cutBits_0 : decode cX5_cutBits 0 = .ok (.iconst 0, 1) := by decide +kernel
theorem dX5_cutBits_1 : decode cX5_cutBits 1 = .ok (.istore_n 1, 1) := by decide +kernel
theorem dX5_cutBits_2 : decode cX5_cutBits 2 = .ok (.iconst 1, 1) := by decide +kernel
theorem dX5_cutBits_3 : decode cX5_cutBits 3 = .ok (.istore_n 2, 1) := by decide +kernel
theorem dX5_cutBits_4 : decode cX5_cutBits 4 = .ok (.iload_n 2, 1) := by decide +kernel
theorem dX5_cutBits_5 : decode cX5_cutBits 5 = .ok (.aload_n 0, 1) := by decide +kernel
theorem dX5_cutBits_6 : decode cX5_cutBits 6 = .ok (.getfield 15, 3) := by decide +kernel
theorem dX5_cutBits_9 : decode cX5_cutBits 9 = .ok (.if_icmp .ge 24, 3) := by decide +kernel
theorem dX5_cutBits_12 : decode cX5_cutBits 12 = .ok (.aload_n 0, 1) := by decide +kernel
theorem dX5_cutBits_13 : decode cX5_cutBits 13 = .ok (.iload_n 2, 1) := by decide +kernel
theorem dX5_cutBits_14 : decode cX5_cutBits 14 = .ok (.invokevirtual 92, 3) := by decide +kernel
theorem dX5_cutBits_17 : decode cX5_cutBits 17 = .ok (.iload_n 2, 1) := by decide +kernel
theorem dX5_cutBits_18 : decode cX5_cutBits 18 = .ok (.if_icmp .ne 9, 3) := by decide +kernel
theorem dX5_cutBits_21 : decode cX5_cutBits 21 = .ok (.iload_n 1, 1) := by decide +kernel
theorem dX5_cutBits_22 : decode cX5_cutBits 22 = .ok (.iconst 1, 1) := by decide +kernel
theorem dX5_cutBits_23 : decode cX5_cutBits 23 = .ok (.iload_n 2, 1) := by decide +kernel
theorem dX5_cutBits_24 : decode cX5_cutBits 24 = .ok (.ishl, 1) := by decide +kernel
theorem dX5_cutBits_25 : decode cX5_cutBits 25 = .ok (.ior, 1) := by decide +kernel
theorem dX5_cutBits_26 : decode cX5_cutBits 26 = .ok (.istore_n 1, 1) := by decide +kernel
theorem dX5_cutBits_27 : decode cX5_cutBits 27 = .ok (.iinc 2 1, 3) := by decide +kernel
theorem dX5_cutBits_30 : decode cX5_cutBits 30 = .ok (.goto (-26), 3) := by decide +kernel
theorem dX5_cutBits_33 : decode cX5_cutBits 33 = .ok (.iload_n 1, 1) := by decide +kernel
theorem dX5_cutBits_34 : decode cX5_cutBits 34 = .ok (.ireturn, 1) := by decide +kernel
theorem dX5_mendWishes_0 : decode cX5_mendWishes 0 = .ok (.iconst 0, 1) := by decide +kernel
theorem dX5_mendWishes_1 : decode cX5_mendWishes 1 = .ok (.istore_n 1, 1) := by decide +kernel
theorem dX5_mendWishes_2 : decode cX5_mendWishes 2 = .ok (.iconst 1, 1) := by decide +kernel
theorem dX5_mendWishes_3 : decode cX5_mendWishes 3 = .ok (.istore_n 2, 1) := by decide +kernel
theorem dX5_mendWishes_4 : decode cX5_mendWishes 4 = .ok (.iload_n 2, 1) := by decide +kernel
theorem dX5_mendWishes_5 : decode cX5_mendWishes 5 = .ok (.aload_n 0, 1) := by decide +kernel
theorem dX5_mendWishes_6 : decode cX5_mendWishes 6 = .ok (.getfield 15, 3) := by decide +kernel
theorem dX5_mendWishes_9 : decode cX5_mendWishes 9 = .ok (.if_icmp .gt 21, 3) := by decide +kernel
theorem dX5_mendWishes_12 : decode cX5_mendWishes 12 = .ok (.iload_n 1, 1) := by decide +kernel
theorem dX5_mendWishes_13 : decode cX5_mendWishes 13 = .ok (.iload_n 2, 1) := by decide +kernel
theorem dX5_mendWishes_14 : decode cX5_mendWishes 14 = .ok (.aload_n 0, 1) := by decide +kernel
theorem dX5_mendWishes_15 : decode cX5_mendWishes 15 = .ok (.iload_n 2, 1) := by decide +kernel
theorem dX5_mendWishes_16 : decode cX5_mendWishes 16 = .ok (.invokevirtual 92, 3) := by decide +kernel
theorem dX5_mendWishes_19 : decode cX5_mendWishes 19 = .ok (.isub, 1) := by decide +kernel
theorem dX5_mendWishes_20 : decode cX5_mendWishes 20 = .ok (.invokestatic 76, 3) := by decide +kernel
theorem dX5_mendWishes_23 : decode cX5_mendWishes 23 = .ok (.istore_n 1, 1) := by decide +kernel
theorem dX5_mendWishes_24 : decode cX5_mendWishes 24 = .ok (.iinc 2 1, 3) := by decide +kernel
theorem dX5_mendWishes_27 : decode cX5_mendWishes 27 = .ok (.goto (-23), 3) := by decide +kernel
theorem dX5_mendWishes_30 : decode cX5_mendWishes 30 = .ok (.iconst 0, 1) := by decide +kernel
theorem dX5_mendWishes_31 : decode cX5_mendWishes 31 = .ok (.istore_n 2, 1) := by decide +kernel
theorem dX5_mendWishes_32 : decode cX5_mendWishes 32 = .ok (.iload_n 2, 1) := by decide +kernel
theorem dX5_mendWishes_33 : decode cX5_mendWishes 33 = .ok (.iload_n 1, 1) := by decide +kernel
theorem dX5_mendWishes_34 : decode cX5_mendWishes 34 = .ok (.if_icmp .ge 19, 3) := by decide +kernel
theorem dX5_mendWishes_37 : decode cX5_mendWishes 37 = .ok (.aload_n 0, 1) := by decide +kernel
theorem dX5_mendWishes_38 : decode cX5_mendWishes 38 = .ok (.getfield 27, 3) := by decide +kernel
theorem dX5_mendWishes_41 : decode cX5_mendWishes 41 = .ok (.aload_n 0, 1) := by decide +kernel
theorem dX5_mendWishes_42 : decode cX5_mendWishes 42 = .ok (.invokevirtual 95, 3) := by decide +kernel
theorem dX5_mendWishes_45 : decode cX5_mendWishes 45 = .ok (.iconst 1, 1) := by decide +kernel
theorem dX5_mendWishes_46 : decode cX5_mendWishes 46 = .ok (.iastore, 1) := by decide +kernel
theorem dX5_mendWishes_47 : decode cX5_mendWishes 47 = .ok (.iinc 2 1, 3) := by decide +kernel
theorem dX5_mendWishes_50 : decode cX5_mendWishes 50 = .ok (.goto (-18), 3) := by decide +kernel
theorem dX5_mendWishes_53 : decode cX5_mendWishes 53 = .ok (.iload_n 1, 1) := by decide +kernel
theorem dX5_mendWishes_54 : decode cX5_mendWishes 54 = .ok (.ireturn, 1) := by decide +kernel
theorem dX5_lastOfGreatestWish_0 : decode cX5_lastOfGreatestWish 0 = .ok (.iconst 1, 1) := by decide +kernel
theorem dX5_lastOfGreatestWish_1 : decode cX5_lastOfGreatestWish 1 = .ok (.istore_n 1, 1) := by decide +kernel
theorem dX5_lastOfGreatestWish_2 : decode cX5_lastOfGreatestWish 2 = .ok (.iconst 2, 1) := by decide +kernel
theorem dX5_lastOfGreatestWish_3 : decode cX5_lastOfGreatestWish 3 = .ok (.istore_n 2, 1) := by decide +kernel
theorem dX5_lastOfGreatestWish_4 : decode cX5_lastOfGreatestWish 4 = .ok (.iload_n 2, 1) := by decide +kernel
theorem dX5_lastOfGreatestWish_5 : decode cX5_lastOfGreatestWish 5 = .ok (.aload_n 0, 1) := by decide +kernel
theorem dX5_lastOfGreatestWish_6 : decode cX5_lastOfGreatestWish 6 = .ok (.getfield 21, 3) := by decide +kernel
theorem dX5_lastOfGreatestWish_9 : decode cX5_lastOfGreatestWish 9 = .ok (.if_icmp .gt 26, 3) := by decide +kernel
theorem dX5_lastOfGreatestWish_12 : decode cX5_lastOfGreatestWish 12 = .ok (.aload_n 0, 1) := by decide +kernel
theorem dX5_lastOfGreatestWish_13 : decode cX5_lastOfGreatestWish 13 = .ok (.getfield 27, 3) := by decide +kernel
theorem dX5_lastOfGreatestWish_16 : decode cX5_lastOfGreatestWish 16 = .ok (.iload_n 2, 1) := by decide +kernel
theorem dX5_lastOfGreatestWish_17 : decode cX5_lastOfGreatestWish 17 = .ok (.iaload, 1) := by decide +kernel
theorem dX5_lastOfGreatestWish_18 : decode cX5_lastOfGreatestWish 18 = .ok (.aload_n 0, 1) := by decide +kernel
theorem dX5_lastOfGreatestWish_19 : decode cX5_lastOfGreatestWish 19 = .ok (.getfield 27, 3) := by decide +kernel
theorem dX5_lastOfGreatestWish_22 : decode cX5_lastOfGreatestWish 22 = .ok (.iload_n 1, 1) := by decide +kernel
theorem dX5_lastOfGreatestWish_23 : decode cX5_lastOfGreatestWish 23 = .ok (.iaload, 1) := by decide +kernel
theorem dX5_lastOfGreatestWish_24 : decode cX5_lastOfGreatestWish 24 = .ok (.if_icmp .lt 5, 3) := by decide +kernel
theorem dX5_lastOfGreatestWish_27 : decode cX5_lastOfGreatestWish 27 = .ok (.iload_n 2, 1) := by decide +kernel
theorem dX5_lastOfGreatestWish_28 : decode cX5_lastOfGreatestWish 28 = .ok (.istore_n 1, 1) := by decide +kernel
theorem dX5_lastOfGreatestWish_29 : decode cX5_lastOfGreatestWish 29 = .ok (.iinc 2 1, 3) := by decide +kernel
theorem dX5_lastOfGreatestWish_32 : decode cX5_lastOfGreatestWish 32 = .ok (.goto (-28), 3) := by decide +kernel
theorem dX5_lastOfGreatestWish_35 : decode cX5_lastOfGreatestWish 35 = .ok (.iload_n 1, 1) := by decide +kernel
theorem dX5_lastOfGreatestWish_36 : decode cX5_lastOfGreatestWish 36 = .ok (.ireturn, 1) := by decide +kernel
theorem dX6_init_0 : decode cX6_init 0 = .ok (.aload_n 0, 1) := by decide +kernel
theorem dX6_init_1 : decode cX6_init 1 = .ok (.invokespecial 3, 3) := by decide +kernel
theorem dX6_init_4 : decode cX6_init 4 = .ok (.aload_n 0, 1) := by decide +kernel
theorem dX6_init_5 : decode cX6_init 5 = .ok (.iconst 4, 1) := by decide +kernel
theorem dX6_init_6 : decode cX6_init 6 = .ok (.newarray .int, 2) := by decide +kernel
theorem dX6_init_8 : decode cX6_init 8 = .ok (.putfield 9, 3) := by decide +kernel
theorem dX6_init_11 : decode cX6_init 11 = .ok (.aload_n 0, 1) := by decide +kernel
theorem dX6_init_12 : decode cX6_init 12 = .ok (.iconst 4, 1) := by decide +kernel
theorem dX6_init_13 : decode cX6_init 13 = .ok (.newarray .int, 2) := by decide +kernel
theorem dX6_init_15 : decode cX6_init 15 = .ok (.putfield 15, 3) := by decide +kernel
theorem dX6_init_18 : decode cX6_init 18 = .ok (.aload_n 0, 1) := by decide +kernel
theorem dX6_init_19 : decode cX6_init 19 = .ok (.iconst 4, 1) := by decide +kernel
theorem dX6_init_20 : decode cX6_init 20 = .ok (.bipush 20, 2) := by decide +kernel
theorem dX6_init_22 : decode cX6_init 22 = .ok (.multianewarray 18 2, 4) := by decide +kernel
theorem dX6_init_26 : decode cX6_init 26 = .ok (.putfield 20, 3) := by decide +kernel
theorem dX6_init_29 : decode cX6_init 29 = .ok (.iconst 0, 1) := by decide +kernel
theorem dX6_init_30 : decode cX6_init 30 = .ok (.istore_n 1, 1) := by decide +kernel
theorem dX6_init_31 : decode cX6_init 31 = .ok (.iload_n 1, 1) := by decide +kernel
theorem dX6_init_32 : decode cX6_init 32 = .ok (.iconst 4, 1) := by decide +kernel
theorem dX6_init_33 : decode cX6_init 33 = .ok (.if_icmp .ge 16, 3) := by decide +kernel
theorem dX6_init_36 : decode cX6_init 36 = .ok (.aload_n 0, 1) := by decide +kernel
theorem dX6_init_37 : decode cX6_init 37 = .ok (.getfield 9, 3) := by decide +kernel
theorem dX6_init_40 : decode cX6_init 40 = .ok (.iload_n 1, 1) := by decide +kernel
theorem dX6_init_41 : decode cX6_init 41 = .ok (.iconst (-1), 1) := by decide +kernel
theorem dX6_init_42 : decode cX6_init 42 = .ok (.iastore, 1) := by decide +kernel
theorem dX6_init_43 : decode cX6_init 43 = .ok (.iinc 1 1, 3) := by decide +kernel
theorem dX6_init_46 : decode cX6_init 46 = .ok (.goto (-15), 3) := by decide +kernel
theorem dX6_init_49 : decode cX6_init 49 = .ok (.return_, 1) := by decide +kernel
theorem dX6_hasSheet_0 : decode cX6_hasSheet 0 = .ok (.iload_n 1, 1) := by decide +kernel
theorem dX6_hasSheet_1 : decode cX6_hasSheet 1 = .ok (.ifCond .lt 12, 3) := by decide +kernel
theorem dX6_hasSheet_4 : decode cX6_hasSheet 4 = .ok (.iload_n 1, 1) := by decide +kernel
theorem dX6_hasSheet_5 : decode cX6_hasSheet 5 = .ok (.iconst 4, 1) := by decide +kernel
theorem dX6_hasSheet_6 : decode cX6_hasSheet 6 = .ok (.if_icmp .ge 7, 3) := by decide +kernel
theorem dX6_hasSheet_9 : decode cX6_hasSheet 9 = .ok (.iconst 1, 1) := by decide +kernel
theorem dX6_hasSheet_10 : decode cX6_hasSheet 10 = .ok (.goto 4, 3) := by decide +kernel
theorem dX6_hasSheet_13 : decode cX6_hasSheet 13 = .ok (.iconst 0, 1) := by decide +kernel
theorem dX6_hasSheet_14 : decode cX6_hasSheet 14 = .ok (.ireturn, 1) := by decide +kernel
theorem dX6_hasLane_0 : decode cX6_hasLane 0 = .ok (.iload_n 1, 1) := by decide +kernel
theorem dX6_hasLane_1 : decode cX6_hasLane 1 = .ok (.ifCond .lt 12, 3) := by decide +kernel
theorem dX6_hasLane_4 : decode cX6_hasLane 4 = .ok (.iload_n 1, 1) := by decide +kernel
theorem dX6_hasLane_5 : decode cX6_hasLane 5 = .ok (.iconst 2, 1) := by decide +kernel
theorem dX6_hasLane_6 : decode cX6_hasLane 6 = .ok (.if_icmp .gt 7, 3) := by decide +kernel
theorem dX6_hasLane_9 : decode cX6_hasLane 9 = .ok (.iconst 1, 1) := by decide +kernel
theorem dX6_hasLane_10 : decode cX6_hasLane 10 = .ok (.goto 4, 3) := by decide +kernel
theorem dX6_hasLane_13 : decode cX6_hasLane 13 = .ok (.iconst 0, 1) := by decide +kernel
theorem dX6_hasLane_14 : decode cX6_hasLane 14 = .ok (.ireturn, 1) := by decide +kernel
theorem dX6_holdsNothing_0 : decode cX6_holdsNothing 0 = .ok (.aload_n 0, 1) := by decide +kernel
theorem dX6_holdsNothing_1 : decode cX6_holdsNothing 1 = .ok (.getfield 9, 3) := by decide +kernel
theorem dX6_holdsNothing_4 : decode cX6_holdsNothing 4 = .ok (.iload_n 1, 1) := by decide +kernel
theorem dX6_holdsNothing_5 : decode cX6_holdsNothing 5 = .ok (.iaload, 1) := by decide +kernel
theorem dX6_holdsNothing_6 : decode cX6_holdsNothing 6 = .ok (.iconst (-1), 1) := by decide +kernel
theorem dX6_holdsNothing_7 : decode cX6_holdsNothing 7 = .ok (.if_icmp .ne 7, 3) := by decide +kernel
theorem dX6_holdsNothing_10 : decode cX6_holdsNothing 10 = .ok (.iconst 1, 1) := by decide +kernel
theorem dX6_holdsNothing_11 : decode cX6_holdsNothing 11 = .ok (.goto 4, 3) := by decide +kernel
theorem dX6_holdsNothing_14 : decode cX6_holdsNothing 14 = .ok (.iconst 0, 1) := by decide +kernel
theorem dX6_holdsNothing_15 : decode cX6_holdsNothing 15 = .ok (.ireturn, 1) := by decide +kernel
theorem dX6_refusal_0 : decode cX6_refusal 0 = .ok (.aload_n 0, 1) := by decide +kernel
theorem dX6_refusal_1 : decode cX6_refusal 1 = .ok (.iload_n 1, 1) := by decide +kernel
theorem dX6_refusal_2 : decode cX6_refusal 2 = .ok (.invokevirtual 23, 3) := by decide +kernel
theorem dX6_refusal_5 : decode cX6_refusal 5 = .ok (.ifCond .eq 11, 3) := by decide +kernel
theorem dX6_refusal_8 : decode cX6_refusal 8 = .ok (.aload_n 0, 1) := by decide +kernel
theorem dX6_refusal_9 : decode cX6_refusal 9 = .ok (.iload_n 2, 1) := by decide +kernel
theorem dX6_refusal_10 : decode cX6_refusal 10 = .ok (.invokevirtual 27, 3) := by decide +kernel
theorem dX6_refusal_13 : decode cX6_refusal 13 = .ok (.ifCond .ne 5, 3) := by decide +kernel
theorem dX6_refusal_16 : decode cX6_refusal 16 = .ok (.iconst (-1), 1) := by decide +kernel
theorem dX6_refusal_17 : decode cX6_refusal 17 = .ok (.ireturn, 1) := by decide +kernel
theorem dX6_refusal_18 : decode cX6_refusal 18 = .ok (.aload_n 0, 1) := by decide +kernel
theorem dX6_refusal_19 : decode cX6_refusal 19 = .ok (.iload_n 1, 1) := by decide +kernel
theorem dX6_refusal_20 : decode cX6_refusal 20 = .ok (.invokevirtual 30, 3) := by decide +kernel
theorem dX6_refusal_23 : decode cX6_refusal 23 = .ok (.ifCond .eq 6, 3) := by decide +kernel
theorem dX6_refusal_26 : decode cX6_refusal 26 = .ok (.bipush (-11), 2) := by decide +kernel
theorem dX6_refusal_28 : decode cX6_refusal 28 = .ok (.ireturn, 1) := by decide +kernel
theorem dX6_refusal_29 : decode cX6_refusal 29 = .ok (.aload_n 0, 1) := by decide +kernel
theorem dX6_refusal_30 : decode cX6_refusal 30 = .ok (.getfield 9, 3) := by decide +kernel
theorem dX6_refusal_33 : decode cX6_refusal 33 = .ok (.iload_n 1, 1) := by decide +kernel
theorem dX6_refusal_34 : decode cX6_refusal 34 = .ok (.iaload, 1) := by decide +kernel
theorem dX6_refusal_35 : decode cX6_refusal 35 = .ok (.iload_n 2, 1) := by decide +kernel
theorem dX6_refusal_36 : decode cX6_refusal 36 = .ok (.if_icmp .eq 6, 3) := by decide +kernel
theorem dX6_refusal_39 : decode cX6_refusal 39 = .ok (.bipush (-12), 2) := by decide +kernel
theorem dX6_refusal_41 : decode cX6_refusal 41 = .ok (.ireturn, 1) := by decide +kernel
theorem dX6_refusal_42 : decode cX6_refusal 42 = .ok (.iload_n 3, 1) := by decide +kernel
theorem dX6_refusal_43 : decode cX6_refusal 43 = .ok (.ifCond .lt 16, 3) := by decide +kernel
theorem dX6_refusal_46 : decode cX6_refusal 46 = .ok (.iload_n 3, 1) := by decide +kernel
theorem dX6_refusal_47 : decode cX6_refusal 47 = .ok (.aload_n 0, 1) := by decide +kernel
theorem dX6_refusal_48 : decode cX6_refusal 48 = .ok (.getfield 15, 3) := by decide +kernel
theorem dX6_refusal_51 : decode cX6_refusal 51 = .ok (.iload_n 1, 1) := by decide +kernel
theorem dX6_refusal_52 : decode cX6_refusal 52 = .ok (.iaload, 1) := by decide +kernel
theorem dX6_refusal_53 : decode cX6_refusal 53 = .ok (.iload 4, 2) := by decide +kernel
theorem dX6_refusal_55 : decode cX6_refusal 55 = .ok (.isub, 1) := by decide +kernel
theorem dX6_refusal_56 : decode cX6_refusal 56 = .ok (.if_icmp .le 8, 3) := by decide +kernel
theorem dX6_refusal_59 : decode cX6_refusal 59 = .ok (.bipush (-13), 2) := by decide +kernel
theorem dX6_refusal_61 : decode cX6_refusal 61 = .ok (.goto 4, 3) := by decide +kernel
theorem dX6_refusal_64 : decode cX6_refusal 64 = .ok (.iconst 0, 1) := by decide +kernel
theorem dX6_refusal_65 : decode cX6_refusal 65 = .ok (.ireturn, 1) := by decide +kernel
theorem dX6_renew_0 : decode cX6_renew 0 = .ok (.aload_n 0, 1) := by decide +kernel
theorem dX6_renew_1 : decode cX6_renew 1 = .ok (.getfield 9, 3) := by decide +kernel
theorem dX6_renew_4 : decode cX6_renew 4 = .ok (.iload_n 1, 1) := by decide +kernel
theorem dX6_renew_5 : decode cX6_renew 5 = .ok (.iload_n 2, 1) := by decide +kernel
theorem dX6_renew_6 : decode cX6_renew 6 = .ok (.iastore, 1) := by decide +kernel
theorem dX6_renew_7 : decode cX6_renew 7 = .ok (.aload_n 0, 1) := by decide +kernel
theorem dX6_renew_8 : decode cX6_renew 8 = .ok (.getfield 15, 3) := by decide +kernel
theorem dX6_renew_11 : decode cX6_renew 11 = .ok (.iload_n 1, 1) := by decide +kernel
theorem dX6_renew_12 : decode cX6_renew 12 = .ok (.iload_n 3, 1) := by decide +kernel
theorem dX6_renew_13 : decode cX6_renew 13 = .ok (.iastore, 1) := by decide +kernel
theorem dX6_renew_14 : decode cX6_renew 14 = .ok (.iconst 0, 1) := by decide +kernel
theorem dX6_renew_15 : decode cX6_renew 15 = .ok (.istore 4, 2) := by decide +kernel
theorem dX6_renew_17 : decode cX6_renew 17 = .ok (.iload 4, 2) := by decide +kernel
theorem dX6_renew_19 : decode cX6_renew 19 = .ok (.bipush 20, 2) := by decide +kernel
theorem dX6_renew_21 : decode cX6_renew 21 = .ok (.if_icmp .ge 19, 3) := by decide +kernel
theorem dX6_renew_24 : decode cX6_renew 24 = .ok (.aload_n 0, 1) := by decide +kernel
theorem dX6_renew_25 : decode cX6_renew 25 = .ok (.getfield 20, 3) := by decide +kernel
theorem dX6_renew_28 : decode cX6_renew 28 = .ok (.iload_n 1, 1) := by decide +kernel
theorem dX6_renew_29 : decode cX6_renew 29 = .ok (.aaload, 1) := by decide +kernel
theorem dX6_renew_30 : decode cX6_renew 30 = .ok (.iload 4, 2) := by decide +kernel
theorem dX6_renew_32 : decode cX6_renew 32 = .ok (.iconst 0, 1) := by decide +kernel
theorem dX6_renew_33 : decode cX6_renew 33 = .ok (.iastore, 1) := by decide +kernel
theorem dX6_renew_34 : decode cX6_renew 34 = .ok (.iinc 4 1, 3) := by decide +kernel
theorem dX6_renew_37 : decode cX6_renew 37 = .ok (.goto (-20), 3) := by decide +kernel
theorem dX6_renew_40 : decode cX6_renew 40 = .ok (.return_, 1) := by decide +kernel
theorem dX6_remove_0 : decode cX6_remove 0 = .ok (.aload_n 0, 1) := by decide +kernel
theorem dX6_remove_1 : decode cX6_remove 1 = .ok (.getfield 9, 3) := by decide +kernel
theorem dX6_remove_4 : decode cX6_remove 4 = .ok (.iload_n 1, 1) := by decide +kernel
theorem dX6_remove_5 : decode cX6_remove 5 = .ok (.iconst (-1), 1) := by decide +kernel
theorem dX6_remove_6 : decode cX6_remove 6 = .ok (.iastore, 1) := by decide +kernel
theorem dX6_remove_7 : decode cX6_remove 7 = .ok (.aload_n 0, 1) := by decide +kernel
theorem dX6_remove_8 : decode cX6_remove 8 = .ok (.getfield 15, 3) := by decide +kernel
theorem dX6_remove_11 : decode cX6_remove 11 = .ok (.iload_n 1, 1) := by decide +kernel
theorem dX6_remove_12 : decode cX6_remove 12 = .ok (.iaload, 1) := by decide +kernel
theorem dX6_remove_13 : decode cX6_remove 13 = .ok (.ireturn, 1) := by decide +kernel
theorem dX6_put_0 : decode cX6_put 0 = .ok (.aload_n 0, 1) := by decide +kernel
theorem dX6_put_1 : decode cX6_put 1 = .ok (.getfield 9, 3) := by decide +kernel
theorem dX6_put_4 : decode cX6_put 4 = .ok (.iload_n 1, 1) := by decide +kernel
theorem dX6_put_5 : decode cX6_put 5 = .ok (.iaload, 1) := by decide +kernel
theorem dX6_put_6 : decode cX6_put 6 = .ok (.lookupswitch 52 #[(0, 26), (1, 39)], 26) := by decide +kernel
theorem dX6_put_32 : decode cX6_put 32 = .ok (.aload_n 0, 1) := by decide +kernel
theorem dX6_put_33 : decode cX6_put 33 = .ok (.getfield 20, 3) := by decide +kernel
theorem dX6_put_36 : decode cX6_put 36 = .ok (.iload_n 1, 1) := by decide +kernel
theorem dX6_put_37 : decode cX6_put 37 = .ok (.aaload, 1) := by decide +kernel
theorem dX6_put_38 : decode cX6_put 38 = .ok (.iload_n 2, 1) := by decide +kernel
theorem dX6_put_39 : decode cX6_put 39 = .ok (.iload_n 3, 1) := by decide +kernel
theorem dX6_put_40 : decode cX6_put 40 = .ok (.i2b, 1) := by decide +kernel
theorem dX6_put_41 : decode cX6_put 41 = .ok (.iastore, 1) := by decide +kernel
theorem dX6_put_42 : decode cX6_put 42 = .ok (.goto 25, 3) := by decide +kernel
theorem dX6_put_45 : decode cX6_put 45 = .ok (.aload_n 0, 1) := by decide +kernel
theorem dX6_put_46 : decode cX6_put 46 = .ok (.getfield 20, 3) := by decide +kernel
theorem dX6_put_49 : decode cX6_put 49 = .ok (.iload_n 1, 1) := by decide +kernel
theorem dX6_put_50 : decode cX6_put 50 = .ok (.aaload, 1) := by decide +kernel
theorem dX6_put_51 : decode cX6_put 51 = .ok (.iload_n 2, 1) := by decide +kernel
theorem dX6_put_52 : decode cX6_put 52 = .ok (.iload_n 3, 1) := by decide +kernel
theorem dX6_put_53 : decode cX6_put 53 = .ok (.i2s, 1) := by decide +kernel
theorem dX6_put_54 : decode cX6_put 54 = .ok (.iastore, 1) := by decide +kernel
theorem dX6_put_55 : decode cX6_put 55 = .ok (.goto 12, 3) := by decide +kernel
theorem dX6_put_58 : decode cX6_put 58 = .ok (.aload_n 0, 1) := by decide +kernel
theorem dX6_put_59 : decode cX6_put 59 = .ok (.getfield 20, 3) := by decide +kernel
theorem dX6_put_62 : decode cX6_put 62 = .ok (.iload_n 1, 1) := by decide +kernel
theorem dX6_put_63 : decode cX6_put 63 = .ok (.aaload, 1) := by decide +kernel
theorem dX6_put_64 : decode cX6_put 64 = .ok (.iload_n 2, 1) := by decide +kernel
theorem dX6_put_65 : decode cX6_put 65 = .ok (.iload_n 3, 1) := by decide +kernel
theorem dX6_put_66 : decode cX6_put 66 = .ok (.iastore, 1) := by decide +kernel
theorem dX6_put_67 : decode cX6_put 67 = .ok (.return_, 1) := by decide +kernel
theorem dX6_allWithin_0 : decode cX6_allWithin 0 = .ok (.iload_n 2, 1) := by decide +kernel
theorem dX6_allWithin_1 : decode cX6_allWithin 1 = .ok (.istore 6, 2) := by decide +kernel
theorem dX6_allWithin_3 : decode cX6_allWithin 3 = .ok (.iload 6, 2) := by decide +kernel
theorem dX6_allWithin_5 : decode cX6_allWithin 5 = .ok (.iload_n 2, 1) := by decide +kernel
theorem dX6_allWithin_6 : decode cX6_allWithin 6 = .ok (.iload_n 3, 1) := by decide +kernel
theorem dX6_allWithin_7 : decode cX6_allWithin 7 = .ok (.iadd, 1) := by decide +kernel
theorem dX6_allWithin_8 : decode cX6_allWithin 8 = .ok (.if_icmp .ge 39, 3) := by decide +kernel
theorem dX6_allWithin_11 : decode cX6_allWithin 11 = .ok (.aload_n 0, 1) := by decide +kernel
theorem dX6_allWithin_12 : decode cX6_allWithin 12 = .ok (.getfield 20, 3) := by decide +kernel
theorem dX6_allWithin_15 : decode cX6_allWithin 15 = .ok (.iload_n 1, 1) := by decide +kernel
theorem dX6_allWithin_16 : decode cX6_allWithin 16 = .ok (.aaload, 1) := by decide +kernel
theorem dX6_allWithin_17 : decode cX6_allWithin 17 = .ok (.iload 6, 2) := by decide +kernel
theorem dX6_allWithin_19 : decode cX6_allWithin 19 = .ok (.iaload, 1) := by decide +kernel
theorem dX6_allWithin_20 : decode cX6_allWithin 20 = .ok (.iload 4, 2) := by decide +kernel
theorem dX6_allWithin_22 : decode cX6_allWithin 22 = .ok (.if_icmp .lt 17, 3) := by decide +kernel
theorem dX6_allWithin_25 : decode cX6_allWithin 25 = .ok (.aload_n 0, 1) := by decide +kernel
theorem dX6_allWithin_26 : decode cX6_allWithin 26 = .ok (.getfield 20, 3) := by decide +kernel
theorem dX6_allWithin_29 : decode cX6_allWithin 29 = .ok (.iload_n 1, 1) := by decide +kernel
theorem dX6_allWithin_30 : decode cX6_allWithin 30 = .ok (.aaload, 1) := by decide +kernel
theorem dX6_allWithin_31 : decode cX6_allWithin 31 = .ok (.iload 6, 2) := by decide +kernel
theorem dX6_allWithin_33 : decode cX6_allWithin 33 = .ok (.iaload, 1) := by decide +kernel
theorem dX6_allWithin_34 : decode cX6_allWithin 34 = .ok (.iload 5, 2) := by decide +kernel
theorem dX6_allWithin_36 : decode cX6_allWithin 36 = .ok (.if_icmp .le 5, 3) := by decide +kernel
theorem dX6_allWithin_39 : decode cX6_allWithin 39 = .ok (.iconst 0, 1) := by decide +kernel
theorem dX6_allWithin_40 : decode cX6_allWithin 40 = .ok (.ireturn, 1) := by decide +kernel
theorem dX6_allWithin_41 : decode cX6_allWithin 41 = .ok (.iinc 6 1, 3) := by decide +kernel
theorem dX6_allWithin_44 : decode cX6_allWithin 44 = .ok (.goto (-41), 3) := by decide +kernel
theorem dX6_allWithin_47 : decode cX6_allWithin 47 = .ok (.iconst 1, 1) := by decide +kernel
theorem dX6_allWithin_48 : decode cX6_allWithin 48 = .ok (.ireturn, 1) := by decide +kernel
theorem dX6_copyTo_0 : decode cX6_copyTo 0 = .ok (.iconst 1, 1) := by decide +kernel
theorem dX6_copyTo_1 : decode cX6_copyTo 1 = .ok (.istore 5, 2) := by decide +kernel
theorem dX6_copyTo_3 : decode cX6_copyTo 3 = .ok (.iload 5, 2) := by decide +kernel
theorem dX6_copyTo_5 : decode cX6_copyTo 5 = .ok (.iload 4, 2) := by decide +kernel
theorem dX6_copyTo_7 : decode cX6_copyTo 7 = .ok (.if_icmp .gt 26, 3) := by decide +kernel
theorem dX6_copyTo_10 : decode cX6_copyTo 10 = .ok (.aload_n 1, 1) := by decide +kernel
theorem dX6_copyTo_11 : decode cX6_copyTo 11 = .ok (.iload 5, 2) := by decide +kernel
theorem dX6_copyTo_13 : decode cX6_copyTo 13 = .ok (.aload_n 0, 1) := by decide +kernel
theorem dX6_copyTo_14 : decode cX6_copyTo 14 = .ok (.getfield 20, 3) := by decide +kernel
theorem dX6_copyTo_17 : decode cX6_copyTo 17 = .ok (.iload_n 2, 1) := by decide +kernel
theorem dX6_copyTo_18 : decode cX6_copyTo 18 = .ok (.aaload, 1) := by decide +kernel
theorem dX6_copyTo_19 : decode cX6_copyTo 19 = .ok (.iload_n 3, 1) := by decide +kernel
theorem dX6_copyTo_20 : decode cX6_copyTo 20 = .ok (.iload 5, 2) := by decide +kernel
theorem dX6_copyTo_22 : decode cX6_copyTo 22 = .ok (.iadd, 1) := by decide +kernel
theorem dX6_copyTo_23 : decode cX6_copyTo 23 = .ok (.iconst 1, 1) := by decide +kernel
theorem dX6_copyTo_24 : decode cX6_copyTo 24 = .ok (.isub, 1) := by decide +kernel
theorem dX6_copyTo_25 : decode cX6_copyTo 25 = .ok (.iaload, 1) := by decide +kernel
theorem dX6_copyTo_26 : decode cX6_copyTo 26 = .ok (.iastore, 1) := by decide +kernel
theorem dX6_copyTo_27 : decode cX6_copyTo 27 = .ok (.iinc 5 1, 3) := by decide +kernel
theorem dX6_copyTo_30 : decode cX6_copyTo 30 = .ok (.goto (-27), 3) := by decide +kernel
theorem dX6_copyTo_33 : decode cX6_copyTo 33 = .ok (.return_, 1) := by decide +kernel
theorem dX7_init_0 : decode cX7_init 0 = .ok (.aload_n 0, 1) := by decide +kernel
theorem dX7_init_1 : decode cX7_init 1 = .ok (.invokespecial 3, 3) := by decide +kernel
theorem dX7_init_4 : decode cX7_init 4 = .ok (.aload_n 0, 1) := by decide +kernel
theorem dX7_init_5 : decode cX7_init 5 = .ok (.iconst 0, 1) := by decide +kernel
theorem dX7_init_6 : decode cX7_init 6 = .ok (.putfield 9, 3) := by decide +kernel
theorem dX7_init_9 : decode cX7_init 9 = .ok (.aload_n 0, 1) := by decide +kernel
theorem dX7_init_10 : decode cX7_init 10 = .ok (.bipush 11, 2) := by decide +kernel
theorem dX7_init_12 : decode cX7_init 12 = .ok (.bipush 46, 2) := by decide +kernel
theorem dX7_init_14 : decode cX7_init 14 = .ok (.multianewarray 15 2, 4) := by decide +kernel
theorem dX7_init_18 : decode cX7_init 18 = .ok (.putfield 17, 3) := by decide +kernel
theorem dX7_init_21 : decode cX7_init 21 = .ok (.aload_n 0, 1) := by decide +kernel
theorem dX7_init_22 : decode cX7_init 22 = .ok (.bipush 11, 2) := by decide +kernel
theorem dX7_init_24 : decode cX7_init 24 = .ok (.bipush 11, 2) := by decide +kernel
theorem dX7_init_26 : decode cX7_init 26 = .ok (.multianewarray 15 2, 4) := by decide +kernel
theorem dX7_init_30 : decode cX7_init 30 = .ok (.putfield 20, 3) := by decide +kernel
theorem dX7_init_33 : decode cX7_init 33 = .ok (.aload_n 0, 1) := by decide +kernel
theorem dX7_init_34 : decode cX7_init 34 = .ok (.bipush 11, 2) := by decide +kernel
theorem dX7_init_36 : decode cX7_init 36 = .ok (.newarray .long, 2) := by decide +kernel
theorem dX7_init_38 : decode cX7_init 38 = .ok (.putfield 23, 3) := by decide +kernel
theorem dX7_init_41 : decode cX7_init 41 = .ok (.aload_n 0, 1) := by decide +kernel
theorem dX7_init_42 : decode cX7_init 42 = .ok (.aload_n 1, 1) := by decide +kernel
theorem dX7_init_43 : decode cX7_init 43 = .ok (.putfield 27, 3) := by decide +kernel
theorem dX7_init_46 : decode cX7_init 46 = .ok (.aload_n 0, 1) := by decide +kernel
theorem dX7_init_47 : decode cX7_init 47 = .ok (.getfield 17, 3) := by decide +kernel
theorem dX7_init_50 : decode cX7_init 50 = .ok (.iconst 0, 1) := by decide +kernel
theorem dX7_init_51 : decode cX7_init 51 = .ok (.aaload, 1) := by decide +kernel
theorem dX7_init_52 : decode cX7_init 52 = .ok (.iconst 0, 1) := by decide +kernel
theorem dX7_init_53 : decode cX7_init 53 = .ok (.lconst 1, 1) := by decide +kernel
theorem dX7_init_54 : decode cX7_init 54 = .ok (.lastore, 1) := by decide +kernel
theorem dX7_init_55 : decode cX7_init 55 = .ok (.aload_n 0, 1) := by decide +kernel
theorem dX7_init_56 : decode cX7_init 56 = .ok (.getfield 20, 3) := by decide +kernel
theorem dX7_init_59 : decode cX7_init 59 = .ok (.iconst 0, 1) := by decide +kernel
theorem dX7_init_60 : decode cX7_init 60 = .ok (.aaload, 1) := by decide +kernel
theorem dX7_init_61 : decode cX7_init 61 = .ok (.iconst 0, 1) := by decide +kernel
theorem dX7_init_62 : decode cX7_init 62 = .ok (.lconst 1, 1) := by decide +kernel
theorem dX7_init_63 : decode cX7_init 63 = .ok (.lastore, 1) := by decide +kernel
theorem dX7_init_64 : decode cX7_init 64 = .ok (.return_, 1) := by decide +kernel
theorem dX7_withGoes_0 : decode cX7_withGoes 0 = .ok (.aload_n 0, 1) := by decide +kernel
theorem dX7_withGoes_1 : decode cX7_withGoes 1 = .ok (.iload_n 1, 1) := by decide +kernel
theorem dX7_withGoes_2 : decode cX7_withGoes 2 = .ok (.invokevirtual 31, 3) := by decide +kernel
theorem dX7_withGoes_5 : decode cX7_withGoes 5 = .ok (.iload_n 2, 1) := by decide +kernel
theorem dX7_withGoes_6 : decode cX7_withGoes 6 = .ok (.ifCond .lt 9, 3) := by decide +kernel
theorem dX7_withGoes_9 : decode cX7_withGoes 9 = .ok (.iload_n 2, 1) := by decide +kernel
theorem dX7_withGoes_10 : decode cX7_withGoes 10 = .ok (.bipush 45, 2) := by decide +kernel
theorem dX7_withGoes_12 : decode cX7_withGoes 12 = .ok (.if_icmp .le 7, 3) := by decide +kernel
theorem dX7_withGoes_15 : decode cX7_withGoes 15 = .ok (.lconst 0, 1) := by decide +kernel
theorem dX7_withGoes_16 : decode cX7_withGoes 16 = .ok (.goto 11, 3) := by decide +kernel
theorem dX7_withGoes_19 : decode cX7_withGoes 19 = .ok (.aload_n 0, 1) := by decide +kernel
theorem dX7_withGoes_20 : decode cX7_withGoes 20 = .ok (.getfield 17, 3) := by decide +kernel
theorem dX7_withGoes_23 : decode cX7_withGoes 23 = .ok (.iload_n 1, 1) := by decide +kernel
theorem dX7_withGoes_24 : decode cX7_withGoes 24 = .ok (.aaload, 1) := by decide +kernel
theorem dX7_withGoes_25 : decode cX7_withGoes 25 = .ok (.iload_n 2, 1) := by decide +kernel
theorem dX7_withGoes_26 : decode cX7_withGoes 26 = .ok (.laload, 1) := by decide +kernel
theorem dX7_withGoes_27 : decode cX7_withGoes 27 = .ok (.lreturn, 1) := by decide +kernel
theorem dX7_withLucky_0 : decode cX7_withLucky 0 = .ok (.aload_n 0, 1) := by decide +kernel
theorem dX7_withLucky_1 : decode cX7_withLucky 1 = .ok (.iload_n 1, 1) := by decide +kernel
theorem dX7_withLucky_2 : decode cX7_withLucky 2 = .ok (.invokevirtual 31, 3) := by decide +kernel
theorem dX7_withLucky_5 : decode cX7_withLucky 5 = .ok (.iload_n 2, 1) := by decide +kernel
theorem dX7_withLucky_6 : decode cX7_withLucky 6 = .ok (.ifCond .lt 8, 3) := by decide +kernel
theorem dX7_withLucky_9 : decode cX7_withLucky 9 = .ok (.iload_n 2, 1) := by decide +kernel
theorem dX7_withLucky_10 : decode cX7_withLucky 10 = .ok (.iload_n 1, 1) := by decide +kernel
theorem dX7_withLucky_11 : decode cX7_withLucky 11 = .ok (.if_icmp .le 7, 3) := by decide +kernel
theorem dX7_withLucky_14 : decode cX7_withLucky 14 = .ok (.lconst 0, 1) := by decide +kernel
theorem dX7_withLucky_15 : decode cX7_withLucky 15 = .ok (.goto 11, 3) := by decide +kernel
theorem dX7_withLucky_18 : decode cX7_withLucky 18 = .ok (.aload_n 0, 1) := by decide +kernel
theorem dX7_withLucky_19 : decode cX7_withLucky 19 = .ok (.getfield 20, 3) := by decide +kernel
theorem dX7_withLucky_22 : decode cX7_withLucky 22 = .ok (.iload_n 1, 1) := by decide +kernel
theorem dX7_withLucky_23 : decode cX7_withLucky 23 = .ok (.aaload, 1) := by decide +kernel
theorem dX7_withLucky_24 : decode cX7_withLucky 24 = .ok (.iload_n 2, 1) := by decide +kernel
theorem dX7_withLucky_25 : decode cX7_withLucky 25 = .ok (.laload, 1) := by decide +kernel
theorem dX7_withLucky_26 : decode cX7_withLucky 26 = .ok (.lreturn, 1) := by decide +kernel
theorem dX7_withLastAt_0 : decode cX7_withLastAt 0 = .ok (.iload_n 2, 1) := by decide +kernel
theorem dX7_withLastAt_1 : decode cX7_withLastAt 1 = .ok (.iconst 1, 1) := by decide +kernel
theorem dX7_withLastAt_2 : decode cX7_withLastAt 2 = .ok (.if_icmp .lt 8, 3) := by decide +kernel
theorem dX7_withLastAt_5 : decode cX7_withLastAt 5 = .ok (.iload_n 2, 1) := by decide +kernel
theorem dX7_withLastAt_6 : decode cX7_withLastAt 6 = .ok (.iload_n 1, 1) := by decide +kernel
theorem dX7_withLastAt_7 : decode cX7_withLastAt 7 = .ok (.if_icmp .le 7, 3) := by decide +kernel
theorem dX7_withLastAt_10 : decode cX7_withLastAt 10 = .ok (.lconst 0, 1) := by decide +kernel
theorem dX7_withLastAt_11 : decode cX7_withLastAt 11 = .ok (.goto 12, 3) := by decide +kernel
theorem dX7_withLastAt_14 : decode cX7_withLastAt 14 = .ok (.iload_n 2, 1) := by decide +kernel
theorem dX7_withLastAt_15 : decode cX7_withLastAt 15 = .ok (.i2l, 1) := by decide +kernel
theorem dX7_withLastAt_16 : decode cX7_withLastAt 16 = .ok (.aload_n 0, 1) := by decide +kernel
theorem dX7_withLastAt_17 : decode cX7_withLastAt 17 = .ok (.iload_n 1, 1) := by decide +kernel
theorem dX7_withLastAt_18 : decode cX7_withLastAt 18 = .ok (.iload_n 2, 1) := by decide +kernel
theorem dX7_withLastAt_19 : decode cX7_withLastAt 19 = .ok (.invokevirtual 35, 3) := by decide +kernel
theorem dX7_withLastAt_22 : decode cX7_withLastAt 22 = .ok (.lmul, 1) := by decide +kernel
theorem dX7_withLastAt_23 : decode cX7_withLastAt 23 = .ok (.lreturn, 1) := by decide +kernel
theorem dX7_withFirstWish_0 : decode cX7_withFirstWish 0 = .ok (.lconst 0, 1) := by decide +kernel
theorem dX7_withFirstWish_1 : decode cX7_withFirstWish 1 = .ok (.lstore_n 3, 1) := by decide +kernel
theorem dX7_withFirstWish_2 : decode cX7_withFirstWish 2 = .ok (.iload_n 2, 1) := by decide +kernel
theorem dX7_withFirstWish_3 : decode cX7_withFirstWish 3 = .ok (.iconst 1, 1) := by decide +kernel
theorem dX7_withFirstWish_4 : decode cX7_withFirstWish 4 = .ok (.invokestatic 39, 3) := by decide +kernel
theorem dX7_withFirstWish_7 : decode cX7_withFirstWish 7 = .ok (.istore 5, 2) := by decide +kernel
theorem dX7_withFirstWish_9 : decode cX7_withFirstWish 9 = .ok (.iload_n 2, 1) := by decide +kernel
theorem dX7_withFirstWish_10 : decode cX7_withFirstWish 10 = .ok (.iconst 1, 1) := by decide +kernel
theorem dX7_withFirstWish_11 : decode cX7_withFirstWish 11 = .ok (.if_icmp .lt 25, 3) := by decide +kernel
theorem dX7_withFirstWish_14 : decode cX7_withFirstWish 14 = .ok (.iload 5, 2) := by decide +kernel
theorem dX7_withFirstWish_16 : decode cX7_withFirstWish 16 = .ok (.iload_n 1, 1) := by decide +kernel
theorem dX7_withFirstWish_17 : decode cX7_withFirstWish 17 = .ok (.if_icmp .gt 19, 3) := by decide +kernel
theorem dX7_withFirstWish_20 : decode cX7_withFirstWish 20 = .ok (.lload_n 3, 1) := by decide +kernel
theorem dX7_withFirstWish_21 : decode cX7_withFirstWish 21 = .ok (.aload_n 0, 1) := by decide +kernel
theorem dX7_withFirstWish_22 : decode cX7_withFirstWish 22 = .ok (.iload_n 1, 1) := by decide +kernel
theorem dX7_withFirstWish_23 : decode cX7_withFirstWish 23 = .ok (.iload 5, 2) := by decide +kernel
theorem dX7_withFirstWish_25 : decode cX7_withFirstWish 25 = .ok (.invokevirtual 35, 3) := by decide +kernel
theorem dX7_withFirstWish_28 : decode cX7_withFirstWish 28 = .ok (.ladd, 1) := by decide +kernel
theorem dX7_withFirstWish_29 : decode cX7_withFirstWish 29 = .ok (.lstore_n 3, 1) := by decide +kernel
theorem dX7_withFirstWish_30 : decode cX7_withFirstWish 30 = .ok (.iinc 5 1, 3) := by decide +kernel
theorem dX7_withFirstWish_33 : decode cX7_withFirstWish 33 = .ok (.goto (-24), 3) := by decide +kernel
theorem dX7_withFirstWish_36 : decode cX7_withFirstWish 36 = .ok (.lload_n 3, 1) := by decide +kernel
theorem dX7_withFirstWish_37 : decode cX7_withFirstWish 37 = .ok (.lreturn, 1) := by decide +kernel
theorem dX7_withOnes_0 : decode cX7_withOnes 0 = .ok (.iload_n 2, 1) := by decide +kernel
theorem dX7_withOnes_1 : decode cX7_withOnes 1 = .ok (.iconst 1, 1) := by decide +kernel
theorem dX7_withOnes_2 : decode cX7_withOnes 2 = .ok (.if_icmp .lt 8, 3) := by decide +kernel
theorem dX7_withOnes_5 : decode cX7_withOnes 5 = .ok (.iload_n 2, 1) := by decide +kernel
theorem dX7_withOnes_6 : decode cX7_withOnes 6 = .ok (.iload_n 1, 1) := by decide +kernel
theorem dX7_withOnes_7 : decode cX7_withOnes 7 = .ok (.if_icmp .le 7, 3) := by decide +kernel
theorem dX7_withOnes_10 : decode cX7_withOnes 10 = .ok (.lconst 0, 1) := by decide +kernel
theorem dX7_withOnes_11 : decode cX7_withOnes 11 = .ok (.goto 26, 3) := by decide +kernel
theorem dX7_withOnes_14 : decode cX7_withOnes 14 = .ok (.aload_n 0, 1) := by decide +kernel
theorem dX7_withOnes_15 : decode cX7_withOnes 15 = .ok (.getfield 27, 3) := by decide +kernel
theorem dX7_withOnes_18 : decode cX7_withOnes 18 = .ok (.iload_n 1, 1) := by decide +kernel
theorem dX7_withOnes_19 : decode cX7_withOnes 19 = .ok (.iconst 1, 1) := by decide +kernel
theorem dX7_withOnes_20 : decode cX7_withOnes 20 = .ok (.isub, 1) := by decide +kernel
theorem dX7_withOnes_21 : decode cX7_withOnes 21 = .ok (.iload_n 2, 1) := by decide +kernel
theorem dX7_withOnes_22 : decode cX7_withOnes 22 = .ok (.iconst 1, 1) := by decide +kernel
theorem dX7_withOnes_23 : decode cX7_withOnes 23 = .ok (.isub, 1) := by decide +kernel
theorem dX7_withOnes_24 : decode cX7_withOnes 24 = .ok (.invokevirtual 45, 3) := by decide +kernel
theorem dX7_withOnes_27 : decode cX7_withOnes 27 = .ok (.i2l, 1) := by decide +kernel
theorem dX7_withOnes_28 : decode cX7_withOnes 28 = .ok (.iload_n 1, 1) := by decide +kernel
theorem dX7_withOnes_29 : decode cX7_withOnes 29 = .ok (.i2l, 1) := by decide +kernel
theorem dX7_withOnes_30 : decode cX7_withOnes 30 = .ok (.iload_n 1, 1) := by decide +kernel
theorem dX7_withOnes_31 : decode cX7_withOnes 31 = .ok (.iload_n 2, 1) := by decide +kernel
theorem dX7_withOnes_32 : decode cX7_withOnes 32 = .ok (.isub, 1) := by decide +kernel
theorem dX7_withOnes_33 : decode cX7_withOnes 33 = .ok (.invokestatic 50, 3) := by decide +kernel
theorem dX7_withOnes_36 : decode cX7_withOnes 36 = .ok (.lmul, 1) := by decide +kernel
theorem dX7_withOnes_37 : decode cX7_withOnes 37 = .ok (.lreturn, 1) := by decide +kernel
theorem dX7_withCuts_0 : decode cX7_withCuts 0 = .ok (.iload_n 2, 1) := by decide +kernel
theorem dX7_withCuts_1 : decode cX7_withCuts 1 = .ok (.ifCond .lt 8, 3) := by decide +kernel
theorem dX7_withCuts_4 : decode cX7_withCuts 4 = .ok (.iload_n 2, 1) := by decide +kernel
theorem dX7_withCuts_5 : decode cX7_withCuts 5 = .ok (.iload_n 1, 1) := by decide +kernel
theorem dX7_withCuts_6 : decode cX7_withCuts 6 = .ok (.if_icmp .lt 5, 3) := by decide +kernel
theorem dX7_withCuts_9 : decode cX7_withCuts 9 = .ok (.lconst 0, 1) := by decide +kernel
theorem dX7_withCuts_10 : decode cX7_withCuts 10 = .ok (.lreturn, 1) := by decide +kernel
theorem dX7_withCuts_11 : decode cX7_withCuts 11 = .ok (.iconst 1, 1) := by decide +kernel
theorem dX7_withCuts_12 : decode cX7_withCuts 12 = .ok (.istore_n 3, 1) := by decide +kernel
theorem dX7_withCuts_13 : decode cX7_withCuts 13 = .ok (.iload_n 3, 1) := by decide +kernel
theorem dX7_withCuts_14 : decode cX7_withCuts 14 = .ok (.iload_n 1, 1) := by decide +kernel
theorem dX7_withCuts_15 : decode cX7_withCuts 15 = .ok (.if_icmp .gt 16, 3) := by decide +kernel
theorem dX7_withCuts_18 : decode cX7_withCuts 18 = .ok (.aload_n 0, 1) := by decide +kernel
theorem dX7_withCuts_19 : decode cX7_withCuts 19 = .ok (.getfield 23, 3) := by decide +kernel
theorem dX7_withCuts_22 : decode cX7_withCuts 22 = .ok (.iload_n 3, 1) := by decide +kernel
theorem dX7_withCuts_23 : decode cX7_withCuts 23 = .ok (.lconst 0, 1) := by decide +kernel
theorem dX7_withCuts_24 : decode cX7_withCuts 24 = .ok (.lastore, 1) := by decide +kernel
theorem dX7_withCuts_25 : decode cX7_withCuts 25 = .ok (.iinc 3 1, 3) := by decide +kernel
theorem dX7_withCuts_28 : decode cX7_withCuts 28 = .ok (.goto (-15), 3) := by decide +kernel
theorem dX7_withCuts_31 : decode cX7_withCuts 31 = .ok (.aload_n 0, 1) := by decide +kernel
theorem dX7_withCuts_32 : decode cX7_withCuts 32 = .ok (.getfield 23, 3) := by decide +kernel
theorem dX7_withCuts_35 : decode cX7_withCuts 35 = .ok (.iconst 0, 1) := by decide +kernel
theorem dX7_withCuts_36 : decode cX7_withCuts 36 = .ok (.lconst 1, 1) := by decide +kernel
theorem dX7_withCuts_37 : decode cX7_withCuts 37 = .ok (.lastore, 1) := by decide +kernel
theorem dX7_withCuts_38 : decode cX7_withCuts 38 = .ok (.iconst 0, 1) := by decide +kernel
theorem dX7_withCuts_39 : decode cX7_withCuts 39 = .ok (.istore_n 3, 1) := by decide +kernel
theorem dX7_withCuts_40 : decode cX7_withCuts 40 = .ok (.iload_n 3, 1) := by decide +kernel
theorem dX7_withCuts_41 : decode cX7_withCuts 41 = .ok (.iload_n 2, 1) := by decide +kernel
theorem dX7_withCuts_42 : decode cX7_withCuts 42 = .ok (.if_icmp .gt 36, 3) := by decide +kernel
theorem dX7_withCuts_45 : decode cX7_withCuts 45 = .ok (.iload_n 1, 1) := by decide +kernel
theorem dX7_withCuts_46 : decode cX7_withCuts 46 = .ok (.istore 4, 2) := by decide +kernel
theorem dX7_withCuts_48 : decode cX7_withCuts 48 = .ok (.iload 4, 2) := by decide +kernel
theorem dX7_withCuts_50 : decode cX7_withCuts 50 = .ok (.ifCond .lt 22, 3) := by decide +kernel
theorem dX7_withCuts_53 : decode cX7_withCuts 53 = .ok (.aload_n 0, 1) := by decide +kernel
theorem dX7_withCuts_54 : decode cX7_withCuts 54 = .ok (.getfield 23, 3) := by decide +kernel
theorem dX7_withCuts_57 : decode cX7_withCuts 57 = .ok (.iload 4, 2) := by decide +kernel
theorem dX7_withCuts_59 : decode cX7_withCuts 59 = .ok (.aload_n 0, 1) := by decide +kernel
theorem dX7_withCuts_60 : decode cX7_withCuts 60 = .ok (.iload 4, 2) := by decide +kernel
theorem dX7_withCuts_62 : decode cX7_withCuts 62 = .ok (.invokevirtual 54, 3) := by decide +kernel
theorem dX7_withCuts_65 : decode cX7_withCuts 65 = .ok (.lastore, 1) := by decide +kernel
theorem dX7_withCuts_66 : decode cX7_withCuts 66 = .ok (.iinc 4 (-1), 3) := by decide +kernel
theorem dX7_withCuts_69 : decode cX7_withCuts 69 = .ok (.goto (-21), 3) := by decide +kernel
theorem dX7_withCuts_72 : decode cX7_withCuts 72 = .ok (.iinc 3 1, 3) := by decide +kernel
theorem dX7_withCuts_75 : decode cX7_withCuts 75 = .ok (.goto (-35), 3) := by decide +kernel
theorem dX7_withCuts_78 : decode cX7_withCuts 78 = .ok (.aload_n 0, 1) := by decide +kernel
theorem dX7_withCuts_79 : decode cX7_withCuts 79 = .ok (.getfield 23, 3) := by decide +kernel
theorem dX7_withCuts_82 : decode cX7_withCuts 82 = .ok (.iload_n 1, 1) := by decide +kernel
theorem dX7_withCuts_83 : decode cX7_withCuts 83 = .ok (.laload, 1) := by decide +kernel
theorem dX7_withCuts_84 : decode cX7_withCuts 84 = .ok (.lreturn, 1) := by decide +kernel
theorem dX7_withOnePartMore_0 : decode cX7_withOnePartMore 0 = .ok (.lconst 0, 1) := by decide +kernel
theorem dX7_withOnePartMore_1 : decode cX7_withOnePartMore 1 = .ok (.lstore_n 2, 1) := by decide +kernel
theorem dX7_withOnePartMore_2 : decode cX7_withOnePartMore 2 = .ok (.iconst 1, 1) := by decide +kernel
theorem dX7_withOnePartMore_3 : decode cX7_withOnePartMore 3 = .ok (.istore 4, 2) := by decide +kernel
theorem dX7_withOnePartMore_5 : decode cX7_withOnePartMore 5 = .ok (.iload 4, 2) := by decide +kernel
theorem dX7_withOnePartMore_7 : decode cX7_withOnePartMore 7 = .ok (.iload_n 1, 1) := by decide +kernel
theorem dX7_withOnePartMore_8 : decode cX7_withOnePartMore 8 = .ok (.if_icmp .gt 46, 3) := by decide +kernel
theorem dX7_withOnePartMore_11 : decode cX7_withOnePartMore 11 = .ok (.lload_n 2, 1) := by decide +kernel
theorem dX7_withOnePartMore_12 : decode cX7_withOnePartMore 12 = .ok (.aload_n 0, 1) := by decide +kernel
theorem dX7_withOnePartMore_13 : decode cX7_withOnePartMore 13 = .ok (.getfield 27, 3) := by decide +kernel
theorem dX7_withOnePartMore_16 : decode cX7_withOnePartMore 16 = .ok (.iload_n 1, 1) := by decide +kernel
theorem dX7_withOnePartMore_17 : decode cX7_withOnePartMore 17 = .ok (.iload 4, 2) := by decide +kernel
theorem dX7_withOnePartMore_19 : decode cX7_withOnePartMore 19 = .ok (.invokevirtual 45, 3) := by decide +kernel
theorem dX7_withOnePartMore_22 : decode cX7_withOnePartMore 22 = .ok (.i2l, 1) := by decide +kernel
theorem dX7_withOnePartMore_23 : decode cX7_withOnePartMore 23 = .ok (.iload 4, 2) := by decide +kernel
theorem dX7_withOnePartMore_25 : decode cX7_withOnePartMore 25 = .ok (.iconst 1, 1) := by decide +kernel
theorem dX7_withOnePartMore_26 : decode cX7_withOnePartMore 26 = .ok (.isub, 1) := by decide +kernel
theorem dX7_withOnePartMore_27 : decode cX7_withOnePartMore 27 = .ok (.i2l, 1) := by decide +kernel
theorem dX7_withOnePartMore_28 : decode cX7_withOnePartMore 28 = .ok (.iload 4, 2) := by decide +kernel
theorem dX7_withOnePartMore_30 : decode cX7_withOnePartMore 30 = .ok (.iconst 1, 1) := by decide +kernel
theorem dX7_withOnePartMore_31 : decode cX7_withOnePartMore 31 = .ok (.isub, 1) := by decide +kernel
theorem dX7_withOnePartMore_32 : decode cX7_withOnePartMore 32 = .ok (.invokestatic 50, 3) := by decide +kernel
theorem dX7_withOnePartMore_35 : decode cX7_withOnePartMore 35 = .ok (.lmul, 1) := by decide +kernel
theorem dX7_withOnePartMore_36 : decode cX7_withOnePartMore 36 = .ok (.aload_n 0, 1) := by decide +kernel
theorem dX7_withOnePartMore_37 : decode cX7_withOnePartMore 37 = .ok (.getfield 23, 3) := by decide +kernel
theorem dX7_withOnePartMore_40 : decode cX7_withOnePartMore 40 = .ok (.iload_n 1, 1) := by decide +kernel
theorem dX7_withOnePartMore_41 : decode cX7_withOnePartMore 41 = .ok (.iload 4, 2) := by decide +kernel
theorem dX7_withOnePartMore_43 : decode cX7_withOnePartMore 43 = .ok (.isub, 1) := by decide +kernel
theorem dX7_withOnePartMore_44 : decode cX7_withOnePartMore 44 = .ok (.laload, 1) := by decide +kernel
theorem dX7_withOnePartMore_45 : decode cX7_withOnePartMore 45 = .ok (.lmul, 1) := by decide +kernel
theorem dX7_withOnePartMore_46 : decode cX7_withOnePartMore 46 = .ok (.ladd, 1) := by decide +kernel
theorem dX7_withOnePartMore_47 : decode cX7_withOnePartMore 47 = .ok (.lstore_n 2, 1) := by decide +kernel
theorem dX7_withOnePartMore_48 : decode cX7_withOnePartMore 48 = .ok (.iinc 4 1, 3) := by decide +kernel
theorem dX7_withOnePartMore_51 : decode cX7_withOnePartMore 51 = .ok (.goto (-46), 3) := by decide +kernel
theorem dX7_withOnePartMore_54 : decode cX7_withOnePartMore 54 = .ok (.lload_n 2, 1) := by decide +kernel
theorem dX7_withOnePartMore_55 : decode cX7_withOnePartMore 55 = .ok (.lreturn, 1) := by decide +kernel
theorem dX7_sidesOf_0 : decode cX7_sidesOf 0 = .ok (.aload_n 0, 1) := by decide +kernel
theorem dX7_sidesOf_1 : decode cX7_sidesOf 1 = .ok (.getfield 27, 3) := by decide +kernel
theorem dX7_sidesOf_4 : decode cX7_sidesOf 4 = .ok (.iload_n 1, 1) := by decide +kernel
theorem dX7_sidesOf_5 : decode cX7_sidesOf 5 = .ok (.iconst 1, 1) := by decide +kernel
theorem dX7_sidesOf_6 : decode cX7_sidesOf 6 = .ok (.isub, 1) := by decide +kernel
theorem dX7_sidesOf_7 : decode cX7_sidesOf 7 = .ok (.iload_n 2, 1) := by decide +kernel
theorem dX7_sidesOf_8 : decode cX7_sidesOf 8 = .ok (.iconst 1, 1) := by decide +kernel
theorem dX7_sidesOf_9 : decode cX7_sidesOf 9 = .ok (.isub, 1) := by decide +kernel
theorem dX7_sidesOf_10 : decode cX7_sidesOf 10 = .ok (.invokevirtual 45, 3) := by decide +kernel
theorem dX7_sidesOf_13 : decode cX7_sidesOf 13 = .ok (.i2l, 1) := by decide +kernel
theorem dX7_sidesOf_14 : decode cX7_sidesOf 14 = .ok (.aload_n 0, 1) := by decide +kernel
theorem dX7_sidesOf_15 : decode cX7_sidesOf 15 = .ok (.iload_n 2, 1) := by decide +kernel
theorem dX7_sidesOf_16 : decode cX7_sidesOf 16 = .ok (.iconst 1, 1) := by decide +kernel
theorem dX7_sidesOf_17 : decode cX7_sidesOf 17 = .ok (.isub, 1) := by decide +kernel
theorem dX7_sidesOf_18 : decode cX7_sidesOf 18 = .ok (.invokevirtual 58, 3) := by decide +kernel
theorem dX7_sidesOf_21 : decode cX7_sidesOf 21 = .ok (.lmul, 1) := by decide +kernel
theorem dX7_sidesOf_22 : decode cX7_sidesOf 22 = .ok (.aload_n 0, 1) := by decide +kernel
theorem dX7_sidesOf_23 : decode cX7_sidesOf 23 = .ok (.iload_n 1, 1) := by decide +kernel
theorem dX7_sidesOf_24 : decode cX7_sidesOf 24 = .ok (.iload_n 2, 1) := by decide +kernel
theorem dX7_sidesOf_25 : decode cX7_sidesOf 25 = .ok (.isub, 1) := by decide +kernel
theorem dX7_sidesOf_26 : decode cX7_sidesOf 26 = .ok (.invokevirtual 58, 3) := by decide +kernel
theorem dX7_sidesOf_29 : decode cX7_sidesOf 29 = .ok (.lmul, 1) := by decide +kernel
theorem dX7_sidesOf_30 : decode cX7_sidesOf 30 = .ok (.lreturn, 1) := by decide +kernel
theorem dX7_goodRows_0 : decode cX7_goodRows 0 = .ok (.iload_n 1, 1) := by decide +kernel
theorem dX7_goodRows_1 : decode cX7_goodRows 1 = .ok (.ifCond .ne 7, 3) := by decide +kernel
theorem dX7_goodRows_4 : decode cX7_goodRows 4 = .ok (.lconst 1, 1) := by decide +kernel
theorem dX7_goodRows_5 : decode cX7_goodRows 5 = .ok (.goto 13, 3) := by decide +kernel
theorem dX7_goodRows_8 : decode cX7_goodRows 8 = .ok (.iload_n 1, 1) := by decide +kernel
theorem dX7_goodRows_9 : decode cX7_goodRows 9 = .ok (.iconst 1, 1) := by decide +kernel
theorem dX7_goodRows_10 : decode cX7_goodRows 10 = .ok (.iadd, 1) := by decide +kernel
theorem dX7_goodRows_11 : decode cX7_goodRows 11 = .ok (.i2l, 1) := by decide +kernel
theorem dX7_goodRows_12 : decode cX7_goodRows 12 = .ok (.iload_n 1, 1) := by decide +kernel
theorem dX7_goodRows_13 : decode cX7_goodRows 13 = .ok (.iconst 1, 1) := by decide +kernel
theorem dX7_goodRows_14 : decode cX7_goodRows 14 = .ok (.isub, 1) := by decide +kernel
theorem dX7_goodRows_15 : decode cX7_goodRows 15 = .ok (.invokestatic 50, 3) := by decide +kernel
theorem dX7_goodRows_18 : decode cX7_goodRows 18 = .ok (.lreturn, 1) := by decide +kernel
theorem dX7_learn_0 : decode cX7_learn 0 = .ok (.aload_n 0, 1) := by decide +kernel
theorem dX7_learn_1 : decode cX7_learn 1 = .ok (.getfield 9, 3) := by decide +kernel
theorem dX7_learn_4 : decode cX7_learn 4 = .ok (.iconst 1, 1) := by decide +kernel
theorem dX7_learn_5 : decode cX7_learn 5 = .ok (.iadd, 1) := by decide +kernel
theorem dX7_learn_6 : decode cX7_learn 6 = .ok (.istore_n 2, 1) := by decide +kernel
theorem dX7_learn_7 : decode cX7_learn 7 = .ok (.iload_n 2, 1) := by decide +kernel
theorem dX7_learn_8 : decode cX7_learn 8 = .ok (.iload_n 1, 1) := by decide +kernel
theorem dX7_learn_9 : decode cX7_learn 9 = .ok (.if_icmp .gt 34, 3) := by decide +kernel
theorem dX7_learn_12 : decode cX7_learn 12 = .ok (.iconst 1, 1) := by decide +kernel
theorem dX7_learn_13 : decode cX7_learn 13 = .ok (.istore_n 3, 1) := by decide +kernel
theorem dX7_learn_14 : decode cX7_learn 14 = .ok (.iload_n 3, 1) := by decide +kernel
theorem dX7_learn_15 : decode cX7_learn 15 = .ok (.iload_n 2, 1) := by decide +kernel
theorem dX7_learn_16 : decode cX7_learn 16 = .ok (.if_icmp .gt 21, 3) := by decide +kernel
theorem dX7_learn_19 : decode cX7_learn 19 = .ok (.aload_n 0, 1) := by decide +kernel
theorem dX7_learn_20 : decode cX7_learn 20 = .ok (.iload_n 2, 1) := by decide +kernel
theorem dX7_learn_21 : decode cX7_learn 21 = .ok (.iload_n 3, 1) := by decide +kernel
theorem dX7_learn_22 : decode cX7_learn 22 = .ok (.invokevirtual 61, 3) := by decide +kernel
theorem dX7_learn_25 : decode cX7_learn 25 = .ok (.aload_n 0, 1) := by decide +kernel
theorem dX7_learn_26 : decode cX7_learn 26 = .ok (.iload_n 2, 1) := by decide +kernel
theorem dX7_learn_27 : decode cX7_learn 27 = .ok (.iload_n 3, 1) := by decide +kernel
theorem dX7_learn_28 : decode cX7_learn 28 = .ok (.invokevirtual 65, 3) := by decide +kernel
theorem dX7_learn_31 : decode cX7_learn 31 = .ok (.iinc 3 1, 3) := by decide +kernel
theorem dX7_learn_34 : decode cX7_learn 34 = .ok (.goto (-20), 3) := by decide +kernel
theorem dX7_learn_37 : decode cX7_learn 37 = .ok (.iinc 2 1, 3) := by decide +kernel
theorem dX7_learn_40 : decode cX7_learn 40 = .ok (.goto (-33), 3) := by decide +kernel
theorem dX7_learn_43 : decode cX7_learn 43 = .ok (.aload_n 0, 1) := by decide +kernel
theorem dX7_learn_44 : decode cX7_learn 44 = .ok (.aload_n 0, 1) := by decide +kernel
theorem dX7_learn_45 : decode cX7_learn 45 = .ok (.getfield 9, 3) := by decide +kernel
theorem dX7_learn_48 : decode cX7_learn 48 = .ok (.iload_n 1, 1) := by decide +kernel
theorem dX7_learn_49 : decode cX7_learn 49 = .ok (.invokestatic 39, 3) := by decide +kernel
theorem dX7_learn_52 : decode cX7_learn 52 = .ok (.putfield 9, 3) := by decide +kernel
theorem dX7_learn_55 : decode cX7_learn 55 = .ok (.return_, 1) := by decide +kernel
theorem dX7_mostGoes_0 : decode cX7_mostGoes 0 = .ok (.iload_n 1, 1) := by decide +kernel
theorem dX7_mostGoes_1 : decode cX7_mostGoes 1 = .ok (.iload_n 1, 1) := by decide +kernel
theorem dX7_mostGoes_2 : decode cX7_mostGoes 2 = .ok (.iconst 1, 1) := by decide +kernel
theorem dX7_mostGoes_3 : decode cX7_mostGoes 3 = .ok (.isub, 1) := by decide +kernel
theorem dX7_mostGoes_4 : decode cX7_mostGoes 4 = .ok (.imul, 1) := by decide +kernel
theorem dX7_mostGoes_5 : decode cX7_mostGoes 5 = .ok (.iconst 2, 1) := by decide +kernel
theorem dX7_mostGoes_6 : decode cX7_mostGoes 6 = .ok (.idiv, 1) := by decide +kernel
theorem dX7_mostGoes_7 : decode cX7_mostGoes 7 = .ok (.ireturn, 1) := by decide +kernel
theorem dX7_addGoes_0 : decode cX7_addGoes 0 = .ok (.iload_n 2, 1) := by decide +kernel
theorem dX7_addGoes_1 : decode cX7_addGoes 1 = .ok (.iconst 1, 1) := by decide +kernel
theorem dX7_addGoes_2 : decode cX7_addGoes 2 = .ok (.isub, 1) := by decide +kernel
theorem dX7_addGoes_3 : decode cX7_addGoes 3 = .ok (.istore_n 3, 1) := by decide +kernel
theorem dX7_addGoes_4 : decode cX7_addGoes 4 = .ok (.iload_n 1, 1) := by decide +kernel
theorem dX7_addGoes_5 : decode cX7_addGoes 5 = .ok (.iload_n 2, 1) := by decide +kernel
theorem dX7_addGoes_6 : decode cX7_addGoes 6 = .ok (.isub, 1) := by decide +kernel
theorem dX7_addGoes_7 : decode cX7_addGoes 7 = .ok (.istore 4, 2) := by decide +kernel
theorem dX7_addGoes_9 : decode cX7_addGoes 9 = .ok (.iconst 0, 1) := by decide +kernel
theorem dX7_addGoes_10 : decode cX7_addGoes 10 = .ok (.istore 5, 2) := by decide +kernel
theorem dX7_addGoes_12 : decode cX7_addGoes 12 = .ok (.iload 5, 2) := by decide +kernel
theorem dX7_addGoes_14 : decode cX7_addGoes 14 = .ok (.aload_n 0, 1) := by decide +kernel
theorem dX7_addGoes_15 : decode cX7_addGoes 15 = .ok (.iload_n 3, 1) := by decide +kernel
theorem dX7_addGoes_16 : decode cX7_addGoes 16 = .ok (.invokevirtual 68, 3) := by decide +kernel
theorem dX7_addGoes_19 : decode cX7_addGoes 19 = .ok (.if_icmp .gt 99, 3) := by decide +kernel
theorem dX7_addGoes_22 : decode cX7_addGoes 22 = .ok (.iconst 0, 1) := by decide +kernel
theorem dX7_addGoes_23 : decode cX7_addGoes 23 = .ok (.istore 6, 2) := by decide +kernel
theorem dX7_addGoes_25 : decode cX7_addGoes 25 = .ok (.iload 6, 2) := by decide +kernel
theorem dX7_addGoes_27 : decode cX7_addGoes 27 = .ok (.aload_n 0, 1) := by decide +kernel
theorem dX7_addGoes_28 : decode cX7_addGoes 28 = .ok (.iload 4, 2) := by decide +kernel
theorem dX7_addGoes_30 : decode cX7_addGoes 30 = .ok (.invokevirtual 68, 3) := by decide +kernel
theorem dX7_addGoes_33 : decode cX7_addGoes 33 = .ok (.if_icmp .gt 79, 3) := by decide +kernel
theorem dX7_addGoes_36 : decode cX7_addGoes 36 = .ok (.aload_n 0, 1) := by decide +kernel
theorem dX7_addGoes_37 : decode cX7_addGoes 37 = .ok (.getfield 27, 3) := by decide +kernel
theorem dX7_addGoes_40 : decode cX7_addGoes 40 = .ok (.iload_n 1, 1) := by decide +kernel
theorem dX7_addGoes_41 : decode cX7_addGoes 41 = .ok (.iconst 1, 1) := by decide +kernel
theorem dX7_addGoes_42 : decode cX7_addGoes 42 = .ok (.isub, 1) := by decide +kernel
theorem dX7_addGoes_43 : decode cX7_addGoes 43 = .ok (.iload_n 3, 1) := by decide +kernel
theorem dX7_addGoes_44 : decode cX7_addGoes 44 = .ok (.invokevirtual 45, 3) := by decide +kernel
theorem dX7_addGoes_47 : decode cX7_addGoes 47 = .ok (.i2l, 1) := by decide +kernel
theorem dX7_addGoes_48 : decode cX7_addGoes 48 = .ok (.aload_n 0, 1) := by decide +kernel
theorem dX7_addGoes_49 : decode cX7_addGoes 49 = .ok (.getfield 17, 3) := by decide +kernel
theorem dX7_addGoes_52 : decode cX7_addGoes 52 = .ok (.iload_n 3, 1) := by decide +kernel
theorem dX7_addGoes_53 : decode cX7_addGoes 53 = .ok (.aaload, 1) := by decide +kernel
theorem dX7_addGoes_54 : decode cX7_addGoes 54 = .ok (.iload 5, 2) := by decide +kernel
theorem dX7_addGoes_56 : decode cX7_addGoes 56 = .ok (.laload, 1) := by decide +kernel
theorem dX7_addGoes_57 : decode cX7_addGoes 57 = .ok (.lmul, 1) := by decide +kernel
theorem dX7_addGoes_58 : decode cX7_addGoes 58 = .ok (.aload_n 0, 1) := by decide +kernel
theorem dX7_addGoes_59 : decode cX7_addGoes 59 = .ok (.getfield 17, 3) := by decide +kernel
theorem dX7_addGoes_62 : decode cX7_addGoes 62 = .ok (.iload 4, 2) := by decide +kernel
theorem dX7_addGoes_64 : decode cX7_addGoes 64 = .ok (.aaload, 1) := by decide +kernel
theorem dX7_addGoes_65 : decode cX7_addGoes 65 = .ok (.iload 6, 2) := by decide +kernel
theorem dX7_addGoes_67 : decode cX7_addGoes 67 = .ok (.laload, 1) := by decide +kernel
theorem dX7_addGoes_68 : decode cX7_addGoes 68 = .ok (.lmul, 1) := by decide +kernel
theorem dX7_addGoes_69 : decode cX7_addGoes 69 = .ok (.lstore 7, 2) := by decide +kernel
theorem dX7_addGoes_71 : decode cX7_addGoes 71 = .ok (.iconst 0, 1) := by decide +kernel
theorem dX7_addGoes_72 : decode cX7_addGoes 72 = .ok (.istore 9, 2) := by decide +kernel
theorem dX7_addGoes_74 : decode cX7_addGoes 74 = .ok (.iload 9, 2) := by decide +kernel
theorem dX7_addGoes_76 : decode cX7_addGoes 76 = .ok (.iload_n 2, 1) := by decide +kernel
theorem dX7_addGoes_77 : decode cX7_addGoes 77 = .ok (.if_icmp .ge 29, 3) := by decide +kernel
theorem dX7_addGoes_80 : decode cX7_addGoes 80 = .ok (.aload_n 0, 1) := by decide +kernel
theorem dX7_addGoes_81 : decode cX7_addGoes 81 = .ok (.getfield 17, 3) := by decide +kernel
theorem dX7_addGoes_84 : decode cX7_addGoes 84 = .ok (.iload_n 1, 1) := by decide +kernel
theorem dX7_addGoes_85 : decode cX7_addGoes 85 = .ok (.aaload, 1) := by decide +kernel
theorem dX7_addGoes_86 : decode cX7_addGoes 86 = .ok (.iload 5, 2) := by decide +kernel
theorem dX7_addGoes_88 : decode cX7_addGoes 88 = .ok (.iload 6, 2) := by decide +kernel
theorem dX7_addGoes_90 : decode cX7_addGoes 90 = .ok (.iadd, 1) := by decide +kernel
theorem dX7_addGoes_91 : decode cX7_addGoes 91 = .ok (.iload 9, 2) := by decide +kernel
theorem dX7_addGoes_93 : decode cX7_addGoes 93 = .ok (.iadd, 1) := by decide +kernel
theorem dX7_addGoes_94 : decode cX7_addGoes 94 = .ok (.dup2, 1) := by decide +kernel
theorem dX7_addGoes_95 : decode cX7_addGoes 95 = .ok (.laload, 1) := by decide +kernel
theorem dX7_addGoes_96 : decode cX7_addGoes 96 = .ok (.lload 7, 2) := by decide +kernel
theorem dX7_addGoes_98 : decode cX7_addGoes 98 = .ok (.ladd, 1) := by decide +kernel
theorem dX7_addGoes_99 : decode cX7_addGoes 99 = .ok (.lastore, 1) := by decide +kernel
theorem dX7_addGoes_100 : decode cX7_addGoes 100 = .ok (.iinc 9 1, 3) := by decide +kernel
theorem dX7_addGoes_103 : decode cX7_addGoes 103 = .ok (.goto (-29), 3) := by decide +kernel
theorem dX7_addGoes_106 : decode cX7_addGoes 106 = .ok (.iinc 6 1, 3) := by decide +kernel
theorem dX7_addGoes_109 : decode cX7_addGoes 109 = .ok (.goto (-84), 3) := by decide +kernel
theorem dX7_addGoes_112 : decode cX7_addGoes 112 = .ok (.iinc 5 1, 3) := by decide +kernel
theorem dX7_addGoes_115 : decode cX7_addGoes 115 = .ok (.goto (-103), 3) := by decide +kernel
theorem dX7_addGoes_118 : decode cX7_addGoes 118 = .ok (.return_, 1) := by decide +kernel
theorem dX7_addLucky_0 : decode cX7_addLucky 0 = .ok (.iload_n 2, 1) := by decide +kernel
theorem dX7_addLucky_1 : decode cX7_addLucky 1 = .ok (.iconst 1, 1) := by decide +kernel
theorem dX7_addLucky_2 : decode cX7_addLucky 2 = .ok (.isub, 1) := by decide +kernel
theorem dX7_addLucky_3 : decode cX7_addLucky 3 = .ok (.istore_n 3, 1) := by decide +kernel
theorem dX7_addLucky_4 : decode cX7_addLucky 4 = .ok (.iload_n 1, 1) := by decide +kernel
theorem dX7_addLucky_5 : decode cX7_addLucky 5 = .ok (.iload_n 2, 1) := by decide +kernel
theorem dX7_addLucky_6 : decode cX7_addLucky 6 = .ok (.isub, 1) := by decide +kernel
theorem dX7_addLucky_7 : decode cX7_addLucky 7 = .ok (.istore 4, 2) := by decide +kernel
theorem dX7_addLucky_9 : decode cX7_addLucky 9 = .ok (.iconst 0, 1) := by decide +kernel
theorem dX7_addLucky_10 : decode cX7_addLucky 10 = .ok (.istore 5, 2) := by decide +kernel
theorem dX7_addLucky_12 : decode cX7_addLucky 12 = .ok (.iload 5, 2) := by decide +kernel
theorem dX7_addLucky_14 : decode cX7_addLucky 14 = .ok (.iload_n 3, 1) := by decide +kernel
theorem dX7_addLucky_15 : decode cX7_addLucky 15 = .ok (.if_icmp .gt 99, 3) := by decide +kernel
theorem dX7_addLucky_18 : decode cX7_addLucky 18 = .ok (.iconst 0, 1) := by decide +kernel
theorem dX7_addLucky_19 : decode cX7_addLucky 19 = .ok (.istore 6, 2) := by decide +kernel
theorem dX7_addLucky_21 : decode cX7_addLucky 21 = .ok (.iload 6, 2) := by decide +kernel
theorem dX7_addLucky_23 : decode cX7_addLucky 23 = .ok (.iload 4, 2) := by decide +kernel
theorem dX7_addLucky_25 : decode cX7_addLucky 25 = .ok (.if_icmp .gt 83, 3) := by decide +kernel
theorem dX7_addLucky_28 : decode cX7_addLucky 28 = .ok (.aload_n 0, 1) := by decide +kernel
theorem dX7_addLucky_29 : decode cX7_addLucky 29 = .ok (.getfield 27, 3) := by decide +kernel
theorem dX7_addLucky_32 : decode cX7_addLucky 32 = .ok (.iload_n 1, 1) := by decide +kernel
theorem dX7_addLucky_33 : decode cX7_addLucky 33 = .ok (.iconst 1, 1) := by decide +kernel
theorem dX7_addLucky_34 : decode cX7_addLucky 34 = .ok (.isub, 1) := by decide +kernel
theorem dX7_addLucky_35 : decode cX7_addLucky 35 = .ok (.iload_n 3, 1) := by decide +kernel
theorem dX7_addLucky_36 : decode cX7_addLucky 36 = .ok (.invokevirtual 45, 3) := by decide +kernel
theorem dX7_addLucky_39 : decode cX7_addLucky 39 = .ok (.i2l, 1) := by decide +kernel
theorem dX7_addLucky_40 : decode cX7_addLucky 40 = .ok (.aload_n 0, 1) := by decide +kernel
theorem dX7_addLucky_41 : decode cX7_addLucky 41 = .ok (.getfield 20, 3) := by decide +kernel
theorem dX7_addLucky_44 : decode cX7_addLucky 44 = .ok (.iload_n 3, 1) := by decide +kernel
theorem dX7_addLucky_45 : decode cX7_addLucky 45 = .ok (.aaload, 1) := by decide +kernel
theorem dX7_addLucky_46 : decode cX7_addLucky 46 = .ok (.iload 5, 2) := by decide +kernel
theorem dX7_addLucky_48 : decode cX7_addLucky 48 = .ok (.laload, 1) := by decide +kernel
theorem dX7_addLucky_49 : decode cX7_addLucky 49 = .ok (.lmul, 1) := by decide +kernel
theorem dX7_addLucky_50 : decode cX7_addLucky 50 = .ok (.aload_n 0, 1) := by decide +kernel
theorem dX7_addLucky_51 : decode cX7_addLucky 51 = .ok (.getfield 20, 3) := by decide +kernel
theorem dX7_addLucky_54 : decode cX7_addLucky 54 = .ok (.iload 4, 2) := by decide +kernel
theorem dX7_addLucky_56 : decode cX7_addLucky 56 = .ok (.aaload, 1) := by decide +kernel
theorem dX7_addLucky_57 : decode cX7_addLucky 57 = .ok (.iload 6, 2) := by decide +kernel
theorem dX7_addLucky_59 : decode cX7_addLucky 59 = .ok (.laload, 1) := by decide +kernel
theorem dX7_addLucky_60 : decode cX7_addLucky 60 = .ok (.lmul, 1) := by decide +kernel
theorem dX7_addLucky_61 : decode cX7_addLucky 61 = .ok (.lstore 7, 2) := by decide +kernel
theorem dX7_addLucky_63 : decode cX7_addLucky 63 = .ok (.aload_n 0, 1) := by decide +kernel
theorem dX7_addLucky_64 : decode cX7_addLucky 64 = .ok (.getfield 20, 3) := by decide +kernel
theorem dX7_addLucky_67 : decode cX7_addLucky 67 = .ok (.iload_n 1, 1) := by decide +kernel
theorem dX7_addLucky_68 : decode cX7_addLucky 68 = .ok (.aaload, 1) := by decide +kernel
theorem dX7_addLucky_69 : decode cX7_addLucky 69 = .ok (.iload 5, 2) := by decide +kernel
theorem dX7_addLucky_71 : decode cX7_addLucky 71 = .ok (.iload 6, 2) := by decide +kernel
theorem dX7_addLucky_73 : decode cX7_addLucky 73 = .ok (.iadd, 1) := by decide +kernel
theorem dX7_addLucky_74 : decode cX7_addLucky 74 = .ok (.dup2, 1) := by decide +kernel
theorem dX7_addLucky_75 : decode cX7_addLucky 75 = .ok (.laload, 1) := by decide +kernel
theorem dX7_addLucky_76 : decode cX7_addLucky 76 = .ok (.lload 7, 2) := by decide +kernel
theorem dX7_addLucky_78 : decode cX7_addLucky 78 = .ok (.iload_n 3, 1) := by decide +kernel
theorem dX7_addLucky_79 : decode cX7_addLucky 79 = .ok (.i2l, 1) := by decide +kernel
theorem dX7_addLucky_80 : decode cX7_addLucky 80 = .ok (.lmul, 1) := by decide +kernel
theorem dX7_addLucky_81 : decode cX7_addLucky 81 = .ok (.ladd, 1) := by decide +kernel
theorem dX7_addLucky_82 : decode cX7_addLucky 82 = .ok (.lastore, 1) := by decide +kernel
theorem dX7_addLucky_83 : decode cX7_addLucky 83 = .ok (.aload_n 0, 1) := by decide +kernel
theorem dX7_addLucky_84 : decode cX7_addLucky 84 = .ok (.getfield 20, 3) := by decide +kernel
theorem dX7_addLucky_87 : decode cX7_addLucky 87 = .ok (.iload_n 1, 1) := by decide +kernel
theorem dX7_addLucky_88 : decode cX7_addLucky 88 = .ok (.aaload, 1) := by decide +kernel
theorem dX7_addLucky_89 : decode cX7_addLucky 89 = .ok (.iload 5, 2) := by decide +kernel
theorem dX7_addLucky_91 : decode cX7_addLucky 91 = .ok (.iload 6, 2) := by decide +kernel
theorem dX7_addLucky_93 : decode cX7_addLucky 93 = .ok (.iadd, 1) := by decide +kernel
theorem dX7_addLucky_94 : decode cX7_addLucky 94 = .ok (.iconst 1, 1) := by decide +kernel
theorem dX7_addLucky_95 : decode cX7_addLucky 95 = .ok (.iadd, 1) := by decide +kernel
theorem dX7_addLucky_96 : decode cX7_addLucky 96 = .ok (.dup2, 1) := by decide +kernel
theorem dX7_addLucky_97 : decode cX7_addLucky 97 = .ok (.laload, 1) := by decide +kernel
theorem dX7_addLucky_98 : decode cX7_addLucky 98 = .ok (.lload 7, 2) := by decide +kernel
theorem dX7_addLucky_100 : decode cX7_addLucky 100 = .ok (.ladd, 1) := by decide +kernel
theorem dX7_addLucky_101 : decode cX7_addLucky 101 = .ok (.lastore, 1) := by decide +kernel
theorem dX7_addLucky_102 : decode cX7_addLucky 102 = .ok (.iinc 6 1, 3) := by decide +kernel
theorem dX7_addLucky_105 : decode cX7_addLucky 105 = .ok (.goto (-84), 3) := by decide +kernel
theorem dX7_addLucky_108 : decode cX7_addLucky 108 = .ok (.iinc 5 1, 3) := by decide +kernel
theorem dX7_addLucky_111 : decode cX7_addLucky 111 = .ok (.goto (-99), 3) := by decide +kernel
theorem dX7_addLucky_114 : decode cX7_addLucky 114 = .ok (.return_, 1) := by decide +kernel
theorem dX8_init_0 : decode cX8_init 0 = .ok (.aload_n 0, 1) := by decide +kernel
theorem dX8_init_1 : decode cX8_init 1 = .ok (.invokespecial 3, 3) := by decide +kernel
theorem dX8_init_4 : decode cX8_init 4 = .ok (.aload_n 0, 1) := by decide +kernel
theorem dX8_init_5 : decode cX8_init 5 = .ok (.iconst 0, 1) := by decide +kernel
theorem dX8_init_6 : decode cX8_init 6 = .ok (.putfield 9, 3) := by decide +kernel
theorem dX8_init_9 : decode cX8_init 9 = .ok (.aload_n 0, 1) := by decide +kernel
theorem dX8_init_10 : decode cX8_init 10 = .ok (.bipush 11, 2) := by decide +kernel
theorem dX8_init_12 : decode cX8_init 12 = .ok (.newarray .int, 2) := by decide +kernel
theorem dX8_init_14 : decode cX8_init 14 = .ok (.putfield 15, 3) := by decide +kernel
theorem dX8_init_17 : decode cX8_init 17 = .ok (.aload_n 0, 1) := by decide +kernel
theorem dX8_init_18 : decode cX8_init 18 = .ok (.bipush 11, 2) := by decide +kernel
theorem dX8_init_20 : decode cX8_init 20 = .ok (.newarray .int, 2) := by decide +kernel
theorem dX8_init_22 : decode cX8_init 22 = .ok (.putfield 19, 3) := by decide +kernel
theorem dX8_init_25 : decode cX8_init 25 = .ok (.aload_n 0, 1) := by decide +kernel
theorem dX8_init_26 : decode cX8_init 26 = .ok (.bipush 11, 2) := by decide +kernel
theorem dX8_init_28 : decode cX8_init 28 = .ok (.newarray .int, 2) := by decide +kernel
theorem dX8_init_30 : decode cX8_init 30 = .ok (.putfield 22, 3) := by decide +kernel
theorem dX8_init_33 : decode cX8_init 33 = .ok (.aload_n 0, 1) := by decide +kernel
theorem dX8_init_34 : decode cX8_init 34 = .ok (.bipush 11, 2) := by decide +kernel
theorem dX8_init_36 : decode cX8_init 36 = .ok (.newarray .int, 2) := by decide +kernel
theorem dX8_init_38 : decode cX8_init 38 = .ok (.putfield 25, 3) := by decide +kernel
theorem dX8_init_41 : decode cX8_init 41 = .ok (.aload_n 0, 1) := by decide +kernel
theorem dX8_init_42 : decode cX8_init 42 = .ok (.bipush 11, 2) := by decide +kernel
theorem dX8_init_44 : decode cX8_init 44 = .ok (.newarray .int, 2) := by decide +kernel
theorem dX8_init_46 : decode cX8_init 46 = .ok (.putfield 28, 3) := by decide +kernel
theorem dX8_init_49 : decode cX8_init 49 = .ok (.aload_n 0, 1) := by decide +kernel
theorem dX8_init_50 : decode cX8_init 50 = .ok (.bipush 12, 2) := by decide +kernel
theorem dX8_init_52 : decode cX8_init 52 = .ok (.newarray .int, 2) := by decide +kernel
theorem dX8_init_54 : decode cX8_init 54 = .ok (.putfield 31, 3) := by decide +kernel
theorem dX8_init_57 : decode cX8_init 57 = .ok (.aload_n 0, 1) := by decide +kernel
theorem dX8_init_58 : decode cX8_init 58 = .ok (.bipush 11, 2) := by decide +kernel
theorem dX8_init_60 : decode cX8_init 60 = .ok (.newarray .int, 2) := by decide +kernel
theorem dX8_init_62 : decode cX8_init 62 = .ok (.putfield 34, 3) := by decide +kernel
theorem dX8_init_65 : decode cX8_init 65 = .ok (.return_, 1) := by decide +kernel
theorem dX8_build_0 : decode cX8_build 0 = .ok (.aload_n 0, 1) := by decide +kernel
theorem dX8_build_1 : decode cX8_build 1 = .ok (.iload_n 2, 1) := by decide +kernel
theorem dX8_build_2 : decode cX8_build 2 = .ok (.putfield 9, 3) := by decide +kernel
theorem dX8_build_5 : decode cX8_build 5 = .ok (.iconst 0, 1) := by decide +kernel
theorem dX8_build_6 : decode cX8_build 6 = .ok (.istore_n 3, 1) := by decide +kernel
theorem dX8_build_7 : decode cX8_build 7 = .ok (.iload_n 3, 1) := by decide +kernel
theorem dX8_build_8 : decode cX8_build 8 = .ok (.aload_n 0, 1) := by decide +kernel
theorem dX8_build_9 : decode cX8_build 9 = .ok (.getfield 9, 3) := by decide +kernel
theorem dX8_build_12 : decode cX8_build 12 = .ok (.if_icmp .gt 23, 3) := by decide +kernel
theorem dX8_build_15 : decode cX8_build 15 = .ok (.aload_n 0, 1) := by decide +kernel
theorem dX8_build_16 : decode cX8_build 16 = .ok (.getfield 22, 3) := by decide +kernel
theorem dX8_build_19 : decode cX8_build 19 = .ok (.iload_n 3, 1) := by decide +kernel
theorem dX8_build_20 : decode cX8_build 20 = .ok (.iconst 0, 1) := by decide +kernel
theorem dX8_build_21 : decode cX8_build 21 = .ok (.iastore, 1) := by decide +kernel
theorem dX8_build_22 : decode cX8_build 22 = .ok (.aload_n 0, 1) := by decide +kernel
theorem dX8_build_23 : decode cX8_build 23 = .ok (.getfield 25, 3) := by decide +kernel
theorem dX8_build_26 : decode cX8_build 26 = .ok (.iload_n 3, 1) := by decide +kernel
theorem dX8_build_27 : decode cX8_build 27 = .ok (.iconst 0, 1) := by decide +kernel
theorem dX8_build_28 : decode cX8_build 28 = .ok (.iastore, 1) := by decide +kernel
theorem dX8_build_29 : decode cX8_build 29 = .ok (.iinc 3 1, 3) := by decide +kernel
theorem dX8_build_32 : decode cX8_build 32 = .ok (.goto (-25), 3) := by decide +kernel
theorem dX8_build_35 : decode cX8_build 35 = .ok (.aload_n 0, 1) := by decide +kernel
theorem dX8_build_36 : decode cX8_build 36 = .ok (.aload_n 1, 1) := by decide +kernel
theorem dX8_build_37 : decode cX8_build 37 = .ok (.invokevirtual 37, 3) := by decide +kernel
theorem dX8_build_40 : decode cX8_build 40 = .ok (.aload_n 0, 1) := by decide +kernel
theorem dX8_build_41 : decode cX8_build 41 = .ok (.getfield 9, 3) := by decide +kernel
theorem dX8_build_44 : decode cX8_build 44 = .ok (.iconst 1, 1) := by decide +kernel
theorem dX8_build_45 : decode cX8_build 45 = .ok (.iadd, 1) := by decide +kernel
theorem dX8_build_46 : decode cX8_build 46 = .ok (.istore_n 3, 1) := by decide +kernel
theorem dX8_build_47 : decode cX8_build 47 = .ok (.iload_n 3, 1) := by decide +kernel
theorem dX8_build_48 : decode cX8_build 48 = .ok (.iconst 2, 1) := by decide +kernel
theorem dX8_build_49 : decode cX8_build 49 = .ok (.if_icmp .lt 41, 3) := by decide +kernel
theorem dX8_build_52 : decode cX8_build 52 = .ok (.aload_n 0, 1) := by decide +kernel
theorem dX8_build_53 : decode cX8_build 53 = .ok (.getfield 25, 3) := by decide +kernel
theorem dX8_build_56 : decode cX8_build 56 = .ok (.aload_n 0, 1) := by decide +kernel
theorem dX8_build_57 : decode cX8_build 57 = .ok (.getfield 15, 3) := by decide +kernel
theorem dX8_build_60 : decode cX8_build 60 = .ok (.aload_n 0, 1) := by decide +kernel
theorem dX8_build_61 : decode cX8_build 61 = .ok (.getfield 31, 3) := by decide +kernel
theorem dX8_build_64 : decode cX8_build 64 = .ok (.iload_n 3, 1) := by decide +kernel
theorem dX8_build_65 : decode cX8_build 65 = .ok (.iaload, 1) := by decide +kernel
theorem dX8_build_66 : decode cX8_build 66 = .ok (.iaload, 1) := by decide +kernel
theorem dX8_build_67 : decode cX8_build 67 = .ok (.dup2, 1) := by decide +kernel
theorem dX8_build_68 : decode cX8_build 68 = .ok (.iaload, 1) := by decide +kernel
theorem dX8_build_69 : decode cX8_build 69 = .ok (.aload_n 0, 1) := by decide +kernel
theorem dX8_build_70 : decode cX8_build 70 = .ok (.getfield 25, 3) := by decide +kernel
theorem dX8_build_73 : decode cX8_build 73 = .ok (.aload_n 0, 1) := by decide +kernel
theorem dX8_build_74 : decode cX8_build 74 = .ok (.getfield 31, 3) := by decide +kernel
theorem dX8_build_77 : decode cX8_build 77 = .ok (.iload_n 3, 1) := by decide +kernel
theorem dX8_build_78 : decode cX8_build 78 = .ok (.iaload, 1) := by decide +kernel
theorem dX8_build_79 : decode cX8_build 79 = .ok (.iaload, 1) := by decide +kernel
theorem dX8_build_80 : decode cX8_build 80 = .ok (.iconst 1, 1) := by decide +kernel
theorem dX8_build_81 : decode cX8_build 81 = .ok (.iadd, 1) := by decide +kernel
theorem dX8_build_82 : decode cX8_build 82 = .ok (.iadd, 1) := by decide +kernel
theorem dX8_build_83 : decode cX8_build 83 = .ok (.iastore, 1) := by decide +kernel
theorem dX8_build_84 : decode cX8_build 84 = .ok (.iinc 3 (-1), 3) := by decide +kernel
theorem dX8_build_87 : decode cX8_build 87 = .ok (.goto (-40), 3) := by decide +kernel
theorem dX8_build_90 : decode cX8_build 90 = .ok (.return_, 1) := by decide +kernel
theorem dX8_hangCars_0 : decode cX8_hangCars 0 = .ok (.aload_n 0, 1) := by decide +kernel
theorem dX8_hangCars_1 : decode cX8_hangCars 1 = .ok (.getfield 31, 3) := by decide +kernel
theorem dX8_hangCars_4 : decode cX8_hangCars 4 = .ok (.iconst 1, 1) := by decide +kernel
theorem dX8_hangCars_5 : decode cX8_hangCars 5 = .ok (.iconst 0, 1) := by decide +kernel
theorem dX8_hangCars_6 : decode cX8_hangCars 6 = .ok (.iastore, 1) := by decide +kernel
theorem dX8_hangCars_7 : decode cX8_hangCars 7 = .ok (.aload_n 0, 1) := by decide +kernel
theorem dX8_hangCars_8 : decode cX8_hangCars 8 = .ok (.getfield 19, 3) := by decide +kernel
theorem dX8_hangCars_11 : decode cX8_hangCars 11 = .ok (.iconst 0, 1) := by decide +kernel
theorem dX8_hangCars_12 : decode cX8_hangCars 12 = .ok (.iconst 0, 1) := by decide +kernel
theorem dX8_hangCars_13 : decode cX8_hangCars 13 = .ok (.iastore, 1) := by decide +kernel
theorem dX8_hangCars_14 : decode cX8_hangCars 14 = .ok (.iconst 1, 1) := by decide +kernel
theorem dX8_hangCars_15 : decode cX8_hangCars 15 = .ok (.istore_n 2, 1) := by decide +kernel
theorem dX8_hangCars_16 : decode cX8_hangCars 16 = .ok (.iconst 1, 1) := by decide +kernel
theorem dX8_hangCars_17 : decode cX8_hangCars 17 = .ok (.istore_n 3, 1) := by decide +kernel
theorem dX8_hangCars_18 : decode cX8_hangCars 18 = .ok (.iload_n 3, 1) := by decide +kernel
theorem dX8_hangCars_19 : decode cX8_hangCars 19 = .ok (.aload_n 0, 1) := by decide +kernel
theorem dX8_hangCars_20 : decode cX8_hangCars 20 = .ok (.getfield 9, 3) := by decide +kernel
theorem dX8_hangCars_23 : decode cX8_hangCars 23 = .ok (.if_icmp .gt 102, 3) := by decide +kernel
theorem dX8_hangCars_26 : decode cX8_hangCars 26 = .ok (.iconst 1, 1) := by decide +kernel
theorem dX8_hangCars_27 : decode cX8_hangCars 27 = .ok (.istore 4, 2) := by decide +kernel
theorem dX8_hangCars_29 : decode cX8_hangCars 29 = .ok (.iload 4, 2) := by decide +kernel
theorem dX8_hangCars_31 : decode cX8_hangCars 31 = .ok (.aload_n 0, 1) := by decide +kernel
theorem dX8_hangCars_32 : decode cX8_hangCars 32 = .ok (.getfield 9, 3) := by decide +kernel
theorem dX8_hangCars_35 : decode cX8_hangCars 35 = .ok (.if_icmp .gt 84, 3) := by decide +kernel
theorem dX8_hangCars_38 : decode cX8_hangCars 38 = .ok (.aload_n 1, 1) := by decide +kernel
theorem dX8_hangCars_39 : decode cX8_hangCars 39 = .ok (.iload 4, 2) := by decide +kernel
theorem dX8_hangCars_41 : decode cX8_hangCars 41 = .ok (.iaload, 1) := by decide +kernel
theorem dX8_hangCars_42 : decode cX8_hangCars 42 = .ok (.iload_n 3, 1) := by decide +kernel
theorem dX8_hangCars_43 : decode cX8_hangCars 43 = .ok (.if_icmp .ne 70, 3) := by decide +kernel
theorem dX8_hangCars_46 : decode cX8_hangCars 46 = .ok (.iinc 2 1, 3) := by decide +kernel
theorem dX8_hangCars_49 : decode cX8_hangCars 49 = .ok (.aload_n 0, 1) := by decide +kernel
theorem dX8_hangCars_50 : decode cX8_hangCars 50 = .ok (.getfield 31, 3) := by decide +kernel
theorem dX8_hangCars_53 : decode cX8_hangCars 53 = .ok (.iload_n 2, 1) := by decide +kernel
theorem dX8_hangCars_54 : decode cX8_hangCars 54 = .ok (.iload 4, 2) := by decide +kernel
theorem dX8_hangCars_56 : decode cX8_hangCars 56 = .ok (.iastore, 1) := by decide +kernel
theorem dX8_hangCars_57 : decode cX8_hangCars 57 = .ok (.aload_n 0, 1) := by decide +kernel
theorem dX8_hangCars_58 : decode cX8_hangCars 58 = .ok (.getfield 28, 3) := by decide +kernel
theorem dX8_hangCars_61 : decode cX8_hangCars 61 = .ok (.iload 4, 2) := by decide +kernel
theorem dX8_hangCars_63 : decode cX8_hangCars 63 = .ok (.iload_n 2, 1) := by decide +kernel
theorem dX8_hangCars_64 : decode cX8_hangCars 64 = .ok (.iastore, 1) := by decide +kernel
theorem dX8_hangCars_65 : decode cX8_hangCars 65 = .ok (.aload_n 0, 1) := by decide +kernel
theorem dX8_hangCars_66 : decode cX8_hangCars 66 = .ok (.getfield 15, 3) := by decide +kernel
theorem dX8_hangCars_69 : decode cX8_hangCars 69 = .ok (.iload 4, 2) := by decide +kernel
theorem dX8_hangCars_71 : decode cX8_hangCars 71 = .ok (.aload_n 0, 1) := by decide +kernel
theorem dX8_hangCars_72 : decode cX8_hangCars 72 = .ok (.getfield 31, 3) := by decide +kernel
theorem dX8_hangCars_75 : decode cX8_hangCars 75 = .ok (.iload_n 3, 1) := by decide +kernel
theorem dX8_hangCars_76 : decode cX8_hangCars 76 = .ok (.iaload, 1) := by decide +kernel
theorem dX8_hangCars_77 : decode cX8_hangCars 77 = .ok (.iastore, 1) := by decide +kernel
theorem dX8_hangCars_78 : decode cX8_hangCars 78 = .ok (.aload_n 0, 1) := by decide +kernel
theorem dX8_hangCars_79 : decode cX8_hangCars 79 = .ok (.getfield 19, 3) := by decide +kernel
theorem dX8_hangCars_82 : decode cX8_hangCars 82 = .ok (.iload 4, 2) := by decide +kernel
theorem dX8_hangCars_84 : decode cX8_hangCars 84 = .ok (.aload_n 0, 1) := by decide +kernel
theorem dX8_hangCars_85 : decode cX8_hangCars 85 = .ok (.getfield 19, 3) := by decide +kernel
theorem dX8_hangCars_88 : decode cX8_hangCars 88 = .ok (.aload_n 0, 1) := by decide +kernel
theorem dX8_hangCars_89 : decode cX8_hangCars 89 = .ok (.getfield 31, 3) := by decide +kernel
theorem dX8_hangCars_92 : decode cX8_hangCars 92 = .ok (.iload_n 3, 1) := by decide +kernel
theorem dX8_hangCars_93 : decode cX8_hangCars 93 = .ok (.iaload, 1) := by decide +kernel
theorem dX8_hangCars_94 : decode cX8_hangCars 94 = .ok (.iaload, 1) := by decide +kernel
theorem dX8_hangCars_95 : decode cX8_hangCars 95 = .ok (.iconst 1, 1) := by decide +kernel
theorem dX8_hangCars_96 : decode cX8_hangCars 96 = .ok (.iadd, 1) := by decide +kernel
theorem dX8_hangCars_97 : decode cX8_hangCars 97 = .ok (.iastore, 1) := by decide +kernel
theorem dX8_hangCars_98 : decode cX8_hangCars 98 = .ok (.aload_n 0, 1) := by decide +kernel
theorem dX8_hangCars_99 : decode cX8_hangCars 99 = .ok (.getfield 22, 3) := by decide +kernel
theorem dX8_hangCars_102 : decode cX8_hangCars 102 = .ok (.aload_n 0, 1) := by decide +kernel
theorem dX8_hangCars_103 : decode cX8_hangCars 103 = .ok (.getfield 31, 3) := by decide +kernel
theorem dX8_hangCars_106 : decode cX8_hangCars 106 = .ok (.iload_n 3, 1) := by decide +kernel
theorem dX8_hangCars_107 : decode cX8_hangCars 107 = .ok (.iaload, 1) := by decide +kernel
theorem dX8_hangCars_108 : decode cX8_hangCars 108 = .ok (.dup2, 1) := by decide +kernel
theorem dX8_hangCars_109 : decode cX8_hangCars 109 = .ok (.iaload, 1) := by decide +kernel
theorem dX8_hangCars_110 : decode cX8_hangCars 110 = .ok (.iconst 1, 1) := by decide +kernel
theorem dX8_hangCars_111 : decode cX8_hangCars 111 = .ok (.iadd, 1) := by decide +kernel
theorem dX8_hangCars_112 : decode cX8_hangCars 112 = .ok (.iastore, 1) := by decide +kernel
theorem dX8_hangCars_113 : decode cX8_hangCars 113 = .ok (.iinc 4 1, 3) := by decide +kernel
theorem dX8_hangCars_116 : decode cX8_hangCars 116 = .ok (.goto (-87), 3) := by decide +kernel
theorem dX8_hangCars_119 : decode cX8_hangCars 119 = .ok (.iinc 3 1, 3) := by decide +kernel
theorem dX8_hangCars_122 : decode cX8_hangCars 122 = .ok (.goto (-104), 3) := by decide +kernel
theorem dX8_hangCars_125 : decode cX8_hangCars 125 = .ok (.return_, 1) := by decide +kernel
theorem dX8_inversions_0 : decode cX8_inversions 0 = .ok (.iconst 0, 1) := by decide +kernel
theorem dX8_inversions_1 : decode cX8_inversions 1 = .ok (.istore_n 1, 1) := by decide +kernel
theorem dX8_inversions_2 : decode cX8_inversions 2 = .ok (.iconst 1, 1) := by decide +kernel
theorem dX8_inversions_3 : decode cX8_inversions 3 = .ok (.istore_n 2, 1) := by decide +kernel
theorem dX8_inversions_4 : decode cX8_inversions 4 = .ok (.iload_n 2, 1) := by decide +kernel
theorem dX8_inversions_5 : decode cX8_inversions 5 = .ok (.aload_n 0, 1) := by decide +kernel
theorem dX8_inversions_6 : decode cX8_inversions 6 = .ok (.getfield 9, 3) := by decide +kernel
theorem dX8_inversions_9 : decode cX8_inversions 9 = .ok (.if_icmp .gt 51, 3) := by decide +kernel
theorem dX8_inversions_12 : decode cX8_inversions 12 = .ok (.aload_n 0, 1) := by decide +kernel
theorem dX8_inversions_13 : decode cX8_inversions 13 = .ok (.getfield 15, 3) := by decide +kernel
theorem dX8_inversions_16 : decode cX8_inversions 16 = .ok (.iload_n 2, 1) := by decide +kernel
theorem dX8_inversions_17 : decode cX8_inversions 17 = .ok (.iaload, 1) := by decide +kernel
theorem dX8_inversions_18 : decode cX8_inversions 18 = .ok (.istore_n 3, 1) := by decide +kernel
theorem dX8_inversions_19 : decode cX8_inversions 19 = .ok (.iconst 1, 1) := by decide +kernel
theorem dX8_inversions_20 : decode cX8_inversions 20 = .ok (.istore 4, 2) := by decide +kernel
theorem dX8_inversions_22 : decode cX8_inversions 22 = .ok (.iload 4, 2) := by decide +kernel
theorem dX8_inversions_24 : decode cX8_inversions 24 = .ok (.aload_n 0, 1) := by decide +kernel
theorem dX8_inversions_25 : decode cX8_inversions 25 = .ok (.getfield 19, 3) := by decide +kernel
theorem dX8_inversions_28 : decode cX8_inversions 28 = .ok (.iload_n 2, 1) := by decide +kernel
theorem dX8_inversions_29 : decode cX8_inversions 29 = .ok (.iaload, 1) := by decide +kernel
theorem dX8_inversions_30 : decode cX8_inversions 30 = .ok (.if_icmp .ge 24, 3) := by decide +kernel
theorem dX8_inversions_33 : decode cX8_inversions 33 = .ok (.iload_n 3, 1) := by decide +kernel
theorem dX8_inversions_34 : decode cX8_inversions 34 = .ok (.iload_n 2, 1) := by decide +kernel
theorem dX8_inversions_35 : decode cX8_inversions 35 = .ok (.if_icmp .le 6, 3) := by decide +kernel
theorem dX8_inversions_38 : decode cX8_inversions 38 = .ok (.iinc 1 1, 3) := by decide +kernel
theorem dX8_inversions_41 : decode cX8_inversions 41 = .ok (.aload_n 0, 1) := by decide +kernel
theorem dX8_inversions_42 : decode cX8_inversions 42 = .ok (.getfield 15, 3) := by decide +kernel
theorem dX8_inversions_45 : decode cX8_inversions 45 = .ok (.iload_n 3, 1) := by decide +kernel
theorem dX8_inversions_46 : decode cX8_inversions 46 = .ok (.iaload, 1) := by decide +kernel
theorem dX8_inversions_47 : decode cX8_inversions 47 = .ok (.istore_n 3, 1) := by decide +kernel
theorem dX8_inversions_48 : decode cX8_inversions 48 = .ok (.iinc 4 1, 3) := by decide +kernel
theorem dX8_inversions_51 : decode cX8_inversions 51 = .ok (.goto (-29), 3) := by decide +kernel
theorem dX8_inversions_54 : decode cX8_inversions 54 = .ok (.iinc 2 1, 3) := by decide +kernel
theorem dX8_inversions_57 : decode cX8_inversions 57 = .ok (.goto (-53), 3) := by decide +kernel
theorem dX8_inversions_60 : decode cX8_inversions 60 = .ok (.iload_n 1, 1) := by decide +kernel
theorem dX8_inversions_61 : decode cX8_inversions 61 = .ok (.ireturn, 1) := by decide +kernel
theorem dX8_codeNumber_0 : decode cX8_codeNumber 0 = .ok (.aload_n 0, 1) := by decide +kernel
theorem dX8_codeNumber_1 : decode cX8_codeNumber 1 = .ok (.getfield 34, 3) := by decide +kernel
theorem dX8_codeNumber_4 : decode cX8_codeNumber 4 = .ok (.iconst 0, 1) := by decide +kernel
theorem dX8_codeNumber_5 : decode cX8_codeNumber 5 = .ok (.aload_n 0, 1) := by decide +kernel
theorem dX8_codeNumber_6 : decode cX8_codeNumber 6 = .ok (.getfield 22, 3) := by decide +kernel
theorem dX8_codeNumber_9 : decode cX8_codeNumber 9 = .ok (.iconst 0, 1) := by decide +kernel
theorem dX8_codeNumber_10 : decode cX8_codeNumber 10 = .ok (.iaload, 1) := by decide +kernel
theorem dX8_codeNumber_11 : decode cX8_codeNumber 11 = .ok (.iastore, 1) := by decide +kernel
theorem dX8_codeNumber_12 : decode cX8_codeNumber 12 = .ok (.iconst 1, 1) := by decide +kernel
theorem dX8_codeNumber_13 : decode cX8_codeNumber 13 = .ok (.istore_n 2, 1) := by decide +kernel
theorem dX8_codeNumber_14 : decode cX8_codeNumber 14 = .ok (.iload_n 2, 1) := by decide +kernel
theorem dX8_codeNumber_15 : decode cX8_codeNumber 15 = .ok (.aload_n 0, 1) := by decide +kernel
theorem dX8_codeNumber_16 : decode cX8_codeNumber 16 = .ok (.getfield 9, 3) := by decide +kernel
theorem dX8_codeNumber_19 : decode cX8_codeNumber 19 = .ok (.if_icmp .gt 23, 3) := by decide +kernel
theorem dX8_codeNumber_22 : decode cX8_codeNumber 22 = .ok (.aload_n 0, 1) := by decide +kernel
theorem dX8_codeNumber_23 : decode cX8_codeNumber 23 = .ok (.getfield 34, 3) := by decide +kernel
theorem dX8_codeNumber_26 : decode cX8_codeNumber 26 = .ok (.iload_n 2, 1) := by decide +kernel
theorem dX8_codeNumber_27 : decode cX8_codeNumber 27 = .ok (.aload_n 0, 1) := by decide +kernel
theorem dX8_codeNumber_28 : decode cX8_codeNumber 28 = .ok (.getfield 22, 3) := by decide +kernel
theorem dX8_codeNumber_31 : decode cX8_codeNumber 31 = .ok (.iload_n 2, 1) := by decide +kernel
theorem dX8_codeNumber_32 : decode cX8_codeNumber 32 = .ok (.iaload, 1) := by decide +kernel
theorem dX8_codeNumber_33 : decode cX8_codeNumber 33 = .ok (.iconst 1, 1) := by decide +kernel
theorem dX8_codeNumber_34 : decode cX8_codeNumber 34 = .ok (.iadd, 1) := by decide +kernel
theorem dX8_codeNumber_35 : decode cX8_codeNumber 35 = .ok (.iastore, 1) := by decide +kernel
theorem dX8_codeNumber_36 : decode cX8_codeNumber 36 = .ok (.iinc 2 1, 3) := by decide +kernel
theorem dX8_codeNumber_39 : decode cX8_codeNumber 39 = .ok (.goto (-25), 3) := by decide +kernel
theorem dX8_codeNumber_42 : decode cX8_codeNumber 42 = .ok (.iconst 0, 1) := by decide +kernel
theorem dX8_codeNumber_43 : decode cX8_codeNumber 43 = .ok (.istore_n 2, 1) := by decide +kernel
theorem dX8_codeNumber_44 : decode cX8_codeNumber 44 = .ok (.iconst 0, 1) := by decide +kernel
theorem dX8_codeNumber_45 : decode cX8_codeNumber 45 = .ok (.istore_n 3, 1) := by decide +kernel
theorem dX8_codeNumber_46 : decode cX8_codeNumber 46 = .ok (.iload_n 3, 1) := by decide +kernel
theorem dX8_codeNumber_47 : decode cX8_codeNumber 47 = .ok (.iload_n 1, 1) := by decide +kernel
theorem dX8_codeNumber_48 : decode cX8_codeNumber 48 = .ok (.if_icmp .gt 28, 3) := by decide +kernel
theorem dX8_codeNumber_51 : decode cX8_codeNumber 51 = .ok (.aload_n 0, 1) := by decide +kernel
theorem dX8_codeNumber_52 : decode cX8_codeNumber 52 = .ok (.getfield 15, 3) := by decide +kernel
theorem dX8_codeNumber_55 : decode cX8_codeNumber 55 = .ok (.aload_n 0, 1) := by decide +kernel
theorem dX8_codeNumber_56 : decode cX8_codeNumber 56 = .ok (.invokevirtual 41, 3) := by decide +kernel
theorem dX8_codeNumber_59 : decode cX8_codeNumber 59 = .ok (.iaload, 1) := by decide +kernel
theorem dX8_codeNumber_60 : decode cX8_codeNumber 60 = .ok (.istore_n 2, 1) := by decide +kernel
theorem dX8_codeNumber_61 : decode cX8_codeNumber 61 = .ok (.aload_n 0, 1) := by decide +kernel
theorem dX8_codeNumber_62 : decode cX8_codeNumber 62 = .ok (.aload_n 0, 1) := by decide +kernel
theorem dX8_codeNumber_63 : decode cX8_codeNumber 63 = .ok (.invokevirtual 41, 3) := by decide +kernel
theorem dX8_codeNumber_66 : decode cX8_codeNumber 66 = .ok (.iload_n 2, 1) := by decide +kernel
theorem dX8_codeNumber_67 : decode cX8_codeNumber 67 = .ok (.invokevirtual 45, 3) := by decide +kernel
theorem dX8_codeNumber_70 : decode cX8_codeNumber 70 = .ok (.iinc 3 1, 3) := by decide +kernel
theorem dX8_codeNumber_73 : decode cX8_codeNumber 73 = .ok (.goto (-27), 3) := by decide +kernel
theorem dX8_codeNumber_76 : decode cX8_codeNumber 76 = .ok (.iload_n 2, 1) := by decide +kernel
theorem dX8_codeNumber_77 : decode cX8_codeNumber 77 = .ok (.ireturn, 1) := by decide +kernel
theorem dX8_parentsOfCode_0 : decode cX8_parentsOfCode 0 = .ok (.aload_n 0, 1) := by decide +kernel
theorem dX8_parentsOfCode_1 : decode cX8_parentsOfCode 1 = .ok (.iload_n 2, 1) := by decide +kernel
theorem dX8_parentsOfCode_2 : decode cX8_parentsOfCode 2 = .ok (.putfield 9, 3) := by decide +kernel
theorem dX8_parentsOfCode_5 : decode cX8_parentsOfCode 5 = .ok (.iconst 0, 1) := by decide +kernel
theorem dX8_parentsOfCode_6 : decode cX8_parentsOfCode 6 = .ok (.istore_n 3, 1) := by decide +kernel
theorem dX8_parentsOfCode_7 : decode cX8_parentsOfCode 7 = .ok (.iload_n 3, 1) := by decide +kernel
theorem dX8_parentsOfCode_8 : decode cX8_parentsOfCode 8 = .ok (.aload_n 0, 1) := by decide +kernel
theorem dX8_parentsOfCode_9 : decode cX8_parentsOfCode 9 = .ok (.getfield 9, 3) := by decide +kernel
theorem dX8_parentsOfCode_12 : decode cX8_parentsOfCode 12 = .ok (.if_icmp .gt 16, 3) := by decide +kernel
theorem dX8_parentsOfCode_15 : decode cX8_parentsOfCode 15 = .ok (.aload_n 0, 1) := by decide +kernel
theorem dX8_parentsOfCode_16 : decode cX8_parentsOfCode 16 = .ok (.getfield 34, 3) := by decide +kernel
theorem dX8_parentsOfCode_19 : decode cX8_parentsOfCode 19 = .ok (.iload_n 3, 1) := by decide +kernel
theorem dX8_parentsOfCode_20 : decode cX8_parentsOfCode 20 = .ok (.iconst 1, 1) := by decide +kernel
theorem dX8_parentsOfCode_21 : decode cX8_parentsOfCode 21 = .ok (.iastore, 1) := by decide +kernel
theorem dX8_parentsOfCode_22 : decode cX8_parentsOfCode 22 = .ok (.iinc 3 1, 3) := by decide +kernel
theorem dX8_parentsOfCode_25 : decode cX8_parentsOfCode 25 = .ok (.goto (-18), 3) := by decide +kernel
theorem dX8_parentsOfCode_28 : decode cX8_parentsOfCode 28 = .ok (.iconst 1, 1) := by decide +kernel
theorem dX8_parentsOfCode_29 : decode cX8_parentsOfCode 29 = .ok (.istore_n 3, 1) := by decide +kernel
theorem dX8_parentsOfCode_30 : decode cX8_parentsOfCode 30 = .ok (.iload_n 3, 1) := by decide +kernel
theorem dX8_parentsOfCode_31 : decode cX8_parentsOfCode 31 = .ok (.aload_n 0, 1) := by decide +kernel
theorem dX8_parentsOfCode_32 : decode cX8_parentsOfCode 32 = .ok (.getfield 9, 3) := by decide +kernel
theorem dX8_parentsOfCode_35 : decode cX8_parentsOfCode 35 = .ok (.if_icmp .ge 21, 3) := by decide +kernel
theorem dX8_parentsOfCode_38 : decode cX8_parentsOfCode 38 = .ok (.aload_n 0, 1) := by decide +kernel
theorem dX8_parentsOfCode_39 : decode cX8_parentsOfCode 39 = .ok (.getfield 34, 3) := by decide +kernel
theorem dX8_parentsOfCode_42 : decode cX8_parentsOfCode 42 = .ok (.aload_n 1, 1) := by decide +kernel
theorem dX8_parentsOfCode_43 : decode cX8_parentsOfCode 43 = .ok (.iload_n 3, 1) := by decide +kernel
theorem dX8_parentsOfCode_44 : decode cX8_parentsOfCode 44 = .ok (.iaload, 1) := by decide +kernel
theorem dX8_parentsOfCode_45 : decode cX8_parentsOfCode 45 = .ok (.dup2, 1) := by decide +kernel
theorem dX8_parentsOfCode_46 : decode cX8_parentsOfCode 46 = .ok (.iaload, 1) := by decide +kernel
theorem dX8_parentsOfCode_47 : decode cX8_parentsOfCode 47 = .ok (.iconst 1, 1) := by decide +kernel
theorem dX8_parentsOfCode_48 : decode cX8_parentsOfCode 48 = .ok (.iadd, 1) := by decide +kernel
theorem dX8_parentsOfCode_49 : decode cX8_parentsOfCode 49 = .ok (.iastore, 1) := by decide +kernel
theorem dX8_parentsOfCode_50 : decode cX8_parentsOfCode 50 = .ok (.iinc 3 1, 3) := by decide +kernel
theorem dX8_parentsOfCode_53 : decode cX8_parentsOfCode 53 = .ok (.goto (-23), 3) := by decide +kernel
theorem dX8_parentsOfCode_56 : decode cX8_parentsOfCode 56 = .ok (.iconst 1, 1) := by decide +kernel
theorem dX8_parentsOfCode_57 : decode cX8_parentsOfCode 57 = .ok (.istore_n 3, 1) := by decide +kernel
theorem dX8_parentsOfCode_58 : decode cX8_parentsOfCode 58 = .ok (.iload_n 3, 1) := by decide +kernel
theorem dX8_parentsOfCode_59 : decode cX8_parentsOfCode 59 = .ok (.aload_n 0, 1) := by decide +kernel
theorem dX8_parentsOfCode_60 : decode cX8_parentsOfCode 60 = .ok (.getfield 9, 3) := by decide +kernel
theorem dX8_parentsOfCode_63 : decode cX8_parentsOfCode 63 = .ok (.if_icmp .ge 34, 3) := by decide +kernel
theorem dX8_parentsOfCode_66 : decode cX8_parentsOfCode 66 = .ok (.aload_n 0, 1) := by decide +kernel
theorem dX8_parentsOfCode_67 : decode cX8_parentsOfCode 67 = .ok (.invokevirtual 41, 3) := by decide +kernel
theorem dX8_parentsOfCode_70 : decode cX8_parentsOfCode 70 = .ok (.istore 4, 2) := by decide +kernel
theorem dX8_parentsOfCode_72 : decode cX8_parentsOfCode 72 = .ok (.aload_n 0, 1) := by decide +kernel
theorem dX8_parentsOfCode_73 : decode cX8_parentsOfCode 73 = .ok (.getfield 15, 3) := by decide +kernel
theorem dX8_parentsOfCode_76 : decode cX8_parentsOfCode 76 = .ok (.iload 4, 2) := by decide +kernel
theorem dX8_parentsOfCode_78 : decode cX8_parentsOfCode 78 = .ok (.aload_n 1, 1) := by decide +kernel
theorem dX8_parentsOfCode_79 : decode cX8_parentsOfCode 79 = .ok (.iload_n 3, 1) := by decide +kernel
theorem dX8_parentsOfCode_80 : decode cX8_parentsOfCode 80 = .ok (.iaload, 1) := by decide +kernel
theorem dX8_parentsOfCode_81 : decode cX8_parentsOfCode 81 = .ok (.iastore, 1) := by decide +kernel
theorem dX8_parentsOfCode_82 : decode cX8_parentsOfCode 82 = .ok (.aload_n 0, 1) := by decide +kernel
theorem dX8_parentsOfCode_83 : decode cX8_parentsOfCode 83 = .ok (.iload 4, 2) := by decide +kernel
theorem dX8_parentsOfCode_85 : decode cX8_parentsOfCode 85 = .ok (.aload_n 1, 1) := by decide +kernel
theorem dX8_parentsOfCode_86 : decode cX8_parentsOfCode 86 = .ok (.iload_n 3, 1) := by decide +kernel
theorem dX8_parentsOfCode_87 : decode cX8_parentsOfCode 87 = .ok (.iaload, 1) := by decide +kernel
theorem dX8_parentsOfCode_88 : decode cX8_parentsOfCode 88 = .ok (.invokevirtual 45, 3) := by decide +kernel
theorem dX8_parentsOfCode_91 : decode cX8_parentsOfCode 91 = .ok (.iinc 3 1, 3) := by decide +kernel
theorem dX8_parentsOfCode_94 : decode cX8_parentsOfCode 94 = .ok (.goto (-36), 3) := by decide +kernel
theorem dX8_parentsOfCode_97 : decode cX8_parentsOfCode 97 = .ok (.aload_n 0, 1) := by decide +kernel
theorem dX8_parentsOfCode_98 : decode cX8_parentsOfCode 98 = .ok (.getfield 15, 3) := by decide +kernel
theorem dX8_parentsOfCode_101 : decode cX8_parentsOfCode 101 = .ok (.aload_n 0, 1) := by decide +kernel
theorem dX8_parentsOfCode_102 : decode cX8_parentsOfCode 102 = .ok (.invokevirtual 41, 3) := by decide +kernel
theorem dX8_parentsOfCode_105 : decode cX8_parentsOfCode 105 = .ok (.iconst 0, 1) := by decide +kernel
theorem dX8_parentsOfCode_106 : decode cX8_parentsOfCode 106 = .ok (.iastore, 1) := by decide +kernel
theorem dX8_parentsOfCode_107 : decode cX8_parentsOfCode 107 = .ok (.return_, 1) := by decide +kernel
theorem dX8_greatestWithOne_0 : decode cX8_greatestWithOne 0 = .ok (.aload_n 0, 1) := by decide +kernel
theorem dX8_greatestWithOne_1 : decode cX8_greatestWithOne 1 = .ok (.getfield 9, 3) := by decide +kernel
theorem dX8_greatestWithOne_4 : decode cX8_greatestWithOne 4 = .ok (.istore_n 1, 1) := by decide +kernel
theorem dX8_greatestWithOne_5 : decode cX8_greatestWithOne 5 = .ok (.iload_n 1, 1) := by decide +kernel
theorem dX8_greatestWithOne_6 : decode cX8_greatestWithOne 6 = .ok (.ifCond .le 21, 3) := by decide +kernel
theorem dX8_greatestWithOne_9 : decode cX8_greatestWithOne 9 = .ok (.aload_n 0, 1) := by decide +kernel
theorem dX8_greatestWithOne_10 : decode cX8_greatestWithOne 10 = .ok (.getfield 34, 3) := by decide +kernel
theorem dX8_greatestWithOne_13 : decode cX8_greatestWithOne 13 = .ok (.iload_n 1, 1) := by decide +kernel
theorem dX8_greatestWithOne_14 : decode cX8_greatestWithOne 14 = .ok (.iaload, 1) := by decide +kernel
theorem dX8_greatestWithOne_15 : decode cX8_greatestWithOne 15 = .ok (.iconst 1, 1) := by decide +kernel
theorem dX8_greatestWithOne_16 : decode cX8_greatestWithOne 16 = .ok (.if_icmp .ne 5, 3) := by decide +kernel
theorem dX8_greatestWithOne_19 : decode cX8_greatestWithOne 19 = .ok (.iload_n 1, 1) := by decide +kernel
theorem dX8_greatestWithOne_20 : decode cX8_greatestWithOne 20 = .ok (.ireturn, 1) := by decide +kernel
theorem dX8_greatestWithOne_21 : decode cX8_greatestWithOne 21 = .ok (.iinc 1 (-1), 3) := by decide +kernel
theorem dX8_greatestWithOne_24 : decode cX8_greatestWithOne 24 = .ok (.goto (-19), 3) := by decide +kernel
theorem dX8_greatestWithOne_27 : decode cX8_greatestWithOne 27 = .ok (.iconst 0, 1) := by decide +kernel
theorem dX8_greatestWithOne_28 : decode cX8_greatestWithOne 28 = .ok (.ireturn, 1) := by decide +kernel
theorem dX8_strike_0 : decode cX8_strike 0 = .ok (.aload_n 0, 1) := by decide +kernel
theorem dX8_strike_1 : decode cX8_strike 1 = .ok (.getfield 34, 3) := by decide +kernel
theorem dX8_strike_4 : decode cX8_strike 4 = .ok (.iload_n 1, 1) := by decide +kernel
theorem dX8_strike_5 : decode cX8_strike 5 = .ok (.iconst 0, 1) := by decide +kernel
theorem dX8_strike_6 : decode cX8_strike 6 = .ok (.iastore, 1) := by decide +kernel
theorem dX8_strike_7 : decode cX8_strike 7 = .ok (.aload_n 0, 1) := by decide +kernel
theorem dX8_strike_8 : decode cX8_strike 8 = .ok (.getfield 34, 3) := by decide +kernel
theorem dX8_strike_11 : decode cX8_strike 11 = .ok (.iload_n 2, 1) := by decide +kernel
theorem dX8_strike_12 : decode cX8_strike 12 = .ok (.dup2, 1) := by decide +kernel
theorem dX8_strike_13 : decode cX8_strike 13 = .ok (.iaload, 1) := by decide +kernel
theorem dX8_strike_14 : decode cX8_strike 14 = .ok (.iconst 1, 1) := by decide +kernel
theorem dX8_strike_15 : decode cX8_strike 15 = .ok (.isub, 1) := by decide +kernel
theorem dX8_strike_16 : decode cX8_strike 16 = .ok (.iastore, 1) := by decide +kernel
theorem dX8_strike_17 : decode cX8_strike 17 = .ok (.return_, 1) := by decide +kernel
theorem dX8_takeParents_0 : decode cX8_takeParents 0 = .ok (.aload_n 0, 1) := by decide +kernel
theorem dX8_takeParents_1 : decode cX8_takeParents 1 = .ok (.iload_n 2, 1) := by decide +kernel
theorem dX8_takeParents_2 : decode cX8_takeParents 2 = .ok (.putfield 9, 3) := by decide +kernel
theorem dX8_takeParents_5 : decode cX8_takeParents 5 = .ok (.iconst 1, 1) := by decide +kernel
theorem dX8_takeParents_6 : decode cX8_takeParents 6 = .ok (.istore_n 3, 1) := by decide +kernel
theorem dX8_takeParents_7 : decode cX8_takeParents 7 = .ok (.iload_n 3, 1) := by decide +kernel
theorem dX8_takeParents_8 : decode cX8_takeParents 8 = .ok (.aload_n 0, 1) := by decide +kernel
theorem dX8_takeParents_9 : decode cX8_takeParents 9 = .ok (.getfield 9, 3) := by decide +kernel
theorem dX8_takeParents_12 : decode cX8_takeParents 12 = .ok (.if_icmp .gt 18, 3) := by decide +kernel
theorem dX8_takeParents_15 : decode cX8_takeParents 15 = .ok (.aload_n 0, 1) := by decide +kernel
theorem dX8_takeParents_16 : decode cX8_takeParents 16 = .ok (.getfield 15, 3) := by decide +kernel
theorem dX8_takeParents_19 : decode cX8_takeParents 19 = .ok (.iload_n 3, 1) := by decide +kernel
theorem dX8_takeParents_20 : decode cX8_takeParents 20 = .ok (.aload_n 1, 1) := by decide +kernel
theorem dX8_takeParents_21 : decode cX8_takeParents 21 = .ok (.iload_n 3, 1) := by decide +kernel
theorem dX8_takeParents_22 : decode cX8_takeParents 22 = .ok (.iaload, 1) := by decide +kernel
theorem dX8_takeParents_23 : decode cX8_takeParents 23 = .ok (.iastore, 1) := by decide +kernel
theorem dX8_takeParents_24 : decode cX8_takeParents 24 = .ok (.iinc 3 1, 3) := by decide +kernel
theorem dX8_takeParents_27 : decode cX8_takeParents 27 = .ok (.goto (-20), 3) := by decide +kernel
theorem dX8_takeParents_30 : decode cX8_takeParents 30 = .ok (.return_, 1) := by decide +kernel
theorem dX8_wishesOfParents_0 : decode cX8_wishesOfParents 0 = .ok (.aload_n 0, 1) := by decide +kernel
theorem dX8_wishesOfParents_1 : decode cX8_wishesOfParents 1 = .ok (.getfield 31, 3) := by decide +kernel
theorem dX8_wishesOfParents_4 : decode cX8_wishesOfParents 4 = .ok (.iconst 1, 1) := by decide +kernel
theorem dX8_wishesOfParents_5 : decode cX8_wishesOfParents 5 = .ok (.iconst 0, 1) := by decide +kernel
theorem dX8_wishesOfParents_6 : decode cX8_wishesOfParents 6 = .ok (.iastore, 1) := by decide +kernel
theorem dX8_wishesOfParents_7 : decode cX8_wishesOfParents 7 = .ok (.iconst 1, 1) := by decide +kernel
theorem dX8_wishesOfParents_8 : decode cX8_wishesOfParents 8 = .ok (.istore_n 2, 1) := by decide +kernel
theorem dX8_wishesOfParents_9 : decode cX8_wishesOfParents 9 = .ok (.iconst 1, 1) := by decide +kernel
theorem dX8_wishesOfParents_10 : decode cX8_wishesOfParents 10 = .ok (.istore_n 3, 1) := by decide +kernel
theorem dX8_wishesOfParents_11 : decode cX8_wishesOfParents 11 = .ok (.iload_n 3, 1) := by decide +kernel
theorem dX8_wishesOfParents_12 : decode cX8_wishesOfParents 12 = .ok (.aload_n 0, 1) := by decide +kernel
theorem dX8_wishesOfParents_13 : decode cX8_wishesOfParents 13 = .ok (.getfield 9, 3) := by decide +kernel
theorem dX8_wishesOfParents_16 : decode cX8_wishesOfParents 16 = .ok (.if_icmp .gt 72, 3) := by decide +kernel
theorem dX8_wishesOfParents_19 : decode cX8_wishesOfParents 19 = .ok (.iload_n 3, 1) := by decide +kernel
theorem dX8_wishesOfParents_20 : decode cX8_wishesOfParents 20 = .ok (.iload_n 2, 1) := by decide +kernel
theorem dX8_wishesOfParents_21 : decode cX8_wishesOfParents 21 = .ok (.if_icmp .gt 67, 3) := by decide +kernel
theorem dX8_wishesOfParents_24 : decode cX8_wishesOfParents 24 = .ok (.iconst 1, 1) := by decide +kernel
theorem dX8_wishesOfParents_25 : decode cX8_wishesOfParents 25 = .ok (.istore 4, 2) := by decide +kernel
theorem dX8_wishesOfParents_27 : decode cX8_wishesOfParents 27 = .ok (.iload 4, 2) := by decide +kernel
theorem dX8_wishesOfParents_29 : decode cX8_wishesOfParents 29 = .ok (.aload_n 0, 1) := by decide +kernel
theorem dX8_wishesOfParents_30 : decode cX8_wishesOfParents 30 = .ok (.getfield 9, 3) := by decide +kernel
theorem dX8_wishesOfParents_33 : decode cX8_wishesOfParents 33 = .ok (.if_icmp .gt 49, 3) := by decide +kernel
theorem dX8_wishesOfParents_36 : decode cX8_wishesOfParents 36 = .ok (.aload_n 0, 1) := by decide +kernel
theorem dX8_wishesOfParents_37 : decode cX8_wishesOfParents 37 = .ok (.getfield 15, 3) := by decide +kernel
theorem dX8_wishesOfParents_40 : decode cX8_wishesOfParents 40 = .ok (.iload 4, 2) := by decide +kernel
theorem dX8_wishesOfParents_42 : decode cX8_wishesOfParents 42 = .ok (.iaload, 1) := by decide +kernel
theorem dX8_wishesOfParents_43 : decode cX8_wishesOfParents 43 = .ok (.aload_n 0, 1) := by decide +kernel
theorem dX8_wishesOfParents_44 : decode cX8_wishesOfParents 44 = .ok (.getfield 31, 3) := by decide +kernel
theorem dX8_wishesOfParents_47 : decode cX8_wishesOfParents 47 = .ok (.iload_n 3, 1) := by decide +kernel
theorem dX8_wishesOfParents_48 : decode cX8_wishesOfParents 48 = .ok (.iaload, 1) := by decide +kernel
theorem dX8_wishesOfParents_49 : decode cX8_wishesOfParents 49 = .ok (.if_icmp .ne 27, 3) := by decide +kernel
theorem dX8_wishesOfParents_52 : decode cX8_wishesOfParents 52 = .ok (.iload_n 2, 1) := by decide +kernel
theorem dX8_wishesOfParents_53 : decode cX8_wishesOfParents 53 = .ok (.aload_n 0, 1) := by decide +kernel
theorem dX8_wishesOfParents_54 : decode cX8_wishesOfParents 54 = .ok (.getfield 9, 3) := by decide +kernel
theorem dX8_wishesOfParents_57 : decode cX8_wishesOfParents 57 = .ok (.if_icmp .gt 19, 3) := by decide +kernel
theorem dX8_wishesOfParents_60 : decode cX8_wishesOfParents 60 = .ok (.aload_n 1, 1) := by decide +kernel
theorem dX8_wishesOfParents_61 : decode cX8_wishesOfParents 61 = .ok (.iload 4, 2) := by decide +kernel
theorem dX8_wishesOfParents_63 : decode cX8_wishesOfParents 63 = .ok (.iload_n 3, 1) := by decide +kernel
theorem dX8_wishesOfParents_64 : decode cX8_wishesOfParents 64 = .ok (.iastore, 1) := by decide +kernel
theorem dX8_wishesOfParents_65 : decode cX8_wishesOfParents 65 = .ok (.iinc 2 1, 3) := by decide +kernel
theorem dX8_wishesOfParents_68 : decode cX8_wishesOfParents 68 = .ok (.aload_n 0, 1) := by decide +kernel
theorem dX8_wishesOfParents_69 : decode cX8_wishesOfParents 69 = .ok (.getfield 31, 3) := by decide +kernel
theorem dX8_wishesOfParents_72 : decode cX8_wishesOfParents 72 = .ok (.iload_n 2, 1) := by decide +kernel
theorem dX8_wishesOfParents_73 : decode cX8_wishesOfParents 73 = .ok (.iload 4, 2) := by decide +kernel
theorem dX8_wishesOfParents_75 : decode cX8_wishesOfParents 75 = .ok (.iastore, 1) := by decide +kernel
theorem dX8_wishesOfParents_76 : decode cX8_wishesOfParents 76 = .ok (.iinc 4 1, 3) := by decide +kernel
theorem dX8_wishesOfParents_79 : decode cX8_wishesOfParents 79 = .ok (.goto (-52), 3) := by decide +kernel
theorem dX8_wishesOfParents_82 : decode cX8_wishesOfParents 82 = .ok (.iinc 3 1, 3) := by decide +kernel
theorem dX8_wishesOfParents_85 : decode cX8_wishesOfParents 85 = .ok (.goto (-74), 3) := by decide +kernel
theorem dX8_wishesOfParents_88 : decode cX8_wishesOfParents 88 = .ok (.iload_n 2, 1) := by decide +kernel
theorem dX8_wishesOfParents_89 : decode cX8_wishesOfParents 89 = .ok (.aload_n 0, 1) := by decide +kernel
theorem dX8_wishesOfParents_90 : decode cX8_wishesOfParents 90 = .ok (.getfield 9, 3) := by decide +kernel
theorem dX8_wishesOfParents_93 : decode cX8_wishesOfParents 93 = .ok (.iconst 1, 1) := by decide +kernel
theorem dX8_wishesOfParents_94 : decode cX8_wishesOfParents 94 = .ok (.iadd, 1) := by decide +kernel
theorem dX8_wishesOfParents_95 : decode cX8_wishesOfParents 95 = .ok (.if_icmp .ne 7, 3) := by decide +kernel
theorem dX8_wishesOfParents_98 : decode cX8_wishesOfParents 98 = .ok (.iconst 1, 1) := by decide +kernel
theorem dX8_wishesOfParents_99 : decode cX8_wishesOfParents 99 = .ok (.goto 4, 3) := by decide +kernel
theorem dX8_wishesOfParents_102 : decode cX8_wishesOfParents 102 = .ok (.iconst 0, 1) := by decide +kernel
theorem dX8_wishesOfParents_103 : decode cX8_wishesOfParents 103 = .ok (.ireturn, 1) := by decide +kernel
theorem dX9_init_0 : decode cX9_init 0 = .ok (.aload_n 0, 1) := by decide +kernel
theorem dX9_init_1 : decode cX9_init 1 = .ok (.invokespecial 3, 3) := by decide +kernel
theorem dX9_init_4 : decode cX9_init 4 = .ok (.aload_n 0, 1) := by decide +kernel
theorem dX9_init_5 : decode cX9_init 5 = .ok (.iconst 0, 1) := by decide +kernel
theorem dX9_init_6 : decode cX9_init 6 = .ok (.putfield 9, 3) := by decide +kernel
theorem dX9_init_9 : decode cX9_init 9 = .ok (.aload_n 0, 1) := by decide +kernel
theorem dX9_init_10 : decode cX9_init 10 = .ok (.bipush 11, 2) := by decide +kernel
theorem dX9_init_12 : decode cX9_init 12 = .ok (.newarray .int, 2) := by decide +kernel
theorem dX9_init_14 : decode cX9_init 14 = .ok (.putfield 15, 3) := by decide +kernel
theorem dX9_init_17 : decode cX9_init 17 = .ok (.aload_n 0, 1) := by decide +kernel
theorem dX9_init_18 : decode cX9_init 18 = .ok (.bipush 11, 2) := by decide +kernel
theorem dX9_init_20 : decode cX9_init 20 = .ok (.newarray .int, 2) := by decide +kernel
theorem dX9_init_22 : decode cX9_init 22 = .ok (.putfield 19, 3) := by decide +kernel
theorem dX9_init_25 : decode cX9_init 25 = .ok (.return_, 1) := by decide +kernel
theorem dX9_build_0 : decode cX9_build 0 = .ok (.aload_n 0, 1) := by decide +kernel
theorem dX9_build_1 : decode cX9_build 1 = .ok (.iload_n 2, 1) := by decide +kernel
theorem dX9_build_2 : decode cX9_build 2 = .ok (.putfield 9, 3) := by decide +kernel
theorem dX9_build_5 : decode cX9_build 5 = .ok (.iconst 0, 1) := by decide +kernel
theorem dX9_build_6 : decode cX9_build 6 = .ok (.istore_n 3, 1) := by decide +kernel
theorem dX9_build_7 : decode cX9_build 7 = .ok (.iconst 1, 1) := by decide +kernel
theorem dX9_build_8 : decode cX9_build 8 = .ok (.istore 4, 2) := by decide +kernel
theorem dX9_build_10 : decode cX9_build 10 = .ok (.iload 4, 2) := by decide +kernel
theorem dX9_build_12 : decode cX9_build 12 = .ok (.aload_n 0, 1) := by decide +kernel
theorem dX9_build_13 : decode cX9_build 13 = .ok (.getfield 9, 3) := by decide +kernel
theorem dX9_build_16 : decode cX9_build 16 = .ok (.if_icmp .gt 57, 3) := by decide +kernel
theorem dX9_build_19 : decode cX9_build 19 = .ok (.iconst 1, 1) := by decide +kernel
theorem dX9_build_20 : decode cX9_build 20 = .ok (.istore 5, 2) := by decide +kernel
theorem dX9_build_22 : decode cX9_build 22 = .ok (.iload 5, 2) := by decide +kernel
theorem dX9_build_24 : decode cX9_build 24 = .ok (.aload_n 0, 1) := by decide +kernel
theorem dX9_build_25 : decode cX9_build 25 = .ok (.getfield 9, 3) := by decide +kernel
theorem dX9_build_28 : decode cX9_build 28 = .ok (.if_icmp .gt 39, 3) := by decide +kernel
theorem dX9_build_31 : decode cX9_build 31 = .ok (.aload_n 1, 1) := by decide +kernel
theorem dX9_build_32 : decode cX9_build 32 = .ok (.iload 5, 2) := by decide +kernel
theorem dX9_build_34 : decode cX9_build 34 = .ok (.iaload, 1) := by decide +kernel
theorem dX9_build_35 : decode cX9_build 35 = .ok (.iload 4, 2) := by decide +kernel
theorem dX9_build_37 : decode cX9_build 37 = .ok (.if_icmp .ne 24, 3) := by decide +kernel
theorem dX9_build_40 : decode cX9_build 40 = .ok (.iinc 3 1, 3) := by decide +kernel
theorem dX9_build_43 : decode cX9_build 43 = .ok (.aload_n 0, 1) := by decide +kernel
theorem dX9_build_44 : decode cX9_build 44 = .ok (.getfield 15, 3) := by decide +kernel
theorem dX9_build_47 : decode cX9_build 47 = .ok (.iload_n 3, 1) := by decide +kernel
theorem dX9_build_48 : decode cX9_build 48 = .ok (.iload 5, 2) := by decide +kernel
theorem dX9_build_50 : decode cX9_build 50 = .ok (.iastore, 1) := by decide +kernel
theorem dX9_build_51 : decode cX9_build 51 = .ok (.aload_n 0, 1) := by decide +kernel
theorem dX9_build_52 : decode cX9_build 52 = .ok (.getfield 19, 3) := by decide +kernel
theorem dX9_build_55 : decode cX9_build 55 = .ok (.iload_n 3, 1) := by decide +kernel
theorem dX9_build_56 : decode cX9_build 56 = .ok (.iload_n 3, 1) := by decide +kernel
theorem dX9_build_57 : decode cX9_build 57 = .ok (.iload 4, 2) := by decide +kernel
theorem dX9_build_59 : decode cX9_build 59 = .ok (.isub, 1) := by decide +kernel
theorem dX9_build_60 : decode cX9_build 60 = .ok (.iastore, 1) := by decide +kernel
theorem dX9_build_61 : decode cX9_build 61 = .ok (.iinc 5 1, 3) := by decide +kernel
theorem dX9_build_64 : decode cX9_build 64 = .ok (.goto (-42), 3) := by decide +kernel
theorem dX9_build_67 : decode cX9_build 67 = .ok (.iinc 4 1, 3) := by decide +kernel
theorem dX9_build_70 : decode cX9_build 70 = .ok (.goto (-60), 3) := by decide +kernel
theorem dX9_build_73 : decode cX9_build 73 = .ok (.return_, 1) := by decide +kernel
theorem dX9_area_0 : decode cX9_area 0 = .ok (.iconst 0, 1) := by decide +kernel
theorem dX9_area_1 : decode cX9_area 1 = .ok (.istore_n 1, 1) := by decide +kernel
theorem dX9_area_2 : decode cX9_area 2 = .ok (.iconst 1, 1) := by decide +kernel
theorem dX9_area_3 : decode cX9_area 3 = .ok (.istore_n 2, 1) := by decide +kernel
theorem dX9_area_4 : decode cX9_area 4 = .ok (.iload_n 2, 1) := by decide +kernel
theorem dX9_area_5 : decode cX9_area 5 = .ok (.aload_n 0, 1) := by decide +kernel
theorem dX9_area_6 : decode cX9_area 6 = .ok (.getfield 9, 3) := by decide +kernel
theorem dX9_area_9 : decode cX9_area 9 = .ok (.if_icmp .gt 18, 3) := by decide +kernel
theorem dX9_area_12 : decode cX9_area 12 = .ok (.iload_n 1, 1) := by decide +kernel
theorem dX9_area_13 : decode cX9_area 13 = .ok (.aload_n 0, 1) := by decide +kernel
theorem dX9_area_14 : decode cX9_area 14 = .ok (.getfield 19, 3) := by decide +kernel
theorem dX9_area_17 : decode cX9_area 17 = .ok (.iload_n 2, 1) := by decide +kernel
theorem dX9_area_18 : decode cX9_area 18 = .ok (.iaload, 1) := by decide +kernel
theorem dX9_area_19 : decode cX9_area 19 = .ok (.iadd, 1) := by decide +kernel
theorem dX9_area_20 : decode cX9_area 20 = .ok (.istore_n 1, 1) := by decide +kernel
theorem dX9_area_21 : decode cX9_area 21 = .ok (.iinc 2 1, 3) := by decide +kernel
theorem dX9_area_24 : decode cX9_area 24 = .ok (.goto (-20), 3) := by decide +kernel
theorem dX9_area_27 : decode cX9_area 27 = .ok (.iload_n 1, 1) := by decide +kernel
theorem dX9_area_28 : decode cX9_area 28 = .ok (.ireturn, 1) := by decide +kernel
theorem dX9_dinv_0 : decode cX9_dinv 0 = .ok (.iconst 0, 1) := by decide +kernel
theorem dX9_dinv_1 : decode cX9_dinv 1 = .ok (.istore_n 1, 1) := by decide +kernel
theorem dX9_dinv_2 : decode cX9_dinv 2 = .ok (.iconst 2, 1) := by decide +kernel
theorem dX9_dinv_3 : decode cX9_dinv 3 = .ok (.istore_n 2, 1) := by decide +kernel
theorem dX9_dinv_4 : decode cX9_dinv 4 = .ok (.iload_n 2, 1) := by decide +kernel
theorem dX9_dinv_5 : decode cX9_dinv 5 = .ok (.aload_n 0, 1) := by decide +kernel
theorem dX9_dinv_6 : decode cX9_dinv 6 = .ok (.getfield 9, 3) := by decide +kernel
theorem dX9_dinv_9 : decode cX9_dinv 9 = .ok (.if_icmp .gt 34, 3) := by decide +kernel
theorem dX9_dinv_12 : decode cX9_dinv 12 = .ok (.iconst 1, 1) := by decide +kernel
theorem dX9_dinv_13 : decode cX9_dinv 13 = .ok (.istore_n 3, 1) := by decide +kernel
theorem dX9_dinv_14 : decode cX9_dinv 14 = .ok (.iload_n 3, 1) := by decide +kernel
theorem dX9_dinv_15 : decode cX9_dinv 15 = .ok (.iload_n 2, 1) := by decide +kernel
theorem dX9_dinv_16 : decode cX9_dinv 16 = .ok (.if_icmp .ge 21, 3) := by decide +kernel
theorem dX9_dinv_19 : decode cX9_dinv 19 = .ok (.aload_n 0, 1) := by decide +kernel
theorem dX9_dinv_20 : decode cX9_dinv 20 = .ok (.iload_n 3, 1) := by decide +kernel
theorem dX9_dinv_21 : decode cX9_dinv 21 = .ok (.iload_n 2, 1) := by decide +kernel
theorem dX9_dinv_22 : decode cX9_dinv 22 = .ok (.invokevirtual 22, 3) := by decide +kernel
theorem dX9_dinv_25 : decode cX9_dinv 25 = .ok (.ifCond .eq 6, 3) := by decide +kernel
theorem dX9_dinv_28 : decode cX9_dinv 28 = .ok (.iinc 1 1, 3) := by decide +kernel
theorem dX9_dinv_31 : decode cX9_dinv 31 = .ok (.iinc 3 1, 3) := by decide +kernel
theorem dX9_dinv_34 : decode cX9_dinv 34 = .ok (.goto (-20), 3) := by decide +kernel
theorem dX9_dinv_37 : decode cX9_dinv 37 = .ok (.iinc 2 1, 3) := by decide +kernel
theorem dX9_dinv_40 : decode cX9_dinv 40 = .ok (.goto (-36), 3) := by decide +kernel
theorem dX9_dinv_43 : decode cX9_dinv 43 = .ok (.iload_n 1, 1) := by decide +kernel
theorem dX9_dinv_44 : decode cX9_dinv 44 = .ok (.ireturn, 1) := by decide +kernel
theorem dX9_countsFor_0 : decode cX9_countsFor 0 = .ok (.aload_n 0, 1) := by decide +kernel
theorem dX9_countsFor_1 : decode cX9_countsFor 1 = .ok (.getfield 19, 3) := by decide +kernel
theorem dX9_countsFor_4 : decode cX9_countsFor 4 = .ok (.iload_n 1, 1) := by decide +kernel
theorem dX9_countsFor_5 : decode cX9_countsFor 5 = .ok (.iaload, 1) := by decide +kernel
theorem dX9_countsFor_6 : decode cX9_countsFor 6 = .ok (.aload_n 0, 1) := by decide +kernel
theorem dX9_countsFor_7 : decode cX9_countsFor 7 = .ok (.getfield 19, 3) := by decide +kernel
theorem dX9_countsFor_10 : decode cX9_countsFor 10 = .ok (.iload_n 2, 1) := by decide +kernel
theorem dX9_countsFor_11 : decode cX9_countsFor 11 = .ok (.iaload, 1) := by decide +kernel
theorem dX9_countsFor_12 : decode cX9_countsFor 12 = .ok (.if_icmp .ne 24, 3) := by decide +kernel
theorem dX9_countsFor_15 : decode cX9_countsFor 15 = .ok (.aload_n 0, 1) := by decide +kernel
theorem dX9_countsFor_16 : decode cX9_countsFor 16 = .ok (.getfield 15, 3) := by decide +kernel
theorem dX9_countsFor_19 : decode cX9_countsFor 19 = .ok (.iload_n 1, 1) := by decide +kernel
theorem dX9_countsFor_20 : decode cX9_countsFor 20 = .ok (.iaload, 1) := by decide +kernel
theorem dX9_countsFor_21 : decode cX9_countsFor 21 = .ok (.aload_n 0, 1) := by decide +kernel
theorem dX9_countsFor_22 : decode cX9_countsFor 22 = .ok (.getfield 15, 3) := by decide +kernel
theorem dX9_countsFor_25 : decode cX9_countsFor 25 = .ok (.iload_n 2, 1) := by decide +kernel
theorem dX9_countsFor_26 : decode cX9_countsFor 26 = .ok (.iaload, 1) := by decide +kernel
theorem dX9_countsFor_27 : decode cX9_countsFor 27 = .ok (.if_icmp .ge 7, 3) := by decide +kernel
theorem dX9_countsFor_30 : decode cX9_countsFor 30 = .ok (.iconst 1, 1) := by decide +kernel
theorem dX9_countsFor_31 : decode cX9_countsFor 31 = .ok (.goto 4, 3) := by decide +kernel
theorem dX9_countsFor_34 : decode cX9_countsFor 34 = .ok (.iconst 0, 1) := by decide +kernel
theorem dX9_countsFor_35 : decode cX9_countsFor 35 = .ok (.ireturn, 1) := by decide +kernel
theorem dX9_countsFor_36 : decode cX9_countsFor 36 = .ok (.aload_n 0, 1) := by decide +kernel
theorem dX9_countsFor_37 : decode cX9_countsFor 37 = .ok (.getfield 19, 3) := by decide +kernel
theorem dX9_countsFor_40 : decode cX9_countsFor 40 = .ok (.iload_n 1, 1) := by decide +kernel
theorem dX9_countsFor_41 : decode cX9_countsFor 41 = .ok (.iaload, 1) := by decide +kernel
theorem dX9_countsFor_42 : decode cX9_countsFor 42 = .ok (.aload_n 0, 1) := by decide +kernel
theorem dX9_countsFor_43 : decode cX9_countsFor 43 = .ok (.getfield 19, 3) := by decide +kernel
theorem dX9_countsFor_46 : decode cX9_countsFor 46 = .ok (.iload_n 2, 1) := by decide +kernel
theorem dX9_countsFor_47 : decode cX9_countsFor 47 = .ok (.iaload, 1) := by decide +kernel
theorem dX9_countsFor_48 : decode cX9_countsFor 48 = .ok (.iconst 1, 1) := by decide +kernel
theorem dX9_countsFor_49 : decode cX9_countsFor 49 = .ok (.iadd, 1) := by decide +kernel
theorem dX9_countsFor_50 : decode cX9_countsFor 50 = .ok (.if_icmp .ne 22, 3) := by decide +kernel
theorem dX9_countsFor_53 : decode cX9_countsFor 53 = .ok (.aload_n 0, 1) := by decide +kernel
theorem dX9_countsFor_54 : decode cX9_countsFor 54 = .ok (.getfield 15, 3) := by decide +kernel
theorem dX9_countsFor_57 : decode cX9_countsFor 57 = .ok (.iload_n 1, 1) := by decide +kernel
theorem dX9_countsFor_58 : decode cX9_countsFor 58 = .ok (.iaload, 1) := by decide +kernel
theorem dX9_countsFor_59 : decode cX9_countsFor 59 = .ok (.aload_n 0, 1) := by decide +kernel
theorem dX9_countsFor_60 : decode cX9_countsFor 60 = .ok (.getfield 15, 3) := by decide +kernel
theorem dX9_countsFor_63 : decode cX9_countsFor 63 = .ok (.iload_n 2, 1) := by decide +kernel
theorem dX9_countsFor_64 : decode cX9_countsFor 64 = .ok (.iaload, 1) := by decide +kernel
theorem dX9_countsFor_65 : decode cX9_countsFor 65 = .ok (.if_icmp .le 7, 3) := by decide +kernel
theorem dX9_countsFor_68 : decode cX9_countsFor 68 = .ok (.iconst 1, 1) := by decide +kernel
theorem dX9_countsFor_69 : decode cX9_countsFor 69 = .ok (.goto 4, 3) := by decide +kernel
theorem dX9_countsFor_72 : decode cX9_countsFor 72 = .ok (.iconst 0, 1) := by decide +kernel
theorem dX9_countsFor_73 : decode cX9_countsFor 73 = .ok (.ireturn, 1) := by decide +kernel
theorem dX10_init_0 : decode cX10_init 0 = .ok (.aload_n 0, 1) := by decide +kernel
theorem dX10_init_1 : decode cX10_init 1 = .ok (.invokespecial 1, 3) := by decide +kernel
theorem dX10_init_4 : decode cX10_init 4 = .ok (.new 7, 3) := by decide +kernel
theorem dX10_init_7 : decode cX10_init 7 = .ok (.dup, 1) := by decide +kernel
theorem dX10_init_8 : decode cX10_init 8 = .ok (.invokespecial 9, 3) := by decide +kernel
theorem dX10_init_11 : decode cX10_init 11 = .ok (.astore_n 1, 1) := by decide +kernel
theorem dX10_init_12 : decode cX10_init 12 = .ok (.aload_n 0, 1) := by decide +kernel
theorem dX10_init_13 : decode cX10_init 13 = .ok (.new 10, 3) := by decide +kernel
theorem dX10_init_16 : decode cX10_init 16 = .ok (.dup, 1) := by decide +kernel
theorem dX10_init_17 : decode cX10_init 17 = .ok (.invokespecial 12, 3) := by decide +kernel
theorem dX10_init_20 : decode cX10_init 20 = .ok (.putfield 13, 3) := by decide +kernel
theorem dX10_init_23 : decode cX10_init 23 = .ok (.aload_n 0, 1) := by decide +kernel
theorem dX10_init_24 : decode cX10_init 24 = .ok (.new 19, 3) := by decide +kernel
theorem dX10_init_27 : decode cX10_init 27 = .ok (.dup, 1) := by decide +kernel
theorem dX10_init_28 : decode cX10_init 28 = .ok (.invokespecial 21, 3) := by decide +kernel
theorem dX10_init_31 : decode cX10_init 31 = .ok (.putfield 22, 3) := by decide +kernel
theorem dX10_init_34 : decode cX10_init 34 = .ok (.aload_n 0, 1) := by decide +kernel
theorem dX10_init_35 : decode cX10_init 35 = .ok (.new 26, 3) := by decide +kernel
theorem dX10_init_38 : decode cX10_init 38 = .ok (.dup, 1) := by decide +kernel
theorem dX10_init_39 : decode cX10_init 39 = .ok (.aload_n 1, 1) := by decide +kernel
theorem dX10_init_40 : decode cX10_init 40 = .ok (.invokespecial 28, 3) := by decide +kernel
theorem dX10_init_43 : decode cX10_init 43 = .ok (.putfield 31, 3) := by decide +kernel
theorem dX10_init_46 : decode cX10_init 46 = .ok (.aload_n 0, 1) := by decide +kernel
theorem dX10_init_47 : decode cX10_init 47 = .ok (.new 35, 3) := by decide +kernel
theorem dX10_init_50 : decode cX10_init 50 = .ok (.dup, 1) := by decide +kernel
theorem dX10_init_51 : decode cX10_init 51 = .ok (.invokespecial 37, 3) := by decide +kernel
theorem dX10_init_54 : decode cX10_init 54 = .ok (.putfield 38, 3) := by decide +kernel
theorem dX10_init_57 : decode cX10_init 57 = .ok (.aload_n 0, 1) := by decide +kernel
theorem dX10_init_58 : decode cX10_init 58 = .ok (.new 42, 3) := by decide +kernel
theorem dX10_init_61 : decode cX10_init 61 = .ok (.dup, 1) := by decide +kernel
theorem dX10_init_62 : decode cX10_init 62 = .ok (.invokespecial 44, 3) := by decide +kernel
theorem dX10_init_65 : decode cX10_init 65 = .ok (.putfield 45, 3) := by decide +kernel
theorem dX10_init_68 : decode cX10_init 68 = .ok (.aload_n 0, 1) := by decide +kernel
theorem dX10_init_69 : decode cX10_init 69 = .ok (.new 49, 3) := by decide +kernel
theorem dX10_init_72 : decode cX10_init 72 = .ok (.dup, 1) := by decide +kernel
theorem dX10_init_73 : decode cX10_init 73 = .ok (.invokespecial 51, 3) := by decide +kernel
theorem dX10_init_76 : decode cX10_init 76 = .ok (.putfield 52, 3) := by decide +kernel
theorem dX10_init_79 : decode cX10_init 79 = .ok (.aload_n 0, 1) := by decide +kernel
theorem dX10_init_80 : decode cX10_init 80 = .ok (.new 56, 3) := by decide +kernel
theorem dX10_init_83 : decode cX10_init 83 = .ok (.dup, 1) := by decide +kernel
theorem dX10_init_84 : decode cX10_init 84 = .ok (.invokespecial 58, 3) := by decide +kernel
theorem dX10_init_87 : decode cX10_init 87 = .ok (.putfield 59, 3) := by decide +kernel
theorem dX10_init_90 : decode cX10_init 90 = .ok (.aload_n 0, 1) := by decide +kernel
theorem dX10_init_91 : decode cX10_init 91 = .ok (.new 63, 3) := by decide +kernel
theorem dX10_init_94 : decode cX10_init 94 = .ok (.dup, 1) := by decide +kernel
theorem dX10_init_95 : decode cX10_init 95 = .ok (.aload_n 1, 1) := by decide +kernel
theorem dX10_init_96 : decode cX10_init 96 = .ok (.invokespecial 65, 3) := by decide +kernel
theorem dX10_init_99 : decode cX10_init 99 = .ok (.putfield 66, 3) := by decide +kernel
theorem dX10_init_102 : decode cX10_init 102 = .ok (.aload_n 0, 1) := by decide +kernel
theorem dX10_init_103 : decode cX10_init 103 = .ok (.new 70, 3) := by decide +kernel
theorem dX10_init_106 : decode cX10_init 106 = .ok (.dup, 1) := by decide +kernel
theorem dX10_init_107 : decode cX10_init 107 = .ok (.invokespecial 72, 3) := by decide +kernel
theorem dX10_init_110 : decode cX10_init 110 = .ok (.putfield 73, 3) := by decide +kernel
theorem dX10_init_113 : decode cX10_init 113 = .ok (.aload_n 0, 1) := by decide +kernel
theorem dX10_init_114 : decode cX10_init 114 = .ok (.bipush 11, 2) := by decide +kernel
theorem dX10_init_116 : decode cX10_init 116 = .ok (.newarray .int, 2) := by decide +kernel
theorem dX10_init_118 : decode cX10_init 118 = .ok (.putfield 77, 3) := by decide +kernel
theorem dX10_init_121 : decode cX10_init 121 = .ok (.return_, 1) := by decide +kernel
theorem dX10_road_0 : decode cX10_road 0 = .ok (.iload_n 1, 1) := by decide +kernel
theorem dX10_road_1 : decode cX10_road 1 = .ok (.ifCond .lt 19, 3) := by decide +kernel
theorem dX10_road_4 : decode cX10_road 4 = .ok (.iload_n 1, 1) := by decide +kernel
theorem dX10_road_5 : decode cX10_road 5 = .ok (.iconst 2, 1) := by decide +kernel
theorem dX10_road_6 : decode cX10_road 6 = .ok (.if_icmp .gt 14, 3) := by decide +kernel
theorem dX10_road_9 : decode cX10_road 9 = .ok (.iload_n 2, 1) := by decide +kernel
theorem dX10_road_10 : decode cX10_road 10 = .ok (.iconst 1, 1) := by decide +kernel
theorem dX10_road_11 : decode cX10_road 11 = .ok (.if_icmp .lt 9, 3) := by decide +kernel
theorem dX10_road_14 : decode cX10_road 14 = .ok (.iload_n 2, 1) := by decide +kernel
theorem dX10_road_15 : decode cX10_road 15 = .ok (.bipush 10, 2) := by decide +kernel
theorem dX10_road_17 : decode cX10_road 17 = .ok (.if_icmp .le 5, 3) := by decide +kernel
theorem dX10_road_20 : decode cX10_road 20 = .ok (.iconst (-1), 1) := by decide +kernel
theorem dX10_road_21 : decode cX10_road 21 = .ok (.ireturn, 1) := by decide +kernel
theorem dX10_road_22 : decode cX10_road 22 = .ok (.iload_n 1, 1) := by decide +kernel
theorem dX10_road_23 : decode cX10_road 23 = .ok (.iconst 2, 1) := by decide +kernel
theorem dX10_road_24 : decode cX10_road 24 = .ok (.if_icmp .ne 15, 3) := by decide +kernel
theorem dX10_road_27 : decode cX10_road 27 = .ok (.iload_n 3, 1) := by decide +kernel
theorem dX10_road_28 : decode cX10_road 28 = .ok (.ifCond .lt 9, 3) := by decide +kernel
theorem dX10_road_31 : decode cX10_road 31 = .ok (.iload_n 3, 1) := by decide +kernel
theorem dX10_road_32 : decode cX10_road 32 = .ok (.bipush 9, 2) := by decide +kernel
theorem dX10_road_34 : decode cX10_road 34 = .ok (.if_icmp .le 5, 3) := by decide +kernel
theorem dX10_road_37 : decode cX10_road 37 = .ok (.iconst (-1), 1) := by decide +kernel
theorem dX10_road_38 : decode cX10_road 38 = .ok (.ireturn, 1) := by decide +kernel
theorem dX10_road_39 : decode cX10_road 39 = .ok (.aload_n 0, 1) := by decide +kernel
theorem dX10_road_40 : decode cX10_road 40 = .ok (.getfield 13, 3) := by decide +kernel
theorem dX10_road_43 : decode cX10_road 43 = .ok (.iload_n 1, 1) := by decide +kernel
theorem dX10_road_44 : decode cX10_road 44 = .ok (.iload_n 2, 1) := by decide +kernel
theorem dX10_road_45 : decode cX10_road 45 = .ok (.iload_n 3, 1) := by decide +kernel
theorem dX10_road_46 : decode cX10_road 46 = .ok (.invokevirtual 81, 3) := by decide +kernel
theorem dX10_road_49 : decode cX10_road 49 = .ok (.iconst 1, 1) := by decide +kernel
theorem dX10_road_50 : decode cX10_road 50 = .ok (.ireturn, 1) := by decide +kernel
theorem dX10_car_0 : decode cX10_car 0 = .ok (.aload_n 0, 1) := by decide +kernel
theorem dX10_car_1 : decode cX10_car 1 = .ok (.getfield 13, 3) := by decide +kernel
theorem dX10_car_4 : decode cX10_car 4 = .ok (.iload_n 1, 1) := by decide +kernel
theorem dX10_car_5 : decode cX10_car 5 = .ok (.invokevirtual 85, 3) := by decide +kernel
theorem dX10_car_8 : decode cX10_car 8 = .ok (.ifCond .ne 5, 3) := by decide +kernel
theorem dX10_car_11 : decode cX10_car 11 = .ok (.iconst (-1), 1) := by decide +kernel
theorem dX10_car_12 : decode cX10_car 12 = .ok (.ireturn, 1) := by decide +kernel
theorem dX10_car_13 : decode cX10_car 13 = .ok (.aload_n 0, 1) := by decide +kernel
theorem dX10_car_14 : decode cX10_car 14 = .ok (.getfield 13, 3) := by decide +kernel
theorem dX10_car_17 : decode cX10_car 17 = .ok (.getfield 89, 3) := by decide +kernel
theorem dX10_car_20 : decode cX10_car 20 = .ok (.aload_n 0, 1) := by decide +kernel
theorem dX10_car_21 : decode cX10_car 21 = .ok (.getfield 13, 3) := by decide +kernel
theorem dX10_car_24 : decode cX10_car 24 = .ok (.getfield 93, 3) := by decide +kernel
theorem dX10_car_27 : decode cX10_car 27 = .ok (.if_icmp .lt 6, 3) := by decide +kernel
theorem dX10_car_30 : decode cX10_car 30 = .ok (.bipush (-3), 2) := by decide +kernel
theorem dX10_car_32 : decode cX10_car 32 = .ok (.ireturn, 1) := by decide +kernel
theorem dX10_car_33 : decode cX10_car 33 = .ok (.aload_n 0, 1) := by decide +kernel
theorem dX10_car_34 : decode cX10_car 34 = .ok (.getfield 13, 3) := by decide +kernel
theorem dX10_car_37 : decode cX10_car 37 = .ok (.iload_n 1, 1) := by decide +kernel
theorem dX10_car_38 : decode cX10_car 38 = .ok (.invokevirtual 96, 3) := by decide +kernel
theorem dX10_car_41 : decode cX10_car 41 = .ok (.aload_n 0, 1) := by decide +kernel
theorem dX10_car_42 : decode cX10_car 42 = .ok (.getfield 13, 3) := by decide +kernel
theorem dX10_car_45 : decode cX10_car 45 = .ok (.invokevirtual 100, 3) := by decide +kernel
theorem dX10_car_48 : decode cX10_car 48 = .ok (.aload_n 0, 1) := by decide +kernel
theorem dX10_car_49 : decode cX10_car 49 = .ok (.getfield 13, 3) := by decide +kernel
theorem dX10_car_52 : decode cX10_car 52 = .ok (.getfield 89, 3) := by decide +kernel
theorem dX10_car_55 : decode cX10_car 55 = .ok (.ireturn, 1) := by decide +kernel
theorem dX10_wish_0 : decode cX10_wish 0 = .ok (.aload_n 0, 1) := by decide +kernel
theorem dX10_wish_1 : decode cX10_wish 1 = .ok (.getfield 13, 3) := by decide +kernel
theorem dX10_wish_4 : decode cX10_wish 4 = .ok (.iload_n 1, 1) := by decide +kernel
theorem dX10_wish_5 : decode cX10_wish 5 = .ok (.invokevirtual 103, 3) := by decide +kernel
theorem dX10_wish_8 : decode cX10_wish 8 = .ok (.ifCond .eq 14, 3) := by decide +kernel
theorem dX10_wish_11 : decode cX10_wish 11 = .ok (.aload_n 0, 1) := by decide +kernel
theorem dX10_wish_12 : decode cX10_wish 12 = .ok (.getfield 13, 3) := by decide +kernel
theorem dX10_wish_15 : decode cX10_wish 15 = .ok (.iload_n 2, 1) := by decide +kernel
theorem dX10_wish_16 : decode cX10_wish 16 = .ok (.invokevirtual 85, 3) := by decide +kernel
theorem dX10_wish_19 : decode cX10_wish 19 = .ok (.ifCond .ne 5, 3) := by decide +kernel
theorem dX10_wish_22 : decode cX10_wish 22 = .ok (.iconst (-1), 1) := by decide +kernel
theorem dX10_wish_23 : decode cX10_wish 23 = .ok (.ireturn, 1) := by decide +kernel
theorem dX10_wish_24 : decode cX10_wish 24 = .ok (.aload_n 0, 1) := by decide +kernel
theorem dX10_wish_25 : decode cX10_wish 25 = .ok (.getfield 13, 3) := by decide +kernel
theorem dX10_wish_28 : decode cX10_wish 28 = .ok (.getfield 106, 3) := by decide +kernel
theorem dX10_wish_31 : decode cX10_wish 31 = .ok (.iload_n 1, 1) := by decide +kernel
theorem dX10_wish_32 : decode cX10_wish 32 = .ok (.iaload, 1) := by decide +kernel
theorem dX10_wish_33 : decode cX10_wish 33 = .ok (.istore_n 3, 1) := by decide +kernel
theorem dX10_wish_34 : decode cX10_wish 34 = .ok (.aload_n 0, 1) := by decide +kernel
theorem dX10_wish_35 : decode cX10_wish 35 = .ok (.getfield 13, 3) := by decide +kernel
theorem dX10_wish_38 : decode cX10_wish 38 = .ok (.getfield 106, 3) := by decide +kernel
theorem dX10_wish_41 : decode cX10_wish 41 = .ok (.iload_n 1, 1) := by decide +kernel
theorem dX10_wish_42 : decode cX10_wish 42 = .ok (.iload_n 2, 1) := by decide +kernel
theorem dX10_wish_43 : decode cX10_wish 43 = .ok (.iastore, 1) := by decide +kernel
theorem dX10_wish_44 : decode cX10_wish 44 = .ok (.aload_n 0, 1) := by decide +kernel
theorem dX10_wish_45 : decode cX10_wish 45 = .ok (.getfield 13, 3) := by decide +kernel
theorem dX10_wish_48 : decode cX10_wish 48 = .ok (.invokevirtual 100, 3) := by decide +kernel
theorem dX10_wish_51 : decode cX10_wish 51 = .ok (.iload_n 3, 1) := by decide +kernel
theorem dX10_wish_52 : decode cX10_wish 52 = .ok (.ireturn, 1) := by decide +kernel
theorem dX10_length_0 : decode cX10_length 0 = .ok (.aload_n 0, 1) := by decide +kernel
theorem dX10_length_1 : decode cX10_length 1 = .ok (.getfield 13, 3) := by decide +kernel
theorem dX10_length_4 : decode cX10_length 4 = .ok (.iload_n 1, 1) := by decide +kernel
theorem dX10_length_5 : decode cX10_length 5 = .ok (.invokevirtual 103, 3) := by decide +kernel
theorem dX10_length_8 : decode cX10_length 8 = .ok (.ifCond .eq 13, 3) := by decide +kernel
theorem dX10_length_11 : decode cX10_length 11 = .ok (.iload_n 2, 1) := by decide +kernel
theorem dX10_length_12 : decode cX10_length 12 = .ok (.iconst 1, 1) := by decide +kernel
theorem dX10_length_13 : decode cX10_length 13 = .ok (.if_icmp .lt 8, 3) := by decide +kernel
theorem dX10_length_16 : decode cX10_length 16 = .ok (.iload_n 2, 1) := by decide +kernel
theorem dX10_length_17 : decode cX10_length 17 = .ok (.iconst 4, 1) := by decide +kernel
theorem dX10_length_18 : decode cX10_length 18 = .ok (.if_icmp .le 5, 3) := by decide +kernel
theorem dX10_length_21 : decode cX10_length 21 = .ok (.iconst (-1), 1) := by decide +kernel
theorem dX10_length_22 : decode cX10_length 22 = .ok (.ireturn, 1) := by decide +kernel
theorem dX10_length_23 : decode cX10_length 23 = .ok (.aload_n 0, 1) := by decide +kernel
theorem dX10_length_24 : decode cX10_length 24 = .ok (.getfield 13, 3) := by decide +kernel
theorem dX10_length_27 : decode cX10_length 27 = .ok (.getfield 109, 3) := by decide +kernel
theorem dX10_length_30 : decode cX10_length 30 = .ok (.iload_n 1, 1) := by decide +kernel
theorem dX10_length_31 : decode cX10_length 31 = .ok (.iaload, 1) := by decide +kernel
theorem dX10_length_32 : decode cX10_length 32 = .ok (.istore_n 3, 1) := by decide +kernel
theorem dX10_length_33 : decode cX10_length 33 = .ok (.aload_n 0, 1) := by decide +kernel
theorem dX10_length_34 : decode cX10_length 34 = .ok (.getfield 13, 3) := by decide +kernel
theorem dX10_length_37 : decode cX10_length 37 = .ok (.getfield 109, 3) := by decide +kernel
theorem dX10_length_40 : decode cX10_length 40 = .ok (.iload_n 1, 1) := by decide +kernel
theorem dX10_length_41 : decode cX10_length 41 = .ok (.iload_n 2, 1) := by decide +kernel
theorem dX10_length_42 : decode cX10_length 42 = .ok (.iastore, 1) := by decide +kernel
theorem dX10_length_43 : decode cX10_length 43 = .ok (.aload_n 0, 1) := by decide +kernel
theorem dX10_length_44 : decode cX10_length 44 = .ok (.getfield 13, 3) := by decide +kernel
theorem dX10_length_47 : decode cX10_length 47 = .ok (.invokevirtual 100, 3) := by decide +kernel
theorem dX10_length_50 : decode cX10_length 50 = .ok (.iload_n 3, 1) := by decide +kernel
theorem dX10_length_51 : decode cX10_length 51 = .ok (.ireturn, 1) := by decide +kernel
theorem dX10_undo_0 : decode cX10_undo 0 = .ok (.aload_n 0, 1) := by decide +kernel
theorem dX10_undo_1 : decode cX10_undo 1 = .ok (.getfield 13, 3) := by decide +kernel
theorem dX10_undo_4 : decode cX10_undo 4 = .ok (.getfield 89, 3) := by decide +kernel
theorem dX10_undo_7 : decode cX10_undo 7 = .ok (.ifCond .ne 6, 3) := by decide +kernel
theorem dX10_undo_10 : decode cX10_undo 10 = .ok (.bipush (-2), 2) := by decide +kernel
theorem dX10_undo_12 : decode cX10_undo 12 = .ok (.ireturn, 1) := by decide +kernel
theorem dX10_undo_13 : decode cX10_undo 13 = .ok (.aload_n 0, 1) := by decide +kernel
theorem dX10_undo_14 : decode cX10_undo 14 = .ok (.getfield 13, 3) := by decide +kernel
theorem dX10_undo_17 : decode cX10_undo 17 = .ok (.aload_n 0, 1) := by decide +kernel
theorem dX10_undo_18 : decode cX10_undo 18 = .ok (.getfield 13, 3) := by decide +kernel
theorem dX10_undo_21 : decode cX10_undo 21 = .ok (.getfield 89, 3) := by decide +kernel
theorem dX10_undo_24 : decode cX10_undo 24 = .ok (.iconst 1, 1) := by decide +kernel
theorem dX10_undo_25 : decode cX10_undo 25 = .ok (.isub, 1) := by decide +kernel
theorem dX10_undo_26 : decode cX10_undo 26 = .ok (.invokevirtual 112, 3) := by decide +kernel
theorem dX10_undo_29 : decode cX10_undo 29 = .ok (.aload_n 0, 1) := by decide +kernel
theorem dX10_undo_30 : decode cX10_undo 30 = .ok (.getfield 13, 3) := by decide +kernel
theorem dX10_undo_33 : decode cX10_undo 33 = .ok (.getfield 89, 3) := by decide +kernel
theorem dX10_undo_36 : decode cX10_undo 36 = .ok (.ireturn, 1) := by decide +kernel
theorem dX10_clear_0 : decode cX10_clear 0 = .ok (.aload_n 0, 1) := by decide +kernel
theorem dX10_clear_1 : decode cX10_clear 1 = .ok (.getfield 13, 3) := by decide +kernel
theorem dX10_clear_4 : decode cX10_clear 4 = .ok (.getfield 89, 3) := by decide +kernel
theorem dX10_clear_7 : decode cX10_clear 7 = .ok (.istore_n 1, 1) := by decide +kernel
theorem dX10_clear_8 : decode cX10_clear 8 = .ok (.aload_n 0, 1) := by decide +kernel
theorem dX10_clear_9 : decode cX10_clear 9 = .ok (.getfield 13, 3) := by decide +kernel
theorem dX10_clear_12 : decode cX10_clear 12 = .ok (.iconst 0, 1) := by decide +kernel
theorem dX10_clear_13 : decode cX10_clear 13 = .ok (.invokevirtual 112, 3) := by decide +kernel
theorem dX10_clear_16 : decode cX10_clear 16 = .ok (.iload_n 1, 1) := by decide +kernel
theorem dX10_clear_17 : decode cX10_clear 17 = .ok (.ireturn, 1) := by decide +kernel
theorem dX10_told_0 : decode cX10_told 0 = .ok (.aload_n 0, 1) := by decide +kernel
theorem dX10_told_1 : decode cX10_told 1 = .ok (.getfield 13, 3) := by decide +kernel
end
section
theorem dX10_told_4 : decode cX10_told 4 = .ok (.iload_n 1, 1) := by decide +kernel
theorem dX10_told_5 : decode cX10_told 5 = .ok (.invokevirtual 103, 3) := by decide +kernel
theorem dX10_told_8 : decode cX10_told 8 = .ok (.ifCond .ne 5, 3) := by decide +kernel
theorem dX10_told_11 : decode cX10_told 11 = .ok (.iconst (-1), 1) := by decide +kernel
theorem dX10_told_12 : decode cX10_told 12 = .ok (.ireturn, 1) := by decide +kernel
theorem dX10_told_13 : decode cX10_told 13 = .ok (.iload_n 2, 1) := by decide +kernel
theorem dX10_told_14 : decode cX10_told 14 = .ok (.tableswitch 122 0 4 #[34, 44, 54, 80, 105], 34) := by decide +kernel
theorem dX10_told_48 : decode cX10_told 48 = .ok (.aload_n 0, 1) := by decide +kernel
theorem dX10_told_49 : decode cX10_told 49 = .ok (.getfield 13, 3) := by decide +kernel
theorem dX10_told_52 : decode cX10_told 52 = .ok (.getfield 106, 3) := by decide +kernel
theorem dX10_told_55 : decode cX10_told 55 = .ok (.iload_n 1, 1) := by decide +kernel
theorem dX10_told_56 : decode cX10_told 56 = .ok (.iaload, 1) := by decide +kernel
theorem dX10_told_57 : decode cX10_told 57 = .ok (.ireturn, 1) := by decide +kernel
theorem dX10_told_58 : decode cX10_told 58 = .ok (.aload_n 0, 1) := by decide +kernel
theorem dX10_told_59 : decode cX10_told 59 = .ok (.getfield 13, 3) := by decide +kernel
theorem dX10_told_62 : decode cX10_told 62 = .ok (.getfield 109, 3) := by decide +kernel
theorem dX10_told_65 : decode cX10_told 65 = .ok (.iload_n 1, 1) := by decide +kernel
theorem dX10_told_66 : decode cX10_told 66 = .ok (.iaload, 1) := by decide +kernel
theorem dX10_told_67 : decode cX10_told 67 = .ok (.ireturn, 1) := by decide +kernel
theorem dX10_told_68 : decode cX10_told 68 = .ok (.aload_n 0, 1) := by decide +kernel
theorem dX10_told_69 : decode cX10_told 69 = .ok (.getfield 13, 3) := by decide +kernel
theorem dX10_told_72 : decode cX10_told 72 = .ok (.iload_n 1, 1) := by decide +kernel
theorem dX10_told_73 : decode cX10_told 73 = .ok (.invokevirtual 115, 3) := by decide +kernel
theorem dX10_told_76 : decode cX10_told 76 = .ok (.ifCond .eq 15, 3) := by decide +kernel
theorem dX10_told_79 : decode cX10_told 79 = .ok (.aload_n 0, 1) := by decide +kernel
theorem dX10_told_80 : decode cX10_told 80 = .ok (.getfield 13, 3) := by decide +kernel
theorem dX10_told_83 : decode cX10_told 83 = .ok (.getfield 118, 3) := by decide +kernel
theorem dX10_told_86 : decode cX10_told 86 = .ok (.iload_n 1, 1) := by decide +kernel
theorem dX10_told_87 : decode cX10_told 87 = .ok (.iaload, 1) := by decide +kernel
theorem dX10_told_88 : decode cX10_told 88 = .ok (.goto 5, 3) := by decide +kernel
theorem dX10_told_91 : decode cX10_told 91 = .ok (.bipush (-4), 2) := by decide +kernel
theorem dX10_told_93 : decode cX10_told 93 = .ok (.ireturn, 1) := by decide +kernel
theorem dX10_told_94 : decode cX10_told 94 = .ok (.aload_n 0, 1) := by decide +kernel
theorem dX10_told_95 : decode cX10_told 95 = .ok (.getfield 13, 3) := by decide +kernel
theorem dX10_told_98 : decode cX10_told 98 = .ok (.iload_n 1, 1) := by decide +kernel
theorem dX10_told_99 : decode cX10_told 99 = .ok (.invokevirtual 115, 3) := by decide +kernel
theorem dX10_told_102 : decode cX10_told 102 = .ok (.ifCond .eq 14, 3) := by decide +kernel
theorem dX10_told_105 : decode cX10_told 105 = .ok (.aload_n 0, 1) := by decide +kernel
theorem dX10_told_106 : decode cX10_told 106 = .ok (.getfield 13, 3) := by decide +kernel
theorem dX10_told_109 : decode cX10_told 109 = .ok (.iload_n 1, 1) := by decide +kernel
theorem dX10_told_110 : decode cX10_told 110 = .ok (.invokevirtual 121, 3) := by decide +kernel
theorem dX10_told_113 : decode cX10_told 113 = .ok (.goto 5, 3) := by decide +kernel
theorem dX10_told_116 : decode cX10_told 116 = .ok (.bipush (-4), 2) := by decide +kernel
theorem dX10_told_118 : decode cX10_told 118 = .ok (.ireturn, 1) := by decide +kernel
theorem dX10_told_119 : decode cX10_told 119 = .ok (.aload_n 0, 1) := by decide +kernel
theorem dX10_told_120 : decode cX10_told 120 = .ok (.getfield 13, 3) := by decide +kernel
theorem dX10_told_123 : decode cX10_told 123 = .ok (.iload_n 1, 1) := by decide +kernel
theorem dX10_told_124 : decode cX10_told 124 = .ok (.invokevirtual 125, 3) := by decide +kernel
theorem dX10_told_127 : decode cX10_told 127 = .ok (.ifCond .eq 7, 3) := by decide +kernel
theorem dX10_told_130 : decode cX10_told 130 = .ok (.iconst 1, 1) := by decide +kernel
theorem dX10_told_131 : decode cX10_told 131 = .ok (.goto 4, 3) := by decide +kernel
theorem dX10_told_134 : decode cX10_told 134 = .ok (.iconst 0, 1) := by decide +kernel
theorem dX10_told_135 : decode cX10_told 135 = .ok (.ireturn, 1) := by decide +kernel
theorem dX10_told_136 : decode cX10_told 136 = .ok (.iconst (-1), 1) := by decide +kernel
theorem dX10_told_137 : decode cX10_told 137 = .ok (.ireturn, 1) := by decide +kernel
theorem dX10_on_0 : decode cX10_on 0 = .ok (.aload_n 0, 1) := by decide +kernel
theorem dX10_on_1 : decode cX10_on 1 = .ok (.getfield 13, 3) := by decide +kernel
theorem dX10_on_4 : decode cX10_on 4 = .ok (.iload_n 1, 1) := by decide +kernel
theorem dX10_on_5 : decode cX10_on 5 = .ok (.invokevirtual 85, 3) := by decide +kernel
theorem dX10_on_8 : decode cX10_on 8 = .ok (.ifCond .eq 14, 3) := by decide +kernel
theorem dX10_on_11 : decode cX10_on 11 = .ok (.aload_n 0, 1) := by decide +kernel
theorem dX10_on_12 : decode cX10_on 12 = .ok (.getfield 13, 3) := by decide +kernel
theorem dX10_on_15 : decode cX10_on 15 = .ok (.iload_n 1, 1) := by decide +kernel
theorem dX10_on_16 : decode cX10_on 16 = .ok (.invokevirtual 128, 3) := by decide +kernel
theorem dX10_on_19 : decode cX10_on 19 = .ok (.goto 4, 3) := by decide +kernel
theorem dX10_on_22 : decode cX10_on 22 = .ok (.iconst (-1), 1) := by decide +kernel
theorem dX10_on_23 : decode cX10_on 23 = .ok (.ireturn, 1) := by decide +kernel
theorem dX10_count_0 : decode cX10_count 0 = .ok (.iload_n 1, 1) := by decide +kernel
theorem dX10_count_1 : decode cX10_count 1 = .ok (.tableswitch 130 0 7 #[47, 55, 63, 71, 87, 95, 103, 111], 47) := by decide +kernel
theorem dX10_count_48 : decode cX10_count 48 = .ok (.aload_n 0, 1) := by decide +kernel
theorem dX10_count_49 : decode cX10_count 49 = .ok (.getfield 13, 3) := by decide +kernel
theorem dX10_count_52 : decode cX10_count 52 = .ok (.getfield 93, 3) := by decide +kernel
theorem dX10_count_55 : decode cX10_count 55 = .ok (.ireturn, 1) := by decide +kernel
theorem dX10_count_56 : decode cX10_count 56 = .ok (.aload_n 0, 1) := by decide +kernel
theorem dX10_count_57 : decode cX10_count 57 = .ok (.getfield 13, 3) := by decide +kernel
theorem dX10_count_60 : decode cX10_count 60 = .ok (.getfield 89, 3) := by decide +kernel
theorem dX10_count_63 : decode cX10_count 63 = .ok (.ireturn, 1) := by decide +kernel
theorem dX10_count_64 : decode cX10_count 64 = .ok (.aload_n 0, 1) := by decide +kernel
theorem dX10_count_65 : decode cX10_count 65 = .ok (.getfield 13, 3) := by decide +kernel
theorem dX10_count_68 : decode cX10_count 68 = .ok (.invokevirtual 131, 3) := by decide +kernel
theorem dX10_count_71 : decode cX10_count 71 = .ok (.ireturn, 1) := by decide +kernel
theorem dX10_count_72 : decode cX10_count 72 = .ok (.aload_n 0, 1) := by decide +kernel
theorem dX10_count_73 : decode cX10_count 73 = .ok (.getfield 13, 3) := by decide +kernel
theorem dX10_count_76 : decode cX10_count 76 = .ok (.getfield 89, 3) := by decide +kernel
theorem dX10_count_79 : decode cX10_count 79 = .ok (.aload_n 0, 1) := by decide +kernel
theorem dX10_count_80 : decode cX10_count 80 = .ok (.getfield 13, 3) := by decide +kernel
theorem dX10_count_83 : decode cX10_count 83 = .ok (.invokevirtual 131, 3) := by decide +kernel
theorem dX10_count_86 : decode cX10_count 86 = .ok (.isub, 1) := by decide +kernel
theorem dX10_count_87 : decode cX10_count 87 = .ok (.ireturn, 1) := by decide +kernel
theorem dX10_count_88 : decode cX10_count 88 = .ok (.aload_n 0, 1) := by decide +kernel
theorem dX10_count_89 : decode cX10_count 89 = .ok (.getfield 13, 3) := by decide +kernel
theorem dX10_count_92 : decode cX10_count 92 = .ok (.invokevirtual 135, 3) := by decide +kernel
theorem dX10_count_95 : decode cX10_count 95 = .ok (.ireturn, 1) := by decide +kernel
theorem dX10_count_96 : decode cX10_count 96 = .ok (.aload_n 0, 1) := by decide +kernel
theorem dX10_count_97 : decode cX10_count 97 = .ok (.getfield 13, 3) := by decide +kernel
theorem dX10_count_100 : decode cX10_count 100 = .ok (.invokevirtual 138, 3) := by decide +kernel
theorem dX10_count_103 : decode cX10_count 103 = .ok (.ireturn, 1) := by decide +kernel
theorem dX10_count_104 : decode cX10_count 104 = .ok (.aload_n 0, 1) := by decide +kernel
theorem dX10_count_105 : decode cX10_count 105 = .ok (.getfield 13, 3) := by decide +kernel
theorem dX10_count_108 : decode cX10_count 108 = .ok (.invokevirtual 141, 3) := by decide +kernel
theorem dX10_count_111 : decode cX10_count 111 = .ok (.ireturn, 1) := by decide +kernel
theorem dX10_count_112 : decode cX10_count 112 = .ok (.aload_n 0, 1) := by decide +kernel
theorem dX10_count_113 : decode cX10_count 113 = .ok (.getfield 13, 3) := by decide +kernel
theorem dX10_count_116 : decode cX10_count 116 = .ok (.getfield 93, 3) := by decide +kernel
theorem dX10_count_119 : decode cX10_count 119 = .ok (.aload_n 0, 1) := by decide +kernel
theorem dX10_count_120 : decode cX10_count 120 = .ok (.getfield 13, 3) := by decide +kernel
theorem dX10_count_123 : decode cX10_count 123 = .ok (.getfield 144, 3) := by decide +kernel
theorem dX10_count_126 : decode cX10_count 126 = .ok (.invokestatic 147, 3) := by decide +kernel
theorem dX10_count_129 : decode cX10_count 129 = .ok (.isub, 1) := by decide +kernel
theorem dX10_count_130 : decode cX10_count 130 = .ok (.ireturn, 1) := by decide +kernel
theorem dX10_count_131 : decode cX10_count 131 = .ok (.iconst (-1), 1) := by decide +kernel
theorem dX10_count_132 : decode cX10_count 132 = .ok (.ireturn, 1) := by decide +kernel
theorem dX10_good_0 : decode cX10_good 0 = .ok (.aload_n 0, 1) := by decide +kernel
theorem dX10_good_1 : decode cX10_good 1 = .ok (.getfield 13, 3) := by decide +kernel
theorem dX10_good_4 : decode cX10_good 4 = .ok (.invokevirtual 152, 3) := by decide +kernel
theorem dX10_good_7 : decode cX10_good 7 = .ok (.ifCond .eq 7, 3) := by decide +kernel
theorem dX10_good_10 : decode cX10_good 10 = .ok (.iconst 1, 1) := by decide +kernel
theorem dX10_good_11 : decode cX10_good 11 = .ok (.goto 4, 3) := by decide +kernel
theorem dX10_good_14 : decode cX10_good 14 = .ok (.iconst 0, 1) := by decide +kernel
theorem dX10_good_15 : decode cX10_good 15 = .ok (.ireturn, 1) := by decide +kernel
theorem dX10_ways_0 : decode cX10_ways 0 = .ok (.aload_n 0, 1) := by decide +kernel
theorem dX10_ways_1 : decode cX10_ways 1 = .ok (.getfield 13, 3) := by decide +kernel
theorem dX10_ways_4 : decode cX10_ways 4 = .ok (.invokevirtual 156, 3) := by decide +kernel
theorem dX10_ways_7 : decode cX10_ways 7 = .ok (.ifCond .eq 17, 3) := by decide +kernel
theorem dX10_ways_10 : decode cX10_ways 10 = .ok (.aload_n 0, 1) := by decide +kernel
theorem dX10_ways_11 : decode cX10_ways 11 = .ok (.getfield 22, 3) := by decide +kernel
theorem dX10_ways_14 : decode cX10_ways 14 = .ok (.aload_n 0, 1) := by decide +kernel
theorem dX10_ways_15 : decode cX10_ways 15 = .ok (.getfield 13, 3) := by decide +kernel
theorem dX10_ways_18 : decode cX10_ways 18 = .ok (.invokevirtual 159, 3) := by decide +kernel
theorem dX10_ways_21 : decode cX10_ways 21 = .ok (.goto 5, 3) := by decide +kernel
theorem dX10_ways_24 : decode cX10_ways 24 = .ok (.bipush (-2), 2) := by decide +kernel
theorem dX10_ways_26 : decode cX10_ways 26 = .ok (.ireturn, 1) := by decide +kernel
theorem dX10_rows_0 : decode cX10_rows 0 = .ok (.aload_n 0, 1) := by decide +kernel
theorem dX10_rows_1 : decode cX10_rows 1 = .ok (.iload_n 1, 1) := by decide +kernel
theorem dX10_rows_2 : decode cX10_rows 2 = .ok (.invokevirtual 163, 3) := by decide +kernel
theorem dX10_rows_5 : decode cX10_rows 5 = .ok (.ifCond .eq 21, 3) := by decide +kernel
theorem dX10_rows_8 : decode cX10_rows 8 = .ok (.aload_n 0, 1) := by decide +kernel
theorem dX10_rows_9 : decode cX10_rows 9 = .ok (.getfield 31, 3) := by decide +kernel
theorem dX10_rows_12 : decode cX10_rows 12 = .ok (.aload_n 0, 1) := by decide +kernel
theorem dX10_rows_13 : decode cX10_rows 13 = .ok (.getfield 13, 3) := by decide +kernel
theorem dX10_rows_16 : decode cX10_rows 16 = .ok (.getfield 93, 3) := by decide +kernel
theorem dX10_rows_19 : decode cX10_rows 19 = .ok (.iload_n 1, 1) := by decide +kernel
theorem dX10_rows_20 : decode cX10_rows 20 = .ok (.invokevirtual 166, 3) := by decide +kernel
theorem dX10_rows_23 : decode cX10_rows 23 = .ok (.goto 6, 3) := by decide +kernel
theorem dX10_rows_26 : decode cX10_rows 26 = .ok (.ldc2_w 170, 3) := by decide +kernel
theorem dX10_rows_29 : decode cX10_rows 29 = .ok (.lreturn, 1) := by decide +kernel
theorem dX10_rank_0 : decode cX10_rank 0 = .ok (.aload_n 0, 1) := by decide +kernel
theorem dX10_rank_1 : decode cX10_rank 1 = .ok (.invokevirtual 172, 3) := by decide +kernel
theorem dX10_rank_4 : decode cX10_rank 4 = .ok (.ifCond .eq 34, 3) := by decide +kernel
theorem dX10_rank_7 : decode cX10_rank 7 = .ok (.aload_n 0, 1) := by decide +kernel
theorem dX10_rank_8 : decode cX10_rank 8 = .ok (.getfield 31, 3) := by decide +kernel
theorem dX10_rank_11 : decode cX10_rank 11 = .ok (.aload_n 0, 1) := by decide +kernel
theorem dX10_rank_12 : decode cX10_rank 12 = .ok (.getfield 13, 3) := by decide +kernel
theorem dX10_rank_15 : decode cX10_rank 15 = .ok (.getfield 106, 3) := by decide +kernel
theorem dX10_rank_18 : decode cX10_rank 18 = .ok (.aload_n 0, 1) := by decide +kernel
theorem dX10_rank_19 : decode cX10_rank 19 = .ok (.getfield 13, 3) := by decide +kernel
theorem dX10_rank_22 : decode cX10_rank 22 = .ok (.getfield 93, 3) := by decide +kernel
theorem dX10_rank_25 : decode cX10_rank 25 = .ok (.aload_n 0, 1) := by decide +kernel
theorem dX10_rank_26 : decode cX10_rank 26 = .ok (.getfield 13, 3) := by decide +kernel
theorem dX10_rank_29 : decode cX10_rank 29 = .ok (.getfield 89, 3) := by decide +kernel
theorem dX10_rank_32 : decode cX10_rank 32 = .ok (.invokevirtual 175, 3) := by decide +kernel
theorem dX10_rank_35 : decode cX10_rank 35 = .ok (.goto 6, 3) := by decide +kernel
theorem dX10_rank_38 : decode cX10_rank 38 = .ok (.ldc2_w 179, 3) := by decide +kernel
theorem dX10_rank_41 : decode cX10_rank 41 = .ok (.lreturn, 1) := by decide +kernel
theorem dX10_unrank_0 : decode cX10_unrank 0 = .ok (.aload_n 0, 1) := by decide +kernel
theorem dX10_unrank_1 : decode cX10_unrank 1 = .ok (.iload_n 1, 1) := by decide +kernel
theorem dX10_unrank_2 : decode cX10_unrank 2 = .ok (.invokevirtual 163, 3) := by decide +kernel
theorem dX10_unrank_5 : decode cX10_unrank 5 = .ok (.ifCond .eq 29, 3) := by decide +kernel
theorem dX10_unrank_8 : decode cX10_unrank 8 = .ok (.lload_n 2, 1) := by decide +kernel
theorem dX10_unrank_9 : decode cX10_unrank 9 = .ok (.lconst 0, 1) := by decide +kernel
theorem dX10_unrank_10 : decode cX10_unrank 10 = .ok (.lcmp, 1) := by decide +kernel
theorem dX10_unrank_11 : decode cX10_unrank 11 = .ok (.ifCond .lt 23, 3) := by decide +kernel
theorem dX10_unrank_14 : decode cX10_unrank 14 = .ok (.lload_n 2, 1) := by decide +kernel
theorem dX10_unrank_15 : decode cX10_unrank 15 = .ok (.aload_n 0, 1) := by decide +kernel
theorem dX10_unrank_16 : decode cX10_unrank 16 = .ok (.getfield 31, 3) := by decide +kernel
theorem dX10_unrank_19 : decode cX10_unrank 19 = .ok (.aload_n 0, 1) := by decide +kernel
theorem dX10_unrank_20 : decode cX10_unrank 20 = .ok (.getfield 13, 3) := by decide +kernel
theorem dX10_unrank_23 : decode cX10_unrank 23 = .ok (.getfield 93, 3) := by decide +kernel
theorem dX10_unrank_26 : decode cX10_unrank 26 = .ok (.iload_n 1, 1) := by decide +kernel
theorem dX10_unrank_27 : decode cX10_unrank 27 = .ok (.invokevirtual 166, 3) := by decide +kernel
theorem dX10_unrank_30 : decode cX10_unrank 30 = .ok (.lcmp, 1) := by decide +kernel
theorem dX10_unrank_31 : decode cX10_unrank 31 = .ok (.ifCond .lt 5, 3) := by decide +kernel
theorem dX10_unrank_34 : decode cX10_unrank 34 = .ok (.iconst (-1), 1) := by decide +kernel
theorem dX10_unrank_35 : decode cX10_unrank 35 = .ok (.ireturn, 1) := by decide +kernel
theorem dX10_unrank_36 : decode cX10_unrank 36 = .ok (.aload_n 0, 1) := by decide +kernel
theorem dX10_unrank_37 : decode cX10_unrank 37 = .ok (.getfield 13, 3) := by decide +kernel
theorem dX10_unrank_40 : decode cX10_unrank 40 = .ok (.getfield 181, 3) := by decide +kernel
theorem dX10_unrank_43 : decode cX10_unrank 43 = .ok (.ifCond .eq 6, 3) := by decide +kernel
theorem dX10_unrank_46 : decode cX10_unrank 46 = .ok (.bipush (-2), 2) := by decide +kernel
theorem dX10_unrank_48 : decode cX10_unrank 48 = .ok (.ireturn, 1) := by decide +kernel
theorem dX10_unrank_49 : decode cX10_unrank 49 = .ok (.aload_n 0, 1) := by decide +kernel
theorem dX10_unrank_50 : decode cX10_unrank 50 = .ok (.getfield 31, 3) := by decide +kernel
theorem dX10_unrank_53 : decode cX10_unrank 53 = .ok (.aload_n 0, 1) := by decide +kernel
theorem dX10_unrank_54 : decode cX10_unrank 54 = .ok (.getfield 77, 3) := by decide +kernel
theorem dX10_unrank_57 : decode cX10_unrank 57 = .ok (.aload_n 0, 1) := by decide +kernel
theorem dX10_unrank_58 : decode cX10_unrank 58 = .ok (.getfield 13, 3) := by decide +kernel
theorem dX10_unrank_61 : decode cX10_unrank 61 = .ok (.getfield 93, 3) := by decide +kernel
theorem dX10_unrank_64 : decode cX10_unrank 64 = .ok (.iload_n 1, 1) := by decide +kernel
theorem dX10_unrank_65 : decode cX10_unrank 65 = .ok (.lload_n 2, 1) := by decide +kernel
theorem dX10_unrank_66 : decode cX10_unrank 66 = .ok (.invokevirtual 184, 3) := by decide +kernel
theorem dX10_unrank_69 : decode cX10_unrank 69 = .ok (.aload_n 0, 1) := by decide +kernel
theorem dX10_unrank_70 : decode cX10_unrank 70 = .ok (.getfield 13, 3) := by decide +kernel
theorem dX10_unrank_73 : decode cX10_unrank 73 = .ok (.aload_n 0, 1) := by decide +kernel
theorem dX10_unrank_74 : decode cX10_unrank 74 = .ok (.getfield 77, 3) := by decide +kernel
theorem dX10_unrank_77 : decode cX10_unrank 77 = .ok (.iload_n 1, 1) := by decide +kernel
theorem dX10_unrank_78 : decode cX10_unrank 78 = .ok (.invokevirtual 188, 3) := by decide +kernel
theorem dX10_unrank_81 : decode cX10_unrank 81 = .ok (.iload_n 1, 1) := by decide +kernel
theorem dX10_unrank_82 : decode cX10_unrank 82 = .ok (.ireturn, 1) := by decide +kernel
theorem dX10_next_0 : decode cX10_next 0 = .ok (.aload_n 0, 1) := by decide +kernel
theorem dX10_next_1 : decode cX10_next 1 = .ok (.invokevirtual 172, 3) := by decide +kernel
theorem dX10_next_4 : decode cX10_next 4 = .ok (.ifCond .ne 6, 3) := by decide +kernel
theorem dX10_next_7 : decode cX10_next 7 = .ok (.bipush (-2), 2) := by decide +kernel
theorem dX10_next_9 : decode cX10_next 9 = .ok (.ireturn, 1) := by decide +kernel
theorem dX10_next_10 : decode cX10_next 10 = .ok (.aload_n 0, 1) := by decide +kernel
theorem dX10_next_11 : decode cX10_next 11 = .ok (.getfield 31, 3) := by decide +kernel
theorem dX10_next_14 : decode cX10_next 14 = .ok (.aload_n 0, 1) := by decide +kernel
theorem dX10_next_15 : decode cX10_next 15 = .ok (.getfield 13, 3) := by decide +kernel
theorem dX10_next_18 : decode cX10_next 18 = .ok (.getfield 106, 3) := by decide +kernel
theorem dX10_next_21 : decode cX10_next 21 = .ok (.aload_n 0, 1) := by decide +kernel
theorem dX10_next_22 : decode cX10_next 22 = .ok (.getfield 13, 3) := by decide +kernel
theorem dX10_next_25 : decode cX10_next 25 = .ok (.getfield 93, 3) := by decide +kernel
theorem dX10_next_28 : decode cX10_next 28 = .ok (.aload_n 0, 1) := by decide +kernel
theorem dX10_next_29 : decode cX10_next 29 = .ok (.getfield 13, 3) := by decide +kernel
theorem dX10_next_32 : decode cX10_next 32 = .ok (.getfield 89, 3) := by decide +kernel
theorem dX10_next_35 : decode cX10_next 35 = .ok (.invokevirtual 192, 3) := by decide +kernel
theorem dX10_next_38 : decode cX10_next 38 = .ok (.ifCond .ne 6, 3) := by decide +kernel
theorem dX10_next_41 : decode cX10_next 41 = .ok (.bipush (-4), 2) := by decide +kernel
theorem dX10_next_43 : decode cX10_next 43 = .ok (.ireturn, 1) := by decide +kernel
theorem dX10_next_44 : decode cX10_next 44 = .ok (.aload_n 0, 1) := by decide +kernel
theorem dX10_next_45 : decode cX10_next 45 = .ok (.getfield 13, 3) := by decide +kernel
theorem dX10_next_48 : decode cX10_next 48 = .ok (.invokevirtual 100, 3) := by decide +kernel
theorem dX10_next_51 : decode cX10_next 51 = .ok (.iconst 1, 1) := by decide +kernel
theorem dX10_next_52 : decode cX10_next 52 = .ok (.ireturn, 1) := by decide +kernel
theorem dX10_like_0 : decode cX10_like 0 = .ok (.aload_n 0, 1) := by decide +kernel
theorem dX10_like_1 : decode cX10_like 1 = .ok (.invokevirtual 172, 3) := by decide +kernel
theorem dX10_like_4 : decode cX10_like 4 = .ok (.ifCond .eq 13, 3) := by decide +kernel
theorem dX10_like_7 : decode cX10_like 7 = .ok (.aload_n 0, 1) := by decide +kernel
theorem dX10_like_8 : decode cX10_like 8 = .ok (.getfield 13, 3) := by decide +kernel
theorem dX10_like_11 : decode cX10_like 11 = .ok (.invokevirtual 196, 3) := by decide +kernel
theorem dX10_like_14 : decode cX10_like 14 = .ok (.goto 6, 3) := by decide +kernel
theorem dX10_like_17 : decode cX10_like 17 = .ok (.ldc2_w 179, 3) := by decide +kernel
theorem dX10_like_20 : decode cX10_like 20 = .ok (.lreturn, 1) := by decide +kernel
theorem dX10_orders_0 : decode cX10_orders 0 = .ok (.aload_n 0, 1) := by decide +kernel
theorem dX10_orders_1 : decode cX10_orders 1 = .ok (.getfield 13, 3) := by decide +kernel
theorem dX10_orders_4 : decode cX10_orders 4 = .ok (.getfield 181, 3) := by decide +kernel
theorem dX10_orders_7 : decode cX10_orders 7 = .ok (.ifCond .ne 13, 3) := by decide +kernel
theorem dX10_orders_10 : decode cX10_orders 10 = .ok (.aload_n 0, 1) := by decide +kernel
theorem dX10_orders_11 : decode cX10_orders 11 = .ok (.getfield 13, 3) := by decide +kernel
theorem dX10_orders_14 : decode cX10_orders 14 = .ok (.invokevirtual 200, 3) := by decide +kernel
theorem dX10_orders_17 : decode cX10_orders 17 = .ok (.goto 6, 3) := by decide +kernel
theorem dX10_orders_20 : decode cX10_orders 20 = .ok (.ldc2_w 179, 3) := by decide +kernel
theorem dX10_orders_23 : decode cX10_orders 23 = .ok (.lreturn, 1) := by decide +kernel
theorem dX10_rise_0 : decode cX10_rise 0 = .ok (.aload_n 0, 1) := by decide +kernel
theorem dX10_rise_1 : decode cX10_rise 1 = .ok (.getfield 13, 3) := by decide +kernel
theorem dX10_rise_4 : decode cX10_rise 4 = .ok (.invokevirtual 203, 3) := by decide +kernel
theorem dX10_rise_7 : decode cX10_rise 7 = .ok (.istore_n 1, 1) := by decide +kernel
theorem dX10_rise_8 : decode cX10_rise 8 = .ok (.aload_n 0, 1) := by decide +kernel
theorem dX10_rise_9 : decode cX10_rise 9 = .ok (.getfield 13, 3) := by decide +kernel
theorem dX10_rise_12 : decode cX10_rise 12 = .ok (.invokevirtual 100, 3) := by decide +kernel
theorem dX10_rise_15 : decode cX10_rise 15 = .ok (.iload_n 1, 1) := by decide +kernel
theorem dX10_rise_16 : decode cX10_rise 16 = .ok (.ireturn, 1) := by decide +kernel
theorem dX10_risings_0 : decode cX10_risings 0 = .ok (.aload_n 0, 1) := by decide +kernel
theorem dX10_risings_1 : decode cX10_risings 1 = .ok (.iload_n 1, 1) := by decide +kernel
theorem dX10_risings_2 : decode cX10_risings 2 = .ok (.invokevirtual 163, 3) := by decide +kernel
theorem dX10_risings_5 : decode cX10_risings 5 = .ok (.ifCond .eq 21, 3) := by decide +kernel
theorem dX10_risings_8 : decode cX10_risings 8 = .ok (.aload_n 0, 1) := by decide +kernel
theorem dX10_risings_9 : decode cX10_risings 9 = .ok (.getfield 38, 3) := by decide +kernel
theorem dX10_risings_12 : decode cX10_risings 12 = .ok (.aload_n 0, 1) := by decide +kernel
theorem dX10_risings_13 : decode cX10_risings 13 = .ok (.getfield 13, 3) := by decide +kernel
theorem dX10_risings_16 : decode cX10_risings 16 = .ok (.getfield 93, 3) := by decide +kernel
theorem dX10_risings_19 : decode cX10_risings 19 = .ok (.iload_n 1, 1) := by decide +kernel
theorem dX10_risings_20 : decode cX10_risings 20 = .ok (.invokevirtual 206, 3) := by decide +kernel
theorem dX10_risings_23 : decode cX10_risings 23 = .ok (.goto 6, 3) := by decide +kernel
theorem dX10_risings_26 : decode cX10_risings 26 = .ok (.ldc2_w 170, 3) := by decide +kernel
theorem dX10_risings_29 : decode cX10_risings 29 = .ok (.lreturn, 1) := by decide +kernel
theorem dX10_riseRank_0 : decode cX10_riseRank 0 = .ok (.aload_n 0, 1) := by decide +kernel
theorem dX10_riseRank_1 : decode cX10_riseRank 1 = .ok (.invokevirtual 172, 3) := by decide +kernel
theorem dX10_riseRank_4 : decode cX10_riseRank 4 = .ok (.ifCond .eq 13, 3) := by decide +kernel
theorem dX10_riseRank_7 : decode cX10_riseRank 7 = .ok (.aload_n 0, 1) := by decide +kernel
theorem dX10_riseRank_8 : decode cX10_riseRank 8 = .ok (.getfield 13, 3) := by decide +kernel
theorem dX10_riseRank_11 : decode cX10_riseRank 11 = .ok (.invokevirtual 207, 3) := by decide +kernel
theorem dX10_riseRank_14 : decode cX10_riseRank 14 = .ok (.ifCond .ne 7, 3) := by decide +kernel
theorem dX10_riseRank_17 : decode cX10_riseRank 17 = .ok (.ldc2_w 179, 3) := by decide +kernel
theorem dX10_riseRank_20 : decode cX10_riseRank 20 = .ok (.lreturn, 1) := by decide +kernel
theorem dX10_riseRank_21 : decode cX10_riseRank 21 = .ok (.aload_n 0, 1) := by decide +kernel
theorem dX10_riseRank_22 : decode cX10_riseRank 22 = .ok (.getfield 38, 3) := by decide +kernel
theorem dX10_riseRank_25 : decode cX10_riseRank 25 = .ok (.aload_n 0, 1) := by decide +kernel
theorem dX10_riseRank_26 : decode cX10_riseRank 26 = .ok (.getfield 13, 3) := by decide +kernel
theorem dX10_riseRank_29 : decode cX10_riseRank 29 = .ok (.getfield 106, 3) := by decide +kernel
theorem dX10_riseRank_32 : decode cX10_riseRank 32 = .ok (.aload_n 0, 1) := by decide +kernel
theorem dX10_riseRank_33 : decode cX10_riseRank 33 = .ok (.getfield 13, 3) := by decide +kernel
theorem dX10_riseRank_36 : decode cX10_riseRank 36 = .ok (.getfield 93, 3) := by decide +kernel
theorem dX10_riseRank_39 : decode cX10_riseRank 39 = .ok (.aload_n 0, 1) := by decide +kernel
theorem dX10_riseRank_40 : decode cX10_riseRank 40 = .ok (.getfield 13, 3) := by decide +kernel
theorem dX10_riseRank_43 : decode cX10_riseRank 43 = .ok (.getfield 89, 3) := by decide +kernel
theorem dX10_riseRank_46 : decode cX10_riseRank 46 = .ok (.invokevirtual 210, 3) := by decide +kernel
theorem dX10_riseRank_49 : decode cX10_riseRank 49 = .ok (.lreturn, 1) := by decide +kernel
theorem dX10_riseUnrank_0 : decode cX10_riseUnrank 0 = .ok (.aload_n 0, 1) := by decide +kernel
theorem dX10_riseUnrank_1 : decode cX10_riseUnrank 1 = .ok (.iload_n 1, 1) := by decide +kernel
theorem dX10_riseUnrank_2 : decode cX10_riseUnrank 2 = .ok (.invokevirtual 163, 3) := by decide +kernel
theorem dX10_riseUnrank_5 : decode cX10_riseUnrank 5 = .ok (.ifCond .eq 29, 3) := by decide +kernel
theorem dX10_riseUnrank_8 : decode cX10_riseUnrank 8 = .ok (.lload_n 2, 1) := by decide +kernel
theorem dX10_riseUnrank_9 : decode cX10_riseUnrank 9 = .ok (.lconst 0, 1) := by decide +kernel
theorem dX10_riseUnrank_10 : decode cX10_riseUnrank 10 = .ok (.lcmp, 1) := by decide +kernel
theorem dX10_riseUnrank_11 : decode cX10_riseUnrank 11 = .ok (.ifCond .lt 23, 3) := by decide +kernel
theorem dX10_riseUnrank_14 : decode cX10_riseUnrank 14 = .ok (.lload_n 2, 1) := by decide +kernel
theorem dX10_riseUnrank_15 : decode cX10_riseUnrank 15 = .ok (.aload_n 0, 1) := by decide +kernel
theorem dX10_riseUnrank_16 : decode cX10_riseUnrank 16 = .ok (.getfield 38, 3) := by decide +kernel
theorem dX10_riseUnrank_19 : decode cX10_riseUnrank 19 = .ok (.aload_n 0, 1) := by decide +kernel
theorem dX10_riseUnrank_20 : decode cX10_riseUnrank 20 = .ok (.getfield 13, 3) := by decide +kernel
theorem dX10_riseUnrank_23 : decode cX10_riseUnrank 23 = .ok (.getfield 93, 3) := by decide +kernel
theorem dX10_riseUnrank_26 : decode cX10_riseUnrank 26 = .ok (.iload_n 1, 1) := by decide +kernel
theorem dX10_riseUnrank_27 : decode cX10_riseUnrank 27 = .ok (.invokevirtual 206, 3) := by decide +kernel
theorem dX10_riseUnrank_30 : decode cX10_riseUnrank 30 = .ok (.lcmp, 1) := by decide +kernel
theorem dX10_riseUnrank_31 : decode cX10_riseUnrank 31 = .ok (.ifCond .lt 5, 3) := by decide +kernel
theorem dX10_riseUnrank_34 : decode cX10_riseUnrank 34 = .ok (.iconst (-1), 1) := by decide +kernel
theorem dX10_riseUnrank_35 : decode cX10_riseUnrank 35 = .ok (.ireturn, 1) := by decide +kernel
theorem dX10_riseUnrank_36 : decode cX10_riseUnrank 36 = .ok (.aload_n 0, 1) := by decide +kernel
theorem dX10_riseUnrank_37 : decode cX10_riseUnrank 37 = .ok (.getfield 13, 3) := by decide +kernel
theorem dX10_riseUnrank_40 : decode cX10_riseUnrank 40 = .ok (.getfield 181, 3) := by decide +kernel
theorem dX10_riseUnrank_43 : decode cX10_riseUnrank 43 = .ok (.ifCond .eq 6, 3) := by decide +kernel
theorem dX10_riseUnrank_46 : decode cX10_riseUnrank 46 = .ok (.bipush (-2), 2) := by decide +kernel
theorem dX10_riseUnrank_48 : decode cX10_riseUnrank 48 = .ok (.ireturn, 1) := by decide +kernel
theorem dX10_riseUnrank_49 : decode cX10_riseUnrank 49 = .ok (.aload_n 0, 1) := by decide +kernel
theorem dX10_riseUnrank_50 : decode cX10_riseUnrank 50 = .ok (.getfield 38, 3) := by decide +kernel
theorem dX10_riseUnrank_53 : decode cX10_riseUnrank 53 = .ok (.aload_n 0, 1) := by decide +kernel
theorem dX10_riseUnrank_54 : decode cX10_riseUnrank 54 = .ok (.getfield 77, 3) := by decide +kernel
theorem dX10_riseUnrank_57 : decode cX10_riseUnrank 57 = .ok (.aload_n 0, 1) := by decide +kernel
theorem dX10_riseUnrank_58 : decode cX10_riseUnrank 58 = .ok (.getfield 13, 3) := by decide +kernel
theorem dX10_riseUnrank_61 : decode cX10_riseUnrank 61 = .ok (.getfield 93, 3) := by decide +kernel
theorem dX10_riseUnrank_64 : decode cX10_riseUnrank 64 = .ok (.iload_n 1, 1) := by decide +kernel
theorem dX10_riseUnrank_65 : decode cX10_riseUnrank 65 = .ok (.lload_n 2, 1) := by decide +kernel
theorem dX10_riseUnrank_66 : decode cX10_riseUnrank 66 = .ok (.invokevirtual 211, 3) := by decide +kernel
theorem dX10_riseUnrank_69 : decode cX10_riseUnrank 69 = .ok (.aload_n 0, 1) := by decide +kernel
theorem dX10_riseUnrank_70 : decode cX10_riseUnrank 70 = .ok (.getfield 13, 3) := by decide +kernel
theorem dX10_riseUnrank_73 : decode cX10_riseUnrank 73 = .ok (.aload_n 0, 1) := by decide +kernel
theorem dX10_riseUnrank_74 : decode cX10_riseUnrank 74 = .ok (.getfield 77, 3) := by decide +kernel
theorem dX10_riseUnrank_77 : decode cX10_riseUnrank 77 = .ok (.iload_n 1, 1) := by decide +kernel
theorem dX10_riseUnrank_78 : decode cX10_riseUnrank 78 = .ok (.invokevirtual 188, 3) := by decide +kernel
theorem dX10_riseUnrank_81 : decode cX10_riseUnrank 81 = .ok (.iload_n 1, 1) := by decide +kernel
theorem dX10_riseUnrank_82 : decode cX10_riseUnrank 82 = .ok (.ireturn, 1) := by decide +kernel
theorem dX10_cuts_0 : decode cX10_cuts 0 = .ok (.aload_n 0, 1) := by decide +kernel
theorem dX10_cuts_1 : decode cX10_cuts 1 = .ok (.invokevirtual 212, 3) := by decide +kernel
theorem dX10_cuts_4 : decode cX10_cuts 4 = .ok (.ifCond .eq 13, 3) := by decide +kernel
theorem dX10_cuts_7 : decode cX10_cuts 7 = .ok (.aload_n 0, 1) := by decide +kernel
theorem dX10_cuts_8 : decode cX10_cuts 8 = .ok (.getfield 13, 3) := by decide +kernel
theorem dX10_cuts_11 : decode cX10_cuts 11 = .ok (.invokevirtual 215, 3) := by decide +kernel
theorem dX10_cuts_14 : decode cX10_cuts 14 = .ok (.goto 5, 3) := by decide +kernel
theorem dX10_cuts_17 : decode cX10_cuts 17 = .ok (.bipush (-2), 2) := by decide +kernel
theorem dX10_cuts_19 : decode cX10_cuts 19 = .ok (.ireturn, 1) := by decide +kernel
theorem dX10_primes_0 : decode cX10_primes 0 = .ok (.aload_n 0, 1) := by decide +kernel
theorem dX10_primes_1 : decode cX10_primes 1 = .ok (.getfield 31, 3) := by decide +kernel
theorem dX10_primes_4 : decode cX10_primes 4 = .ok (.aload_n 0, 1) := by decide +kernel
theorem dX10_primes_5 : decode cX10_primes 5 = .ok (.getfield 13, 3) := by decide +kernel
theorem dX10_primes_8 : decode cX10_primes 8 = .ok (.getfield 93, 3) := by decide +kernel
theorem dX10_primes_11 : decode cX10_primes 11 = .ok (.invokevirtual 218, 3) := by decide +kernel
theorem dX10_primes_14 : decode cX10_primes 14 = .ok (.lreturn, 1) := by decide +kernel
theorem dX10_mend_0 : decode cX10_mend 0 = .ok (.aload_n 0, 1) := by decide +kernel
theorem dX10_mend_1 : decode cX10_mend 1 = .ok (.getfield 13, 3) := by decide +kernel
theorem dX10_mend_4 : decode cX10_mend 4 = .ok (.invokevirtual 222, 3) := by decide +kernel
theorem dX10_mend_7 : decode cX10_mend 7 = .ok (.ifCond .eq 20, 3) := by decide +kernel
theorem dX10_mend_10 : decode cX10_mend 10 = .ok (.aload_n 0, 1) := by decide +kernel
theorem dX10_mend_11 : decode cX10_mend 11 = .ok (.getfield 13, 3) := by decide +kernel
theorem dX10_mend_14 : decode cX10_mend 14 = .ok (.getfield 89, 3) := by decide +kernel
theorem dX10_mend_17 : decode cX10_mend 17 = .ok (.aload_n 0, 1) := by decide +kernel
theorem dX10_mend_18 : decode cX10_mend 18 = .ok (.getfield 13, 3) := by decide +kernel
theorem dX10_mend_21 : decode cX10_mend 21 = .ok (.getfield 93, 3) := by decide +kernel
theorem dX10_mend_24 : decode cX10_mend 24 = .ok (.if_icmp .eq 6, 3) := by decide +kernel
theorem dX10_mend_27 : decode cX10_mend 27 = .ok (.bipush (-2), 2) := by decide +kernel
theorem dX10_mend_29 : decode cX10_mend 29 = .ok (.ireturn, 1) := by decide +kernel
theorem dX10_mend_30 : decode cX10_mend 30 = .ok (.aload_n 0, 1) := by decide +kernel
theorem dX10_mend_31 : decode cX10_mend 31 = .ok (.getfield 13, 3) := by decide +kernel
theorem dX10_mend_34 : decode cX10_mend 34 = .ok (.invokevirtual 225, 3) := by decide +kernel
theorem dX10_mend_37 : decode cX10_mend 37 = .ok (.istore_n 1, 1) := by decide +kernel
theorem dX10_mend_38 : decode cX10_mend 38 = .ok (.aload_n 0, 1) := by decide +kernel
theorem dX10_mend_39 : decode cX10_mend 39 = .ok (.getfield 13, 3) := by decide +kernel
theorem dX10_mend_42 : decode cX10_mend 42 = .ok (.invokevirtual 100, 3) := by decide +kernel
theorem dX10_mend_45 : decode cX10_mend 45 = .ok (.iload_n 1, 1) := by decide +kernel
theorem dX10_mend_46 : decode cX10_mend 46 = .ok (.ireturn, 1) := by decide +kernel
theorem dX10_node_0 : decode cX10_node 0 = .ok (.aload_n 0, 1) := by decide +kernel
theorem dX10_node_1 : decode cX10_node 1 = .ok (.getfield 13, 3) := by decide +kernel
theorem dX10_node_4 : decode cX10_node 4 = .ok (.iload_n 1, 1) := by decide +kernel
theorem dX10_node_5 : decode cX10_node 5 = .ok (.invokevirtual 103, 3) := by decide +kernel
theorem dX10_node_8 : decode cX10_node 8 = .ok (.ifCond .eq 12, 3) := by decide +kernel
theorem dX10_node_11 : decode cX10_node 11 = .ok (.iload_n 2, 1) := by decide +kernel
theorem dX10_node_12 : decode cX10_node 12 = .ok (.ifCond .lt 8, 3) := by decide +kernel
theorem dX10_node_15 : decode cX10_node 15 = .ok (.iload_n 2, 1) := by decide +kernel
theorem dX10_node_16 : decode cX10_node 16 = .ok (.iconst 4, 1) := by decide +kernel
theorem dX10_node_17 : decode cX10_node 17 = .ok (.if_icmp .le 5, 3) := by decide +kernel
theorem dX10_node_20 : decode cX10_node 20 = .ok (.iconst (-1), 1) := by decide +kernel
theorem dX10_node_21 : decode cX10_node 21 = .ok (.ireturn, 1) := by decide +kernel
theorem dX10_node_22 : decode cX10_node 22 = .ok (.aload_n 0, 1) := by decide +kernel
theorem dX10_node_23 : decode cX10_node 23 = .ok (.invokevirtual 212, 3) := by decide +kernel
theorem dX10_node_26 : decode cX10_node 26 = .ok (.ifCond .ne 6, 3) := by decide +kernel
theorem dX10_node_29 : decode cX10_node 29 = .ok (.bipush (-2), 2) := by decide +kernel
theorem dX10_node_31 : decode cX10_node 31 = .ok (.ireturn, 1) := by decide +kernel
theorem dX10_node_32 : decode cX10_node 32 = .ok (.aload_n 0, 1) := by decide +kernel
theorem dX10_node_33 : decode cX10_node 33 = .ok (.getfield 45, 3) := by decide +kernel
theorem dX10_node_36 : decode cX10_node 36 = .ok (.aload_n 0, 1) := by decide +kernel
theorem dX10_node_37 : decode cX10_node 37 = .ok (.getfield 13, 3) := by decide +kernel
theorem dX10_node_40 : decode cX10_node 40 = .ok (.getfield 106, 3) := by decide +kernel
theorem dX10_node_43 : decode cX10_node 43 = .ok (.aload_n 0, 1) := by decide +kernel
theorem dX10_node_44 : decode cX10_node 44 = .ok (.getfield 13, 3) := by decide +kernel
theorem dX10_node_47 : decode cX10_node 47 = .ok (.getfield 93, 3) := by decide +kernel
theorem dX10_node_50 : decode cX10_node 50 = .ok (.invokevirtual 228, 3) := by decide +kernel
theorem dX10_node_53 : decode cX10_node 53 = .ok (.iload_n 2, 1) := by decide +kernel
theorem dX10_node_54 : decode cX10_node 54 = .ok (.tableswitch 70 0 3 #[30, 40, 50, 60], 30) := by decide +kernel
theorem dX10_node_84 : decode cX10_node 84 = .ok (.aload_n 0, 1) := by decide +kernel
theorem dX10_node_85 : decode cX10_node 85 = .ok (.getfield 45, 3) := by decide +kernel
theorem dX10_node_88 : decode cX10_node 88 = .ok (.getfield 231, 3) := by decide +kernel
theorem dX10_node_91 : decode cX10_node 91 = .ok (.iload_n 1, 1) := by decide +kernel
theorem dX10_node_92 : decode cX10_node 92 = .ok (.iaload, 1) := by decide +kernel
theorem dX10_node_93 : decode cX10_node 93 = .ok (.ireturn, 1) := by decide +kernel
theorem dX10_node_94 : decode cX10_node 94 = .ok (.aload_n 0, 1) := by decide +kernel
theorem dX10_node_95 : decode cX10_node 95 = .ok (.getfield 45, 3) := by decide +kernel
theorem dX10_node_98 : decode cX10_node 98 = .ok (.getfield 234, 3) := by decide +kernel
theorem dX10_node_101 : decode cX10_node 101 = .ok (.iload_n 1, 1) := by decide +kernel
theorem dX10_node_102 : decode cX10_node 102 = .ok (.iaload, 1) := by decide +kernel
theorem dX10_node_103 : decode cX10_node 103 = .ok (.ireturn, 1) := by decide +kernel
theorem dX10_node_104 : decode cX10_node 104 = .ok (.aload_n 0, 1) := by decide +kernel
theorem dX10_node_105 : decode cX10_node 105 = .ok (.getfield 45, 3) := by decide +kernel
theorem dX10_node_108 : decode cX10_node 108 = .ok (.getfield 237, 3) := by decide +kernel
theorem dX10_node_111 : decode cX10_node 111 = .ok (.iload_n 1, 1) := by decide +kernel
theorem dX10_node_112 : decode cX10_node 112 = .ok (.iaload, 1) := by decide +kernel
theorem dX10_node_113 : decode cX10_node 113 = .ok (.ireturn, 1) := by decide +kernel
theorem dX10_node_114 : decode cX10_node 114 = .ok (.aload_n 0, 1) := by decide +kernel
theorem dX10_node_115 : decode cX10_node 115 = .ok (.getfield 45, 3) := by decide +kernel
theorem dX10_node_118 : decode cX10_node 118 = .ok (.getfield 240, 3) := by decide +kernel
theorem dX10_node_121 : decode cX10_node 121 = .ok (.iload_n 1, 1) := by decide +kernel
theorem dX10_node_122 : decode cX10_node 122 = .ok (.iaload, 1) := by decide +kernel
theorem dX10_node_123 : decode cX10_node 123 = .ok (.ireturn, 1) := by decide +kernel
theorem dX10_node_124 : decode cX10_node 124 = .ok (.aload_n 0, 1) := by decide +kernel
theorem dX10_node_125 : decode cX10_node 125 = .ok (.getfield 45, 3) := by decide +kernel
theorem dX10_node_128 : decode cX10_node 128 = .ok (.getfield 243, 3) := by decide +kernel
theorem dX10_node_131 : decode cX10_node 131 = .ok (.iload_n 1, 1) := by decide +kernel
theorem dX10_node_132 : decode cX10_node 132 = .ok (.iaload, 1) := by decide +kernel
theorem dX10_node_133 : decode cX10_node 133 = .ok (.ireturn, 1) := by decide +kernel
theorem dX10_inv_0 : decode cX10_inv 0 = .ok (.aload_n 0, 1) := by decide +kernel
theorem dX10_inv_1 : decode cX10_inv 1 = .ok (.invokevirtual 212, 3) := by decide +kernel
theorem dX10_inv_4 : decode cX10_inv 4 = .ok (.ifCond .ne 6, 3) := by decide +kernel
theorem dX10_inv_7 : decode cX10_inv 7 = .ok (.bipush (-2), 2) := by decide +kernel
theorem dX10_inv_9 : decode cX10_inv 9 = .ok (.ireturn, 1) := by decide +kernel
theorem dX10_inv_10 : decode cX10_inv 10 = .ok (.aload_n 0, 1) := by decide +kernel
theorem dX10_inv_11 : decode cX10_inv 11 = .ok (.getfield 45, 3) := by decide +kernel
theorem dX10_inv_14 : decode cX10_inv 14 = .ok (.aload_n 0, 1) := by decide +kernel
theorem dX10_inv_15 : decode cX10_inv 15 = .ok (.getfield 13, 3) := by decide +kernel
theorem dX10_inv_18 : decode cX10_inv 18 = .ok (.getfield 106, 3) := by decide +kernel
theorem dX10_inv_21 : decode cX10_inv 21 = .ok (.aload_n 0, 1) := by decide +kernel
theorem dX10_inv_22 : decode cX10_inv 22 = .ok (.getfield 13, 3) := by decide +kernel
theorem dX10_inv_25 : decode cX10_inv 25 = .ok (.getfield 93, 3) := by decide +kernel
theorem dX10_inv_28 : decode cX10_inv 28 = .ok (.invokevirtual 228, 3) := by decide +kernel
theorem dX10_inv_31 : decode cX10_inv 31 = .ok (.aload_n 0, 1) := by decide +kernel
theorem dX10_inv_32 : decode cX10_inv 32 = .ok (.getfield 45, 3) := by decide +kernel
theorem dX10_inv_35 : decode cX10_inv 35 = .ok (.invokevirtual 246, 3) := by decide +kernel
theorem dX10_inv_38 : decode cX10_inv 38 = .ok (.ireturn, 1) := by decide +kernel
theorem dX10_code_0 : decode cX10_code 0 = .ok (.iload_n 1, 1) := by decide +kernel
theorem dX10_code_1 : decode cX10_code 1 = .ok (.ifCond .lt 16, 3) := by decide +kernel
theorem dX10_code_4 : decode cX10_code 4 = .ok (.iload_n 1, 1) := by decide +kernel
theorem dX10_code_5 : decode cX10_code 5 = .ok (.aload_n 0, 1) := by decide +kernel
theorem dX10_code_6 : decode cX10_code 6 = .ok (.getfield 13, 3) := by decide +kernel
theorem dX10_code_9 : decode cX10_code 9 = .ok (.getfield 93, 3) := by decide +kernel
theorem dX10_code_12 : decode cX10_code 12 = .ok (.iconst 2, 1) := by decide +kernel
theorem dX10_code_13 : decode cX10_code 13 = .ok (.isub, 1) := by decide +kernel
theorem dX10_code_14 : decode cX10_code 14 = .ok (.if_icmp .le 5, 3) := by decide +kernel
theorem dX10_code_17 : decode cX10_code 17 = .ok (.iconst (-1), 1) := by decide +kernel
theorem dX10_code_18 : decode cX10_code 18 = .ok (.ireturn, 1) := by decide +kernel
theorem dX10_code_19 : decode cX10_code 19 = .ok (.aload_n 0, 1) := by decide +kernel
theorem dX10_code_20 : decode cX10_code 20 = .ok (.invokevirtual 212, 3) := by decide +kernel
theorem dX10_code_23 : decode cX10_code 23 = .ok (.ifCond .ne 6, 3) := by decide +kernel
theorem dX10_code_26 : decode cX10_code 26 = .ok (.bipush (-2), 2) := by decide +kernel
theorem dX10_code_28 : decode cX10_code 28 = .ok (.ireturn, 1) := by decide +kernel
theorem dX10_code_29 : decode cX10_code 29 = .ok (.aload_n 0, 1) := by decide +kernel
theorem dX10_code_30 : decode cX10_code 30 = .ok (.getfield 45, 3) := by decide +kernel
theorem dX10_code_33 : decode cX10_code 33 = .ok (.aload_n 0, 1) := by decide +kernel
theorem dX10_code_34 : decode cX10_code 34 = .ok (.getfield 13, 3) := by decide +kernel
theorem dX10_code_37 : decode cX10_code 37 = .ok (.getfield 106, 3) := by decide +kernel
theorem dX10_code_40 : decode cX10_code 40 = .ok (.aload_n 0, 1) := by decide +kernel
theorem dX10_code_41 : decode cX10_code 41 = .ok (.getfield 13, 3) := by decide +kernel
theorem dX10_code_44 : decode cX10_code 44 = .ok (.getfield 93, 3) := by decide +kernel
theorem dX10_code_47 : decode cX10_code 47 = .ok (.invokevirtual 228, 3) := by decide +kernel
theorem dX10_code_50 : decode cX10_code 50 = .ok (.aload_n 0, 1) := by decide +kernel
theorem dX10_code_51 : decode cX10_code 51 = .ok (.getfield 45, 3) := by decide +kernel
theorem dX10_code_54 : decode cX10_code 54 = .ok (.iload_n 1, 1) := by decide +kernel
theorem dX10_code_55 : decode cX10_code 55 = .ok (.invokevirtual 249, 3) := by decide +kernel
theorem dX10_code_58 : decode cX10_code 58 = .ok (.ireturn, 1) := by decide +kernel
theorem dX10_decode_0 : decode cX10_decode 0 = .ok (.aload_n 0, 1) := by decide +kernel
theorem dX10_decode_1 : decode cX10_decode 1 = .ok (.getfield 13, 3) := by decide +kernel
theorem dX10_decode_4 : decode cX10_decode 4 = .ok (.getfield 93, 3) := by decide +kernel
theorem dX10_decode_7 : decode cX10_decode 7 = .ok (.iconst 1, 1) := by decide +kernel
theorem dX10_decode_8 : decode cX10_decode 8 = .ok (.isub, 1) := by decide +kernel
theorem dX10_decode_9 : decode cX10_decode 9 = .ok (.istore 4, 2) := by decide +kernel
theorem dX10_decode_11 : decode cX10_decode 11 = .ok (.aload_n 0, 1) := by decide +kernel
theorem dX10_decode_12 : decode cX10_decode 12 = .ok (.getfield 73, 3) := by decide +kernel
theorem dX10_decode_15 : decode cX10_decode 15 = .ok (.iload_n 1, 1) := by decide +kernel
theorem dX10_decode_16 : decode cX10_decode 16 = .ok (.iload_n 2, 1) := by decide +kernel
theorem dX10_decode_17 : decode cX10_decode 17 = .ok (.iload_n 3, 1) := by decide +kernel
theorem dX10_decode_18 : decode cX10_decode 18 = .ok (.iload 4, 2) := by decide +kernel
theorem dX10_decode_20 : decode cX10_decode 20 = .ok (.invokevirtual 252, 3) := by decide +kernel
theorem dX10_decode_23 : decode cX10_decode 23 = .ok (.istore 5, 2) := by decide +kernel
theorem dX10_decode_25 : decode cX10_decode 25 = .ok (.iload 5, 2) := by decide +kernel
theorem dX10_decode_27 : decode cX10_decode 27 = .ok (.ifCond .eq 6, 3) := by decide +kernel
theorem dX10_decode_30 : decode cX10_decode 30 = .ok (.iload 5, 2) := by decide +kernel
theorem dX10_decode_32 : decode cX10_decode 32 = .ok (.ireturn, 1) := by decide +kernel
theorem dX10_decode_33 : decode cX10_decode 33 = .ok (.aload_n 0, 1) := by decide +kernel
theorem dX10_decode_34 : decode cX10_decode 34 = .ok (.getfield 13, 3) := by decide +kernel
theorem dX10_decode_37 : decode cX10_decode 37 = .ok (.getfield 181, 3) := by decide +kernel
theorem dX10_decode_40 : decode cX10_decode 40 = .ok (.ifCond .ne 30, 3) := by decide +kernel
theorem dX10_decode_43 : decode cX10_decode 43 = .ok (.iload 4, 2) := by decide +kernel
theorem dX10_decode_45 : decode cX10_decode 45 = .ok (.ifCond .eq 25, 3) := by decide +kernel
theorem dX10_decode_48 : decode cX10_decode 48 = .ok (.aload_n 0, 1) := by decide +kernel
theorem dX10_decode_49 : decode cX10_decode 49 = .ok (.getfield 73, 3) := by decide +kernel
theorem dX10_decode_52 : decode cX10_decode 52 = .ok (.iload_n 1, 1) := by decide +kernel
theorem dX10_decode_53 : decode cX10_decode 53 = .ok (.iload_n 3, 1) := by decide +kernel
theorem dX10_decode_54 : decode cX10_decode 54 = .ok (.iload 4, 2) := by decide +kernel
theorem dX10_decode_56 : decode cX10_decode 56 = .ok (.iconst 0, 1) := by decide +kernel
theorem dX10_decode_57 : decode cX10_decode 57 = .ok (.aload_n 0, 1) := by decide +kernel
theorem dX10_decode_58 : decode cX10_decode 58 = .ok (.getfield 13, 3) := by decide +kernel
theorem dX10_decode_61 : decode cX10_decode 61 = .ok (.getfield 93, 3) := by decide +kernel
theorem dX10_decode_64 : decode cX10_decode 64 = .ok (.invokevirtual 256, 3) := by decide +kernel
theorem dX10_decode_67 : decode cX10_decode 67 = .ok (.ifCond .ne 6, 3) := by decide +kernel
theorem dX10_decode_70 : decode cX10_decode 70 = .ok (.bipush (-2), 2) := by decide +kernel
theorem dX10_decode_72 : decode cX10_decode 72 = .ok (.ireturn, 1) := by decide +kernel
theorem dX10_decode_73 : decode cX10_decode 73 = .ok (.aload_n 0, 1) := by decide +kernel
theorem dX10_decode_74 : decode cX10_decode 74 = .ok (.getfield 73, 3) := by decide +kernel
theorem dX10_decode_77 : decode cX10_decode 77 = .ok (.aload_n 0, 1) := by decide +kernel
theorem dX10_decode_78 : decode cX10_decode 78 = .ok (.getfield 77, 3) := by decide +kernel
theorem dX10_decode_81 : decode cX10_decode 81 = .ok (.iload_n 1, 1) := by decide +kernel
theorem dX10_decode_82 : decode cX10_decode 82 = .ok (.iload_n 3, 1) := by decide +kernel
theorem dX10_decode_83 : decode cX10_decode 83 = .ok (.iload 4, 2) := by decide +kernel
theorem dX10_decode_85 : decode cX10_decode 85 = .ok (.invokevirtual 260, 3) := by decide +kernel
theorem dX10_decode_88 : decode cX10_decode 88 = .ok (.aload_n 0, 1) := by decide +kernel
theorem dX10_decode_89 : decode cX10_decode 89 = .ok (.getfield 45, 3) := by decide +kernel
theorem dX10_decode_92 : decode cX10_decode 92 = .ok (.aload_n 0, 1) := by decide +kernel
theorem dX10_decode_93 : decode cX10_decode 93 = .ok (.getfield 77, 3) := by decide +kernel
theorem dX10_decode_96 : decode cX10_decode 96 = .ok (.aload_n 0, 1) := by decide +kernel
theorem dX10_decode_97 : decode cX10_decode 97 = .ok (.getfield 13, 3) := by decide +kernel
theorem dX10_decode_100 : decode cX10_decode 100 = .ok (.getfield 93, 3) := by decide +kernel
theorem dX10_decode_103 : decode cX10_decode 103 = .ok (.invokevirtual 264, 3) := by decide +kernel
theorem dX10_decode_106 : decode cX10_decode 106 = .ok (.aload_n 0, 1) := by decide +kernel
theorem dX10_decode_107 : decode cX10_decode 107 = .ok (.getfield 45, 3) := by decide +kernel
theorem dX10_decode_110 : decode cX10_decode 110 = .ok (.aload_n 0, 1) := by decide +kernel
theorem dX10_decode_111 : decode cX10_decode 111 = .ok (.getfield 77, 3) := by decide +kernel
theorem dX10_decode_114 : decode cX10_decode 114 = .ok (.invokevirtual 267, 3) := by decide +kernel
theorem dX10_decode_117 : decode cX10_decode 117 = .ok (.pop, 1) := by decide +kernel
theorem dX10_decode_118 : decode cX10_decode 118 = .ok (.aload_n 0, 1) := by decide +kernel
theorem dX10_decode_119 : decode cX10_decode 119 = .ok (.getfield 13, 3) := by decide +kernel
theorem dX10_decode_122 : decode cX10_decode 122 = .ok (.aload_n 0, 1) := by decide +kernel
theorem dX10_decode_123 : decode cX10_decode 123 = .ok (.getfield 77, 3) := by decide +kernel
theorem dX10_decode_126 : decode cX10_decode 126 = .ok (.aload_n 0, 1) := by decide +kernel
theorem dX10_decode_127 : decode cX10_decode 127 = .ok (.getfield 13, 3) := by decide +kernel
theorem dX10_decode_130 : decode cX10_decode 130 = .ok (.getfield 93, 3) := by decide +kernel
theorem dX10_decode_133 : decode cX10_decode 133 = .ok (.invokevirtual 188, 3) := by decide +kernel
theorem dX10_decode_136 : decode cX10_decode 136 = .ok (.aload_n 0, 1) := by decide +kernel
theorem dX10_decode_137 : decode cX10_decode 137 = .ok (.getfield 13, 3) := by decide +kernel
theorem dX10_decode_140 : decode cX10_decode 140 = .ok (.getfield 93, 3) := by decide +kernel
theorem dX10_decode_143 : decode cX10_decode 143 = .ok (.ireturn, 1) := by decide +kernel
theorem dX10_grow_0 : decode cX10_grow 0 = .ok (.aload_n 0, 1) := by decide +kernel
theorem dX10_grow_1 : decode cX10_grow 1 = .ok (.getfield 13, 3) := by decide +kernel
theorem dX10_grow_4 : decode cX10_grow 4 = .ok (.getfield 93, 3) := by decide +kernel
theorem dX10_grow_7 : decode cX10_grow 7 = .ok (.istore 4, 2) := by decide +kernel
theorem dX10_grow_9 : decode cX10_grow 9 = .ok (.aload_n 0, 1) := by decide +kernel
theorem dX10_grow_10 : decode cX10_grow 10 = .ok (.getfield 73, 3) := by decide +kernel
theorem dX10_grow_13 : decode cX10_grow 13 = .ok (.iload_n 1, 1) := by decide +kernel
theorem dX10_grow_14 : decode cX10_grow 14 = .ok (.iload_n 2, 1) := by decide +kernel
theorem dX10_grow_15 : decode cX10_grow 15 = .ok (.iload_n 3, 1) := by decide +kernel
theorem dX10_grow_16 : decode cX10_grow 16 = .ok (.iload 4, 2) := by decide +kernel
theorem dX10_grow_18 : decode cX10_grow 18 = .ok (.invokevirtual 252, 3) := by decide +kernel
theorem dX10_grow_21 : decode cX10_grow 21 = .ok (.istore 5, 2) := by decide +kernel
theorem dX10_grow_23 : decode cX10_grow 23 = .ok (.iload 5, 2) := by decide +kernel
theorem dX10_grow_25 : decode cX10_grow 25 = .ok (.ifCond .eq 6, 3) := by decide +kernel
theorem dX10_grow_28 : decode cX10_grow 28 = .ok (.iload 5, 2) := by decide +kernel
theorem dX10_grow_30 : decode cX10_grow 30 = .ok (.ireturn, 1) := by decide +kernel
theorem dX10_grow_31 : decode cX10_grow 31 = .ok (.aload_n 0, 1) := by decide +kernel
theorem dX10_grow_32 : decode cX10_grow 32 = .ok (.getfield 13, 3) := by decide +kernel
theorem dX10_grow_35 : decode cX10_grow 35 = .ok (.getfield 181, 3) := by decide +kernel
theorem dX10_grow_38 : decode cX10_grow 38 = .ok (.ifCond .ne 20, 3) := by decide +kernel
theorem dX10_grow_41 : decode cX10_grow 41 = .ok (.aload_n 0, 1) := by decide +kernel
theorem dX10_grow_42 : decode cX10_grow 42 = .ok (.getfield 73, 3) := by decide +kernel
theorem dX10_grow_45 : decode cX10_grow 45 = .ok (.iload_n 1, 1) := by decide +kernel
theorem dX10_grow_46 : decode cX10_grow 46 = .ok (.iload_n 3, 1) := by decide +kernel
theorem dX10_grow_47 : decode cX10_grow 47 = .ok (.iload 4, 2) := by decide +kernel
theorem dX10_grow_49 : decode cX10_grow 49 = .ok (.iconst 0, 1) := by decide +kernel
theorem dX10_grow_50 : decode cX10_grow 50 = .ok (.iload 4, 2) := by decide +kernel
theorem dX10_grow_52 : decode cX10_grow 52 = .ok (.invokevirtual 256, 3) := by decide +kernel
theorem dX10_grow_55 : decode cX10_grow 55 = .ok (.ifCond .ne 6, 3) := by decide +kernel
theorem dX10_grow_58 : decode cX10_grow 58 = .ok (.bipush (-2), 2) := by decide +kernel
theorem dX10_grow_60 : decode cX10_grow 60 = .ok (.ireturn, 1) := by decide +kernel
theorem dX10_grow_61 : decode cX10_grow 61 = .ok (.aload_n 0, 1) := by decide +kernel
theorem dX10_grow_62 : decode cX10_grow 62 = .ok (.getfield 73, 3) := by decide +kernel
theorem dX10_grow_65 : decode cX10_grow 65 = .ok (.aload_n 0, 1) := by decide +kernel
theorem dX10_grow_66 : decode cX10_grow 66 = .ok (.getfield 77, 3) := by decide +kernel
theorem dX10_grow_69 : decode cX10_grow 69 = .ok (.iload_n 1, 1) := by decide +kernel
theorem dX10_grow_70 : decode cX10_grow 70 = .ok (.iload_n 3, 1) := by decide +kernel
theorem dX10_grow_71 : decode cX10_grow 71 = .ok (.iload 4, 2) := by decide +kernel
theorem dX10_grow_73 : decode cX10_grow 73 = .ok (.invokevirtual 260, 3) := by decide +kernel
theorem dX10_grow_76 : decode cX10_grow 76 = .ok (.aload_n 0, 1) := by decide +kernel
theorem dX10_grow_77 : decode cX10_grow 77 = .ok (.getfield 45, 3) := by decide +kernel
theorem dX10_grow_80 : decode cX10_grow 80 = .ok (.aload_n 0, 1) := by decide +kernel
theorem dX10_grow_81 : decode cX10_grow 81 = .ok (.getfield 77, 3) := by decide +kernel
theorem dX10_grow_84 : decode cX10_grow 84 = .ok (.iload 4, 2) := by decide +kernel
theorem dX10_grow_86 : decode cX10_grow 86 = .ok (.invokevirtual 271, 3) := by decide +kernel
theorem dX10_grow_89 : decode cX10_grow 89 = .ok (.aload_n 0, 1) := by decide +kernel
theorem dX10_grow_90 : decode cX10_grow 90 = .ok (.getfield 45, 3) := by decide +kernel
theorem dX10_grow_93 : decode cX10_grow 93 = .ok (.aload_n 0, 1) := by decide +kernel
theorem dX10_grow_94 : decode cX10_grow 94 = .ok (.getfield 77, 3) := by decide +kernel
theorem dX10_grow_97 : decode cX10_grow 97 = .ok (.invokevirtual 267, 3) := by decide +kernel
theorem dX10_grow_100 : decode cX10_grow 100 = .ok (.ifCond .ne 6, 3) := by decide +kernel
theorem dX10_grow_103 : decode cX10_grow 103 = .ok (.bipush (-2), 2) := by decide +kernel
theorem dX10_grow_105 : decode cX10_grow 105 = .ok (.ireturn, 1) := by decide +kernel
theorem dX10_grow_106 : decode cX10_grow 106 = .ok (.aload_n 0, 1) := by decide +kernel
theorem dX10_grow_107 : decode cX10_grow 107 = .ok (.getfield 13, 3) := by decide +kernel
theorem dX10_grow_110 : decode cX10_grow 110 = .ok (.aload_n 0, 1) := by decide +kernel
theorem dX10_grow_111 : decode cX10_grow 111 = .ok (.getfield 77, 3) := by decide +kernel
theorem dX10_grow_114 : decode cX10_grow 114 = .ok (.iload 4, 2) := by decide +kernel
theorem dX10_grow_116 : decode cX10_grow 116 = .ok (.invokevirtual 188, 3) := by decide +kernel
theorem dX10_grow_119 : decode cX10_grow 119 = .ok (.iload 4, 2) := by decide +kernel
theorem dX10_grow_121 : decode cX10_grow 121 = .ok (.ireturn, 1) := by decide +kernel
theorem dX10_walk_0 : decode cX10_walk 0 = .ok (.aload_n 0, 1) := by decide +kernel
theorem dX10_walk_1 : decode cX10_walk 1 = .ok (.getfield 13, 3) := by decide +kernel
theorem dX10_walk_4 : decode cX10_walk 4 = .ok (.iload_n 1, 1) := by decide +kernel
theorem dX10_walk_5 : decode cX10_walk 5 = .ok (.invokevirtual 85, 3) := by decide +kernel
theorem dX10_walk_8 : decode cX10_walk 8 = .ok (.ifCond .eq 12, 3) := by decide +kernel
theorem dX10_walk_11 : decode cX10_walk 11 = .ok (.iload_n 2, 1) := by decide +kernel
theorem dX10_walk_12 : decode cX10_walk 12 = .ok (.ifCond .lt 8, 3) := by decide +kernel
theorem dX10_walk_15 : decode cX10_walk 15 = .ok (.iload_n 2, 1) := by decide +kernel
theorem dX10_walk_16 : decode cX10_walk 16 = .ok (.iconst 1, 1) := by decide +kernel
theorem dX10_walk_17 : decode cX10_walk 17 = .ok (.if_icmp .le 5, 3) := by decide +kernel
theorem dX10_walk_20 : decode cX10_walk 20 = .ok (.iconst (-1), 1) := by decide +kernel
theorem dX10_walk_21 : decode cX10_walk 21 = .ok (.ireturn, 1) := by decide +kernel
theorem dX10_walk_22 : decode cX10_walk 22 = .ok (.aload_n 0, 1) := by decide +kernel
theorem dX10_walk_23 : decode cX10_walk 23 = .ok (.invokevirtual 212, 3) := by decide +kernel
theorem dX10_walk_26 : decode cX10_walk 26 = .ok (.ifCond .ne 6, 3) := by decide +kernel
theorem dX10_walk_29 : decode cX10_walk 29 = .ok (.bipush (-2), 2) := by decide +kernel
theorem dX10_walk_31 : decode cX10_walk 31 = .ok (.ireturn, 1) := by decide +kernel
theorem dX10_walk_32 : decode cX10_walk 32 = .ok (.aload_n 0, 1) := by decide +kernel
theorem dX10_walk_33 : decode cX10_walk 33 = .ok (.getfield 52, 3) := by decide +kernel
theorem dX10_walk_36 : decode cX10_walk 36 = .ok (.aload_n 0, 1) := by decide +kernel
theorem dX10_walk_37 : decode cX10_walk 37 = .ok (.getfield 13, 3) := by decide +kernel
theorem dX10_walk_40 : decode cX10_walk 40 = .ok (.getfield 106, 3) := by decide +kernel
theorem dX10_walk_43 : decode cX10_walk 43 = .ok (.aload_n 0, 1) := by decide +kernel
theorem dX10_walk_44 : decode cX10_walk 44 = .ok (.getfield 13, 3) := by decide +kernel
theorem dX10_walk_47 : decode cX10_walk 47 = .ok (.getfield 93, 3) := by decide +kernel
theorem dX10_walk_50 : decode cX10_walk 50 = .ok (.invokevirtual 274, 3) := by decide +kernel
theorem dX10_walk_53 : decode cX10_walk 53 = .ok (.iload_n 2, 1) := by decide +kernel
theorem dX10_walk_54 : decode cX10_walk 54 = .ok (.ifCond .ne 15, 3) := by decide +kernel
theorem dX10_walk_57 : decode cX10_walk 57 = .ok (.aload_n 0, 1) := by decide +kernel
theorem dX10_walk_58 : decode cX10_walk 58 = .ok (.getfield 52, 3) := by decide +kernel
theorem dX10_walk_61 : decode cX10_walk 61 = .ok (.getfield 275, 3) := by decide +kernel
theorem dX10_walk_64 : decode cX10_walk 64 = .ok (.iload_n 1, 1) := by decide +kernel
theorem dX10_walk_65 : decode cX10_walk 65 = .ok (.iaload, 1) := by decide +kernel
theorem dX10_walk_66 : decode cX10_walk 66 = .ok (.goto 12, 3) := by decide +kernel
theorem dX10_walk_69 : decode cX10_walk 69 = .ok (.aload_n 0, 1) := by decide +kernel
theorem dX10_walk_70 : decode cX10_walk 70 = .ok (.getfield 52, 3) := by decide +kernel
theorem dX10_walk_73 : decode cX10_walk 73 = .ok (.getfield 278, 3) := by decide +kernel
theorem dX10_walk_76 : decode cX10_walk 76 = .ok (.iload_n 1, 1) := by decide +kernel
theorem dX10_walk_77 : decode cX10_walk 77 = .ok (.iaload, 1) := by decide +kernel
theorem dX10_walk_78 : decode cX10_walk 78 = .ok (.ireturn, 1) := by decide +kernel
theorem dX10_counts_0 : decode cX10_counts 0 = .ok (.iload_n 1, 1) := by decide +kernel
theorem dX10_counts_1 : decode cX10_counts 1 = .ok (.ifCond .lt 8, 3) := by decide +kernel
theorem dX10_counts_4 : decode cX10_counts 4 = .ok (.iload_n 1, 1) := by decide +kernel
theorem dX10_counts_5 : decode cX10_counts 5 = .ok (.iconst 1, 1) := by decide +kernel
theorem dX10_counts_6 : decode cX10_counts 6 = .ok (.if_icmp .le 5, 3) := by decide +kernel
theorem dX10_counts_9 : decode cX10_counts 9 = .ok (.iconst (-1), 1) := by decide +kernel
theorem dX10_counts_10 : decode cX10_counts 10 = .ok (.ireturn, 1) := by decide +kernel
theorem dX10_counts_11 : decode cX10_counts 11 = .ok (.aload_n 0, 1) := by decide +kernel
theorem dX10_counts_12 : decode cX10_counts 12 = .ok (.invokevirtual 212, 3) := by decide +kernel
theorem dX10_counts_15 : decode cX10_counts 15 = .ok (.ifCond .ne 6, 3) := by decide +kernel
theorem dX10_counts_18 : decode cX10_counts 18 = .ok (.bipush (-2), 2) := by decide +kernel
theorem dX10_counts_20 : decode cX10_counts 20 = .ok (.ireturn, 1) := by decide +kernel
theorem dX10_counts_21 : decode cX10_counts 21 = .ok (.aload_n 0, 1) := by decide +kernel
theorem dX10_counts_22 : decode cX10_counts 22 = .ok (.getfield 52, 3) := by decide +kernel
theorem dX10_counts_25 : decode cX10_counts 25 = .ok (.aload_n 0, 1) := by decide +kernel
theorem dX10_counts_26 : decode cX10_counts 26 = .ok (.getfield 13, 3) := by decide +kernel
theorem dX10_counts_29 : decode cX10_counts 29 = .ok (.getfield 106, 3) := by decide +kernel
theorem dX10_counts_32 : decode cX10_counts 32 = .ok (.aload_n 0, 1) := by decide +kernel
theorem dX10_counts_33 : decode cX10_counts 33 = .ok (.getfield 13, 3) := by decide +kernel
theorem dX10_counts_36 : decode cX10_counts 36 = .ok (.getfield 93, 3) := by decide +kernel
theorem dX10_counts_39 : decode cX10_counts 39 = .ok (.invokevirtual 274, 3) := by decide +kernel
theorem dX10_counts_42 : decode cX10_counts 42 = .ok (.iload_n 1, 1) := by decide +kernel
theorem dX10_counts_43 : decode cX10_counts 43 = .ok (.ifCond .ne 13, 3) := by decide +kernel
theorem dX10_counts_46 : decode cX10_counts 46 = .ok (.aload_n 0, 1) := by decide +kernel
theorem dX10_counts_47 : decode cX10_counts 47 = .ok (.getfield 52, 3) := by decide +kernel
theorem dX10_counts_50 : decode cX10_counts 50 = .ok (.invokevirtual 281, 3) := by decide +kernel
theorem dX10_counts_53 : decode cX10_counts 53 = .ok (.goto 10, 3) := by decide +kernel
theorem dX10_counts_56 : decode cX10_counts 56 = .ok (.aload_n 0, 1) := by decide +kernel
theorem dX10_counts_57 : decode cX10_counts 57 = .ok (.getfield 52, 3) := by decide +kernel
theorem dX10_counts_60 : decode cX10_counts 60 = .ok (.invokevirtual 284, 3) := by decide +kernel
theorem dX10_counts_63 : decode cX10_counts 63 = .ok (.ireturn, 1) := by decide +kernel
theorem dX10_both_0 : decode cX10_both 0 = .ok (.iload_n 1, 1) := by decide +kernel
theorem dX10_both_1 : decode cX10_both 1 = .ok (.iconst 1, 1) := by decide +kernel
theorem dX10_both_2 : decode cX10_both 2 = .ok (.if_icmp .lt 8, 3) := by decide +kernel
theorem dX10_both_5 : decode cX10_both 5 = .ok (.iload_n 1, 1) := by decide +kernel
theorem dX10_both_6 : decode cX10_both 6 = .ok (.iconst 5, 1) := by decide +kernel
theorem dX10_both_7 : decode cX10_both 7 = .ok (.if_icmp .le 5, 3) := by decide +kernel
theorem dX10_both_10 : decode cX10_both 10 = .ok (.iconst (-1), 1) := by decide +kernel
theorem dX10_both_11 : decode cX10_both 11 = .ok (.ireturn, 1) := by decide +kernel
theorem dX10_both_12 : decode cX10_both 12 = .ok (.iload_n 2, 1) := by decide +kernel
theorem dX10_both_13 : decode cX10_both 13 = .ok (.ifCond .lt 19, 3) := by decide +kernel
theorem dX10_both_16 : decode cX10_both 16 = .ok (.iload_n 2, 1) := by decide +kernel
theorem dX10_both_17 : decode cX10_both 17 = .ok (.bipush 10, 2) := by decide +kernel
theorem dX10_both_19 : decode cX10_both 19 = .ok (.if_icmp .gt 13, 3) := by decide +kernel
theorem dX10_both_22 : decode cX10_both 22 = .ok (.iload_n 3, 1) := by decide +kernel
theorem dX10_both_23 : decode cX10_both 23 = .ok (.ifCond .lt 9, 3) := by decide +kernel
theorem dX10_both_26 : decode cX10_both 26 = .ok (.iload_n 3, 1) := by decide +kernel
theorem dX10_both_27 : decode cX10_both 27 = .ok (.bipush 10, 2) := by decide +kernel
theorem dX10_both_29 : decode cX10_both 29 = .ok (.if_icmp .le 5, 3) := by decide +kernel
theorem dX10_both_32 : decode cX10_both 32 = .ok (.iconst 0, 1) := by decide +kernel
theorem dX10_both_33 : decode cX10_both 33 = .ok (.ireturn, 1) := by decide +kernel
theorem dX10_both_34 : decode cX10_both 34 = .ok (.aload_n 0, 1) := by decide +kernel
theorem dX10_both_35 : decode cX10_both 35 = .ok (.getfield 59, 3) := by decide +kernel
theorem dX10_both_38 : decode cX10_both 38 = .ok (.iload_n 1, 1) := by decide +kernel
theorem dX10_both_39 : decode cX10_both 39 = .ok (.aload_n 0, 1) := by decide +kernel
theorem dX10_both_40 : decode cX10_both 40 = .ok (.getfield 31, 3) := by decide +kernel
theorem dX10_both_43 : decode cX10_both 43 = .ok (.aload_n 0, 1) := by decide +kernel
theorem dX10_both_44 : decode cX10_both 44 = .ok (.getfield 52, 3) := by decide +kernel
theorem dX10_both_47 : decode cX10_both 47 = .ok (.invokevirtual 287, 3) := by decide +kernel
theorem dX10_both_50 : decode cX10_both 50 = .ok (.aload_n 0, 1) := by decide +kernel
theorem dX10_both_51 : decode cX10_both 51 = .ok (.getfield 59, 3) := by decide +kernel
theorem dX10_both_54 : decode cX10_both 54 = .ok (.iload_n 1, 1) := by decide +kernel
theorem dX10_both_55 : decode cX10_both 55 = .ok (.iload_n 2, 1) := by decide +kernel
theorem dX10_both_56 : decode cX10_both 56 = .ok (.iload_n 3, 1) := by decide +kernel
theorem dX10_both_57 : decode cX10_both 57 = .ok (.invokevirtual 291, 3) := by decide +kernel
theorem dX10_both_60 : decode cX10_both 60 = .ok (.ireturn, 1) := by decide +kernel
theorem dX10_spread_0 : decode cX10_spread 0 = .ok (.iload_n 2, 1) := by decide +kernel
theorem dX10_spread_1 : decode cX10_spread 1 = .ok (.iconst 1, 1) := by decide +kernel
theorem dX10_spread_2 : decode cX10_spread 2 = .ok (.if_icmp .lt 9, 3) := by decide +kernel
theorem dX10_spread_5 : decode cX10_spread 5 = .ok (.iload_n 2, 1) := by decide +kernel
theorem dX10_spread_6 : decode cX10_spread 6 = .ok (.bipush 10, 2) := by decide +kernel
theorem dX10_spread_8 : decode cX10_spread 8 = .ok (.if_icmp .le 7, 3) := by decide +kernel
theorem dX10_spread_11 : decode cX10_spread 11 = .ok (.ldc2_w 170, 3) := by decide +kernel
theorem dX10_spread_14 : decode cX10_spread 14 = .ok (.lreturn, 1) := by decide +kernel
theorem dX10_spread_15 : decode cX10_spread 15 = .ok (.iload_n 1, 1) := by decide +kernel
theorem dX10_spread_16 : decode cX10_spread 16 = .ok (.tableswitch 100 0 5 #[40, 50, 60, 70, 80, 90], 40) := by decide +kernel
theorem dX10_spread_56 : decode cX10_spread 56 = .ok (.aload_n 0, 1) := by decide +kernel
theorem dX10_spread_57 : decode cX10_spread 57 = .ok (.getfield 66, 3) := by decide +kernel
theorem dX10_spread_60 : decode cX10_spread 60 = .ok (.iload_n 2, 1) := by decide +kernel
theorem dX10_spread_61 : decode cX10_spread 61 = .ok (.iload_n 3, 1) := by decide +kernel
theorem dX10_spread_62 : decode cX10_spread 62 = .ok (.invokevirtual 295, 3) := by decide +kernel
theorem dX10_spread_65 : decode cX10_spread 65 = .ok (.lreturn, 1) := by decide +kernel
theorem dX10_spread_66 : decode cX10_spread 66 = .ok (.aload_n 0, 1) := by decide +kernel
theorem dX10_spread_67 : decode cX10_spread 67 = .ok (.getfield 66, 3) := by decide +kernel
theorem dX10_spread_70 : decode cX10_spread 70 = .ok (.iload_n 2, 1) := by decide +kernel
theorem dX10_spread_71 : decode cX10_spread 71 = .ok (.iload_n 3, 1) := by decide +kernel
theorem dX10_spread_72 : decode cX10_spread 72 = .ok (.invokevirtual 298, 3) := by decide +kernel
theorem dX10_spread_75 : decode cX10_spread 75 = .ok (.lreturn, 1) := by decide +kernel
theorem dX10_spread_76 : decode cX10_spread 76 = .ok (.aload_n 0, 1) := by decide +kernel
theorem dX10_spread_77 : decode cX10_spread 77 = .ok (.getfield 66, 3) := by decide +kernel
theorem dX10_spread_80 : decode cX10_spread 80 = .ok (.iload_n 2, 1) := by decide +kernel
theorem dX10_spread_81 : decode cX10_spread 81 = .ok (.iload_n 3, 1) := by decide +kernel
theorem dX10_spread_82 : decode cX10_spread 82 = .ok (.invokevirtual 301, 3) := by decide +kernel
theorem dX10_spread_85 : decode cX10_spread 85 = .ok (.lreturn, 1) := by decide +kernel
theorem dX10_spread_86 : decode cX10_spread 86 = .ok (.aload_n 0, 1) := by decide +kernel
theorem dX10_spread_87 : decode cX10_spread 87 = .ok (.getfield 66, 3) := by decide +kernel
theorem dX10_spread_90 : decode cX10_spread 90 = .ok (.iload_n 2, 1) := by decide +kernel
theorem dX10_spread_91 : decode cX10_spread 91 = .ok (.iload_n 3, 1) := by decide +kernel
theorem dX10_spread_92 : decode cX10_spread 92 = .ok (.invokevirtual 304, 3) := by decide +kernel
theorem dX10_spread_95 : decode cX10_spread 95 = .ok (.lreturn, 1) := by decide +kernel
theorem dX10_spread_96 : decode cX10_spread 96 = .ok (.aload_n 0, 1) := by decide +kernel
theorem dX10_spread_97 : decode cX10_spread 97 = .ok (.getfield 66, 3) := by decide +kernel
theorem dX10_spread_100 : decode cX10_spread 100 = .ok (.iload_n 2, 1) := by decide +kernel
theorem dX10_spread_101 : decode cX10_spread 101 = .ok (.iload_n 3, 1) := by decide +kernel
theorem dX10_spread_102 : decode cX10_spread 102 = .ok (.invokevirtual 307, 3) := by decide +kernel
theorem dX10_spread_105 : decode cX10_spread 105 = .ok (.lreturn, 1) := by decide +kernel
theorem dX10_spread_106 : decode cX10_spread 106 = .ok (.aload_n 0, 1) := by decide +kernel
theorem dX10_spread_107 : decode cX10_spread 107 = .ok (.getfield 66, 3) := by decide +kernel
theorem dX10_spread_110 : decode cX10_spread 110 = .ok (.iload_n 2, 1) := by decide +kernel
theorem dX10_spread_111 : decode cX10_spread 111 = .ok (.iload_n 3, 1) := by decide +kernel
theorem dX10_spread_112 : decode cX10_spread 112 = .ok (.invokevirtual 310, 3) := by decide +kernel
theorem dX10_spread_115 : decode cX10_spread 115 = .ok (.lreturn, 1) := by decide +kernel
theorem dX10_spread_116 : decode cX10_spread 116 = .ok (.ldc2_w 170, 3) := by decide +kernel
theorem dX10_spread_119 : decode cX10_spread 119 = .ok (.lreturn, 1) := by decide +kernel
theorem dX10_sheet_0 : decode cX10_sheet 0 = .ok (.aload_n 0, 1) := by decide +kernel
theorem dX10_sheet_1 : decode cX10_sheet 1 = .ok (.getfield 73, 3) := by decide +kernel
theorem dX10_sheet_4 : decode cX10_sheet 4 = .ok (.iload_n 1, 1) := by decide +kernel
theorem dX10_sheet_5 : decode cX10_sheet 5 = .ok (.invokevirtual 313, 3) := by decide +kernel
theorem dX10_sheet_8 : decode cX10_sheet 8 = .ok (.ifCond .eq 20, 3) := by decide +kernel
theorem dX10_sheet_11 : decode cX10_sheet 11 = .ok (.aload_n 0, 1) := by decide +kernel
theorem dX10_sheet_12 : decode cX10_sheet 12 = .ok (.getfield 73, 3) := by decide +kernel
theorem dX10_sheet_15 : decode cX10_sheet 15 = .ok (.iload_n 2, 1) := by decide +kernel
theorem dX10_sheet_16 : decode cX10_sheet 16 = .ok (.invokevirtual 316, 3) := by decide +kernel
theorem dX10_sheet_19 : decode cX10_sheet 19 = .ok (.ifCond .eq 9, 3) := by decide +kernel
theorem dX10_sheet_22 : decode cX10_sheet 22 = .ok (.iload_n 3, 1) := by decide +kernel
theorem dX10_sheet_23 : decode cX10_sheet 23 = .ok (.bipush 20, 2) := by decide +kernel
theorem dX10_sheet_25 : decode cX10_sheet 25 = .ok (.if_icmp .le 5, 3) := by decide +kernel
theorem dX10_sheet_28 : decode cX10_sheet 28 = .ok (.iconst (-1), 1) := by decide +kernel
theorem dX10_sheet_29 : decode cX10_sheet 29 = .ok (.ireturn, 1) := by decide +kernel
theorem dX10_sheet_30 : decode cX10_sheet 30 = .ok (.iload_n 3, 1) := by decide +kernel
theorem dX10_sheet_31 : decode cX10_sheet 31 = .ok (.ifCond .ge 6, 3) := by decide +kernel
theorem dX10_sheet_34 : decode cX10_sheet 34 = .ok (.bipush (-14), 2) := by decide +kernel
theorem dX10_sheet_36 : decode cX10_sheet 36 = .ok (.ireturn, 1) := by decide +kernel
theorem dX10_sheet_37 : decode cX10_sheet 37 = .ok (.aload_n 0, 1) := by decide +kernel
theorem dX10_sheet_38 : decode cX10_sheet 38 = .ok (.getfield 73, 3) := by decide +kernel
theorem dX10_sheet_41 : decode cX10_sheet 41 = .ok (.iload_n 1, 1) := by decide +kernel
theorem dX10_sheet_42 : decode cX10_sheet 42 = .ok (.iload_n 2, 1) := by decide +kernel
theorem dX10_sheet_43 : decode cX10_sheet 43 = .ok (.iload_n 3, 1) := by decide +kernel
theorem dX10_sheet_44 : decode cX10_sheet 44 = .ok (.invokevirtual 319, 3) := by decide +kernel
theorem dX10_sheet_47 : decode cX10_sheet 47 = .ok (.iload_n 3, 1) := by decide +kernel
theorem dX10_sheet_48 : decode cX10_sheet 48 = .ok (.ireturn, 1) := by decide +kernel
theorem dX10_drop_0 : decode cX10_drop 0 = .ok (.aload_n 0, 1) := by decide +kernel
theorem dX10_drop_1 : decode cX10_drop 1 = .ok (.getfield 73, 3) := by decide +kernel
theorem dX10_drop_4 : decode cX10_drop 4 = .ok (.iload_n 1, 1) := by decide +kernel
theorem dX10_drop_5 : decode cX10_drop 5 = .ok (.invokevirtual 313, 3) := by decide +kernel
theorem dX10_drop_8 : decode cX10_drop 8 = .ok (.ifCond .ne 5, 3) := by decide +kernel
theorem dX10_drop_11 : decode cX10_drop 11 = .ok (.iconst (-1), 1) := by decide +kernel
theorem dX10_drop_12 : decode cX10_drop 12 = .ok (.ireturn, 1) := by decide +kernel
theorem dX10_drop_13 : decode cX10_drop 13 = .ok (.aload_n 0, 1) := by decide +kernel
theorem dX10_drop_14 : decode cX10_drop 14 = .ok (.getfield 73, 3) := by decide +kernel
theorem dX10_drop_17 : decode cX10_drop 17 = .ok (.iload_n 1, 1) := by decide +kernel
theorem dX10_drop_18 : decode cX10_drop 18 = .ok (.invokevirtual 322, 3) := by decide +kernel
theorem dX10_drop_21 : decode cX10_drop 21 = .ok (.ifCond .eq 8, 3) := by decide +kernel
theorem dX10_drop_24 : decode cX10_drop 24 = .ok (.bipush (-11), 2) := by decide +kernel
theorem dX10_drop_26 : decode cX10_drop 26 = .ok (.goto 11, 3) := by decide +kernel
theorem dX10_drop_29 : decode cX10_drop 29 = .ok (.aload_n 0, 1) := by decide +kernel
theorem dX10_drop_30 : decode cX10_drop 30 = .ok (.getfield 73, 3) := by decide +kernel
theorem dX10_drop_33 : decode cX10_drop 33 = .ok (.iload_n 1, 1) := by decide +kernel
theorem dX10_drop_34 : decode cX10_drop 34 = .ok (.invokevirtual 325, 3) := by decide +kernel
theorem dX10_drop_37 : decode cX10_drop 37 = .ok (.ireturn, 1) := by decide +kernel
theorem dX10_item_0 : decode cX10_item 0 = .ok (.aload_n 0, 1) := by decide +kernel
theorem dX10_item_1 : decode cX10_item 1 = .ok (.getfield 73, 3) := by decide +kernel
theorem dX10_item_4 : decode cX10_item 4 = .ok (.iload_n 1, 1) := by decide +kernel
theorem dX10_item_5 : decode cX10_item 5 = .ok (.iload_n 2, 1) := by decide +kernel
theorem dX10_item_6 : decode cX10_item 6 = .ok (.iload_n 3, 1) := by decide +kernel
theorem dX10_item_7 : decode cX10_item 7 = .ok (.iconst 1, 1) := by decide +kernel
theorem dX10_item_8 : decode cX10_item 8 = .ok (.invokevirtual 252, 3) := by decide +kernel
theorem dX10_item_11 : decode cX10_item 11 = .ok (.istore 5, 2) := by decide +kernel
theorem dX10_item_13 : decode cX10_item 13 = .ok (.iload 5, 2) := by decide +kernel
theorem dX10_item_15 : decode cX10_item 15 = .ok (.ifCond .eq 6, 3) := by decide +kernel
theorem dX10_item_18 : decode cX10_item 18 = .ok (.iload 5, 2) := by decide +kernel
theorem dX10_item_20 : decode cX10_item 20 = .ok (.ireturn, 1) := by decide +kernel
theorem dX10_item_21 : decode cX10_item 21 = .ok (.aload_n 0, 1) := by decide +kernel
theorem dX10_item_22 : decode cX10_item 22 = .ok (.getfield 73, 3) := by decide +kernel
theorem dX10_item_25 : decode cX10_item 25 = .ok (.iload_n 1, 1) := by decide +kernel
theorem dX10_item_26 : decode cX10_item 26 = .ok (.iload_n 3, 1) := by decide +kernel
theorem dX10_item_27 : decode cX10_item 27 = .ok (.iload 4, 2) := by decide +kernel
theorem dX10_item_29 : decode cX10_item 29 = .ok (.invokevirtual 328, 3) := by decide +kernel
theorem dX10_item_32 : decode cX10_item 32 = .ok (.iconst 1, 1) := by decide +kernel
theorem dX10_item_33 : decode cX10_item 33 = .ok (.ireturn, 1) := by decide +kernel
theorem dX10_cars_0 : decode cX10_cars 0 = .ok (.iload 4, 2) := by decide +kernel
theorem dX10_cars_2 : decode cX10_cars 2 = .ok (.ifCond .lt 10, 3) := by decide +kernel
theorem dX10_cars_5 : decode cX10_cars 5 = .ok (.iload 4, 2) := by decide +kernel
theorem dX10_cars_7 : decode cX10_cars 7 = .ok (.bipush 10, 2) := by decide +kernel
theorem dX10_cars_9 : decode cX10_cars 9 = .ok (.if_icmp .le 5, 3) := by decide +kernel
theorem dX10_cars_12 : decode cX10_cars 12 = .ok (.iconst (-1), 1) := by decide +kernel
theorem dX10_cars_13 : decode cX10_cars 13 = .ok (.ireturn, 1) := by decide +kernel
theorem dX10_cars_14 : decode cX10_cars 14 = .ok (.aload_n 0, 1) := by decide +kernel
theorem dX10_cars_15 : decode cX10_cars 15 = .ok (.getfield 73, 3) := by decide +kernel
theorem dX10_cars_18 : decode cX10_cars 18 = .ok (.iload_n 1, 1) := by decide +kernel
theorem dX10_cars_19 : decode cX10_cars 19 = .ok (.iload_n 2, 1) := by decide +kernel
theorem dX10_cars_20 : decode cX10_cars 20 = .ok (.iload_n 3, 1) := by decide +kernel
theorem dX10_cars_21 : decode cX10_cars 21 = .ok (.iload 4, 2) := by decide +kernel
theorem dX10_cars_23 : decode cX10_cars 23 = .ok (.invokevirtual 252, 3) := by decide +kernel
theorem dX10_cars_26 : decode cX10_cars 26 = .ok (.istore 5, 2) := by decide +kernel
theorem dX10_cars_28 : decode cX10_cars 28 = .ok (.iload 5, 2) := by decide +kernel
theorem dX10_cars_30 : decode cX10_cars 30 = .ok (.ifCond .eq 6, 3) := by decide +kernel
theorem dX10_cars_33 : decode cX10_cars 33 = .ok (.iload 5, 2) := by decide +kernel
theorem dX10_cars_35 : decode cX10_cars 35 = .ok (.ireturn, 1) := by decide +kernel
theorem dX10_cars_36 : decode cX10_cars 36 = .ok (.aload_n 0, 1) := by decide +kernel
theorem dX10_cars_37 : decode cX10_cars 37 = .ok (.getfield 73, 3) := by decide +kernel
theorem dX10_cars_40 : decode cX10_cars 40 = .ok (.iload_n 1, 1) := by decide +kernel
theorem dX10_cars_41 : decode cX10_cars 41 = .ok (.iload_n 3, 1) := by decide +kernel
theorem dX10_cars_42 : decode cX10_cars 42 = .ok (.iload 4, 2) := by decide +kernel
theorem dX10_cars_44 : decode cX10_cars 44 = .ok (.iconst 1, 1) := by decide +kernel
theorem dX10_cars_45 : decode cX10_cars 45 = .ok (.aload_n 0, 1) := by decide +kernel
theorem dX10_cars_46 : decode cX10_cars 46 = .ok (.getfield 13, 3) := by decide +kernel
theorem dX10_cars_49 : decode cX10_cars 49 = .ok (.getfield 93, 3) := by decide +kernel
theorem dX10_cars_52 : decode cX10_cars 52 = .ok (.invokevirtual 256, 3) := by decide +kernel
theorem dX10_cars_55 : decode cX10_cars 55 = .ok (.ifCond .ne 6, 3) := by decide +kernel
theorem dX10_cars_58 : decode cX10_cars 58 = .ok (.bipush (-2), 2) := by decide +kernel
theorem dX10_cars_60 : decode cX10_cars 60 = .ok (.ireturn, 1) := by decide +kernel
theorem dX10_cars_61 : decode cX10_cars 61 = .ok (.aload_n 0, 1) := by decide +kernel
theorem dX10_cars_62 : decode cX10_cars 62 = .ok (.getfield 13, 3) := by decide +kernel
theorem dX10_cars_65 : decode cX10_cars 65 = .ok (.getfield 89, 3) := by decide +kernel
theorem dX10_cars_68 : decode cX10_cars 68 = .ok (.iload 4, 2) := by decide +kernel
theorem dX10_cars_70 : decode cX10_cars 70 = .ok (.iadd, 1) := by decide +kernel
theorem dX10_cars_71 : decode cX10_cars 71 = .ok (.aload_n 0, 1) := by decide +kernel
theorem dX10_cars_72 : decode cX10_cars 72 = .ok (.getfield 13, 3) := by decide +kernel
theorem dX10_cars_75 : decode cX10_cars 75 = .ok (.getfield 93, 3) := by decide +kernel
theorem dX10_cars_78 : decode cX10_cars 78 = .ok (.if_icmp .le 6, 3) := by decide +kernel
theorem dX10_cars_81 : decode cX10_cars 81 = .ok (.bipush (-3), 2) := by decide +kernel
theorem dX10_cars_83 : decode cX10_cars 83 = .ok (.ireturn, 1) := by decide +kernel
theorem dX10_cars_84 : decode cX10_cars 84 = .ok (.aload_n 0, 1) := by decide +kernel
theorem dX10_cars_85 : decode cX10_cars 85 = .ok (.getfield 73, 3) := by decide +kernel
theorem dX10_cars_88 : decode cX10_cars 88 = .ok (.aload_n 0, 1) := by decide +kernel
theorem dX10_cars_89 : decode cX10_cars 89 = .ok (.getfield 77, 3) := by decide +kernel
theorem dX10_cars_92 : decode cX10_cars 92 = .ok (.iload_n 1, 1) := by decide +kernel
theorem dX10_cars_93 : decode cX10_cars 93 = .ok (.iload_n 3, 1) := by decide +kernel
theorem dX10_cars_94 : decode cX10_cars 94 = .ok (.iload 4, 2) := by decide +kernel
theorem dX10_cars_96 : decode cX10_cars 96 = .ok (.invokevirtual 260, 3) := by decide +kernel
theorem dX10_cars_99 : decode cX10_cars 99 = .ok (.iconst 1, 1) := by decide +kernel
theorem dX10_cars_100 : decode cX10_cars 100 = .ok (.istore 6, 2) := by decide +kernel
theorem dX10_cars_102 : decode cX10_cars 102 = .ok (.iload 6, 2) := by decide +kernel
theorem dX10_cars_104 : decode cX10_cars 104 = .ok (.iload 4, 2) := by decide +kernel
theorem dX10_cars_106 : decode cX10_cars 106 = .ok (.if_icmp .gt 23, 3) := by decide +kernel
theorem dX10_cars_109 : decode cX10_cars 109 = .ok (.aload_n 0, 1) := by decide +kernel
theorem dX10_cars_110 : decode cX10_cars 110 = .ok (.getfield 13, 3) := by decide +kernel
theorem dX10_cars_113 : decode cX10_cars 113 = .ok (.aload_n 0, 1) := by decide +kernel
theorem dX10_cars_114 : decode cX10_cars 114 = .ok (.getfield 77, 3) := by decide +kernel
theorem dX10_cars_117 : decode cX10_cars 117 = .ok (.iload 6, 2) := by decide +kernel
theorem dX10_cars_119 : decode cX10_cars 119 = .ok (.iaload, 1) := by decide +kernel
theorem dX10_cars_120 : decode cX10_cars 120 = .ok (.invokevirtual 96, 3) := by decide +kernel
theorem dX10_cars_123 : decode cX10_cars 123 = .ok (.iinc 6 1, 3) := by decide +kernel
theorem dX10_cars_126 : decode cX10_cars 126 = .ok (.goto (-24), 3) := by decide +kernel
theorem dX10_cars_129 : decode cX10_cars 129 = .ok (.aload_n 0, 1) := by decide +kernel
theorem dX10_cars_130 : decode cX10_cars 130 = .ok (.getfield 13, 3) := by decide +kernel
theorem dX10_cars_133 : decode cX10_cars 133 = .ok (.invokevirtual 100, 3) := by decide +kernel
theorem dX10_cars_136 : decode cX10_cars 136 = .ok (.aload_n 0, 1) := by decide +kernel
theorem dX10_cars_137 : decode cX10_cars 137 = .ok (.getfield 13, 3) := by decide +kernel
theorem dX10_cars_140 : decode cX10_cars 140 = .ok (.getfield 89, 3) := by decide +kernel
theorem dX10_cars_143 : decode cX10_cars 143 = .ok (.ireturn, 1) := by decide +kernel
theorem dX10_keep_0 : decode cX10_keep 0 = .ok (.aload_n 0, 1) := by decide +kernel
theorem dX10_keep_1 : decode cX10_keep 1 = .ok (.getfield 73, 3) := by decide +kernel
theorem dX10_keep_4 : decode cX10_keep 4 = .ok (.iload_n 1, 1) := by decide +kernel
theorem dX10_keep_5 : decode cX10_keep 5 = .ok (.iload_n 2, 1) := by decide +kernel
theorem dX10_keep_6 : decode cX10_keep 6 = .ok (.iload_n 3, 1) := by decide +kernel
theorem dX10_keep_7 : decode cX10_keep 7 = .ok (.aload_n 0, 1) := by decide +kernel
theorem dX10_keep_8 : decode cX10_keep 8 = .ok (.getfield 13, 3) := by decide +kernel
theorem dX10_keep_11 : decode cX10_keep 11 = .ok (.getfield 89, 3) := by decide +kernel
theorem dX10_keep_14 : decode cX10_keep 14 = .ok (.invokevirtual 252, 3) := by decide +kernel
theorem dX10_keep_17 : decode cX10_keep 17 = .ok (.istore 4, 2) := by decide +kernel
theorem dX10_keep_19 : decode cX10_keep 19 = .ok (.iload 4, 2) := by decide +kernel
theorem dX10_keep_21 : decode cX10_keep 21 = .ok (.ifCond .eq 6, 3) := by decide +kernel
theorem dX10_keep_24 : decode cX10_keep 24 = .ok (.iload 4, 2) := by decide +kernel
theorem dX10_keep_26 : decode cX10_keep 26 = .ok (.ireturn, 1) := by decide +kernel
theorem dX10_keep_27 : decode cX10_keep 27 = .ok (.iconst 1, 1) := by decide +kernel
theorem dX10_keep_28 : decode cX10_keep 28 = .ok (.istore 5, 2) := by decide +kernel
theorem dX10_keep_30 : decode cX10_keep 30 = .ok (.iload 5, 2) := by decide +kernel
theorem dX10_keep_32 : decode cX10_keep 32 = .ok (.aload_n 0, 1) := by decide +kernel
theorem dX10_keep_33 : decode cX10_keep 33 = .ok (.getfield 13, 3) := by decide +kernel
theorem dX10_keep_36 : decode cX10_keep 36 = .ok (.getfield 89, 3) := by decide +kernel
theorem dX10_keep_39 : decode cX10_keep 39 = .ok (.if_icmp .gt 33, 3) := by decide +kernel
theorem dX10_keep_42 : decode cX10_keep 42 = .ok (.aload_n 0, 1) := by decide +kernel
theorem dX10_keep_43 : decode cX10_keep 43 = .ok (.getfield 73, 3) := by decide +kernel
theorem dX10_keep_46 : decode cX10_keep 46 = .ok (.iload_n 1, 1) := by decide +kernel
theorem dX10_keep_47 : decode cX10_keep 47 = .ok (.iload_n 3, 1) := by decide +kernel
theorem dX10_keep_48 : decode cX10_keep 48 = .ok (.iload 5, 2) := by decide +kernel
theorem dX10_keep_50 : decode cX10_keep 50 = .ok (.iadd, 1) := by decide +kernel
theorem dX10_keep_51 : decode cX10_keep 51 = .ok (.iconst 1, 1) := by decide +kernel
theorem dX10_keep_52 : decode cX10_keep 52 = .ok (.isub, 1) := by decide +kernel
theorem dX10_keep_53 : decode cX10_keep 53 = .ok (.aload_n 0, 1) := by decide +kernel
theorem dX10_keep_54 : decode cX10_keep 54 = .ok (.getfield 13, 3) := by decide +kernel
theorem dX10_keep_57 : decode cX10_keep 57 = .ok (.getfield 106, 3) := by decide +kernel
theorem dX10_keep_60 : decode cX10_keep 60 = .ok (.iload 5, 2) := by decide +kernel
theorem dX10_keep_62 : decode cX10_keep 62 = .ok (.iaload, 1) := by decide +kernel
theorem dX10_keep_63 : decode cX10_keep 63 = .ok (.invokevirtual 328, 3) := by decide +kernel
theorem dX10_keep_66 : decode cX10_keep 66 = .ok (.iinc 5 1, 3) := by decide +kernel
theorem dX10_keep_69 : decode cX10_keep 69 = .ok (.goto (-39), 3) := by decide +kernel
theorem dX10_keep_72 : decode cX10_keep 72 = .ok (.aload_n 0, 1) := by decide +kernel
theorem dX10_keep_73 : decode cX10_keep 73 = .ok (.getfield 13, 3) := by decide +kernel
theorem dX10_keep_76 : decode cX10_keep 76 = .ok (.getfield 89, 3) := by decide +kernel
theorem dX10_keep_79 : decode cX10_keep 79 = .ok (.ireturn, 1) := by decide +kernel
theorem dX10_isRowSize_0 : decode cX10_isRowSize 0 = .ok (.iload_n 1, 1) := by decide +kernel
theorem dX10_isRowSize_1 : decode cX10_isRowSize 1 = .ok (.ifCond .lt 18, 3) := by decide +kernel
theorem dX10_isRowSize_4 : decode cX10_isRowSize 4 = .ok (.iload_n 1, 1) := by decide +kernel
theorem dX10_isRowSize_5 : decode cX10_isRowSize 5 = .ok (.aload_n 0, 1) := by decide +kernel
theorem dX10_isRowSize_6 : decode cX10_isRowSize 6 = .ok (.getfield 13, 3) := by decide +kernel
theorem dX10_isRowSize_9 : decode cX10_isRowSize 9 = .ok (.getfield 93, 3) := by decide +kernel
theorem dX10_isRowSize_12 : decode cX10_isRowSize 12 = .ok (.if_icmp .gt 7, 3) := by decide +kernel
theorem dX10_isRowSize_15 : decode cX10_isRowSize 15 = .ok (.iconst 1, 1) := by decide +kernel
theorem dX10_isRowSize_16 : decode cX10_isRowSize 16 = .ok (.goto 4, 3) := by decide +kernel
theorem dX10_isRowSize_19 : decode cX10_isRowSize 19 = .ok (.iconst 0, 1) := by decide +kernel
theorem dX10_isRowSize_20 : decode cX10_isRowSize 20 = .ok (.ireturn, 1) := by decide +kernel
theorem dX10_isPlainGood_0 : decode cX10_isPlainGood 0 = .ok (.aload_n 0, 1) := by decide +kernel
theorem dX10_isPlainGood_1 : decode cX10_isPlainGood 1 = .ok (.getfield 13, 3) := by decide +kernel
theorem dX10_isPlainGood_4 : decode cX10_isPlainGood 4 = .ok (.invokevirtual 222, 3) := by decide +kernel
theorem dX10_isPlainGood_7 : decode cX10_isPlainGood 7 = .ok (.ifCond .eq 17, 3) := by decide +kernel
theorem dX10_isPlainGood_10 : decode cX10_isPlainGood 10 = .ok (.aload_n 0, 1) := by decide +kernel
theorem dX10_isPlainGood_11 : decode cX10_isPlainGood 11 = .ok (.getfield 13, 3) := by decide +kernel
theorem dX10_isPlainGood_14 : decode cX10_isPlainGood 14 = .ok (.invokevirtual 152, 3) := by decide +kernel
theorem dX10_isPlainGood_17 : decode cX10_isPlainGood 17 = .ok (.ifCond .eq 7, 3) := by decide +kernel
theorem dX10_isPlainGood_20 : decode cX10_isPlainGood 20 = .ok (.iconst 1, 1) := by decide +kernel
theorem dX10_isPlainGood_21 : decode cX10_isPlainGood 21 = .ok (.goto 4, 3) := by decide +kernel
theorem dX10_isPlainGood_24 : decode cX10_isPlainGood 24 = .ok (.iconst 0, 1) := by decide +kernel
theorem dX10_isPlainGood_25 : decode cX10_isPlainGood 25 = .ok (.ireturn, 1) := by decide +kernel
theorem dX10_hasTree_0 : decode cX10_hasTree 0 = .ok (.aload_n 0, 1) := by decide +kernel
theorem dX10_hasTree_1 : decode cX10_hasTree 1 = .ok (.getfield 13, 3) := by decide +kernel
theorem dX10_hasTree_4 : decode cX10_hasTree 4 = .ok (.getfield 89, 3) := by decide +kernel
theorem dX10_hasTree_7 : decode cX10_hasTree 7 = .ok (.aload_n 0, 1) := by decide +kernel
theorem dX10_hasTree_8 : decode cX10_hasTree 8 = .ok (.getfield 13, 3) := by decide +kernel
theorem dX10_hasTree_11 : decode cX10_hasTree 11 = .ok (.getfield 93, 3) := by decide +kernel
theorem dX10_hasTree_14 : decode cX10_hasTree 14 = .ok (.if_icmp .ne 14, 3) := by decide +kernel
theorem dX10_hasTree_17 : decode cX10_hasTree 17 = .ok (.aload_n 0, 1) := by decide +kernel
theorem dX10_hasTree_18 : decode cX10_hasTree 18 = .ok (.invokevirtual 172, 3) := by decide +kernel
theorem dX10_hasTree_21 : decode cX10_hasTree 21 = .ok (.ifCond .eq 7, 3) := by decide +kernel
theorem dX10_hasTree_24 : decode cX10_hasTree 24 = .ok (.iconst 1, 1) := by decide +kernel
theorem dX10_hasTree_25 : decode cX10_hasTree 25 = .ok (.goto 4, 3) := by decide +kernel
theorem dX10_hasTree_28 : decode cX10_hasTree 28 = .ok (.iconst 0, 1) := by decide +kernel
theorem dX10_hasTree_29 : decode cX10_hasTree 29 = .ok (.ireturn, 1) := by decide +kernel
theorem dX10_power_0 : decode cX10_power 0 = .ok (.lconst 1, 1) := by decide +kernel
theorem dX10_power_1 : decode cX10_power 1 = .ok (.lstore_n 3, 1) := by decide +kernel
theorem dX10_power_2 : decode cX10_power 2 = .ok (.iconst 0, 1) := by decide +kernel
theorem dX10_power_3 : decode cX10_power 3 = .ok (.istore 5, 2) := by decide +kernel
theorem dX10_power_5 : decode cX10_power 5 = .ok (.iload 5, 2) := by decide +kernel
theorem dX10_power_7 : decode cX10_power 7 = .ok (.iload_n 2, 1) := by decide +kernel
theorem dX10_power_8 : decode cX10_power 8 = .ok (.if_icmp .ge 13, 3) := by decide +kernel
theorem dX10_power_11 : decode cX10_power 11 = .ok (.lload_n 3, 1) := by decide +kernel
theorem dX10_power_12 : decode cX10_power 12 = .ok (.lload_n 0, 1) := by decide +kernel
theorem dX10_power_13 : decode cX10_power 13 = .ok (.lmul, 1) := by decide +kernel
theorem dX10_power_14 : decode cX10_power 14 = .ok (.lstore_n 3, 1) := by decide +kernel
theorem dX10_power_15 : decode cX10_power 15 = .ok (.iinc 5 1, 3) := by decide +kernel
theorem dX10_power_18 : decode cX10_power 18 = .ok (.goto (-13), 3) := by decide +kernel
theorem dX10_power_21 : decode cX10_power 21 = .ok (.lload_n 3, 1) := by decide +kernel
theorem dX10_power_22 : decode cX10_power 22 = .ok (.lreturn, 1) := by decide +kernel
theorem dX11_in_0 : decode cX11_in 0 = .ok (.lload_n 0, 1) := by decide +kernel
theorem dX11_in_1 : decode cX11_in 1 = .ok (.lload_n 2, 1) := by decide +kernel
theorem dX11_in_2 : decode cX11_in 2 = .ok (.lcmp, 1) := by decide +kernel
theorem dX11_in_3 : decode cX11_in 3 = .ok (.ifCond .lt 14, 3) := by decide +kernel
theorem dX11_in_6 : decode cX11_in 6 = .ok (.lload_n 0, 1) := by decide +kernel
theorem dX11_in_7 : decode cX11_in 7 = .ok (.lload 4, 2) := by decide +kernel
theorem dX11_in_9 : decode cX11_in 9 = .ok (.lcmp, 1) := by decide +kernel
theorem dX11_in_10 : decode cX11_in 10 = .ok (.ifCond .gt 7, 3) := by decide +kernel
theorem dX11_in_13 : decode cX11_in 13 = .ok (.iconst 1, 1) := by decide +kernel
theorem dX11_in_14 : decode cX11_in 14 = .ok (.goto 4, 3) := by decide +kernel
theorem dX11_in_17 : decode cX11_in 17 = .ok (.iconst 0, 1) := by decide +kernel
theorem dX11_in_18 : decode cX11_in 18 = .ok (.ireturn, 1) := by decide +kernel
theorem dX11_init_0 : decode cX11_init 0 = .ok (.aload_n 0, 1) := by decide +kernel
theorem dX11_init_1 : decode cX11_init 1 = .ok (.invokespecial 1, 3) := by decide +kernel
theorem dX11_init_4 : decode cX11_init 4 = .ok (.aload_n 0, 1) := by decide +kernel
theorem dX11_init_5 : decode cX11_init 5 = .ok (.iconst 5, 1) := by decide +kernel
theorem dX11_init_6 : decode cX11_init 6 = .ok (.putfield 7, 3) := by decide +kernel
theorem dX11_init_9 : decode cX11_init 9 = .ok (.aload_n 0, 1) := by decide +kernel
theorem dX11_init_10 : decode cX11_init 10 = .ok (.bipush 11, 2) := by decide +kernel
theorem dX11_init_12 : decode cX11_init 12 = .ok (.newarray .int, 2) := by decide +kernel
theorem dX11_init_14 : decode cX11_init 14 = .ok (.putfield 13, 3) := by decide +kernel
theorem dX11_init_17 : decode cX11_init 17 = .ok (.aload_n 0, 1) := by decide +kernel
theorem dX11_init_18 : decode cX11_init 18 = .ok (.bipush 11, 2) := by decide +kernel
theorem dX11_init_20 : decode cX11_init 20 = .ok (.newarray .int, 2) := by decide +kernel
theorem dX11_init_22 : decode cX11_init 22 = .ok (.putfield 17, 3) := by decide +kernel
theorem dX11_init_25 : decode cX11_init 25 = .ok (.aload_n 0, 1) := by decide +kernel
theorem dX11_init_26 : decode cX11_init 26 = .ok (.bipush 11, 2) := by decide +kernel
theorem dX11_init_28 : decode cX11_init 28 = .ok (.newarray .int, 2) := by decide +kernel
theorem dX11_init_30 : decode cX11_init 30 = .ok (.putfield 20, 3) := by decide +kernel
theorem dX11_init_33 : decode cX11_init 33 = .ok (.aload_n 0, 1) := by decide +kernel
theorem dX11_init_34 : decode cX11_init 34 = .ok (.bipush 11, 2) := by decide +kernel
theorem dX11_init_36 : decode cX11_init 36 = .ok (.newarray .int, 2) := by decide +kernel
theorem dX11_init_38 : decode cX11_init 38 = .ok (.putfield 23, 3) := by decide +kernel
theorem dX11_init_41 : decode cX11_init 41 = .ok (.aload_n 0, 1) := by decide +kernel
theorem dX11_init_42 : decode cX11_init 42 = .ok (.bipush 11, 2) := by decide +kernel
theorem dX11_init_44 : decode cX11_init 44 = .ok (.newarray .int, 2) := by decide +kernel
theorem dX11_init_46 : decode cX11_init 46 = .ok (.putfield 26, 3) := by decide +kernel
theorem dX11_init_49 : decode cX11_init 49 = .ok (.aload_n 0, 1) := by decide +kernel
theorem dX11_init_50 : decode cX11_init 50 = .ok (.sipush 132, 3) := by decide +kernel
theorem dX11_init_53 : decode cX11_init 53 = .ok (.newarray .long, 2) := by decide +kernel
theorem dX11_init_55 : decode cX11_init 55 = .ok (.putfield 29, 3) := by decide +kernel
theorem dX11_init_58 : decode cX11_init 58 = .ok (.aload_n 0, 1) := by decide +kernel
theorem dX11_init_59 : decode cX11_init 59 = .ok (.bipush 12, 2) := by decide +kernel
theorem dX11_init_61 : decode cX11_init 61 = .ok (.newarray .int, 2) := by decide +kernel
theorem dX11_init_63 : decode cX11_init 63 = .ok (.putfield 33, 3) := by decide +kernel
theorem dX11_init_66 : decode cX11_init 66 = .ok (.aload_n 0, 1) := by decide +kernel
theorem dX11_init_67 : decode cX11_init 67 = .ok (.sipush 144, 3) := by decide +kernel
theorem dX11_init_70 : decode cX11_init 70 = .ok (.newarray .long, 2) := by decide +kernel
theorem dX11_init_72 : decode cX11_init 72 = .ok (.putfield 36, 3) := by decide +kernel
theorem dX11_init_75 : decode cX11_init 75 = .ok (.aload_n 0, 1) := by decide +kernel
theorem dX11_init_76 : decode cX11_init 76 = .ok (.sipush 156, 3) := by decide +kernel
theorem dX11_init_79 : decode cX11_init 79 = .ok (.newarray .long, 2) := by decide +kernel
theorem dX11_init_81 : decode cX11_init 81 = .ok (.putfield 39, 3) := by decide +kernel
theorem dX11_init_84 : decode cX11_init 84 = .ok (.aload_n 0, 1) := by decide +kernel
theorem dX11_init_85 : decode cX11_init 85 = .ok (.bipush 11, 2) := by decide +kernel
theorem dX11_init_87 : decode cX11_init 87 = .ok (.newarray .int, 2) := by decide +kernel
theorem dX11_init_89 : decode cX11_init 89 = .ok (.putfield 42, 3) := by decide +kernel
theorem dX11_init_92 : decode cX11_init 92 = .ok (.aload_n 0, 1) := by decide +kernel
theorem dX11_init_93 : decode cX11_init 93 = .ok (.bipush 11, 2) := by decide +kernel
theorem dX11_init_95 : decode cX11_init 95 = .ok (.newarray .int, 2) := by decide +kernel
theorem dX11_init_97 : decode cX11_init 97 = .ok (.putfield 45, 3) := by decide +kernel
theorem dX11_init_100 : decode cX11_init 100 = .ok (.aload_n 0, 1) := by decide +kernel
theorem dX11_init_101 : decode cX11_init 101 = .ok (.bipush 11, 2) := by decide +kernel
theorem dX11_init_103 : decode cX11_init 103 = .ok (.newarray .int, 2) := by decide +kernel
theorem dX11_init_105 : decode cX11_init 105 = .ok (.putfield 48, 3) := by decide +kernel
theorem dX11_init_108 : decode cX11_init 108 = .ok (.aload_n 0, 1) := by decide +kernel
theorem dX11_init_109 : decode cX11_init 109 = .ok (.bipush 11, 2) := by decide +kernel
theorem dX11_init_111 : decode cX11_init 111 = .ok (.newarray .boolean, 2) := by decide +kernel
theorem dX11_init_113 : decode cX11_init 113 = .ok (.putfield 51, 3) := by decide +kernel
theorem dX11_init_116 : decode cX11_init 116 = .ok (.aload_n 0, 1) := by decide +kernel
theorem dX11_init_117 : decode cX11_init 117 = .ok (.bipush 11, 2) := by decide +kernel
theorem dX11_init_119 : decode cX11_init 119 = .ok (.newarray .int, 2) := by decide +kernel
theorem dX11_init_121 : decode cX11_init 121 = .ok (.putfield 55, 3) := by decide +kernel
theorem dX11_init_124 : decode cX11_init 124 = .ok (.aload_n 0, 1) := by decide +kernel
theorem dX11_init_125 : decode cX11_init 125 = .ok (.bipush 11, 2) := by decide +kernel
theorem dX11_init_127 : decode cX11_init 127 = .ok (.newarray .int, 2) := by decide +kernel
theorem dX11_init_129 : decode cX11_init 129 = .ok (.putfield 58, 3) := by decide +kernel
theorem dX11_init_132 : decode cX11_init 132 = .ok (.aload_n 0, 1) := by decide +kernel
theorem dX11_init_133 : decode cX11_init 133 = .ok (.bipush 11, 2) := by decide +kernel
theorem dX11_init_135 : decode cX11_init 135 = .ok (.newarray .int, 2) := by decide +kernel
theorem dX11_init_137 : decode cX11_init 137 = .ok (.putfield 61, 3) := by decide +kernel
theorem dX11_init_140 : decode cX11_init 140 = .ok (.aload_n 0, 1) := by decide +kernel
theorem dX11_init_141 : decode cX11_init 141 = .ok (.bipush 11, 2) := by decide +kernel
theorem dX11_init_143 : decode cX11_init 143 = .ok (.newarray .int, 2) := by decide +kernel
theorem dX11_init_145 : decode cX11_init 145 = .ok (.putfield 64, 3) := by decide +kernel
theorem dX11_init_148 : decode cX11_init 148 = .ok (.aload_n 0, 1) := by decide +kernel
theorem dX11_init_149 : decode cX11_init 149 = .ok (.bipush 11, 2) := by decide +kernel
theorem dX11_init_151 : decode cX11_init 151 = .ok (.newarray .int, 2) := by decide +kernel
theorem dX11_init_153 : decode cX11_init 153 = .ok (.putfield 67, 3) := by decide +kernel
theorem dX11_init_156 : decode cX11_init 156 = .ok (.aload_n 0, 1) := by decide +kernel
theorem dX11_init_157 : decode cX11_init 157 = .ok (.bipush 11, 2) := by decide +kernel
theorem dX11_init_159 : decode cX11_init 159 = .ok (.newarray .int, 2) := by decide +kernel
theorem dX11_init_161 : decode cX11_init 161 = .ok (.putfield 70, 3) := by decide +kernel
theorem dX11_init_164 : decode cX11_init 164 = .ok (.aload_n 0, 1) := by decide +kernel
theorem dX11_init_165 : decode cX11_init 165 = .ok (.bipush 11, 2) := by decide +kernel
theorem dX11_init_167 : decode cX11_init 167 = .ok (.newarray .int, 2) := by decide +kernel
theorem dX11_init_169 : decode cX11_init 169 = .ok (.putfield 73, 3) := by decide +kernel
theorem dX11_init_172 : decode cX11_init 172 = .ok (.aload_n 0, 1) := by decide +kernel
theorem dX11_init_173 : decode cX11_init 173 = .ok (.sipush 8064, 3) := by decide +kernel
theorem dX11_init_176 : decode cX11_init 176 = .ok (.newarray .long, 2) := by decide +kernel
theorem dX11_init_178 : decode cX11_init 178 = .ok (.putfield 76, 3) := by decide +kernel
theorem dX11_init_181 : decode cX11_init 181 = .ok (.aload_n 0, 1) := by decide +kernel
theorem dX11_init_182 : decode cX11_init 182 = .ok (.bipush 12, 2) := by decide +kernel
theorem dX11_init_184 : decode cX11_init 184 = .ok (.newarray .long, 2) := by decide +kernel
theorem dX11_init_186 : decode cX11_init 186 = .ok (.putfield 79, 3) := by decide +kernel
theorem dX11_init_189 : decode cX11_init 189 = .ok (.aload_n 0, 1) := by decide +kernel
theorem dX11_init_190 : decode cX11_init 190 = .ok (.sipush 144, 3) := by decide +kernel
theorem dX11_init_193 : decode cX11_init 193 = .ok (.newarray .long, 2) := by decide +kernel
theorem dX11_init_195 : decode cX11_init 195 = .ok (.putfield 82, 3) := by decide +kernel
theorem dX11_init_198 : decode cX11_init 198 = .ok (.aload_n 0, 1) := by decide +kernel
theorem dX11_init_199 : decode cX11_init 199 = .ok (.iconst 4, 1) := by decide +kernel
theorem dX11_init_200 : decode cX11_init 200 = .ok (.newarray .int, 2) := by decide +kernel
theorem dX11_init_202 : decode cX11_init 202 = .ok (.putfield 85, 3) := by decide +kernel
theorem dX11_init_205 : decode cX11_init 205 = .ok (.aload_n 0, 1) := by decide +kernel
theorem dX11_init_206 : decode cX11_init 206 = .ok (.iconst 4, 1) := by decide +kernel
theorem dX11_init_207 : decode cX11_init 207 = .ok (.newarray .int, 2) := by decide +kernel
theorem dX11_init_209 : decode cX11_init 209 = .ok (.putfield 88, 3) := by decide +kernel
theorem dX11_init_212 : decode cX11_init 212 = .ok (.aload_n 0, 1) := by decide +kernel
theorem dX11_init_213 : decode cX11_init 213 = .ok (.bipush 80, 2) := by decide +kernel
theorem dX11_init_215 : decode cX11_init 215 = .ok (.newarray .int, 2) := by decide +kernel
theorem dX11_init_217 : decode cX11_init 217 = .ok (.putfield 91, 3) := by decide +kernel
theorem dX11_init_220 : decode cX11_init 220 = .ok (.iconst 0, 1) := by decide +kernel
theorem dX11_init_221 : decode cX11_init 221 = .ok (.istore_n 1, 1) := by decide +kernel
theorem dX11_init_222 : decode cX11_init 222 = .ok (.iload_n 1, 1) := by decide +kernel
theorem dX11_init_223 : decode cX11_init 223 = .ok (.bipush 10, 2) := by decide +kernel
theorem dX11_init_225 : decode cX11_init 225 = .ok (.if_icmp .gt 72, 3) := by decide +kernel
theorem dX11_init_228 : decode cX11_init 228 = .ok (.aload_n 0, 1) := by decide +kernel
theorem dX11_init_229 : decode cX11_init 229 = .ok (.getfield 29, 3) := by decide +kernel
theorem dX11_init_232 : decode cX11_init 232 = .ok (.bipush 12, 2) := by decide +kernel
theorem dX11_init_234 : decode cX11_init 234 = .ok (.iload_n 1, 1) := by decide +kernel
theorem dX11_init_235 : decode cX11_init 235 = .ok (.imul, 1) := by decide +kernel
theorem dX11_init_236 : decode cX11_init 236 = .ok (.lconst 1, 1) := by decide +kernel
theorem dX11_init_237 : decode cX11_init 237 = .ok (.lastore, 1) := by decide +kernel
theorem dX11_init_238 : decode cX11_init 238 = .ok (.iconst 1, 1) := by decide +kernel
theorem dX11_init_239 : decode cX11_init 239 = .ok (.istore_n 2, 1) := by decide +kernel
theorem dX11_init_240 : decode cX11_init 240 = .ok (.iload_n 2, 1) := by decide +kernel
theorem dX11_init_241 : decode cX11_init 241 = .ok (.iload_n 1, 1) := by decide +kernel
theorem dX11_init_242 : decode cX11_init 242 = .ok (.if_icmp .gt 49, 3) := by decide +kernel
theorem dX11_init_245 : decode cX11_init 245 = .ok (.aload_n 0, 1) := by decide +kernel
theorem dX11_init_246 : decode cX11_init 246 = .ok (.getfield 29, 3) := by decide +kernel
theorem dX11_init_249 : decode cX11_init 249 = .ok (.bipush 12, 2) := by decide +kernel
theorem dX11_init_251 : decode cX11_init 251 = .ok (.iload_n 1, 1) := by decide +kernel
theorem dX11_init_252 : decode cX11_init 252 = .ok (.imul, 1) := by decide +kernel
theorem dX11_init_253 : decode cX11_init 253 = .ok (.iload_n 2, 1) := by decide +kernel
theorem dX11_init_254 : decode cX11_init 254 = .ok (.iadd, 1) := by decide +kernel
theorem dX11_init_255 : decode cX11_init 255 = .ok (.aload_n 0, 1) := by decide +kernel
theorem dX11_init_256 : decode cX11_init 256 = .ok (.getfield 29, 3) := by decide +kernel
theorem dX11_init_259 : decode cX11_init 259 = .ok (.bipush 12, 2) := by decide +kernel
theorem dX11_init_261 : decode cX11_init 261 = .ok (.iload_n 1, 1) := by decide +kernel
theorem dX11_init_262 : decode cX11_init 262 = .ok (.iconst 1, 1) := by decide +kernel
theorem dX11_init_263 : decode cX11_init 263 = .ok (.isub, 1) := by decide +kernel
theorem dX11_init_264 : decode cX11_init 264 = .ok (.imul, 1) := by decide +kernel
theorem dX11_init_265 : decode cX11_init 265 = .ok (.iload_n 2, 1) := by decide +kernel
theorem dX11_init_266 : decode cX11_init 266 = .ok (.iadd, 1) := by decide +kernel
theorem dX11_init_267 : decode cX11_init 267 = .ok (.iconst 1, 1) := by decide +kernel
theorem dX11_init_268 : decode cX11_init 268 = .ok (.isub, 1) := by decide +kernel
theorem dX11_init_269 : decode cX11_init 269 = .ok (.laload, 1) := by decide +kernel
theorem dX11_init_270 : decode cX11_init 270 = .ok (.aload_n 0, 1) := by decide +kernel
theorem dX11_init_271 : decode cX11_init 271 = .ok (.getfield 29, 3) := by decide +kernel
theorem dX11_init_274 : decode cX11_init 274 = .ok (.bipush 12, 2) := by decide +kernel
theorem dX11_init_276 : decode cX11_init 276 = .ok (.iload_n 1, 1) := by decide +kernel
theorem dX11_init_277 : decode cX11_init 277 = .ok (.iconst 1, 1) := by decide +kernel
theorem dX11_init_278 : decode cX11_init 278 = .ok (.isub, 1) := by decide +kernel
theorem dX11_init_279 : decode cX11_init 279 = .ok (.imul, 1) := by decide +kernel
theorem dX11_init_280 : decode cX11_init 280 = .ok (.iload_n 2, 1) := by decide +kernel
theorem dX11_init_281 : decode cX11_init 281 = .ok (.iadd, 1) := by decide +kernel
theorem dX11_init_282 : decode cX11_init 282 = .ok (.laload, 1) := by decide +kernel
theorem dX11_init_283 : decode cX11_init 283 = .ok (.ladd, 1) := by decide +kernel
theorem dX11_init_284 : decode cX11_init 284 = .ok (.lastore, 1) := by decide +kernel
theorem dX11_init_285 : decode cX11_init 285 = .ok (.iinc 2 1, 3) := by decide +kernel
theorem dX11_init_288 : decode cX11_init 288 = .ok (.goto (-48), 3) := by decide +kernel
theorem dX11_init_291 : decode cX11_init 291 = .ok (.iinc 1 1, 3) := by decide +kernel
theorem dX11_init_294 : decode cX11_init 294 = .ok (.goto (-72), 3) := by decide +kernel
theorem dX11_init_297 : decode cX11_init 297 = .ok (.iconst 0, 1) := by decide +kernel
theorem dX11_init_298 : decode cX11_init 298 = .ok (.istore_n 1, 1) := by decide +kernel
theorem dX11_init_299 : decode cX11_init 299 = .ok (.iload_n 1, 1) := by decide +kernel
theorem dX11_init_300 : decode cX11_init 300 = .ok (.iconst 4, 1) := by decide +kernel
theorem dX11_init_301 : decode cX11_init 301 = .ok (.if_icmp .ge 16, 3) := by decide +kernel
theorem dX11_init_304 : decode cX11_init 304 = .ok (.aload_n 0, 1) := by decide +kernel
theorem dX11_init_305 : decode cX11_init 305 = .ok (.getfield 85, 3) := by decide +kernel
theorem dX11_init_308 : decode cX11_init 308 = .ok (.iload_n 1, 1) := by decide +kernel
theorem dX11_init_309 : decode cX11_init 309 = .ok (.iconst (-1), 1) := by decide +kernel
theorem dX11_init_310 : decode cX11_init 310 = .ok (.iastore, 1) := by decide +kernel
theorem dX11_init_311 : decode cX11_init 311 = .ok (.iinc 1 1, 3) := by decide +kernel
theorem dX11_init_314 : decode cX11_init 314 = .ok (.goto (-15), 3) := by decide +kernel
theorem dX11_init_317 : decode cX11_init 317 = .ok (.return_, 1) := by decide +kernel
theorem dX11_road_0 : decode cX11_road 0 = .ok (.iload_n 1, 1) := by decide +kernel
theorem dX11_road_1 : decode cX11_road 1 = .ok (.i2l, 1) := by decide +kernel
theorem dX11_road_2 : decode cX11_road 2 = .ok (.lconst 0, 1) := by decide +kernel
theorem dX11_road_3 : decode cX11_road 3 = .ok (.ldc2_w 94, 3) := by decide +kernel
theorem dX11_road_6 : decode cX11_road 6 = .ok (.invokestatic 96, 3) := by decide +kernel
theorem dX11_road_9 : decode cX11_road 9 = .ok (.ifCond .eq 27, 3) := by decide +kernel
theorem dX11_road_12 : decode cX11_road 12 = .ok (.iload_n 2, 1) := by decide +kernel
theorem dX11_road_13 : decode cX11_road 13 = .ok (.i2l, 1) := by decide +kernel
theorem dX11_road_14 : decode cX11_road 14 = .ok (.lconst 1, 1) := by decide +kernel
theorem dX11_road_15 : decode cX11_road 15 = .ok (.ldc2_w 100, 3) := by decide +kernel
theorem dX11_road_18 : decode cX11_road 18 = .ok (.invokestatic 96, 3) := by decide +kernel
theorem dX11_road_21 : decode cX11_road 21 = .ok (.ifCond .eq 15, 3) := by decide +kernel
theorem dX11_road_24 : decode cX11_road 24 = .ok (.iload_n 3, 1) := by decide +kernel
theorem dX11_road_25 : decode cX11_road 25 = .ok (.i2l, 1) := by decide +kernel
theorem dX11_road_26 : decode cX11_road 26 = .ok (.lconst 0, 1) := by decide +kernel
theorem dX11_road_27 : decode cX11_road 27 = .ok (.ldc2_w 102, 3) := by decide +kernel
theorem dX11_road_30 : decode cX11_road 30 = .ok (.invokestatic 96, 3) := by decide +kernel
theorem dX11_road_33 : decode cX11_road 33 = .ok (.ifCond .ne 5, 3) := by decide +kernel
theorem dX11_road_36 : decode cX11_road 36 = .ok (.iconst (-1), 1) := by decide +kernel
theorem dX11_road_37 : decode cX11_road 37 = .ok (.ireturn, 1) := by decide +kernel
theorem dX11_road_38 : decode cX11_road 38 = .ok (.aload_n 0, 1) := by decide +kernel
theorem dX11_road_39 : decode cX11_road 39 = .ok (.iload_n 1, 1) := by decide +kernel
theorem dX11_road_40 : decode cX11_road 40 = .ok (.putfield 104, 3) := by decide +kernel
theorem dX11_road_43 : decode cX11_road 43 = .ok (.aload_n 0, 1) := by decide +kernel
theorem dX11_road_44 : decode cX11_road 44 = .ok (.iload_n 2, 1) := by decide +kernel
theorem dX11_road_45 : decode cX11_road 45 = .ok (.putfield 7, 3) := by decide +kernel
theorem dX11_road_48 : decode cX11_road 48 = .ok (.aload_n 0, 1) := by decide +kernel
theorem dX11_road_49 : decode cX11_road 49 = .ok (.iload_n 3, 1) := by decide +kernel
theorem dX11_road_50 : decode cX11_road 50 = .ok (.putfield 107, 3) := by decide +kernel
theorem dX11_road_53 : decode cX11_road 53 = .ok (.aload_n 0, 1) := by decide +kernel
theorem dX11_road_54 : decode cX11_road 54 = .ok (.iconst 0, 1) := by decide +kernel
theorem dX11_road_55 : decode cX11_road 55 = .ok (.putfield 110, 3) := by decide +kernel
theorem dX11_road_58 : decode cX11_road 58 = .ok (.iconst 1, 1) := by decide +kernel
theorem dX11_road_59 : decode cX11_road 59 = .ok (.ireturn, 1) := by decide +kernel
theorem dX11_add_0 : decode cX11_add 0 = .ok (.aload_n 0, 1) := by decide +kernel
theorem dX11_add_1 : decode cX11_add 1 = .ok (.dup, 1) := by decide +kernel
theorem dX11_add_2 : decode cX11_add 2 = .ok (.getfield 110, 3) := by decide +kernel
theorem dX11_add_5 : decode cX11_add 5 = .ok (.iconst 1, 1) := by decide +kernel
theorem dX11_add_6 : decode cX11_add 6 = .ok (.iadd, 1) := by decide +kernel
theorem dX11_add_7 : decode cX11_add 7 = .ok (.putfield 110, 3) := by decide +kernel
theorem dX11_add_10 : decode cX11_add 10 = .ok (.aload_n 0, 1) := by decide +kernel
theorem dX11_add_11 : decode cX11_add 11 = .ok (.getfield 13, 3) := by decide +kernel
theorem dX11_add_14 : decode cX11_add 14 = .ok (.aload_n 0, 1) := by decide +kernel
theorem dX11_add_15 : decode cX11_add 15 = .ok (.getfield 110, 3) := by decide +kernel
theorem dX11_add_18 : decode cX11_add 18 = .ok (.iload_n 1, 1) := by decide +kernel
theorem dX11_add_19 : decode cX11_add 19 = .ok (.iastore, 1) := by decide +kernel
theorem dX11_add_20 : decode cX11_add 20 = .ok (.aload_n 0, 1) := by decide +kernel
theorem dX11_add_21 : decode cX11_add 21 = .ok (.getfield 17, 3) := by decide +kernel
theorem dX11_add_24 : decode cX11_add 24 = .ok (.aload_n 0, 1) := by decide +kernel
theorem dX11_add_25 : decode cX11_add 25 = .ok (.getfield 110, 3) := by decide +kernel
theorem dX11_add_28 : decode cX11_add 28 = .ok (.iconst 1, 1) := by decide +kernel
theorem dX11_add_29 : decode cX11_add 29 = .ok (.iastore, 1) := by decide +kernel
theorem dX11_add_30 : decode cX11_add 30 = .ok (.return_, 1) := by decide +kernel
theorem dX11_car_0 : decode cX11_car 0 = .ok (.iload_n 1, 1) := by decide +kernel
theorem dX11_car_1 : decode cX11_car 1 = .ok (.i2l, 1) := by decide +kernel
theorem dX11_car_2 : decode cX11_car 2 = .ok (.lconst 1, 1) := by decide +kernel
theorem dX11_car_3 : decode cX11_car 3 = .ok (.aload_n 0, 1) := by decide +kernel
theorem dX11_car_4 : decode cX11_car 4 = .ok (.getfield 7, 3) := by decide +kernel
theorem dX11_car_7 : decode cX11_car 7 = .ok (.i2l, 1) := by decide +kernel
theorem dX11_car_8 : decode cX11_car 8 = .ok (.invokestatic 96, 3) := by decide +kernel
theorem dX11_car_11 : decode cX11_car 11 = .ok (.ifCond .ne 5, 3) := by decide +kernel
theorem dX11_car_14 : decode cX11_car 14 = .ok (.iconst (-1), 1) := by decide +kernel
theorem dX11_car_15 : decode cX11_car 15 = .ok (.ireturn, 1) := by decide +kernel
theorem dX11_car_16 : decode cX11_car 16 = .ok (.aload_n 0, 1) := by decide +kernel
theorem dX11_car_17 : decode cX11_car 17 = .ok (.getfield 110, 3) := by decide +kernel
theorem dX11_car_20 : decode cX11_car 20 = .ok (.aload_n 0, 1) := by decide +kernel
theorem dX11_car_21 : decode cX11_car 21 = .ok (.getfield 7, 3) := by decide +kernel
theorem dX11_car_24 : decode cX11_car 24 = .ok (.if_icmp .ne 6, 3) := by decide +kernel
theorem dX11_car_27 : decode cX11_car 27 = .ok (.bipush (-3), 2) := by decide +kernel
theorem dX11_car_29 : decode cX11_car 29 = .ok (.ireturn, 1) := by decide +kernel
theorem dX11_car_30 : decode cX11_car 30 = .ok (.aload_n 0, 1) := by decide +kernel
theorem dX11_car_31 : decode cX11_car 31 = .ok (.iload_n 1, 1) := by decide +kernel
theorem dX11_car_32 : decode cX11_car 32 = .ok (.invokevirtual 113, 3) := by decide +kernel
theorem dX11_car_35 : decode cX11_car 35 = .ok (.aload_n 0, 1) := by decide +kernel
theorem dX11_car_36 : decode cX11_car 36 = .ok (.getfield 110, 3) := by decide +kernel
theorem dX11_car_39 : decode cX11_car 39 = .ok (.ireturn, 1) := by decide +kernel
theorem dX11_isCar_0 : decode cX11_isCar 0 = .ok (.iload_n 1, 1) := by decide +kernel
theorem dX11_isCar_1 : decode cX11_isCar 1 = .ok (.i2l, 1) := by decide +kernel
theorem dX11_isCar_2 : decode cX11_isCar 2 = .ok (.lconst 1, 1) := by decide +kernel
theorem dX11_isCar_3 : decode cX11_isCar 3 = .ok (.aload_n 0, 1) := by decide +kernel
theorem dX11_isCar_4 : decode cX11_isCar 4 = .ok (.getfield 110, 3) := by decide +kernel
theorem dX11_isCar_7 : decode cX11_isCar 7 = .ok (.i2l, 1) := by decide +kernel
theorem dX11_isCar_8 : decode cX11_isCar 8 = .ok (.invokestatic 96, 3) := by decide +kernel
theorem dX11_isCar_11 : decode cX11_isCar 11 = .ok (.ireturn, 1) := by decide +kernel
theorem dX11_wish_0 : decode cX11_wish 0 = .ok (.aload_n 0, 1) := by decide +kernel
theorem dX11_wish_1 : decode cX11_wish 1 = .ok (.iload_n 1, 1) := by decide +kernel
theorem dX11_wish_2 : decode cX11_wish 2 = .ok (.invokevirtual 117, 3) := by decide +kernel
theorem dX11_wish_5 : decode cX11_wish 5 = .ok (.ifCond .eq 17, 3) := by decide +kernel
theorem dX11_wish_8 : decode cX11_wish 8 = .ok (.iload_n 2, 1) := by decide +kernel
theorem dX11_wish_9 : decode cX11_wish 9 = .ok (.i2l, 1) := by decide +kernel
theorem dX11_wish_10 : decode cX11_wish 10 = .ok (.lconst 1, 1) := by decide +kernel
theorem dX11_wish_11 : decode cX11_wish 11 = .ok (.aload_n 0, 1) := by decide +kernel
theorem dX11_wish_12 : decode cX11_wish 12 = .ok (.getfield 7, 3) := by decide +kernel
theorem dX11_wish_15 : decode cX11_wish 15 = .ok (.i2l, 1) := by decide +kernel
theorem dX11_wish_16 : decode cX11_wish 16 = .ok (.invokestatic 96, 3) := by decide +kernel
theorem dX11_wish_19 : decode cX11_wish 19 = .ok (.ifCond .ne 5, 3) := by decide +kernel
theorem dX11_wish_22 : decode cX11_wish 22 = .ok (.iconst (-1), 1) := by decide +kernel
theorem dX11_wish_23 : decode cX11_wish 23 = .ok (.ireturn, 1) := by decide +kernel
theorem dX11_wish_24 : decode cX11_wish 24 = .ok (.aload_n 0, 1) := by decide +kernel
theorem dX11_wish_25 : decode cX11_wish 25 = .ok (.getfield 13, 3) := by decide +kernel
theorem dX11_wish_28 : decode cX11_wish 28 = .ok (.iload_n 1, 1) := by decide +kernel
theorem dX11_wish_29 : decode cX11_wish 29 = .ok (.iaload, 1) := by decide +kernel
theorem dX11_wish_30 : decode cX11_wish 30 = .ok (.istore_n 3, 1) := by decide +kernel
theorem dX11_wish_31 : decode cX11_wish 31 = .ok (.aload_n 0, 1) := by decide +kernel
theorem dX11_wish_32 : decode cX11_wish 32 = .ok (.getfield 13, 3) := by decide +kernel
theorem dX11_wish_35 : decode cX11_wish 35 = .ok (.iload_n 1, 1) := by decide +kernel
theorem dX11_wish_36 : decode cX11_wish 36 = .ok (.iload_n 2, 1) := by decide +kernel
theorem dX11_wish_37 : decode cX11_wish 37 = .ok (.iastore, 1) := by decide +kernel
theorem dX11_wish_38 : decode cX11_wish 38 = .ok (.iload_n 3, 1) := by decide +kernel
theorem dX11_wish_39 : decode cX11_wish 39 = .ok (.ireturn, 1) := by decide +kernel
theorem dX11_length_0 : decode cX11_length 0 = .ok (.aload_n 0, 1) := by decide +kernel
theorem dX11_length_1 : decode cX11_length 1 = .ok (.iload_n 1, 1) := by decide +kernel
theorem dX11_length_2 : decode cX11_length 2 = .ok (.invokevirtual 117, 3) := by decide +kernel
theorem dX11_length_5 : decode cX11_length 5 = .ok (.ifCond .eq 15, 3) := by decide +kernel
theorem dX11_length_8 : decode cX11_length 8 = .ok (.iload_n 2, 1) := by decide +kernel
theorem dX11_length_9 : decode cX11_length 9 = .ok (.i2l, 1) := by decide +kernel
theorem dX11_length_10 : decode cX11_length 10 = .ok (.lconst 1, 1) := by decide +kernel
theorem dX11_length_11 : decode cX11_length 11 = .ok (.ldc2_w 121, 3) := by decide +kernel
theorem dX11_length_14 : decode cX11_length 14 = .ok (.invokestatic 96, 3) := by decide +kernel
theorem dX11_length_17 : decode cX11_length 17 = .ok (.ifCond .ne 5, 3) := by decide +kernel
theorem dX11_length_20 : decode cX11_length 20 = .ok (.iconst (-1), 1) := by decide +kernel
theorem dX11_length_21 : decode cX11_length 21 = .ok (.ireturn, 1) := by decide +kernel
theorem dX11_length_22 : decode cX11_length 22 = .ok (.aload_n 0, 1) := by decide +kernel
theorem dX11_length_23 : decode cX11_length 23 = .ok (.getfield 17, 3) := by decide +kernel
theorem dX11_length_26 : decode cX11_length 26 = .ok (.iload_n 1, 1) := by decide +kernel
theorem dX11_length_27 : decode cX11_length 27 = .ok (.iaload, 1) := by decide +kernel
theorem dX11_length_28 : decode cX11_length 28 = .ok (.istore_n 3, 1) := by decide +kernel
theorem dX11_length_29 : decode cX11_length 29 = .ok (.aload_n 0, 1) := by decide +kernel
theorem dX11_length_30 : decode cX11_length 30 = .ok (.getfield 17, 3) := by decide +kernel
theorem dX11_length_33 : decode cX11_length 33 = .ok (.iload_n 1, 1) := by decide +kernel
theorem dX11_length_34 : decode cX11_length 34 = .ok (.iload_n 2, 1) := by decide +kernel
theorem dX11_length_35 : decode cX11_length 35 = .ok (.iastore, 1) := by decide +kernel
theorem dX11_length_36 : decode cX11_length 36 = .ok (.iload_n 3, 1) := by decide +kernel
theorem dX11_length_37 : decode cX11_length 37 = .ok (.ireturn, 1) := by decide +kernel
theorem dX11_undo_0 : decode cX11_undo 0 = .ok (.aload_n 0, 1) := by decide +kernel
theorem dX11_undo_1 : decode cX11_undo 1 = .ok (.getfield 110, 3) := by decide +kernel
theorem dX11_undo_4 : decode cX11_undo 4 = .ok (.ifCond .ne 6, 3) := by decide +kernel
theorem dX11_undo_7 : decode cX11_undo 7 = .ok (.bipush (-2), 2) := by decide +kernel
theorem dX11_undo_9 : decode cX11_undo 9 = .ok (.ireturn, 1) := by decide +kernel
theorem dX11_undo_10 : decode cX11_undo 10 = .ok (.aload_n 0, 1) := by decide +kernel
theorem dX11_undo_11 : decode cX11_undo 11 = .ok (.dup, 1) := by decide +kernel
theorem dX11_undo_12 : decode cX11_undo 12 = .ok (.getfield 110, 3) := by decide +kernel
theorem dX11_undo_15 : decode cX11_undo 15 = .ok (.iconst 1, 1) := by decide +kernel
theorem dX11_undo_16 : decode cX11_undo 16 = .ok (.isub, 1) := by decide +kernel
theorem dX11_undo_17 : decode cX11_undo 17 = .ok (.putfield 110, 3) := by decide +kernel
theorem dX11_undo_20 : decode cX11_undo 20 = .ok (.aload_n 0, 1) := by decide +kernel
theorem dX11_undo_21 : decode cX11_undo 21 = .ok (.getfield 110, 3) := by decide +kernel
theorem dX11_undo_24 : decode cX11_undo 24 = .ok (.ireturn, 1) := by decide +kernel
theorem dX11_clear_0 : decode cX11_clear 0 = .ok (.aload_n 0, 1) := by decide +kernel
theorem dX11_clear_1 : decode cX11_clear 1 = .ok (.getfield 110, 3) := by decide +kernel
theorem dX11_clear_4 : decode cX11_clear 4 = .ok (.istore_n 1, 1) := by decide +kernel
theorem dX11_clear_5 : decode cX11_clear 5 = .ok (.aload_n 0, 1) := by decide +kernel
theorem dX11_clear_6 : decode cX11_clear 6 = .ok (.iconst 0, 1) := by decide +kernel
theorem dX11_clear_7 : decode cX11_clear 7 = .ok (.putfield 110, 3) := by decide +kernel
theorem dX11_clear_10 : decode cX11_clear 10 = .ok (.iload_n 1, 1) := by decide +kernel
theorem dX11_clear_11 : decode cX11_clear 11 = .ok (.ireturn, 1) := by decide +kernel
theorem dX11_placeFor_0 : decode cX11_placeFor 0 = .ok (.aload_n 0, 1) := by decide +kernel
theorem dX11_placeFor_1 : decode cX11_placeFor 1 = .ok (.getfield 23, 3) := by decide +kernel
theorem dX11_placeFor_4 : decode cX11_placeFor 4 = .ok (.iload_n 1, 1) := by decide +kernel
theorem dX11_placeFor_5 : decode cX11_placeFor 5 = .ok (.iaload, 1) := by decide +kernel
theorem dX11_placeFor_6 : decode cX11_placeFor 6 = .ok (.ifCond .eq 47, 3) := by decide +kernel
theorem dX11_placeFor_9 : decode cX11_placeFor 9 = .ok (.aload_n 0, 1) := by decide +kernel
theorem dX11_placeFor_10 : decode cX11_placeFor 10 = .ok (.getfield 104, 3) := by decide +kernel
theorem dX11_placeFor_13 : decode cX11_placeFor 13 = .ok (.iconst 2, 1) := by decide +kernel
theorem dX11_placeFor_14 : decode cX11_placeFor 14 = .ok (.if_icmp .ne 39, 3) := by decide +kernel
theorem dX11_placeFor_17 : decode cX11_placeFor 17 = .ok (.iload_n 1, 1) := by decide +kernel
theorem dX11_placeFor_18 : decode cX11_placeFor 18 = .ok (.iconst 1, 1) := by decide +kernel
theorem dX11_placeFor_19 : decode cX11_placeFor 19 = .ok (.isub, 1) := by decide +kernel
theorem dX11_placeFor_20 : decode cX11_placeFor 20 = .ok (.istore_n 2, 1) := by decide +kernel
theorem dX11_placeFor_21 : decode cX11_placeFor 21 = .ok (.iload_n 2, 1) := by decide +kernel
theorem dX11_placeFor_22 : decode cX11_placeFor 22 = .ok (.iconst 1, 1) := by decide +kernel
theorem dX11_placeFor_23 : decode cX11_placeFor 23 = .ok (.if_icmp .lt 30, 3) := by decide +kernel
theorem dX11_placeFor_26 : decode cX11_placeFor 26 = .ok (.iload_n 2, 1) := by decide +kernel
theorem dX11_placeFor_27 : decode cX11_placeFor 27 = .ok (.iload_n 1, 1) := by decide +kernel
theorem dX11_placeFor_28 : decode cX11_placeFor 28 = .ok (.aload_n 0, 1) := by decide +kernel
theorem dX11_placeFor_29 : decode cX11_placeFor 29 = .ok (.getfield 107, 3) := by decide +kernel
theorem dX11_placeFor_32 : decode cX11_placeFor 32 = .ok (.isub, 1) := by decide +kernel
theorem dX11_placeFor_33 : decode cX11_placeFor 33 = .ok (.if_icmp .lt 20, 3) := by decide +kernel
theorem dX11_placeFor_36 : decode cX11_placeFor 36 = .ok (.aload_n 0, 1) := by decide +kernel
theorem dX11_placeFor_37 : decode cX11_placeFor 37 = .ok (.getfield 23, 3) := by decide +kernel
theorem dX11_placeFor_40 : decode cX11_placeFor 40 = .ok (.iload_n 2, 1) := by decide +kernel
theorem dX11_placeFor_41 : decode cX11_placeFor 41 = .ok (.iaload, 1) := by decide +kernel
theorem dX11_placeFor_42 : decode cX11_placeFor 42 = .ok (.ifCond .ne 5, 3) := by decide +kernel
theorem dX11_placeFor_45 : decode cX11_placeFor 45 = .ok (.iload_n 2, 1) := by decide +kernel
theorem dX11_placeFor_46 : decode cX11_placeFor 46 = .ok (.ireturn, 1) := by decide +kernel
theorem dX11_placeFor_47 : decode cX11_placeFor 47 = .ok (.iinc 2 (-1), 3) := by decide +kernel
theorem dX11_placeFor_50 : decode cX11_placeFor 50 = .ok (.goto (-29), 3) := by decide +kernel
theorem dX11_placeFor_53 : decode cX11_placeFor 53 = .ok (.iconst 0, 1) := by decide +kernel
theorem dX11_placeFor_54 : decode cX11_placeFor 54 = .ok (.istore_n 2, 1) := by decide +kernel
theorem dX11_placeFor_55 : decode cX11_placeFor 55 = .ok (.iload_n 2, 1) := by decide +kernel
theorem dX11_placeFor_56 : decode cX11_placeFor 56 = .ok (.aload_n 0, 1) := by decide +kernel
theorem dX11_placeFor_57 : decode cX11_placeFor 57 = .ok (.getfield 7, 3) := by decide +kernel
theorem dX11_placeFor_60 : decode cX11_placeFor 60 = .ok (.if_icmp .ge 61, 3) := by decide +kernel
theorem dX11_placeFor_63 : decode cX11_placeFor 63 = .ok (.iload_n 1, 1) := by decide +kernel
theorem dX11_placeFor_64 : decode cX11_placeFor 64 = .ok (.iload_n 2, 1) := by decide +kernel
theorem dX11_placeFor_65 : decode cX11_placeFor 65 = .ok (.iadd, 1) := by decide +kernel
theorem dX11_placeFor_66 : decode cX11_placeFor 66 = .ok (.istore_n 3, 1) := by decide +kernel
theorem dX11_placeFor_67 : decode cX11_placeFor 67 = .ok (.iload_n 3, 1) := by decide +kernel
theorem dX11_placeFor_68 : decode cX11_placeFor 68 = .ok (.aload_n 0, 1) := by decide +kernel
theorem dX11_placeFor_69 : decode cX11_placeFor 69 = .ok (.getfield 7, 3) := by decide +kernel
theorem dX11_placeFor_72 : decode cX11_placeFor 72 = .ok (.if_icmp .le 13, 3) := by decide +kernel
theorem dX11_placeFor_75 : decode cX11_placeFor 75 = .ok (.aload_n 0, 1) := by decide +kernel
theorem dX11_placeFor_76 : decode cX11_placeFor 76 = .ok (.getfield 104, 3) := by decide +kernel
theorem dX11_placeFor_79 : decode cX11_placeFor 79 = .ok (.iconst 1, 1) := by decide +kernel
theorem dX11_placeFor_80 : decode cX11_placeFor 80 = .ok (.if_icmp .eq 5, 3) := by decide +kernel
theorem dX11_placeFor_83 : decode cX11_placeFor 83 = .ok (.iconst 0, 1) := by decide +kernel
theorem dX11_placeFor_84 : decode cX11_placeFor 84 = .ok (.ireturn, 1) := by decide +kernel
theorem dX11_placeFor_85 : decode cX11_placeFor 85 = .ok (.iload_n 3, 1) := by decide +kernel
theorem dX11_placeFor_86 : decode cX11_placeFor 86 = .ok (.aload_n 0, 1) := by decide +kernel
theorem dX11_placeFor_87 : decode cX11_placeFor 87 = .ok (.getfield 7, 3) := by decide +kernel
theorem dX11_placeFor_90 : decode cX11_placeFor 90 = .ok (.if_icmp .le 12, 3) := by decide +kernel
theorem dX11_placeFor_93 : decode cX11_placeFor 93 = .ok (.iload_n 3, 1) := by decide +kernel
theorem dX11_placeFor_94 : decode cX11_placeFor 94 = .ok (.aload_n 0, 1) := by decide +kernel
theorem dX11_placeFor_95 : decode cX11_placeFor 95 = .ok (.getfield 7, 3) := by decide +kernel
theorem dX11_placeFor_98 : decode cX11_placeFor 98 = .ok (.isub, 1) := by decide +kernel
theorem dX11_placeFor_99 : decode cX11_placeFor 99 = .ok (.goto 4, 3) := by decide +kernel
theorem dX11_placeFor_102 : decode cX11_placeFor 102 = .ok (.iload_n 3, 1) := by decide +kernel
theorem dX11_placeFor_103 : decode cX11_placeFor 103 = .ok (.istore_n 3, 1) := by decide +kernel
theorem dX11_placeFor_104 : decode cX11_placeFor 104 = .ok (.aload_n 0, 1) := by decide +kernel
theorem dX11_placeFor_105 : decode cX11_placeFor 105 = .ok (.getfield 23, 3) := by decide +kernel
theorem dX11_placeFor_108 : decode cX11_placeFor 108 = .ok (.iload_n 3, 1) := by decide +kernel
theorem dX11_placeFor_109 : decode cX11_placeFor 109 = .ok (.iaload, 1) := by decide +kernel
theorem dX11_placeFor_110 : decode cX11_placeFor 110 = .ok (.ifCond .ne 5, 3) := by decide +kernel
theorem dX11_placeFor_113 : decode cX11_placeFor 113 = .ok (.iload_n 3, 1) := by decide +kernel
theorem dX11_placeFor_114 : decode cX11_placeFor 114 = .ok (.ireturn, 1) := by decide +kernel
theorem dX11_placeFor_115 : decode cX11_placeFor 115 = .ok (.iinc 2 1, 3) := by decide +kernel
theorem dX11_placeFor_118 : decode cX11_placeFor 118 = .ok (.goto (-63), 3) := by decide +kernel
theorem dX11_placeFor_121 : decode cX11_placeFor 121 = .ok (.iconst 0, 1) := by decide +kernel
theorem dX11_placeFor_122 : decode cX11_placeFor 122 = .ok (.ireturn, 1) := by decide +kernel
theorem dX11_fits_0 : decode cX11_fits 0 = .ok (.iload_n 1, 1) := by decide +kernel
theorem dX11_fits_1 : decode cX11_fits 1 = .ok (.ifCond .eq 31, 3) := by decide +kernel
theorem dX11_fits_4 : decode cX11_fits 4 = .ok (.iload_n 2, 1) := by decide +kernel
theorem dX11_fits_5 : decode cX11_fits 5 = .ok (.aload_n 0, 1) := by decide +kernel
theorem dX11_fits_6 : decode cX11_fits 6 = .ok (.getfield 7, 3) := by decide +kernel
theorem dX11_fits_9 : decode cX11_fits 9 = .ok (.if_icmp .gt 23, 3) := by decide +kernel
theorem dX11_fits_12 : decode cX11_fits 12 = .ok (.aload_n 0, 1) := by decide +kernel
theorem dX11_fits_13 : decode cX11_fits 13 = .ok (.getfield 104, 3) := by decide +kernel
theorem dX11_fits_16 : decode cX11_fits 16 = .ok (.iconst 1, 1) := by decide +kernel
theorem dX11_fits_17 : decode cX11_fits 17 = .ok (.if_icmp .eq 17, 3) := by decide +kernel
theorem dX11_fits_20 : decode cX11_fits 20 = .ok (.iload_n 1, 1) := by decide +kernel
theorem dX11_fits_21 : decode cX11_fits 21 = .ok (.iload_n 2, 1) := by decide +kernel
theorem dX11_fits_22 : decode cX11_fits 22 = .ok (.iadd, 1) := by decide +kernel
theorem dX11_fits_23 : decode cX11_fits 23 = .ok (.iconst 1, 1) := by decide +kernel
theorem dX11_fits_24 : decode cX11_fits 24 = .ok (.isub, 1) := by decide +kernel
theorem dX11_fits_25 : decode cX11_fits 25 = .ok (.aload_n 0, 1) := by decide +kernel
theorem dX11_fits_26 : decode cX11_fits 26 = .ok (.getfield 7, 3) := by decide +kernel
theorem dX11_fits_29 : decode cX11_fits 29 = .ok (.if_icmp .le 5, 3) := by decide +kernel
theorem dX11_fits_32 : decode cX11_fits 32 = .ok (.iconst 0, 1) := by decide +kernel
theorem dX11_fits_33 : decode cX11_fits 33 = .ok (.ireturn, 1) := by decide +kernel
theorem dX11_fits_34 : decode cX11_fits 34 = .ok (.iconst 1, 1) := by decide +kernel
theorem dX11_fits_35 : decode cX11_fits 35 = .ok (.istore_n 3, 1) := by decide +kernel
theorem dX11_fits_36 : decode cX11_fits 36 = .ok (.iconst 0, 1) := by decide +kernel
theorem dX11_fits_37 : decode cX11_fits 37 = .ok (.istore 4, 2) := by decide +kernel
theorem dX11_fits_39 : decode cX11_fits 39 = .ok (.iload 4, 2) := by decide +kernel
theorem dX11_fits_41 : decode cX11_fits 41 = .ok (.iload_n 2, 1) := by decide +kernel
theorem dX11_fits_42 : decode cX11_fits 42 = .ok (.if_icmp .ge 40, 3) := by decide +kernel
theorem dX11_fits_45 : decode cX11_fits 45 = .ok (.iload_n 3, 1) := by decide +kernel
theorem dX11_fits_46 : decode cX11_fits 46 = .ok (.ifCond .eq 28, 3) := by decide +kernel
theorem dX11_fits_49 : decode cX11_fits 49 = .ok (.aload_n 0, 1) := by decide +kernel
theorem dX11_fits_50 : decode cX11_fits 50 = .ok (.getfield 23, 3) := by decide +kernel
theorem dX11_fits_53 : decode cX11_fits 53 = .ok (.iload_n 1, 1) := by decide +kernel
theorem dX11_fits_54 : decode cX11_fits 54 = .ok (.iload 4, 2) := by decide +kernel
theorem dX11_fits_56 : decode cX11_fits 56 = .ok (.iadd, 1) := by decide +kernel
theorem dX11_fits_57 : decode cX11_fits 57 = .ok (.iconst 1, 1) := by decide +kernel
theorem dX11_fits_58 : decode cX11_fits 58 = .ok (.isub, 1) := by decide +kernel
theorem dX11_fits_59 : decode cX11_fits 59 = .ok (.aload_n 0, 1) := by decide +kernel
theorem dX11_fits_60 : decode cX11_fits 60 = .ok (.getfield 7, 3) := by decide +kernel
theorem dX11_fits_63 : decode cX11_fits 63 = .ok (.irem, 1) := by decide +kernel
theorem dX11_fits_64 : decode cX11_fits 64 = .ok (.iconst 1, 1) := by decide +kernel
theorem dX11_fits_65 : decode cX11_fits 65 = .ok (.iadd, 1) := by decide +kernel
theorem dX11_fits_66 : decode cX11_fits 66 = .ok (.iaload, 1) := by decide +kernel
theorem dX11_fits_67 : decode cX11_fits 67 = .ok (.ifCond .ne 7, 3) := by decide +kernel
theorem dX11_fits_70 : decode cX11_fits 70 = .ok (.iconst 1, 1) := by decide +kernel
theorem dX11_fits_71 : decode cX11_fits 71 = .ok (.goto 4, 3) := by decide +kernel
theorem dX11_fits_74 : decode cX11_fits 74 = .ok (.iconst 0, 1) := by decide +kernel
theorem dX11_fits_75 : decode cX11_fits 75 = .ok (.istore_n 3, 1) := by decide +kernel
theorem dX11_fits_76 : decode cX11_fits 76 = .ok (.iinc 4 1, 3) := by decide +kernel
theorem dX11_fits_79 : decode cX11_fits 79 = .ok (.goto (-40), 3) := by decide +kernel
theorem dX11_fits_82 : decode cX11_fits 82 = .ok (.iload_n 3, 1) := by decide +kernel
theorem dX11_fits_83 : decode cX11_fits 83 = .ok (.ireturn, 1) := by decide +kernel
theorem dX11_drive_0 : decode cX11_drive 0 = .ok (.iconst 0, 1) := by decide +kernel
theorem dX11_drive_1 : decode cX11_drive 1 = .ok (.istore_n 1, 1) := by decide +kernel
theorem dX11_drive_2 : decode cX11_drive 2 = .ok (.iload_n 1, 1) := by decide +kernel
theorem dX11_drive_3 : decode cX11_drive 3 = .ok (.bipush 10, 2) := by decide +kernel
theorem dX11_drive_5 : decode cX11_drive 5 = .ok (.if_icmp .gt 16, 3) := by decide +kernel
theorem dX11_drive_8 : decode cX11_drive 8 = .ok (.aload_n 0, 1) := by decide +kernel
theorem dX11_drive_9 : decode cX11_drive 9 = .ok (.getfield 23, 3) := by decide +kernel
theorem dX11_drive_12 : decode cX11_drive 12 = .ok (.iload_n 1, 1) := by decide +kernel
theorem dX11_drive_13 : decode cX11_drive 13 = .ok (.iconst 0, 1) := by decide +kernel
theorem dX11_drive_14 : decode cX11_drive 14 = .ok (.iastore, 1) := by decide +kernel
theorem dX11_drive_15 : decode cX11_drive 15 = .ok (.iinc 1 1, 3) := by decide +kernel
theorem dX11_drive_18 : decode cX11_drive 18 = .ok (.goto (-16), 3) := by decide +kernel
theorem dX11_drive_21 : decode cX11_drive 21 = .ok (.iconst 1, 1) := by decide +kernel
theorem dX11_drive_22 : decode cX11_drive 22 = .ok (.istore_n 1, 1) := by decide +kernel
theorem dX11_drive_23 : decode cX11_drive 23 = .ok (.iload_n 1, 1) := by decide +kernel
theorem dX11_drive_24 : decode cX11_drive 24 = .ok (.aload_n 0, 1) := by decide +kernel
theorem dX11_drive_25 : decode cX11_drive 25 = .ok (.getfield 110, 3) := by decide +kernel
theorem dX11_drive_28 : decode cX11_drive 28 = .ok (.if_icmp .gt 90, 3) := by decide +kernel
theorem dX11_drive_31 : decode cX11_drive 31 = .ok (.aload_n 0, 1) := by decide +kernel
theorem dX11_drive_32 : decode cX11_drive 32 = .ok (.aload_n 0, 1) := by decide +kernel
theorem dX11_drive_33 : decode cX11_drive 33 = .ok (.getfield 13, 3) := by decide +kernel
theorem dX11_drive_36 : decode cX11_drive 36 = .ok (.iload_n 1, 1) := by decide +kernel
theorem dX11_drive_37 : decode cX11_drive 37 = .ok (.iaload, 1) := by decide +kernel
theorem dX11_drive_38 : decode cX11_drive 38 = .ok (.invokevirtual 123, 3) := by decide +kernel
theorem dX11_drive_41 : decode cX11_drive 41 = .ok (.istore_n 2, 1) := by decide +kernel
theorem dX11_drive_42 : decode cX11_drive 42 = .ok (.aload_n 0, 1) := by decide +kernel
theorem dX11_drive_43 : decode cX11_drive 43 = .ok (.getfield 20, 3) := by decide +kernel
theorem dX11_drive_46 : decode cX11_drive 46 = .ok (.iload_n 1, 1) := by decide +kernel
theorem dX11_drive_47 : decode cX11_drive 47 = .ok (.aload_n 0, 1) := by decide +kernel
theorem dX11_drive_48 : decode cX11_drive 48 = .ok (.iload_n 2, 1) := by decide +kernel
theorem dX11_drive_49 : decode cX11_drive 49 = .ok (.aload_n 0, 1) := by decide +kernel
theorem dX11_drive_50 : decode cX11_drive 50 = .ok (.getfield 17, 3) := by decide +kernel
theorem dX11_drive_53 : decode cX11_drive 53 = .ok (.iload_n 1, 1) := by decide +kernel
theorem dX11_drive_54 : decode cX11_drive 54 = .ok (.iaload, 1) := by decide +kernel
theorem dX11_drive_55 : decode cX11_drive 55 = .ok (.invokevirtual 127, 3) := by decide +kernel
theorem dX11_drive_58 : decode cX11_drive 58 = .ok (.ifCond .eq 7, 3) := by decide +kernel
theorem dX11_drive_61 : decode cX11_drive 61 = .ok (.iload_n 2, 1) := by decide +kernel
theorem dX11_drive_62 : decode cX11_drive 62 = .ok (.goto 4, 3) := by decide +kernel
theorem dX11_drive_65 : decode cX11_drive 65 = .ok (.iconst 0, 1) := by decide +kernel
theorem dX11_drive_66 : decode cX11_drive 66 = .ok (.iastore, 1) := by decide +kernel
theorem dX11_drive_67 : decode cX11_drive 67 = .ok (.iconst 0, 1) := by decide +kernel
theorem dX11_drive_68 : decode cX11_drive 68 = .ok (.istore_n 3, 1) := by decide +kernel
theorem dX11_drive_69 : decode cX11_drive 69 = .ok (.iload_n 3, 1) := by decide +kernel
theorem dX11_drive_70 : decode cX11_drive 70 = .ok (.aload_n 0, 1) := by decide +kernel
theorem dX11_drive_71 : decode cX11_drive 71 = .ok (.getfield 17, 3) := by decide +kernel
theorem dX11_drive_74 : decode cX11_drive 74 = .ok (.iload_n 1, 1) := by decide +kernel
theorem dX11_drive_75 : decode cX11_drive 75 = .ok (.iaload, 1) := by decide +kernel
theorem dX11_drive_76 : decode cX11_drive 76 = .ok (.if_icmp .ge 36, 3) := by decide +kernel
theorem dX11_drive_79 : decode cX11_drive 79 = .ok (.aload_n 0, 1) := by decide +kernel
theorem dX11_drive_80 : decode cX11_drive 80 = .ok (.getfield 20, 3) := by decide +kernel
theorem dX11_drive_83 : decode cX11_drive 83 = .ok (.iload_n 1, 1) := by decide +kernel
theorem dX11_drive_84 : decode cX11_drive 84 = .ok (.iaload, 1) := by decide +kernel
theorem dX11_drive_85 : decode cX11_drive 85 = .ok (.ifCond .le 27, 3) := by decide +kernel
theorem dX11_drive_88 : decode cX11_drive 88 = .ok (.aload_n 0, 1) := by decide +kernel
theorem dX11_drive_89 : decode cX11_drive 89 = .ok (.getfield 23, 3) := by decide +kernel
theorem dX11_drive_92 : decode cX11_drive 92 = .ok (.iload_n 2, 1) := by decide +kernel
theorem dX11_drive_93 : decode cX11_drive 93 = .ok (.iload_n 3, 1) := by decide +kernel
theorem dX11_drive_94 : decode cX11_drive 94 = .ok (.iadd, 1) := by decide +kernel
theorem dX11_drive_95 : decode cX11_drive 95 = .ok (.iconst 1, 1) := by decide +kernel
theorem dX11_drive_96 : decode cX11_drive 96 = .ok (.isub, 1) := by decide +kernel
theorem dX11_drive_97 : decode cX11_drive 97 = .ok (.aload_n 0, 1) := by decide +kernel
theorem dX11_drive_98 : decode cX11_drive 98 = .ok (.getfield 7, 3) := by decide +kernel
theorem dX11_drive_101 : decode cX11_drive 101 = .ok (.irem, 1) := by decide +kernel
theorem dX11_drive_102 : decode cX11_drive 102 = .ok (.iconst 1, 1) := by decide +kernel
theorem dX11_drive_103 : decode cX11_drive 103 = .ok (.iadd, 1) := by decide +kernel
theorem dX11_drive_104 : decode cX11_drive 104 = .ok (.iload_n 1, 1) := by decide +kernel
theorem dX11_drive_105 : decode cX11_drive 105 = .ok (.iastore, 1) := by decide +kernel
theorem dX11_drive_106 : decode cX11_drive 106 = .ok (.iinc 3 1, 3) := by decide +kernel
theorem dX11_drive_109 : decode cX11_drive 109 = .ok (.goto (-40), 3) := by decide +kernel
theorem dX11_drive_112 : decode cX11_drive 112 = .ok (.iinc 1 1, 3) := by decide +kernel
theorem dX11_drive_115 : decode cX11_drive 115 = .ok (.goto (-92), 3) := by decide +kernel
theorem dX11_drive_118 : decode cX11_drive 118 = .ok (.return_, 1) := by decide +kernel
theorem dX11_goes_0 : decode cX11_goes 0 = .ok (.aload_n 0, 1) := by decide +kernel
theorem dX11_goes_1 : decode cX11_goes 1 = .ok (.getfield 20, 3) := by decide +kernel
theorem dX11_goes_4 : decode cX11_goes 4 = .ok (.iload_n 1, 1) := by decide +kernel
theorem dX11_goes_5 : decode cX11_goes 5 = .ok (.iaload, 1) := by decide +kernel
theorem dX11_goes_6 : decode cX11_goes 6 = .ok (.aload_n 0, 1) := by decide +kernel
theorem dX11_goes_7 : decode cX11_goes 7 = .ok (.getfield 13, 3) := by decide +kernel
theorem dX11_goes_10 : decode cX11_goes 10 = .ok (.iload_n 1, 1) := by decide +kernel
theorem dX11_goes_11 : decode cX11_goes 11 = .ok (.iaload, 1) := by decide +kernel
theorem dX11_goes_12 : decode cX11_goes 12 = .ok (.isub, 1) := by decide +kernel
theorem dX11_goes_13 : decode cX11_goes 13 = .ok (.istore_n 2, 1) := by decide +kernel
theorem dX11_goes_14 : decode cX11_goes 14 = .ok (.aload_n 0, 1) := by decide +kernel
theorem dX11_goes_15 : decode cX11_goes 15 = .ok (.getfield 104, 3) := by decide +kernel
theorem dX11_goes_18 : decode cX11_goes 18 = .ok (.iconst 1, 1) := by decide +kernel
theorem dX11_goes_19 : decode cX11_goes 19 = .ok (.if_icmp .ne 17, 3) := by decide +kernel
theorem dX11_goes_22 : decode cX11_goes 22 = .ok (.iload_n 2, 1) := by decide +kernel
theorem dX11_goes_23 : decode cX11_goes 23 = .ok (.aload_n 0, 1) := by decide +kernel
theorem dX11_goes_24 : decode cX11_goes 24 = .ok (.getfield 7, 3) := by decide +kernel
theorem dX11_goes_27 : decode cX11_goes 27 = .ok (.iadd, 1) := by decide +kernel
theorem dX11_goes_28 : decode cX11_goes 28 = .ok (.aload_n 0, 1) := by decide +kernel
theorem dX11_goes_29 : decode cX11_goes 29 = .ok (.getfield 7, 3) := by decide +kernel
theorem dX11_goes_32 : decode cX11_goes 32 = .ok (.irem, 1) := by decide +kernel
theorem dX11_goes_33 : decode cX11_goes 33 = .ok (.goto 13, 3) := by decide +kernel
theorem dX11_goes_36 : decode cX11_goes 36 = .ok (.iload_n 2, 1) := by decide +kernel
theorem dX11_goes_37 : decode cX11_goes 37 = .ok (.ifCond .ge 8, 3) := by decide +kernel
theorem dX11_goes_40 : decode cX11_goes 40 = .ok (.iload_n 2, 1) := by decide +kernel
theorem dX11_goes_41 : decode cX11_goes 41 = .ok (.ineg, 1) := by decide +kernel
theorem dX11_goes_42 : decode cX11_goes 42 = .ok (.goto 4, 3) := by decide +kernel
theorem dX11_goes_45 : decode cX11_goes 45 = .ok (.iload_n 2, 1) := by decide +kernel
theorem dX11_goes_46 : decode cX11_goes 46 = .ok (.ireturn, 1) := by decide +kernel
theorem dX11_isGood_0 : decode cX11_isGood 0 = .ok (.aload_n 0, 1) := by decide +kernel
theorem dX11_isGood_1 : decode cX11_isGood 1 = .ok (.invokevirtual 131, 3) := by decide +kernel
theorem dX11_isGood_4 : decode cX11_isGood 4 = .ok (.iconst 1, 1) := by decide +kernel
theorem dX11_isGood_5 : decode cX11_isGood 5 = .ok (.istore_n 1, 1) := by decide +kernel
theorem dX11_isGood_6 : decode cX11_isGood 6 = .ok (.iconst 1, 1) := by decide +kernel
theorem dX11_isGood_7 : decode cX11_isGood 7 = .ok (.istore_n 2, 1) := by decide +kernel
theorem dX11_isGood_8 : decode cX11_isGood 8 = .ok (.iload_n 2, 1) := by decide +kernel
theorem dX11_isGood_9 : decode cX11_isGood 9 = .ok (.aload_n 0, 1) := by decide +kernel
theorem dX11_isGood_10 : decode cX11_isGood 10 = .ok (.getfield 110, 3) := by decide +kernel
theorem dX11_isGood_13 : decode cX11_isGood 13 = .ok (.if_icmp .gt 28, 3) := by decide +kernel
theorem dX11_isGood_16 : decode cX11_isGood 16 = .ok (.iload_n 1, 1) := by decide +kernel
theorem dX11_isGood_17 : decode cX11_isGood 17 = .ok (.ifCond .eq 16, 3) := by decide +kernel
theorem dX11_isGood_20 : decode cX11_isGood 20 = .ok (.aload_n 0, 1) := by decide +kernel
theorem dX11_isGood_21 : decode cX11_isGood 21 = .ok (.getfield 20, 3) := by decide +kernel
theorem dX11_isGood_24 : decode cX11_isGood 24 = .ok (.iload_n 2, 1) := by decide +kernel
theorem dX11_isGood_25 : decode cX11_isGood 25 = .ok (.iaload, 1) := by decide +kernel
theorem dX11_isGood_26 : decode cX11_isGood 26 = .ok (.ifCond .le 7, 3) := by decide +kernel
theorem dX11_isGood_29 : decode cX11_isGood 29 = .ok (.iconst 1, 1) := by decide +kernel
theorem dX11_isGood_30 : decode cX11_isGood 30 = .ok (.goto 4, 3) := by decide +kernel
theorem dX11_isGood_33 : decode cX11_isGood 33 = .ok (.iconst 0, 1) := by decide +kernel
theorem dX11_isGood_34 : decode cX11_isGood 34 = .ok (.istore_n 1, 1) := by decide +kernel
theorem dX11_isGood_35 : decode cX11_isGood 35 = .ok (.iinc 2 1, 3) := by decide +kernel
theorem dX11_isGood_38 : decode cX11_isGood 38 = .ok (.goto (-30), 3) := by decide +kernel
theorem dX11_isGood_41 : decode cX11_isGood 41 = .ok (.iload_n 1, 1) := by decide +kernel
theorem dX11_isGood_42 : decode cX11_isGood 42 = .ok (.ireturn, 1) := by decide +kernel
theorem dX11_isPlain_0 : decode cX11_isPlain 0 = .ok (.aload_n 0, 1) := by decide +kernel
theorem dX11_isPlain_1 : decode cX11_isPlain 1 = .ok (.getfield 104, 3) := by decide +kernel
theorem dX11_isPlain_4 : decode cX11_isPlain 4 = .ok (.ifCond .ne 7, 3) := by decide +kernel
theorem dX11_isPlain_7 : decode cX11_isPlain 7 = .ok (.iconst 1, 1) := by decide +kernel
theorem dX11_isPlain_8 : decode cX11_isPlain 8 = .ok (.goto 4, 3) := by decide +kernel
theorem dX11_isPlain_11 : decode cX11_isPlain 11 = .ok (.iconst 0, 1) := by decide +kernel
theorem dX11_isPlain_12 : decode cX11_isPlain 12 = .ok (.istore_n 1, 1) := by decide +kernel
theorem dX11_isPlain_13 : decode cX11_isPlain 13 = .ok (.iconst 1, 1) := by decide +kernel
theorem dX11_isPlain_14 : decode cX11_isPlain 14 = .ok (.istore_n 2, 1) := by decide +kernel
theorem dX11_isPlain_15 : decode cX11_isPlain 15 = .ok (.iload_n 2, 1) := by decide +kernel
theorem dX11_isPlain_16 : decode cX11_isPlain 16 = .ok (.aload_n 0, 1) := by decide +kernel
theorem dX11_isPlain_17 : decode cX11_isPlain 17 = .ok (.getfield 110, 3) := by decide +kernel
theorem dX11_isPlain_20 : decode cX11_isPlain 20 = .ok (.if_icmp .gt 29, 3) := by decide +kernel
theorem dX11_isPlain_23 : decode cX11_isPlain 23 = .ok (.iload_n 1, 1) := by decide +kernel
theorem dX11_isPlain_24 : decode cX11_isPlain 24 = .ok (.ifCond .eq 17, 3) := by decide +kernel
theorem dX11_isPlain_27 : decode cX11_isPlain 27 = .ok (.aload_n 0, 1) := by decide +kernel
theorem dX11_isPlain_28 : decode cX11_isPlain 28 = .ok (.getfield 17, 3) := by decide +kernel
theorem dX11_isPlain_31 : decode cX11_isPlain 31 = .ok (.iload_n 2, 1) := by decide +kernel
theorem dX11_isPlain_32 : decode cX11_isPlain 32 = .ok (.iaload, 1) := by decide +kernel
theorem dX11_isPlain_33 : decode cX11_isPlain 33 = .ok (.iconst 1, 1) := by decide +kernel
theorem dX11_isPlain_34 : decode cX11_isPlain 34 = .ok (.if_icmp .ne 7, 3) := by decide +kernel
theorem dX11_isPlain_37 : decode cX11_isPlain 37 = .ok (.iconst 1, 1) := by decide +kernel
theorem dX11_isPlain_38 : decode cX11_isPlain 38 = .ok (.goto 4, 3) := by decide +kernel
theorem dX11_isPlain_41 : decode cX11_isPlain 41 = .ok (.iconst 0, 1) := by decide +kernel
theorem dX11_isPlain_42 : decode cX11_isPlain 42 = .ok (.istore_n 1, 1) := by decide +kernel
theorem dX11_isPlain_43 : decode cX11_isPlain 43 = .ok (.iinc 2 1, 3) := by decide +kernel
theorem dX11_isPlain_46 : decode cX11_isPlain 46 = .ok (.goto (-31), 3) := by decide +kernel
theorem dX11_isPlain_49 : decode cX11_isPlain 49 = .ok (.iload_n 1, 1) := by decide +kernel
theorem dX11_isPlain_50 : decode cX11_isPlain 50 = .ok (.ireturn, 1) := by decide +kernel
theorem dX11_told_0 : decode cX11_told 0 = .ok (.aload_n 0, 1) := by decide +kernel
theorem dX11_told_1 : decode cX11_told 1 = .ok (.iload_n 1, 1) := by decide +kernel
theorem dX11_told_2 : decode cX11_told 2 = .ok (.invokevirtual 117, 3) := by decide +kernel
theorem dX11_told_5 : decode cX11_told 5 = .ok (.ifCond .ne 5, 3) := by decide +kernel
theorem dX11_told_8 : decode cX11_told 8 = .ok (.iconst (-1), 1) := by decide +kernel
theorem dX11_told_9 : decode cX11_told 9 = .ok (.ireturn, 1) := by decide +kernel
theorem dX11_told_10 : decode cX11_told 10 = .ok (.aload_n 0, 1) := by decide +kernel
theorem dX11_told_11 : decode cX11_told 11 = .ok (.invokevirtual 131, 3) := by decide +kernel
theorem dX11_told_14 : decode cX11_told 14 = .ok (.iload_n 2, 1) := by decide +kernel
theorem dX11_told_15 : decode cX11_told 15 = .ok (.tableswitch 109 0 4 #[33, 40, 47, 68, 88], 33) := by decide +kernel
theorem dX11_told_48 : decode cX11_told 48 = .ok (.aload_n 0, 1) := by decide +kernel
theorem dX11_told_49 : decode cX11_told 49 = .ok (.getfield 13, 3) := by decide +kernel
theorem dX11_told_52 : decode cX11_told 52 = .ok (.iload_n 1, 1) := by decide +kernel
theorem dX11_told_53 : decode cX11_told 53 = .ok (.iaload, 1) := by decide +kernel
theorem dX11_told_54 : decode cX11_told 54 = .ok (.ireturn, 1) := by decide +kernel
theorem dX11_told_55 : decode cX11_told 55 = .ok (.aload_n 0, 1) := by decide +kernel
theorem dX11_told_56 : decode cX11_told 56 = .ok (.getfield 17, 3) := by decide +kernel
theorem dX11_told_59 : decode cX11_told 59 = .ok (.iload_n 1, 1) := by decide +kernel
theorem dX11_told_60 : decode cX11_told 60 = .ok (.iaload, 1) := by decide +kernel
theorem dX11_told_61 : decode cX11_told 61 = .ok (.ireturn, 1) := by decide +kernel
theorem dX11_told_62 : decode cX11_told 62 = .ok (.aload_n 0, 1) := by decide +kernel
theorem dX11_told_63 : decode cX11_told 63 = .ok (.getfield 20, 3) := by decide +kernel
theorem dX11_told_66 : decode cX11_told 66 = .ok (.iload_n 1, 1) := by decide +kernel
theorem dX11_told_67 : decode cX11_told 67 = .ok (.iaload, 1) := by decide +kernel
theorem dX11_told_68 : decode cX11_told 68 = .ok (.ifCond .ne 8, 3) := by decide +kernel
theorem dX11_told_71 : decode cX11_told 71 = .ok (.bipush (-4), 2) := by decide +kernel
theorem dX11_told_73 : decode cX11_told 73 = .ok (.goto 9, 3) := by decide +kernel
theorem dX11_told_76 : decode cX11_told 76 = .ok (.aload_n 0, 1) := by decide +kernel
theorem dX11_told_77 : decode cX11_told 77 = .ok (.getfield 20, 3) := by decide +kernel
theorem dX11_told_80 : decode cX11_told 80 = .ok (.iload_n 1, 1) := by decide +kernel
theorem dX11_told_81 : decode cX11_told 81 = .ok (.iaload, 1) := by decide +kernel
theorem dX11_told_82 : decode cX11_told 82 = .ok (.ireturn, 1) := by decide +kernel
theorem dX11_told_83 : decode cX11_told 83 = .ok (.aload_n 0, 1) := by decide +kernel
theorem dX11_told_84 : decode cX11_told 84 = .ok (.getfield 20, 3) := by decide +kernel
theorem dX11_told_87 : decode cX11_told 87 = .ok (.iload_n 1, 1) := by decide +kernel
theorem dX11_told_88 : decode cX11_told 88 = .ok (.iaload, 1) := by decide +kernel
theorem dX11_told_89 : decode cX11_told 89 = .ok (.ifCond .ne 8, 3) := by decide +kernel
theorem dX11_told_92 : decode cX11_told 92 = .ok (.bipush (-4), 2) := by decide +kernel
theorem dX11_told_94 : decode cX11_told 94 = .ok (.goto 8, 3) := by decide +kernel
theorem dX11_told_97 : decode cX11_told 97 = .ok (.aload_n 0, 1) := by decide +kernel
theorem dX11_told_98 : decode cX11_told 98 = .ok (.iload_n 1, 1) := by decide +kernel
theorem dX11_told_99 : decode cX11_told 99 = .ok (.invokevirtual 134, 3) := by decide +kernel
theorem dX11_told_102 : decode cX11_told 102 = .ok (.ireturn, 1) := by decide +kernel
theorem dX11_told_103 : decode cX11_told 103 = .ok (.aload_n 0, 1) := by decide +kernel
theorem dX11_told_104 : decode cX11_told 104 = .ok (.getfield 20, 3) := by decide +kernel
theorem dX11_told_107 : decode cX11_told 107 = .ok (.iload_n 1, 1) := by decide +kernel
theorem dX11_told_108 : decode cX11_told 108 = .ok (.iaload, 1) := by decide +kernel
theorem dX11_told_109 : decode cX11_told 109 = .ok (.aload_n 0, 1) := by decide +kernel
theorem dX11_told_110 : decode cX11_told 110 = .ok (.getfield 13, 3) := by decide +kernel
theorem dX11_told_113 : decode cX11_told 113 = .ok (.iload_n 1, 1) := by decide +kernel
theorem dX11_told_114 : decode cX11_told 114 = .ok (.iaload, 1) := by decide +kernel
theorem dX11_told_115 : decode cX11_told 115 = .ok (.if_icmp .ne 7, 3) := by decide +kernel
theorem dX11_told_118 : decode cX11_told 118 = .ok (.iconst 1, 1) := by decide +kernel
theorem dX11_told_119 : decode cX11_told 119 = .ok (.goto 4, 3) := by decide +kernel
theorem dX11_told_122 : decode cX11_told 122 = .ok (.iconst 0, 1) := by decide +kernel
theorem dX11_told_123 : decode cX11_told 123 = .ok (.ireturn, 1) := by decide +kernel
theorem dX11_told_124 : decode cX11_told 124 = .ok (.iconst (-1), 1) := by decide +kernel
theorem dX11_told_125 : decode cX11_told 125 = .ok (.ireturn, 1) := by decide +kernel
theorem dX11_on_0 : decode cX11_on 0 = .ok (.iload_n 1, 1) := by decide +kernel
theorem dX11_on_1 : decode cX11_on 1 = .ok (.i2l, 1) := by decide +kernel
theorem dX11_on_2 : decode cX11_on 2 = .ok (.lconst 1, 1) := by decide +kernel
theorem dX11_on_3 : decode cX11_on 3 = .ok (.aload_n 0, 1) := by decide +kernel
theorem dX11_on_4 : decode cX11_on 4 = .ok (.getfield 7, 3) := by decide +kernel
theorem dX11_on_7 : decode cX11_on 7 = .ok (.i2l, 1) := by decide +kernel
theorem dX11_on_8 : decode cX11_on 8 = .ok (.invokestatic 96, 3) := by decide +kernel
theorem dX11_on_11 : decode cX11_on 11 = .ok (.ifCond .ne 5, 3) := by decide +kernel
theorem dX11_on_14 : decode cX11_on 14 = .ok (.iconst (-1), 1) := by decide +kernel
theorem dX11_on_15 : decode cX11_on 15 = .ok (.ireturn, 1) := by decide +kernel
theorem dX11_on_16 : decode cX11_on 16 = .ok (.aload_n 0, 1) := by decide +kernel
theorem dX11_on_17 : decode cX11_on 17 = .ok (.invokevirtual 131, 3) := by decide +kernel
theorem dX11_on_20 : decode cX11_on 20 = .ok (.aload_n 0, 1) := by decide +kernel
theorem dX11_on_21 : decode cX11_on 21 = .ok (.getfield 23, 3) := by decide +kernel
theorem dX11_on_24 : decode cX11_on 24 = .ok (.iload_n 1, 1) := by decide +kernel
theorem dX11_on_25 : decode cX11_on 25 = .ok (.iaload, 1) := by decide +kernel
theorem dX11_on_26 : decode cX11_on 26 = .ok (.ifCond .ne 8, 3) := by decide +kernel
theorem dX11_on_29 : decode cX11_on 29 = .ok (.bipush (-4), 2) := by decide +kernel
theorem dX11_on_31 : decode cX11_on 31 = .ok (.goto 9, 3) := by decide +kernel
theorem dX11_on_34 : decode cX11_on 34 = .ok (.aload_n 0, 1) := by decide +kernel
theorem dX11_on_35 : decode cX11_on 35 = .ok (.getfield 23, 3) := by decide +kernel
theorem dX11_on_38 : decode cX11_on 38 = .ok (.iload_n 1, 1) := by decide +kernel
theorem dX11_on_39 : decode cX11_on 39 = .ok (.iaload, 1) := by decide +kernel
theorem dX11_on_40 : decode cX11_on 40 = .ok (.ireturn, 1) := by decide +kernel
theorem dX11_count_0 : decode cX11_count 0 = .ok (.iload_n 1, 1) := by decide +kernel
theorem dX11_count_1 : decode cX11_count 1 = .ok (.i2l, 1) := by decide +kernel
theorem dX11_count_2 : decode cX11_count 2 = .ok (.lconst 0, 1) := by decide +kernel
theorem dX11_count_3 : decode cX11_count 3 = .ok (.ldc2_w 137, 3) := by decide +kernel
theorem dX11_count_6 : decode cX11_count 6 = .ok (.invokestatic 96, 3) := by decide +kernel
theorem dX11_count_9 : decode cX11_count 9 = .ok (.ifCond .ne 5, 3) := by decide +kernel
theorem dX11_count_12 : decode cX11_count 12 = .ok (.iconst (-1), 1) := by decide +kernel
theorem dX11_count_13 : decode cX11_count 13 = .ok (.ireturn, 1) := by decide +kernel
theorem dX11_count_14 : decode cX11_count 14 = .ok (.aload_n 0, 1) := by decide +kernel
theorem dX11_count_15 : decode cX11_count 15 = .ok (.invokevirtual 131, 3) := by decide +kernel
theorem dX11_count_18 : decode cX11_count 18 = .ok (.iconst 0, 1) := by decide +kernel
theorem dX11_count_19 : decode cX11_count 19 = .ok (.istore_n 2, 1) := by decide +kernel
theorem dX11_count_20 : decode cX11_count 20 = .ok (.iconst 0, 1) := by decide +kernel
theorem dX11_count_21 : decode cX11_count 21 = .ok (.istore_n 3, 1) := by decide +kernel
theorem dX11_count_22 : decode cX11_count 22 = .ok (.iconst 0, 1) := by decide +kernel
theorem dX11_count_23 : decode cX11_count 23 = .ok (.istore 4, 2) := by decide +kernel
theorem dX11_count_25 : decode cX11_count 25 = .ok (.iconst 0, 1) := by decide +kernel
theorem dX11_count_26 : decode cX11_count 26 = .ok (.istore 5, 2) := by decide +kernel
theorem dX11_count_28 : decode cX11_count 28 = .ok (.iconst 0, 1) := by decide +kernel
theorem dX11_count_29 : decode cX11_count 29 = .ok (.istore 6, 2) := by decide +kernel
theorem dX11_count_31 : decode cX11_count 31 = .ok (.iconst 1, 1) := by decide +kernel
theorem dX11_count_32 : decode cX11_count 32 = .ok (.istore 7, 2) := by decide +kernel
theorem dX11_count_34 : decode cX11_count 34 = .ok (.iload 7, 2) := by decide +kernel
theorem dX11_count_36 : decode cX11_count 36 = .ok (.aload_n 0, 1) := by decide +kernel
theorem dX11_count_37 : decode cX11_count 37 = .ok (.getfield 110, 3) := by decide +kernel
theorem dX11_count_40 : decode cX11_count 40 = .ok (.if_icmp .gt 97, 3) := by decide +kernel
theorem dX11_count_43 : decode cX11_count 43 = .ok (.aload_n 0, 1) := by decide +kernel
theorem dX11_count_44 : decode cX11_count 44 = .ok (.getfield 20, 3) := by decide +kernel
theorem dX11_count_47 : decode cX11_count 47 = .ok (.iload 7, 2) := by decide +kernel
theorem dX11_count_49 : decode cX11_count 49 = .ok (.iaload, 1) := by decide +kernel
theorem dX11_count_50 : decode cX11_count 50 = .ok (.ifCond .le 12, 3) := by decide +kernel
theorem dX11_count_53 : decode cX11_count 53 = .ok (.aload_n 0, 1) := by decide +kernel
theorem dX11_count_54 : decode cX11_count 54 = .ok (.iload 7, 2) := by decide +kernel
theorem dX11_count_56 : decode cX11_count 56 = .ok (.invokevirtual 134, 3) := by decide +kernel
theorem dX11_count_59 : decode cX11_count 59 = .ok (.goto 4, 3) := by decide +kernel
theorem dX11_count_62 : decode cX11_count 62 = .ok (.iconst 0, 1) := by decide +kernel
theorem dX11_count_63 : decode cX11_count 63 = .ok (.istore 8, 2) := by decide +kernel
theorem dX11_count_65 : decode cX11_count 65 = .ok (.iload_n 2, 1) := by decide +kernel
theorem dX11_count_66 : decode cX11_count 66 = .ok (.aload_n 0, 1) := by decide +kernel
theorem dX11_count_67 : decode cX11_count 67 = .ok (.getfield 20, 3) := by decide +kernel
theorem dX11_count_70 : decode cX11_count 70 = .ok (.iload 7, 2) := by decide +kernel
theorem dX11_count_72 : decode cX11_count 72 = .ok (.iaload, 1) := by decide +kernel
theorem dX11_count_73 : decode cX11_count 73 = .ok (.ifCond .le 7, 3) := by decide +kernel
theorem dX11_count_76 : decode cX11_count 76 = .ok (.iconst 1, 1) := by decide +kernel
theorem dX11_count_77 : decode cX11_count 77 = .ok (.goto 4, 3) := by decide +kernel
theorem dX11_count_80 : decode cX11_count 80 = .ok (.iconst 0, 1) := by decide +kernel
theorem dX11_count_81 : decode cX11_count 81 = .ok (.iadd, 1) := by decide +kernel
theorem dX11_count_82 : decode cX11_count 82 = .ok (.istore_n 2, 1) := by decide +kernel
theorem dX11_count_83 : decode cX11_count 83 = .ok (.iload_n 3, 1) := by decide +kernel
theorem dX11_count_84 : decode cX11_count 84 = .ok (.aload_n 0, 1) := by decide +kernel
theorem dX11_count_85 : decode cX11_count 85 = .ok (.getfield 20, 3) := by decide +kernel
theorem dX11_count_88 : decode cX11_count 88 = .ok (.iload 7, 2) := by decide +kernel
theorem dX11_count_90 : decode cX11_count 90 = .ok (.iaload, 1) := by decide +kernel
theorem dX11_count_91 : decode cX11_count 91 = .ok (.aload_n 0, 1) := by decide +kernel
theorem dX11_count_92 : decode cX11_count 92 = .ok (.getfield 13, 3) := by decide +kernel
theorem dX11_count_95 : decode cX11_count 95 = .ok (.iload 7, 2) := by decide +kernel
theorem dX11_count_97 : decode cX11_count 97 = .ok (.iaload, 1) := by decide +kernel
theorem dX11_count_98 : decode cX11_count 98 = .ok (.if_icmp .ne 7, 3) := by decide +kernel
theorem dX11_count_101 : decode cX11_count 101 = .ok (.iconst 1, 1) := by decide +kernel
theorem dX11_count_102 : decode cX11_count 102 = .ok (.goto 4, 3) := by decide +kernel
theorem dX11_count_105 : decode cX11_count 105 = .ok (.iconst 0, 1) := by decide +kernel
theorem dX11_count_106 : decode cX11_count 106 = .ok (.iadd, 1) := by decide +kernel
theorem dX11_count_107 : decode cX11_count 107 = .ok (.istore_n 3, 1) := by decide +kernel
theorem dX11_count_108 : decode cX11_count 108 = .ok (.iload 4, 2) := by decide +kernel
theorem dX11_count_110 : decode cX11_count 110 = .ok (.iload 8, 2) := by decide +kernel
theorem dX11_count_112 : decode cX11_count 112 = .ok (.iadd, 1) := by decide +kernel
theorem dX11_count_113 : decode cX11_count 113 = .ok (.istore 4, 2) := by decide +kernel
theorem dX11_count_115 : decode cX11_count 115 = .ok (.iload 8, 2) := by decide +kernel
theorem dX11_count_117 : decode cX11_count 117 = .ok (.iload 5, 2) := by decide +kernel
theorem dX11_count_119 : decode cX11_count 119 = .ok (.if_icmp .le 8, 3) := by decide +kernel
theorem dX11_count_122 : decode cX11_count 122 = .ok (.iload 8, 2) := by decide +kernel
theorem dX11_count_124 : decode cX11_count 124 = .ok (.goto 5, 3) := by decide +kernel
theorem dX11_count_127 : decode cX11_count 127 = .ok (.iload 5, 2) := by decide +kernel
theorem dX11_count_129 : decode cX11_count 129 = .ok (.istore 5, 2) := by decide +kernel
theorem dX11_count_131 : decode cX11_count 131 = .ok (.iinc 7 1, 3) := by decide +kernel
theorem dX11_count_134 : decode cX11_count 134 = .ok (.goto (-100), 3) := by decide +kernel
theorem dX11_count_137 : decode cX11_count 137 = .ok (.iconst 1, 1) := by decide +kernel
theorem dX11_count_138 : decode cX11_count 138 = .ok (.istore 7, 2) := by decide +kernel
theorem dX11_count_140 : decode cX11_count 140 = .ok (.iload 7, 2) := by decide +kernel
theorem dX11_count_142 : decode cX11_count 142 = .ok (.aload_n 0, 1) := by decide +kernel
theorem dX11_count_143 : decode cX11_count 143 = .ok (.getfield 7, 3) := by decide +kernel
theorem dX11_count_146 : decode cX11_count 146 = .ok (.if_icmp .gt 29, 3) := by decide +kernel
theorem dX11_count_149 : decode cX11_count 149 = .ok (.iload 6, 2) := by decide +kernel
theorem dX11_count_151 : decode cX11_count 151 = .ok (.aload_n 0, 1) := by decide +kernel
theorem dX11_count_152 : decode cX11_count 152 = .ok (.getfield 23, 3) := by decide +kernel
theorem dX11_count_155 : decode cX11_count 155 = .ok (.iload 7, 2) := by decide +kernel
theorem dX11_count_157 : decode cX11_count 157 = .ok (.iaload, 1) := by decide +kernel
theorem dX11_count_158 : decode cX11_count 158 = .ok (.ifCond .ne 7, 3) := by decide +kernel
theorem dX11_count_161 : decode cX11_count 161 = .ok (.iconst 1, 1) := by decide +kernel
theorem dX11_count_162 : decode cX11_count 162 = .ok (.goto 4, 3) := by decide +kernel
theorem dX11_count_165 : decode cX11_count 165 = .ok (.iconst 0, 1) := by decide +kernel
theorem dX11_count_166 : decode cX11_count 166 = .ok (.iadd, 1) := by decide +kernel
theorem dX11_count_167 : decode cX11_count 167 = .ok (.istore 6, 2) := by decide +kernel
theorem dX11_count_169 : decode cX11_count 169 = .ok (.iinc 7 1, 3) := by decide +kernel
theorem dX11_count_172 : decode cX11_count 172 = .ok (.goto (-32), 3) := by decide +kernel
theorem dX11_count_175 : decode cX11_count 175 = .ok (.iload_n 1, 1) := by decide +kernel
theorem dX11_count_176 : decode cX11_count 176 = .ok (.tableswitch 71 0 6 #[44, 49, 54, 56, 63, 65, 68], 44) := by decide +kernel
theorem dX11_count_220 : decode cX11_count 220 = .ok (.aload_n 0, 1) := by decide +kernel
theorem dX11_count_221 : decode cX11_count 221 = .ok (.getfield 7, 3) := by decide +kernel
theorem dX11_count_224 : decode cX11_count 224 = .ok (.ireturn, 1) := by decide +kernel
theorem dX11_count_225 : decode cX11_count 225 = .ok (.aload_n 0, 1) := by decide +kernel
theorem dX11_count_226 : decode cX11_count 226 = .ok (.getfield 110, 3) := by decide +kernel
theorem dX11_count_229 : decode cX11_count 229 = .ok (.ireturn, 1) := by decide +kernel
theorem dX11_count_230 : decode cX11_count 230 = .ok (.iload_n 2, 1) := by decide +kernel
theorem dX11_count_231 : decode cX11_count 231 = .ok (.ireturn, 1) := by decide +kernel
theorem dX11_count_232 : decode cX11_count 232 = .ok (.aload_n 0, 1) := by decide +kernel
theorem dX11_count_233 : decode cX11_count 233 = .ok (.getfield 110, 3) := by decide +kernel
theorem dX11_count_236 : decode cX11_count 236 = .ok (.iload_n 2, 1) := by decide +kernel
theorem dX11_count_237 : decode cX11_count 237 = .ok (.isub, 1) := by decide +kernel
theorem dX11_count_238 : decode cX11_count 238 = .ok (.ireturn, 1) := by decide +kernel
theorem dX11_count_239 : decode cX11_count 239 = .ok (.iload_n 3, 1) := by decide +kernel
theorem dX11_count_240 : decode cX11_count 240 = .ok (.ireturn, 1) := by decide +kernel
theorem dX11_count_241 : decode cX11_count 241 = .ok (.iload 4, 2) := by decide +kernel
theorem dX11_count_243 : decode cX11_count 243 = .ok (.ireturn, 1) := by decide +kernel
theorem dX11_count_244 : decode cX11_count 244 = .ok (.iload 5, 2) := by decide +kernel
theorem dX11_count_246 : decode cX11_count 246 = .ok (.ireturn, 1) := by decide +kernel
theorem dX11_count_247 : decode cX11_count 247 = .ok (.iload 6, 2) := by decide +kernel
theorem dX11_count_249 : decode cX11_count 249 = .ok (.ireturn, 1) := by decide +kernel
theorem dX11_good_0 : decode cX11_good 0 = .ok (.aload_n 0, 1) := by decide +kernel
theorem dX11_good_1 : decode cX11_good 1 = .ok (.invokevirtual 139, 3) := by decide +kernel
theorem dX11_good_4 : decode cX11_good 4 = .ok (.ifCond .eq 7, 3) := by decide +kernel
theorem dX11_good_7 : decode cX11_good 7 = .ok (.iconst 1, 1) := by decide +kernel
theorem dX11_good_8 : decode cX11_good 8 = .ok (.goto 4, 3) := by decide +kernel
theorem dX11_good_11 : decode cX11_good 11 = .ok (.iconst 0, 1) := by decide +kernel
theorem dX11_good_12 : decode cX11_good 12 = .ok (.ireturn, 1) := by decide +kernel
theorem dX11_step_0 : decode cX11_step 0 = .ok (.aload_n 0, 1) := by decide +kernel
theorem dX11_step_1 : decode cX11_step 1 = .ok (.getfield 110, 3) := by decide +kernel
theorem dX11_step_4 : decode cX11_step 4 = .ok (.istore_n 1, 1) := by decide +kernel
theorem dX11_step_5 : decode cX11_step 5 = .ok (.iload_n 1, 1) := by decide +kernel
theorem dX11_step_6 : decode cX11_step 6 = .ok (.iconst 1, 1) := by decide +kernel
theorem dX11_step_7 : decode cX11_step 7 = .ok (.if_icmp .lt 29, 3) := by decide +kernel
theorem dX11_step_10 : decode cX11_step 10 = .ok (.aload_n 0, 1) := by decide +kernel
theorem dX11_step_11 : decode cX11_step 11 = .ok (.getfield 13, 3) := by decide +kernel
theorem dX11_step_14 : decode cX11_step 14 = .ok (.iload_n 1, 1) := by decide +kernel
theorem dX11_step_15 : decode cX11_step 15 = .ok (.iaload, 1) := by decide +kernel
theorem dX11_step_16 : decode cX11_step 16 = .ok (.aload_n 0, 1) := by decide +kernel
theorem dX11_step_17 : decode cX11_step 17 = .ok (.getfield 7, 3) := by decide +kernel
theorem dX11_step_20 : decode cX11_step 20 = .ok (.if_icmp .ne 16, 3) := by decide +kernel
theorem dX11_step_23 : decode cX11_step 23 = .ok (.aload_n 0, 1) := by decide +kernel
theorem dX11_step_24 : decode cX11_step 24 = .ok (.getfield 13, 3) := by decide +kernel
theorem dX11_step_27 : decode cX11_step 27 = .ok (.iload_n 1, 1) := by decide +kernel
theorem dX11_step_28 : decode cX11_step 28 = .ok (.iconst 1, 1) := by decide +kernel
theorem dX11_step_29 : decode cX11_step 29 = .ok (.iastore, 1) := by decide +kernel
theorem dX11_step_30 : decode cX11_step 30 = .ok (.iinc 1 (-1), 3) := by decide +kernel
theorem dX11_step_33 : decode cX11_step 33 = .ok (.goto (-28), 3) := by decide +kernel
theorem dX11_step_36 : decode cX11_step 36 = .ok (.iload_n 1, 1) := by decide +kernel
theorem dX11_step_37 : decode cX11_step 37 = .ok (.iconst 1, 1) := by decide +kernel
theorem dX11_step_38 : decode cX11_step 38 = .ok (.if_icmp .lt 13, 3) := by decide +kernel
theorem dX11_step_41 : decode cX11_step 41 = .ok (.aload_n 0, 1) := by decide +kernel
theorem dX11_step_42 : decode cX11_step 42 = .ok (.getfield 13, 3) := by decide +kernel
theorem dX11_step_45 : decode cX11_step 45 = .ok (.iload_n 1, 1) := by decide +kernel
theorem dX11_step_46 : decode cX11_step 46 = .ok (.dup2, 1) := by decide +kernel
theorem dX11_step_47 : decode cX11_step 47 = .ok (.iaload, 1) := by decide +kernel
theorem dX11_step_48 : decode cX11_step 48 = .ok (.iconst 1, 1) := by decide +kernel
theorem dX11_step_49 : decode cX11_step 49 = .ok (.iadd, 1) := by decide +kernel
theorem dX11_step_50 : decode cX11_step 50 = .ok (.iastore, 1) := by decide +kernel
theorem dX11_step_51 : decode cX11_step 51 = .ok (.iload_n 1, 1) := by decide +kernel
theorem dX11_step_52 : decode cX11_step 52 = .ok (.iconst 1, 1) := by decide +kernel
theorem dX11_step_53 : decode cX11_step 53 = .ok (.if_icmp .lt 7, 3) := by decide +kernel
theorem dX11_step_56 : decode cX11_step 56 = .ok (.iconst 1, 1) := by decide +kernel
theorem dX11_step_57 : decode cX11_step 57 = .ok (.goto 4, 3) := by decide +kernel
theorem dX11_step_60 : decode cX11_step 60 = .ok (.iconst 0, 1) := by decide +kernel
theorem dX11_step_61 : decode cX11_step 61 = .ok (.ireturn, 1) := by decide +kernel
theorem dX11_ways_0 : decode cX11_ways 0 = .ok (.lconst 1, 1) := by decide +kernel
theorem dX11_ways_1 : decode cX11_ways 1 = .ok (.lstore_n 1, 1) := by decide +kernel
theorem dX11_ways_2 : decode cX11_ways 2 = .ok (.iconst 1, 1) := by decide +kernel
theorem dX11_ways_3 : decode cX11_ways 3 = .ok (.istore_n 3, 1) := by decide +kernel
theorem dX11_ways_4 : decode cX11_ways 4 = .ok (.iload_n 3, 1) := by decide +kernel
theorem dX11_ways_5 : decode cX11_ways 5 = .ok (.aload_n 0, 1) := by decide +kernel
theorem dX11_ways_6 : decode cX11_ways 6 = .ok (.getfield 110, 3) := by decide +kernel
theorem dX11_ways_9 : decode cX11_ways 9 = .ok (.if_icmp .gt 17, 3) := by decide +kernel
theorem dX11_ways_12 : decode cX11_ways 12 = .ok (.lload_n 1, 1) := by decide +kernel
theorem dX11_ways_13 : decode cX11_ways 13 = .ok (.aload_n 0, 1) := by decide +kernel
theorem dX11_ways_14 : decode cX11_ways 14 = .ok (.getfield 7, 3) := by decide +kernel
theorem dX11_ways_17 : decode cX11_ways 17 = .ok (.i2l, 1) := by decide +kernel
theorem dX11_ways_18 : decode cX11_ways 18 = .ok (.lmul, 1) := by decide +kernel
theorem dX11_ways_19 : decode cX11_ways 19 = .ok (.lstore_n 1, 1) := by decide +kernel
theorem dX11_ways_20 : decode cX11_ways 20 = .ok (.iinc 3 1, 3) := by decide +kernel
theorem dX11_ways_23 : decode cX11_ways 23 = .ok (.goto (-19), 3) := by decide +kernel
theorem dX11_ways_26 : decode cX11_ways 26 = .ok (.lload_n 1, 1) := by decide +kernel
theorem dX11_ways_27 : decode cX11_ways 27 = .ok (.ldc2_w 143, 3) := by decide +kernel
theorem dX11_ways_30 : decode cX11_ways 30 = .ok (.lcmp, 1) := by decide +kernel
theorem dX11_ways_31 : decode cX11_ways 31 = .ok (.ifCond .le 6, 3) := by decide +kernel
theorem dX11_ways_34 : decode cX11_ways 34 = .ok (.bipush (-2), 2) := by decide +kernel
theorem dX11_ways_36 : decode cX11_ways 36 = .ok (.ireturn, 1) := by decide +kernel
theorem dX11_ways_37 : decode cX11_ways 37 = .ok (.iconst 1, 1) := by decide +kernel
theorem dX11_ways_38 : decode cX11_ways 38 = .ok (.istore_n 3, 1) := by decide +kernel
theorem dX11_ways_39 : decode cX11_ways 39 = .ok (.iload_n 3, 1) := by decide +kernel
theorem dX11_ways_40 : decode cX11_ways 40 = .ok (.aload_n 0, 1) := by decide +kernel
theorem dX11_ways_41 : decode cX11_ways 41 = .ok (.getfield 110, 3) := by decide +kernel
theorem dX11_ways_44 : decode cX11_ways 44 = .ok (.if_icmp .gt 28, 3) := by decide +kernel
theorem dX11_ways_47 : decode cX11_ways 47 = .ok (.aload_n 0, 1) := by decide +kernel
theorem dX11_ways_48 : decode cX11_ways 48 = .ok (.getfield 26, 3) := by decide +kernel
theorem dX11_ways_51 : decode cX11_ways 51 = .ok (.iload_n 3, 1) := by decide +kernel
theorem dX11_ways_52 : decode cX11_ways 52 = .ok (.aload_n 0, 1) := by decide +kernel
theorem dX11_ways_53 : decode cX11_ways 53 = .ok (.getfield 13, 3) := by decide +kernel
theorem dX11_ways_56 : decode cX11_ways 56 = .ok (.iload_n 3, 1) := by decide +kernel
theorem dX11_ways_57 : decode cX11_ways 57 = .ok (.iaload, 1) := by decide +kernel
theorem dX11_ways_58 : decode cX11_ways 58 = .ok (.iastore, 1) := by decide +kernel
theorem dX11_ways_59 : decode cX11_ways 59 = .ok (.aload_n 0, 1) := by decide +kernel
theorem dX11_ways_60 : decode cX11_ways 60 = .ok (.getfield 13, 3) := by decide +kernel
theorem dX11_ways_63 : decode cX11_ways 63 = .ok (.iload_n 3, 1) := by decide +kernel
theorem dX11_ways_64 : decode cX11_ways 64 = .ok (.iconst 1, 1) := by decide +kernel
theorem dX11_ways_65 : decode cX11_ways 65 = .ok (.iastore, 1) := by decide +kernel
theorem dX11_ways_66 : decode cX11_ways 66 = .ok (.iinc 3 1, 3) := by decide +kernel
theorem dX11_ways_69 : decode cX11_ways 69 = .ok (.goto (-30), 3) := by decide +kernel
theorem dX11_ways_72 : decode cX11_ways 72 = .ok (.iconst 0, 1) := by decide +kernel
theorem dX11_ways_73 : decode cX11_ways 73 = .ok (.istore_n 3, 1) := by decide +kernel
theorem dX11_ways_74 : decode cX11_ways 74 = .ok (.iconst 1, 1) := by decide +kernel
theorem dX11_ways_75 : decode cX11_ways 75 = .ok (.istore 4, 2) := by decide +kernel
theorem dX11_ways_77 : decode cX11_ways 77 = .ok (.iload 4, 2) := by decide +kernel
theorem dX11_ways_79 : decode cX11_ways 79 = .ok (.ifCond .eq 27, 3) := by decide +kernel
theorem dX11_ways_82 : decode cX11_ways 82 = .ok (.iload_n 3, 1) := by decide +kernel
theorem dX11_ways_83 : decode cX11_ways 83 = .ok (.aload_n 0, 1) := by decide +kernel
theorem dX11_ways_84 : decode cX11_ways 84 = .ok (.invokevirtual 139, 3) := by decide +kernel
theorem dX11_ways_87 : decode cX11_ways 87 = .ok (.ifCond .eq 7, 3) := by decide +kernel
theorem dX11_ways_90 : decode cX11_ways 90 = .ok (.iconst 1, 1) := by decide +kernel
theorem dX11_ways_91 : decode cX11_ways 91 = .ok (.goto 4, 3) := by decide +kernel
theorem dX11_ways_94 : decode cX11_ways 94 = .ok (.iconst 0, 1) := by decide +kernel
theorem dX11_ways_95 : decode cX11_ways 95 = .ok (.iadd, 1) := by decide +kernel
theorem dX11_ways_96 : decode cX11_ways 96 = .ok (.istore_n 3, 1) := by decide +kernel
theorem dX11_ways_97 : decode cX11_ways 97 = .ok (.aload_n 0, 1) := by decide +kernel
theorem dX11_ways_98 : decode cX11_ways 98 = .ok (.invokevirtual 145, 3) := by decide +kernel
theorem dX11_ways_101 : decode cX11_ways 101 = .ok (.istore 4, 2) := by decide +kernel
theorem dX11_ways_103 : decode cX11_ways 103 = .ok (.goto (-26), 3) := by decide +kernel
theorem dX11_ways_106 : decode cX11_ways 106 = .ok (.iconst 1, 1) := by decide +kernel
theorem dX11_ways_107 : decode cX11_ways 107 = .ok (.istore 5, 2) := by decide +kernel
theorem dX11_ways_109 : decode cX11_ways 109 = .ok (.iload 5, 2) := by decide +kernel
theorem dX11_ways_111 : decode cX11_ways 111 = .ok (.aload_n 0, 1) := by decide +kernel
theorem dX11_ways_112 : decode cX11_ways 112 = .ok (.getfield 110, 3) := by decide +kernel
theorem dX11_ways_115 : decode cX11_ways 115 = .ok (.if_icmp .gt 23, 3) := by decide +kernel
theorem dX11_ways_118 : decode cX11_ways 118 = .ok (.aload_n 0, 1) := by decide +kernel
theorem dX11_ways_119 : decode cX11_ways 119 = .ok (.getfield 13, 3) := by decide +kernel
theorem dX11_ways_122 : decode cX11_ways 122 = .ok (.iload 5, 2) := by decide +kernel
theorem dX11_ways_124 : decode cX11_ways 124 = .ok (.aload_n 0, 1) := by decide +kernel
theorem dX11_ways_125 : decode cX11_ways 125 = .ok (.getfield 26, 3) := by decide +kernel
theorem dX11_ways_128 : decode cX11_ways 128 = .ok (.iload 5, 2) := by decide +kernel
theorem dX11_ways_130 : decode cX11_ways 130 = .ok (.iaload, 1) := by decide +kernel
theorem dX11_ways_131 : decode cX11_ways 131 = .ok (.iastore, 1) := by decide +kernel
theorem dX11_ways_132 : decode cX11_ways 132 = .ok (.iinc 5 1, 3) := by decide +kernel
theorem dX11_ways_135 : decode cX11_ways 135 = .ok (.goto (-26), 3) := by decide +kernel
theorem dX11_ways_138 : decode cX11_ways 138 = .ok (.iload_n 3, 1) := by decide +kernel
theorem dX11_ways_139 : decode cX11_ways 139 = .ok (.ireturn, 1) := by decide +kernel
theorem dX11_choose_0 : decode cX11_choose 0 = .ok (.iload_n 2, 1) := by decide +kernel
theorem dX11_choose_1 : decode cX11_choose 1 = .ok (.i2l, 1) := by decide +kernel
theorem dX11_choose_2 : decode cX11_choose 2 = .ok (.lconst 0, 1) := by decide +kernel
theorem dX11_choose_3 : decode cX11_choose 3 = .ok (.iload_n 1, 1) := by decide +kernel
theorem dX11_choose_4 : decode cX11_choose 4 = .ok (.i2l, 1) := by decide +kernel
theorem dX11_choose_5 : decode cX11_choose 5 = .ok (.invokestatic 96, 3) := by decide +kernel
theorem dX11_choose_8 : decode cX11_choose 8 = .ok (.ifCond .eq 17, 3) := by decide +kernel
theorem dX11_choose_11 : decode cX11_choose 11 = .ok (.aload_n 0, 1) := by decide +kernel
theorem dX11_choose_12 : decode cX11_choose 12 = .ok (.getfield 29, 3) := by decide +kernel
theorem dX11_choose_15 : decode cX11_choose 15 = .ok (.bipush 12, 2) := by decide +kernel
theorem dX11_choose_17 : decode cX11_choose 17 = .ok (.iload_n 1, 1) := by decide +kernel
theorem dX11_choose_18 : decode cX11_choose 18 = .ok (.imul, 1) := by decide +kernel
theorem dX11_choose_19 : decode cX11_choose 19 = .ok (.iload_n 2, 1) := by decide +kernel
theorem dX11_choose_20 : decode cX11_choose 20 = .ok (.iadd, 1) := by decide +kernel
theorem dX11_choose_21 : decode cX11_choose 21 = .ok (.laload, 1) := by decide +kernel
theorem dX11_choose_22 : decode cX11_choose 22 = .ok (.goto 4, 3) := by decide +kernel
theorem dX11_choose_25 : decode cX11_choose 25 = .ok (.lconst 0, 1) := by decide +kernel
theorem dX11_choose_26 : decode cX11_choose 26 = .ok (.lreturn, 1) := by decide +kernel
theorem dX11_power_0 : decode cX11_power 0 = .ok (.lconst 1, 1) := by decide +kernel
theorem dX11_power_1 : decode cX11_power 1 = .ok (.lstore_n 3, 1) := by decide +kernel
theorem dX11_power_2 : decode cX11_power 2 = .ok (.iconst 0, 1) := by decide +kernel
theorem dX11_power_3 : decode cX11_power 3 = .ok (.istore 5, 2) := by decide +kernel
theorem dX11_power_5 : decode cX11_power 5 = .ok (.iload 5, 2) := by decide +kernel
theorem dX11_power_7 : decode cX11_power 7 = .ok (.iload_n 2, 1) := by decide +kernel
theorem dX11_power_8 : decode cX11_power 8 = .ok (.if_icmp .ge 13, 3) := by decide +kernel
theorem dX11_power_11 : decode cX11_power 11 = .ok (.lload_n 3, 1) := by decide +kernel
theorem dX11_power_12 : decode cX11_power 12 = .ok (.lload_n 0, 1) := by decide +kernel
theorem dX11_power_13 : decode cX11_power 13 = .ok (.lmul, 1) := by decide +kernel
theorem dX11_power_14 : decode cX11_power 14 = .ok (.lstore_n 3, 1) := by decide +kernel
theorem dX11_power_15 : decode cX11_power 15 = .ok (.iinc 5 1, 3) := by decide +kernel
theorem dX11_power_18 : decode cX11_power 18 = .ok (.goto (-13), 3) := by decide +kernel
theorem dX11_power_21 : decode cX11_power 21 = .ok (.lload_n 3, 1) := by decide +kernel
theorem dX11_power_22 : decode cX11_power 22 = .ok (.lreturn, 1) := by decide +kernel
theorem dX11_finishes_0 : decode cX11_finishes 0 = .ok (.iconst 0, 1) := by decide +kernel
theorem dX11_finishes_1 : decode cX11_finishes 1 = .ok (.istore_n 3, 1) := by decide +kernel
theorem dX11_finishes_2 : decode cX11_finishes 2 = .ok (.iconst 0, 1) := by decide +kernel
theorem dX11_finishes_3 : decode cX11_finishes 3 = .ok (.istore 4, 2) := by decide +kernel
theorem dX11_finishes_5 : decode cX11_finishes 5 = .ok (.iload 4, 2) := by decide +kernel
theorem dX11_finishes_7 : decode cX11_finishes 7 = .ok (.iload_n 2, 1) := by decide +kernel
theorem dX11_finishes_8 : decode cX11_finishes 8 = .ok (.if_icmp .gt 33, 3) := by decide +kernel
theorem dX11_finishes_11 : decode cX11_finishes 11 = .ok (.aload_n 0, 1) := by decide +kernel
theorem dX11_finishes_12 : decode cX11_finishes 12 = .ok (.getfield 36, 3) := by decide +kernel
theorem dX11_finishes_15 : decode cX11_finishes 15 = .ok (.bipush 12, 2) := by decide +kernel
theorem dX11_finishes_17 : decode cX11_finishes 17 = .ok (.iload_n 1, 1) := by decide +kernel
theorem dX11_finishes_18 : decode cX11_finishes 18 = .ok (.iconst 1, 1) := by decide +kernel
theorem dX11_finishes_19 : decode cX11_finishes 19 = .ok (.iadd, 1) := by decide +kernel
theorem dX11_finishes_20 : decode cX11_finishes 20 = .ok (.imul, 1) := by decide +kernel
theorem dX11_finishes_21 : decode cX11_finishes 21 = .ok (.iload 4, 2) := by decide +kernel
theorem dX11_finishes_23 : decode cX11_finishes 23 = .ok (.iadd, 1) := by decide +kernel
theorem dX11_finishes_24 : decode cX11_finishes 24 = .ok (.iload 4, 2) := by decide +kernel
theorem dX11_finishes_26 : decode cX11_finishes 26 = .ok (.ifCond .ne 7, 3) := by decide +kernel
theorem dX11_finishes_29 : decode cX11_finishes 29 = .ok (.lconst 1, 1) := by decide +kernel
theorem dX11_finishes_30 : decode cX11_finishes 30 = .ok (.goto 4, 3) := by decide +kernel
theorem dX11_finishes_33 : decode cX11_finishes 33 = .ok (.lconst 0, 1) := by decide +kernel
theorem dX11_finishes_34 : decode cX11_finishes 34 = .ok (.lastore, 1) := by decide +kernel
theorem dX11_finishes_35 : decode cX11_finishes 35 = .ok (.iinc 4 1, 3) := by decide +kernel
theorem dX11_finishes_38 : decode cX11_finishes 38 = .ok (.goto (-33), 3) := by decide +kernel
theorem dX11_finishes_41 : decode cX11_finishes 41 = .ok (.iload_n 1, 1) := by decide +kernel
theorem dX11_finishes_42 : decode cX11_finishes 42 = .ok (.istore 4, 2) := by decide +kernel
theorem dX11_finishes_44 : decode cX11_finishes 44 = .ok (.iload 4, 2) := by decide +kernel
theorem dX11_finishes_46 : decode cX11_finishes 46 = .ok (.iconst 1, 1) := by decide +kernel
theorem dX11_finishes_47 : decode cX11_finishes 47 = .ok (.if_icmp .lt 122, 3) := by decide +kernel
theorem dX11_finishes_50 : decode cX11_finishes 50 = .ok (.iload_n 3, 1) := by decide +kernel
theorem dX11_finishes_51 : decode cX11_finishes 51 = .ok (.aload_n 0, 1) := by decide +kernel
theorem dX11_finishes_52 : decode cX11_finishes 52 = .ok (.getfield 33, 3) := by decide +kernel
theorem dX11_finishes_55 : decode cX11_finishes 55 = .ok (.iload 4, 2) := by decide +kernel
theorem dX11_finishes_57 : decode cX11_finishes 57 = .ok (.iaload, 1) := by decide +kernel
theorem dX11_finishes_58 : decode cX11_finishes 58 = .ok (.iadd, 1) := by decide +kernel
theorem dX11_finishes_59 : decode cX11_finishes 59 = .ok (.istore_n 3, 1) := by decide +kernel
theorem dX11_finishes_60 : decode cX11_finishes 60 = .ok (.iconst 0, 1) := by decide +kernel
theorem dX11_finishes_61 : decode cX11_finishes 61 = .ok (.istore 5, 2) := by decide +kernel
theorem dX11_finishes_63 : decode cX11_finishes 63 = .ok (.iload 5, 2) := by decide +kernel
theorem dX11_finishes_65 : decode cX11_finishes 65 = .ok (.iload_n 2, 1) := by decide +kernel
theorem dX11_finishes_66 : decode cX11_finishes 66 = .ok (.if_icmp .gt 97, 3) := by decide +kernel
theorem dX11_finishes_69 : decode cX11_finishes 69 = .ok (.lconst 0, 1) := by decide +kernel
theorem dX11_finishes_70 : decode cX11_finishes 70 = .ok (.lstore 6, 2) := by decide +kernel
theorem dX11_finishes_72 : decode cX11_finishes 72 = .ok (.iconst 0, 1) := by decide +kernel
theorem dX11_finishes_73 : decode cX11_finishes 73 = .ok (.istore 8, 2) := by decide +kernel
theorem dX11_finishes_75 : decode cX11_finishes 75 = .ok (.iload 8, 2) := by decide +kernel
theorem dX11_finishes_77 : decode cX11_finishes 77 = .ok (.iload 5, 2) := by decide +kernel
theorem dX11_finishes_79 : decode cX11_finishes 79 = .ok (.if_icmp .gt 46, 3) := by decide +kernel
theorem dX11_finishes_82 : decode cX11_finishes 82 = .ok (.lload 6, 2) := by decide +kernel
theorem dX11_finishes_84 : decode cX11_finishes 84 = .ok (.aload_n 0, 1) := by decide +kernel
theorem dX11_finishes_85 : decode cX11_finishes 85 = .ok (.getfield 36, 3) := by decide +kernel
theorem dX11_finishes_88 : decode cX11_finishes 88 = .ok (.bipush 12, 2) := by decide +kernel
theorem dX11_finishes_90 : decode cX11_finishes 90 = .ok (.iload 4, 2) := by decide +kernel
theorem dX11_finishes_92 : decode cX11_finishes 92 = .ok (.iconst 1, 1) := by decide +kernel
theorem dX11_finishes_93 : decode cX11_finishes 93 = .ok (.iadd, 1) := by decide +kernel
theorem dX11_finishes_94 : decode cX11_finishes 94 = .ok (.imul, 1) := by decide +kernel
theorem dX11_finishes_95 : decode cX11_finishes 95 = .ok (.iload 5, 2) := by decide +kernel
theorem dX11_finishes_97 : decode cX11_finishes 97 = .ok (.iadd, 1) := by decide +kernel
theorem dX11_finishes_98 : decode cX11_finishes 98 = .ok (.iload 8, 2) := by decide +kernel
theorem dX11_finishes_100 : decode cX11_finishes 100 = .ok (.isub, 1) := by decide +kernel
theorem dX11_finishes_101 : decode cX11_finishes 101 = .ok (.laload, 1) := by decide +kernel
theorem dX11_finishes_102 : decode cX11_finishes 102 = .ok (.aload_n 0, 1) := by decide +kernel
theorem dX11_finishes_103 : decode cX11_finishes 103 = .ok (.iload_n 2, 1) := by decide +kernel
theorem dX11_finishes_104 : decode cX11_finishes 104 = .ok (.iload 5, 2) := by decide +kernel
theorem dX11_finishes_106 : decode cX11_finishes 106 = .ok (.iload 8, 2) := by decide +kernel
theorem dX11_finishes_108 : decode cX11_finishes 108 = .ok (.isub, 1) := by decide +kernel
theorem dX11_finishes_109 : decode cX11_finishes 109 = .ok (.isub, 1) := by decide +kernel
theorem dX11_finishes_110 : decode cX11_finishes 110 = .ok (.iload 8, 2) := by decide +kernel
theorem dX11_finishes_112 : decode cX11_finishes 112 = .ok (.invokevirtual 148, 3) := by decide +kernel
theorem dX11_finishes_115 : decode cX11_finishes 115 = .ok (.lmul, 1) := by decide +kernel
theorem dX11_finishes_116 : decode cX11_finishes 116 = .ok (.ladd, 1) := by decide +kernel
theorem dX11_finishes_117 : decode cX11_finishes 117 = .ok (.lstore 6, 2) := by decide +kernel
theorem dX11_finishes_119 : decode cX11_finishes 119 = .ok (.iinc 8 1, 3) := by decide +kernel
theorem dX11_finishes_122 : decode cX11_finishes 122 = .ok (.goto (-47), 3) := by decide +kernel
theorem dX11_finishes_125 : decode cX11_finishes 125 = .ok (.aload_n 0, 1) := by decide +kernel
theorem dX11_finishes_126 : decode cX11_finishes 126 = .ok (.getfield 36, 3) := by decide +kernel
theorem dX11_finishes_129 : decode cX11_finishes 129 = .ok (.bipush 12, 2) := by decide +kernel
theorem dX11_finishes_131 : decode cX11_finishes 131 = .ok (.iload 4, 2) := by decide +kernel
theorem dX11_finishes_133 : decode cX11_finishes 133 = .ok (.imul, 1) := by decide +kernel
theorem dX11_finishes_134 : decode cX11_finishes 134 = .ok (.iload 5, 2) := by decide +kernel
theorem dX11_finishes_136 : decode cX11_finishes 136 = .ok (.iadd, 1) := by decide +kernel
theorem dX11_finishes_137 : decode cX11_finishes 137 = .ok (.iload 5, 2) := by decide +kernel
theorem dX11_finishes_139 : decode cX11_finishes 139 = .ok (.iload_n 3, 1) := by decide +kernel
theorem dX11_finishes_140 : decode cX11_finishes 140 = .ok (.iadd, 1) := by decide +kernel
theorem dX11_finishes_141 : decode cX11_finishes 141 = .ok (.iload_n 1, 1) := by decide +kernel
theorem dX11_finishes_142 : decode cX11_finishes 142 = .ok (.iload 4, 2) := by decide +kernel
theorem dX11_finishes_144 : decode cX11_finishes 144 = .ok (.isub, 1) := by decide +kernel
theorem dX11_finishes_145 : decode cX11_finishes 145 = .ok (.iconst 1, 1) := by decide +kernel
theorem dX11_finishes_146 : decode cX11_finishes 146 = .ok (.iadd, 1) := by decide +kernel
theorem dX11_finishes_147 : decode cX11_finishes 147 = .ok (.if_icmp .gt 8, 3) := by decide +kernel
theorem dX11_finishes_150 : decode cX11_finishes 150 = .ok (.lload 6, 2) := by decide +kernel
theorem dX11_finishes_152 : decode cX11_finishes 152 = .ok (.goto 4, 3) := by decide +kernel
theorem dX11_finishes_155 : decode cX11_finishes 155 = .ok (.lconst 0, 1) := by decide +kernel
theorem dX11_finishes_156 : decode cX11_finishes 156 = .ok (.lastore, 1) := by decide +kernel
theorem dX11_finishes_157 : decode cX11_finishes 157 = .ok (.iinc 5 1, 3) := by decide +kernel
theorem dX11_finishes_160 : decode cX11_finishes 160 = .ok (.goto (-97), 3) := by decide +kernel
theorem dX11_finishes_163 : decode cX11_finishes 163 = .ok (.iinc 4 (-1), 3) := by decide +kernel
theorem dX11_finishes_166 : decode cX11_finishes 166 = .ok (.goto (-122), 3) := by decide +kernel
theorem dX11_finishes_169 : decode cX11_finishes 169 = .ok (.aload_n 0, 1) := by decide +kernel
theorem dX11_finishes_170 : decode cX11_finishes 170 = .ok (.getfield 36, 3) := by decide +kernel
theorem dX11_finishes_173 : decode cX11_finishes 173 = .ok (.bipush 12, 2) := by decide +kernel
theorem dX11_finishes_175 : decode cX11_finishes 175 = .ok (.iload_n 2, 1) := by decide +kernel
theorem dX11_finishes_176 : decode cX11_finishes 176 = .ok (.iadd, 1) := by decide +kernel
theorem dX11_finishes_177 : decode cX11_finishes 177 = .ok (.laload, 1) := by decide +kernel
theorem dX11_finishes_178 : decode cX11_finishes 178 = .ok (.lreturn, 1) := by decide +kernel
theorem dX11_clearTold_0 : decode cX11_clearTold 0 = .ok (.iconst 0, 1) := by decide +kernel
theorem dX11_clearTold_1 : decode cX11_clearTold 1 = .ok (.istore_n 1, 1) := by decide +kernel
theorem dX11_clearTold_2 : decode cX11_clearTold 2 = .ok (.iload_n 1, 1) := by decide +kernel
theorem dX11_clearTold_3 : decode cX11_clearTold 3 = .ok (.bipush 12, 2) := by decide +kernel
theorem dX11_clearTold_5 : decode cX11_clearTold 5 = .ok (.if_icmp .ge 16, 3) := by decide +kernel
theorem dX11_clearTold_8 : decode cX11_clearTold 8 = .ok (.aload_n 0, 1) := by decide +kernel
theorem dX11_clearTold_9 : decode cX11_clearTold 9 = .ok (.getfield 33, 3) := by decide +kernel
theorem dX11_clearTold_12 : decode cX11_clearTold 12 = .ok (.iload_n 1, 1) := by decide +kernel
theorem dX11_clearTold_13 : decode cX11_clearTold 13 = .ok (.iconst 0, 1) := by decide +kernel
theorem dX11_clearTold_14 : decode cX11_clearTold 14 = .ok (.iastore, 1) := by decide +kernel
theorem dX11_clearTold_15 : decode cX11_clearTold 15 = .ok (.iinc 1 1, 3) := by decide +kernel
theorem dX11_clearTold_18 : decode cX11_clearTold 18 = .ok (.goto (-16), 3) := by decide +kernel
theorem dX11_clearTold_21 : decode cX11_clearTold 21 = .ok (.return_, 1) := by decide +kernel
theorem dX11_rowsOf_0 : decode cX11_rowsOf 0 = .ok (.aload_n 0, 1) := by decide +kernel
theorem dX11_rowsOf_1 : decode cX11_rowsOf 1 = .ok (.invokevirtual 152, 3) := by decide +kernel
theorem dX11_rowsOf_4 : decode cX11_rowsOf 4 = .ok (.aload_n 0, 1) := by decide +kernel
theorem dX11_rowsOf_5 : decode cX11_rowsOf 5 = .ok (.aload_n 0, 1) := by decide +kernel
theorem dX11_rowsOf_6 : decode cX11_rowsOf 6 = .ok (.getfield 7, 3) := by decide +kernel
theorem dX11_rowsOf_9 : decode cX11_rowsOf 9 = .ok (.iload_n 1, 1) := by decide +kernel
theorem dX11_rowsOf_10 : decode cX11_rowsOf 10 = .ok (.invokevirtual 155, 3) := by decide +kernel
theorem dX11_rowsOf_13 : decode cX11_rowsOf 13 = .ok (.lreturn, 1) := by decide +kernel
theorem dX11_rows_0 : decode cX11_rows 0 = .ok (.iload_n 1, 1) := by decide +kernel
theorem dX11_rows_1 : decode cX11_rows 1 = .ok (.i2l, 1) := by decide +kernel
theorem dX11_rows_2 : decode cX11_rows 2 = .ok (.lconst 0, 1) := by decide +kernel
theorem dX11_rows_3 : decode cX11_rows 3 = .ok (.aload_n 0, 1) := by decide +kernel
theorem dX11_rows_4 : decode cX11_rows 4 = .ok (.getfield 7, 3) := by decide +kernel
theorem dX11_rows_7 : decode cX11_rows 7 = .ok (.i2l, 1) := by decide +kernel
theorem dX11_rows_8 : decode cX11_rows 8 = .ok (.invokestatic 96, 3) := by decide +kernel
theorem dX11_rows_11 : decode cX11_rows 11 = .ok (.ifCond .eq 11, 3) := by decide +kernel
theorem dX11_rows_14 : decode cX11_rows 14 = .ok (.aload_n 0, 1) := by decide +kernel
theorem dX11_rows_15 : decode cX11_rows 15 = .ok (.iload_n 1, 1) := by decide +kernel
theorem dX11_rows_16 : decode cX11_rows 16 = .ok (.invokevirtual 158, 3) := by decide +kernel
theorem dX11_rows_19 : decode cX11_rows 19 = .ok (.goto 6, 3) := by decide +kernel
theorem dX11_rows_22 : decode cX11_rows 22 = .ok (.ldc2_w 162, 3) := by decide +kernel
theorem dX11_rows_25 : decode cX11_rows 25 = .ok (.lreturn, 1) := by decide +kernel
theorem dX11_isWell_0 : decode cX11_isWell 0 = .ok (.aload_n 0, 1) := by decide +kernel
theorem dX11_isWell_1 : decode cX11_isWell 1 = .ok (.invokevirtual 164, 3) := by decide +kernel
theorem dX11_isWell_4 : decode cX11_isWell 4 = .ok (.ifCond .eq 14, 3) := by decide +kernel
theorem dX11_isWell_7 : decode cX11_isWell 7 = .ok (.aload_n 0, 1) := by decide +kernel
theorem dX11_isWell_8 : decode cX11_isWell 8 = .ok (.invokevirtual 139, 3) := by decide +kernel
theorem dX11_isWell_11 : decode cX11_isWell 11 = .ok (.ifCond .eq 7, 3) := by decide +kernel
theorem dX11_isWell_14 : decode cX11_isWell 14 = .ok (.iconst 1, 1) := by decide +kernel
theorem dX11_isWell_15 : decode cX11_isWell 15 = .ok (.goto 4, 3) := by decide +kernel
theorem dX11_isWell_18 : decode cX11_isWell 18 = .ok (.iconst 0, 1) := by decide +kernel
theorem dX11_isWell_19 : decode cX11_isWell 19 = .ok (.ireturn, 1) := by decide +kernel
theorem dX11_rankOf_0 : decode cX11_rankOf 0 = .ok (.aload_n 0, 1) := by decide +kernel
theorem dX11_rankOf_1 : decode cX11_rankOf 1 = .ok (.invokevirtual 152, 3) := by decide +kernel
theorem dX11_rankOf_4 : decode cX11_rankOf 4 = .ok (.lconst 0, 1) := by decide +kernel
theorem dX11_rankOf_5 : decode cX11_rankOf 5 = .ok (.lstore_n 1, 1) := by decide +kernel
theorem dX11_rankOf_6 : decode cX11_rankOf 6 = .ok (.iconst 1, 1) := by decide +kernel
theorem dX11_rankOf_7 : decode cX11_rankOf 7 = .ok (.istore_n 3, 1) := by decide +kernel
theorem dX11_rankOf_8 : decode cX11_rankOf 8 = .ok (.iload_n 3, 1) := by decide +kernel
theorem dX11_rankOf_9 : decode cX11_rankOf 9 = .ok (.aload_n 0, 1) := by decide +kernel
theorem dX11_rankOf_10 : decode cX11_rankOf 10 = .ok (.getfield 110, 3) := by decide +kernel
theorem dX11_rankOf_13 : decode cX11_rankOf 13 = .ok (.if_icmp .gt 83, 3) := by decide +kernel
theorem dX11_rankOf_16 : decode cX11_rankOf 16 = .ok (.iconst 1, 1) := by decide +kernel
theorem dX11_rankOf_17 : decode cX11_rankOf 17 = .ok (.istore 4, 2) := by decide +kernel
theorem dX11_rankOf_19 : decode cX11_rankOf 19 = .ok (.iload 4, 2) := by decide +kernel
theorem dX11_rankOf_21 : decode cX11_rankOf 21 = .ok (.aload_n 0, 1) := by decide +kernel
theorem dX11_rankOf_22 : decode cX11_rankOf 22 = .ok (.getfield 13, 3) := by decide +kernel
theorem dX11_rankOf_25 : decode cX11_rankOf 25 = .ok (.iload_n 3, 1) := by decide +kernel
theorem dX11_rankOf_26 : decode cX11_rankOf 26 = .ok (.iaload, 1) := by decide +kernel
theorem dX11_rankOf_27 : decode cX11_rankOf 27 = .ok (.if_icmp .ge 48, 3) := by decide +kernel
theorem dX11_rankOf_30 : decode cX11_rankOf 30 = .ok (.aload_n 0, 1) := by decide +kernel
theorem dX11_rankOf_31 : decode cX11_rankOf 31 = .ok (.getfield 33, 3) := by decide +kernel
theorem dX11_rankOf_34 : decode cX11_rankOf 34 = .ok (.iload 4, 2) := by decide +kernel
theorem dX11_rankOf_36 : decode cX11_rankOf 36 = .ok (.dup2, 1) := by decide +kernel
theorem dX11_rankOf_37 : decode cX11_rankOf 37 = .ok (.iaload, 1) := by decide +kernel
theorem dX11_rankOf_38 : decode cX11_rankOf 38 = .ok (.iconst 1, 1) := by decide +kernel
theorem dX11_rankOf_39 : decode cX11_rankOf 39 = .ok (.iadd, 1) := by decide +kernel
theorem dX11_rankOf_40 : decode cX11_rankOf 40 = .ok (.iastore, 1) := by decide +kernel
theorem dX11_rankOf_41 : decode cX11_rankOf 41 = .ok (.lload_n 1, 1) := by decide +kernel
theorem dX11_rankOf_42 : decode cX11_rankOf 42 = .ok (.aload_n 0, 1) := by decide +kernel
theorem dX11_rankOf_43 : decode cX11_rankOf 43 = .ok (.aload_n 0, 1) := by decide +kernel
theorem dX11_rankOf_44 : decode cX11_rankOf 44 = .ok (.getfield 7, 3) := by decide +kernel
theorem dX11_rankOf_47 : decode cX11_rankOf 47 = .ok (.aload_n 0, 1) := by decide +kernel
theorem dX11_rankOf_48 : decode cX11_rankOf 48 = .ok (.getfield 110, 3) := by decide +kernel
theorem dX11_rankOf_51 : decode cX11_rankOf 51 = .ok (.iload_n 3, 1) := by decide +kernel
theorem dX11_rankOf_52 : decode cX11_rankOf 52 = .ok (.isub, 1) := by decide +kernel
theorem dX11_rankOf_53 : decode cX11_rankOf 53 = .ok (.invokevirtual 155, 3) := by decide +kernel
theorem dX11_rankOf_56 : decode cX11_rankOf 56 = .ok (.ladd, 1) := by decide +kernel
theorem dX11_rankOf_57 : decode cX11_rankOf 57 = .ok (.lstore_n 1, 1) := by decide +kernel
theorem dX11_rankOf_58 : decode cX11_rankOf 58 = .ok (.aload_n 0, 1) := by decide +kernel
theorem dX11_rankOf_59 : decode cX11_rankOf 59 = .ok (.getfield 33, 3) := by decide +kernel
theorem dX11_rankOf_62 : decode cX11_rankOf 62 = .ok (.iload 4, 2) := by decide +kernel
theorem dX11_rankOf_64 : decode cX11_rankOf 64 = .ok (.dup2, 1) := by decide +kernel
theorem dX11_rankOf_65 : decode cX11_rankOf 65 = .ok (.iaload, 1) := by decide +kernel
theorem dX11_rankOf_66 : decode cX11_rankOf 66 = .ok (.iconst 1, 1) := by decide +kernel
theorem dX11_rankOf_67 : decode cX11_rankOf 67 = .ok (.isub, 1) := by decide +kernel
theorem dX11_rankOf_68 : decode cX11_rankOf 68 = .ok (.iastore, 1) := by decide +kernel
theorem dX11_rankOf_69 : decode cX11_rankOf 69 = .ok (.iinc 4 1, 3) := by decide +kernel
theorem dX11_rankOf_72 : decode cX11_rankOf 72 = .ok (.goto (-53), 3) := by decide +kernel
theorem dX11_rankOf_75 : decode cX11_rankOf 75 = .ok (.aload_n 0, 1) := by decide +kernel
theorem dX11_rankOf_76 : decode cX11_rankOf 76 = .ok (.getfield 33, 3) := by decide +kernel
theorem dX11_rankOf_79 : decode cX11_rankOf 79 = .ok (.aload_n 0, 1) := by decide +kernel
theorem dX11_rankOf_80 : decode cX11_rankOf 80 = .ok (.getfield 13, 3) := by decide +kernel
theorem dX11_rankOf_83 : decode cX11_rankOf 83 = .ok (.iload_n 3, 1) := by decide +kernel
theorem dX11_rankOf_84 : decode cX11_rankOf 84 = .ok (.iaload, 1) := by decide +kernel
theorem dX11_rankOf_85 : decode cX11_rankOf 85 = .ok (.dup2, 1) := by decide +kernel
theorem dX11_rankOf_86 : decode cX11_rankOf 86 = .ok (.iaload, 1) := by decide +kernel
theorem dX11_rankOf_87 : decode cX11_rankOf 87 = .ok (.iconst 1, 1) := by decide +kernel
theorem dX11_rankOf_88 : decode cX11_rankOf 88 = .ok (.iadd, 1) := by decide +kernel
theorem dX11_rankOf_89 : decode cX11_rankOf 89 = .ok (.iastore, 1) := by decide +kernel
theorem dX11_rankOf_90 : decode cX11_rankOf 90 = .ok (.iinc 3 1, 3) := by decide +kernel
theorem dX11_rankOf_93 : decode cX11_rankOf 93 = .ok (.goto (-85), 3) := by decide +kernel
theorem dX11_rankOf_96 : decode cX11_rankOf 96 = .ok (.lload_n 1, 1) := by decide +kernel
theorem dX11_rankOf_97 : decode cX11_rankOf 97 = .ok (.lreturn, 1) := by decide +kernel
theorem dX11_rank_0 : decode cX11_rank 0 = .ok (.aload_n 0, 1) := by decide +kernel
theorem dX11_rank_1 : decode cX11_rank 1 = .ok (.invokevirtual 167, 3) := by decide +kernel
theorem dX11_rank_4 : decode cX11_rank 4 = .ok (.ifCond .eq 10, 3) := by decide +kernel
theorem dX11_rank_7 : decode cX11_rank 7 = .ok (.aload_n 0, 1) := by decide +kernel
theorem dX11_rank_8 : decode cX11_rank 8 = .ok (.invokevirtual 170, 3) := by decide +kernel
theorem dX11_rank_11 : decode cX11_rank 11 = .ok (.goto 6, 3) := by decide +kernel
theorem dX11_rank_14 : decode cX11_rank 14 = .ok (.ldc2_w 174, 3) := by decide +kernel
theorem dX11_rank_17 : decode cX11_rank 17 = .ok (.lreturn, 1) := by decide +kernel
theorem dX11_fromRank_0 : decode cX11_fromRank 0 = .ok (.aload_n 0, 1) := by decide +kernel
theorem dX11_fromRank_1 : decode cX11_fromRank 1 = .ok (.invokevirtual 152, 3) := by decide +kernel
theorem dX11_fromRank_4 : decode cX11_fromRank 4 = .ok (.aload_n 0, 1) := by decide +kernel
theorem dX11_fromRank_5 : decode cX11_fromRank 5 = .ok (.iconst 0, 1) := by decide +kernel
theorem dX11_fromRank_6 : decode cX11_fromRank 6 = .ok (.putfield 110, 3) := by decide +kernel
theorem dX11_fromRank_9 : decode cX11_fromRank 9 = .ok (.lload_n 2, 1) := by decide +kernel
theorem dX11_fromRank_10 : decode cX11_fromRank 10 = .ok (.lstore 4, 2) := by decide +kernel
theorem dX11_fromRank_12 : decode cX11_fromRank 12 = .ok (.iconst 1, 1) := by decide +kernel
theorem dX11_fromRank_13 : decode cX11_fromRank 13 = .ok (.istore 6, 2) := by decide +kernel
theorem dX11_fromRank_15 : decode cX11_fromRank 15 = .ok (.iload 6, 2) := by decide +kernel
theorem dX11_fromRank_17 : decode cX11_fromRank 17 = .ok (.iload_n 1, 1) := by decide +kernel
theorem dX11_fromRank_18 : decode cX11_fromRank 18 = .ok (.if_icmp .gt 99, 3) := by decide +kernel
theorem dX11_fromRank_21 : decode cX11_fromRank 21 = .ok (.iconst 1, 1) := by decide +kernel
theorem dX11_fromRank_22 : decode cX11_fromRank 22 = .ok (.istore 7, 2) := by decide +kernel
theorem dX11_fromRank_24 : decode cX11_fromRank 24 = .ok (.aload_n 0, 1) := by decide +kernel
theorem dX11_fromRank_25 : decode cX11_fromRank 25 = .ok (.getfield 33, 3) := by decide +kernel
theorem dX11_fromRank_28 : decode cX11_fromRank 28 = .ok (.iconst 1, 1) := by decide +kernel
theorem dX11_fromRank_29 : decode cX11_fromRank 29 = .ok (.dup2, 1) := by decide +kernel
theorem dX11_fromRank_30 : decode cX11_fromRank 30 = .ok (.iaload, 1) := by decide +kernel
theorem dX11_fromRank_31 : decode cX11_fromRank 31 = .ok (.iconst 1, 1) := by decide +kernel
theorem dX11_fromRank_32 : decode cX11_fromRank 32 = .ok (.iadd, 1) := by decide +kernel
theorem dX11_fromRank_33 : decode cX11_fromRank 33 = .ok (.iastore, 1) := by decide +kernel
theorem dX11_fromRank_34 : decode cX11_fromRank 34 = .ok (.aload_n 0, 1) := by decide +kernel
theorem dX11_fromRank_35 : decode cX11_fromRank 35 = .ok (.aload_n 0, 1) := by decide +kernel
theorem dX11_fromRank_36 : decode cX11_fromRank 36 = .ok (.getfield 7, 3) := by decide +kernel
theorem dX11_fromRank_39 : decode cX11_fromRank 39 = .ok (.iload_n 1, 1) := by decide +kernel
theorem dX11_fromRank_40 : decode cX11_fromRank 40 = .ok (.iload 6, 2) := by decide +kernel
theorem dX11_fromRank_42 : decode cX11_fromRank 42 = .ok (.isub, 1) := by decide +kernel
theorem dX11_fromRank_43 : decode cX11_fromRank 43 = .ok (.invokevirtual 155, 3) := by decide +kernel
theorem dX11_fromRank_46 : decode cX11_fromRank 46 = .ok (.lstore 8, 2) := by decide +kernel
theorem dX11_fromRank_48 : decode cX11_fromRank 48 = .ok (.lload 4, 2) := by decide +kernel
theorem dX11_fromRank_50 : decode cX11_fromRank 50 = .ok (.lload 8, 2) := by decide +kernel
theorem dX11_fromRank_52 : decode cX11_fromRank 52 = .ok (.lcmp, 1) := by decide +kernel
theorem dX11_fromRank_53 : decode cX11_fromRank 53 = .ok (.ifCond .lt 52, 3) := by decide +kernel
theorem dX11_fromRank_56 : decode cX11_fromRank 56 = .ok (.lload 4, 2) := by decide +kernel
theorem dX11_fromRank_58 : decode cX11_fromRank 58 = .ok (.lload 8, 2) := by decide +kernel
theorem dX11_fromRank_60 : decode cX11_fromRank 60 = .ok (.lsub, 1) := by decide +kernel
theorem dX11_fromRank_61 : decode cX11_fromRank 61 = .ok (.lstore 4, 2) := by decide +kernel
theorem dX11_fromRank_63 : decode cX11_fromRank 63 = .ok (.aload_n 0, 1) := by decide +kernel
theorem dX11_fromRank_64 : decode cX11_fromRank 64 = .ok (.getfield 33, 3) := by decide +kernel
theorem dX11_fromRank_67 : decode cX11_fromRank 67 = .ok (.iload 7, 2) := by decide +kernel
theorem dX11_fromRank_69 : decode cX11_fromRank 69 = .ok (.dup2, 1) := by decide +kernel
theorem dX11_fromRank_70 : decode cX11_fromRank 70 = .ok (.iaload, 1) := by decide +kernel
theorem dX11_fromRank_71 : decode cX11_fromRank 71 = .ok (.iconst 1, 1) := by decide +kernel
theorem dX11_fromRank_72 : decode cX11_fromRank 72 = .ok (.isub, 1) := by decide +kernel
theorem dX11_fromRank_73 : decode cX11_fromRank 73 = .ok (.iastore, 1) := by decide +kernel
theorem dX11_fromRank_74 : decode cX11_fromRank 74 = .ok (.iinc 7 1, 3) := by decide +kernel
theorem dX11_fromRank_77 : decode cX11_fromRank 77 = .ok (.aload_n 0, 1) := by decide +kernel
theorem dX11_fromRank_78 : decode cX11_fromRank 78 = .ok (.getfield 33, 3) := by decide +kernel
theorem dX11_fromRank_81 : decode cX11_fromRank 81 = .ok (.iload 7, 2) := by decide +kernel
theorem dX11_fromRank_83 : decode cX11_fromRank 83 = .ok (.dup2, 1) := by decide +kernel
theorem dX11_fromRank_84 : decode cX11_fromRank 84 = .ok (.iaload, 1) := by decide +kernel
theorem dX11_fromRank_85 : decode cX11_fromRank 85 = .ok (.iconst 1, 1) := by decide +kernel
theorem dX11_fromRank_86 : decode cX11_fromRank 86 = .ok (.iadd, 1) := by decide +kernel
theorem dX11_fromRank_87 : decode cX11_fromRank 87 = .ok (.iastore, 1) := by decide +kernel
theorem dX11_fromRank_88 : decode cX11_fromRank 88 = .ok (.aload_n 0, 1) := by decide +kernel
theorem dX11_fromRank_89 : decode cX11_fromRank 89 = .ok (.aload_n 0, 1) := by decide +kernel
theorem dX11_fromRank_90 : decode cX11_fromRank 90 = .ok (.getfield 7, 3) := by decide +kernel
theorem dX11_fromRank_93 : decode cX11_fromRank 93 = .ok (.iload_n 1, 1) := by decide +kernel
theorem dX11_fromRank_94 : decode cX11_fromRank 94 = .ok (.iload 6, 2) := by decide +kernel
theorem dX11_fromRank_96 : decode cX11_fromRank 96 = .ok (.isub, 1) := by decide +kernel
theorem dX11_fromRank_97 : decode cX11_fromRank 97 = .ok (.invokevirtual 155, 3) := by decide +kernel
theorem dX11_fromRank_100 : decode cX11_fromRank 100 = .ok (.lstore 8, 2) := by decide +kernel
theorem dX11_fromRank_102 : decode cX11_fromRank 102 = .ok (.goto (-54), 3) := by decide +kernel
theorem dX11_fromRank_105 : decode cX11_fromRank 105 = .ok (.aload_n 0, 1) := by decide +kernel
theorem dX11_fromRank_106 : decode cX11_fromRank 106 = .ok (.iload 7, 2) := by decide +kernel
theorem dX11_fromRank_108 : decode cX11_fromRank 108 = .ok (.invokevirtual 113, 3) := by decide +kernel
theorem dX11_fromRank_111 : decode cX11_fromRank 111 = .ok (.iinc 6 1, 3) := by decide +kernel
theorem dX11_fromRank_114 : decode cX11_fromRank 114 = .ok (.goto (-99), 3) := by decide +kernel
theorem dX11_fromRank_117 : decode cX11_fromRank 117 = .ok (.return_, 1) := by decide +kernel
theorem dX11_unrank_0 : decode cX11_unrank 0 = .ok (.iload_n 1, 1) := by decide +kernel
theorem dX11_unrank_1 : decode cX11_unrank 1 = .ok (.i2l, 1) := by decide +kernel
theorem dX11_unrank_2 : decode cX11_unrank 2 = .ok (.lconst 0, 1) := by decide +kernel
theorem dX11_unrank_3 : decode cX11_unrank 3 = .ok (.aload_n 0, 1) := by decide +kernel
theorem dX11_unrank_4 : decode cX11_unrank 4 = .ok (.getfield 7, 3) := by decide +kernel
theorem dX11_unrank_7 : decode cX11_unrank 7 = .ok (.i2l, 1) := by decide +kernel
theorem dX11_unrank_8 : decode cX11_unrank 8 = .ok (.invokestatic 96, 3) := by decide +kernel
theorem dX11_unrank_11 : decode cX11_unrank 11 = .ok (.ifCond .eq 19, 3) := by decide +kernel
theorem dX11_unrank_14 : decode cX11_unrank 14 = .ok (.lload_n 2, 1) := by decide +kernel
theorem dX11_unrank_15 : decode cX11_unrank 15 = .ok (.lconst 0, 1) := by decide +kernel
theorem dX11_unrank_16 : decode cX11_unrank 16 = .ok (.lcmp, 1) := by decide +kernel
theorem dX11_unrank_17 : decode cX11_unrank 17 = .ok (.ifCond .lt 13, 3) := by decide +kernel
theorem dX11_unrank_20 : decode cX11_unrank 20 = .ok (.lload_n 2, 1) := by decide +kernel
theorem dX11_unrank_21 : decode cX11_unrank 21 = .ok (.aload_n 0, 1) := by decide +kernel
theorem dX11_unrank_22 : decode cX11_unrank 22 = .ok (.iload_n 1, 1) := by decide +kernel
theorem dX11_unrank_23 : decode cX11_unrank 23 = .ok (.invokevirtual 158, 3) := by decide +kernel
theorem dX11_unrank_26 : decode cX11_unrank 26 = .ok (.lcmp, 1) := by decide +kernel
theorem dX11_unrank_27 : decode cX11_unrank 27 = .ok (.ifCond .lt 5, 3) := by decide +kernel
theorem dX11_unrank_30 : decode cX11_unrank 30 = .ok (.iconst (-1), 1) := by decide +kernel
theorem dX11_unrank_31 : decode cX11_unrank 31 = .ok (.ireturn, 1) := by decide +kernel
theorem dX11_unrank_32 : decode cX11_unrank 32 = .ok (.aload_n 0, 1) := by decide +kernel
theorem dX11_unrank_33 : decode cX11_unrank 33 = .ok (.getfield 104, 3) := by decide +kernel
theorem dX11_unrank_36 : decode cX11_unrank 36 = .ok (.ifCond .eq 6, 3) := by decide +kernel
theorem dX11_unrank_39 : decode cX11_unrank 39 = .ok (.bipush (-2), 2) := by decide +kernel
theorem dX11_unrank_41 : decode cX11_unrank 41 = .ok (.ireturn, 1) := by decide +kernel
theorem dX11_unrank_42 : decode cX11_unrank 42 = .ok (.aload_n 0, 1) := by decide +kernel
theorem dX11_unrank_43 : decode cX11_unrank 43 = .ok (.iload_n 1, 1) := by decide +kernel
theorem dX11_unrank_44 : decode cX11_unrank 44 = .ok (.lload_n 2, 1) := by decide +kernel
theorem dX11_unrank_45 : decode cX11_unrank 45 = .ok (.invokevirtual 176, 3) := by decide +kernel
theorem dX11_unrank_48 : decode cX11_unrank 48 = .ok (.iload_n 1, 1) := by decide +kernel
theorem dX11_unrank_49 : decode cX11_unrank 49 = .ok (.ireturn, 1) := by decide +kernel
theorem dX11_next_0 : decode cX11_next 0 = .ok (.aload_n 0, 1) := by decide +kernel
theorem dX11_next_1 : decode cX11_next 1 = .ok (.invokevirtual 167, 3) := by decide +kernel
theorem dX11_next_4 : decode cX11_next 4 = .ok (.ifCond .ne 6, 3) := by decide +kernel
theorem dX11_next_7 : decode cX11_next 7 = .ok (.bipush (-2), 2) := by decide +kernel
theorem dX11_next_9 : decode cX11_next 9 = .ok (.ireturn, 1) := by decide +kernel
theorem dX11_next_10 : decode cX11_next 10 = .ok (.aload_n 0, 1) := by decide +kernel
theorem dX11_next_11 : decode cX11_next 11 = .ok (.invokevirtual 170, 3) := by decide +kernel
theorem dX11_next_14 : decode cX11_next 14 = .ok (.lconst 1, 1) := by decide +kernel
theorem dX11_next_15 : decode cX11_next 15 = .ok (.ladd, 1) := by decide +kernel
theorem dX11_next_16 : decode cX11_next 16 = .ok (.lstore_n 1, 1) := by decide +kernel
theorem dX11_next_17 : decode cX11_next 17 = .ok (.lload_n 1, 1) := by decide +kernel
theorem dX11_next_18 : decode cX11_next 18 = .ok (.aload_n 0, 1) := by decide +kernel
theorem dX11_next_19 : decode cX11_next 19 = .ok (.aload_n 0, 1) := by decide +kernel
theorem dX11_next_20 : decode cX11_next 20 = .ok (.getfield 110, 3) := by decide +kernel
theorem dX11_next_23 : decode cX11_next 23 = .ok (.invokevirtual 158, 3) := by decide +kernel
theorem dX11_next_26 : decode cX11_next 26 = .ok (.lcmp, 1) := by decide +kernel
theorem dX11_next_27 : decode cX11_next 27 = .ok (.ifCond .ne 6, 3) := by decide +kernel
theorem dX11_next_30 : decode cX11_next 30 = .ok (.bipush (-4), 2) := by decide +kernel
theorem dX11_next_32 : decode cX11_next 32 = .ok (.ireturn, 1) := by decide +kernel
theorem dX11_next_33 : decode cX11_next 33 = .ok (.aload_n 0, 1) := by decide +kernel
theorem dX11_next_34 : decode cX11_next 34 = .ok (.aload_n 0, 1) := by decide +kernel
theorem dX11_next_35 : decode cX11_next 35 = .ok (.getfield 110, 3) := by decide +kernel
theorem dX11_next_38 : decode cX11_next 38 = .ok (.lload_n 1, 1) := by decide +kernel
theorem dX11_next_39 : decode cX11_next 39 = .ok (.invokevirtual 176, 3) := by decide +kernel
theorem dX11_next_42 : decode cX11_next 42 = .ok (.iconst 1, 1) := by decide +kernel
theorem dX11_next_43 : decode cX11_next 43 = .ok (.ireturn, 1) := by decide +kernel
theorem dX11_like_0 : decode cX11_like 0 = .ok (.aload_n 0, 1) := by decide +kernel
theorem dX11_like_1 : decode cX11_like 1 = .ok (.invokevirtual 167, 3) := by decide +kernel
theorem dX11_like_4 : decode cX11_like 4 = .ok (.ifCond .ne 7, 3) := by decide +kernel
theorem dX11_like_7 : decode cX11_like 7 = .ok (.ldc2_w 174, 3) := by decide +kernel
theorem dX11_like_10 : decode cX11_like 10 = .ok (.lreturn, 1) := by decide +kernel
theorem dX11_like_11 : decode cX11_like 11 = .ok (.lconst 1, 1) := by decide +kernel
theorem dX11_like_12 : decode cX11_like 12 = .ok (.lstore_n 1, 1) := by decide +kernel
theorem dX11_like_13 : decode cX11_like 13 = .ok (.iconst 1, 1) := by decide +kernel
theorem dX11_like_14 : decode cX11_like 14 = .ok (.istore_n 3, 1) := by decide +kernel
theorem dX11_like_15 : decode cX11_like 15 = .ok (.iload_n 3, 1) := by decide +kernel
theorem dX11_like_16 : decode cX11_like 16 = .ok (.aload_n 0, 1) := by decide +kernel
theorem dX11_like_17 : decode cX11_like 17 = .ok (.getfield 110, 3) := by decide +kernel
theorem dX11_like_20 : decode cX11_like 20 = .ok (.if_icmp .gt 62, 3) := by decide +kernel
theorem dX11_like_23 : decode cX11_like 23 = .ok (.iconst 0, 1) := by decide +kernel
theorem dX11_like_24 : decode cX11_like 24 = .ok (.istore 4, 2) := by decide +kernel
theorem dX11_like_26 : decode cX11_like 26 = .ok (.aload_n 0, 1) := by decide +kernel
theorem dX11_like_27 : decode cX11_like 27 = .ok (.getfield 20, 3) := by decide +kernel
theorem dX11_like_30 : decode cX11_like 30 = .ok (.iload_n 3, 1) := by decide +kernel
theorem dX11_like_31 : decode cX11_like 31 = .ok (.iaload, 1) := by decide +kernel
theorem dX11_like_32 : decode cX11_like 32 = .ok (.istore 5, 2) := by decide +kernel
theorem dX11_like_34 : decode cX11_like 34 = .ok (.iload 5, 2) := by decide +kernel
theorem dX11_like_36 : decode cX11_like 36 = .ok (.iconst 1, 1) := by decide +kernel
theorem dX11_like_37 : decode cX11_like 37 = .ok (.if_icmp .lt 33, 3) := by decide +kernel
theorem dX11_like_40 : decode cX11_like 40 = .ok (.aload_n 0, 1) := by decide +kernel
theorem dX11_like_41 : decode cX11_like 41 = .ok (.getfield 23, 3) := by decide +kernel
theorem dX11_like_44 : decode cX11_like 44 = .ok (.iload 5, 2) := by decide +kernel
theorem dX11_like_46 : decode cX11_like 46 = .ok (.iaload, 1) := by decide +kernel
theorem dX11_like_47 : decode cX11_like 47 = .ok (.ifCond .eq 23, 3) := by decide +kernel
theorem dX11_like_50 : decode cX11_like 50 = .ok (.aload_n 0, 1) := by decide +kernel
theorem dX11_like_51 : decode cX11_like 51 = .ok (.getfield 23, 3) := by decide +kernel
theorem dX11_like_54 : decode cX11_like 54 = .ok (.iload 5, 2) := by decide +kernel
theorem dX11_like_56 : decode cX11_like 56 = .ok (.iaload, 1) := by decide +kernel
theorem dX11_like_57 : decode cX11_like 57 = .ok (.iload_n 3, 1) := by decide +kernel
theorem dX11_like_58 : decode cX11_like 58 = .ok (.if_icmp .gt 12, 3) := by decide +kernel
theorem dX11_like_61 : decode cX11_like 61 = .ok (.iinc 4 1, 3) := by decide +kernel
theorem dX11_like_64 : decode cX11_like 64 = .ok (.iinc 5 (-1), 3) := by decide +kernel
theorem dX11_like_67 : decode cX11_like 67 = .ok (.goto (-33), 3) := by decide +kernel
theorem dX11_like_70 : decode cX11_like 70 = .ok (.lload_n 1, 1) := by decide +kernel
theorem dX11_like_71 : decode cX11_like 71 = .ok (.iload 4, 2) := by decide +kernel
theorem dX11_like_73 : decode cX11_like 73 = .ok (.i2l, 1) := by decide +kernel
theorem dX11_like_74 : decode cX11_like 74 = .ok (.lmul, 1) := by decide +kernel
theorem dX11_like_75 : decode cX11_like 75 = .ok (.lstore_n 1, 1) := by decide +kernel
theorem dX11_like_76 : decode cX11_like 76 = .ok (.iinc 3 1, 3) := by decide +kernel
theorem dX11_like_79 : decode cX11_like 79 = .ok (.goto (-64), 3) := by decide +kernel
theorem dX11_like_82 : decode cX11_like 82 = .ok (.lload_n 1, 1) := by decide +kernel
theorem dX11_like_83 : decode cX11_like 83 = .ok (.lreturn, 1) := by decide +kernel
theorem dX11_orders_0 : decode cX11_orders 0 = .ok (.aload_n 0, 1) := by decide +kernel
theorem dX11_orders_1 : decode cX11_orders 1 = .ok (.getfield 104, 3) := by decide +kernel
theorem dX11_orders_4 : decode cX11_orders 4 = .ok (.ifCond .eq 7, 3) := by decide +kernel
theorem dX11_orders_7 : decode cX11_orders 7 = .ok (.ldc2_w 174, 3) := by decide +kernel
theorem dX11_orders_10 : decode cX11_orders 10 = .ok (.lreturn, 1) := by decide +kernel
theorem dX11_orders_11 : decode cX11_orders 11 = .ok (.lconst 1, 1) := by decide +kernel
theorem dX11_orders_12 : decode cX11_orders 12 = .ok (.lstore_n 1, 1) := by decide +kernel
theorem dX11_orders_13 : decode cX11_orders 13 = .ok (.aload_n 0, 1) := by decide +kernel
theorem dX11_orders_14 : decode cX11_orders 14 = .ok (.getfield 110, 3) := by decide +kernel
theorem dX11_orders_17 : decode cX11_orders 17 = .ok (.istore_n 3, 1) := by decide +kernel
theorem dX11_orders_18 : decode cX11_orders 18 = .ok (.iconst 1, 1) := by decide +kernel
theorem dX11_orders_19 : decode cX11_orders 19 = .ok (.istore 4, 2) := by decide +kernel
theorem dX11_orders_21 : decode cX11_orders 21 = .ok (.iload 4, 2) := by decide +kernel
theorem dX11_orders_23 : decode cX11_orders 23 = .ok (.aload_n 0, 1) := by decide +kernel
theorem dX11_orders_24 : decode cX11_orders 24 = .ok (.getfield 7, 3) := by decide +kernel
theorem dX11_orders_27 : decode cX11_orders 27 = .ok (.if_icmp .gt 67, 3) := by decide +kernel
theorem dX11_orders_30 : decode cX11_orders 30 = .ok (.iconst 0, 1) := by decide +kernel
theorem dX11_orders_31 : decode cX11_orders 31 = .ok (.istore 5, 2) := by decide +kernel
theorem dX11_orders_33 : decode cX11_orders 33 = .ok (.iconst 1, 1) := by decide +kernel
theorem dX11_orders_34 : decode cX11_orders 34 = .ok (.istore 6, 2) := by decide +kernel
theorem dX11_orders_36 : decode cX11_orders 36 = .ok (.iload 6, 2) := by decide +kernel
theorem dX11_orders_38 : decode cX11_orders 38 = .ok (.aload_n 0, 1) := by decide +kernel
theorem dX11_orders_39 : decode cX11_orders 39 = .ok (.getfield 110, 3) := by decide +kernel
theorem dX11_orders_42 : decode cX11_orders 42 = .ok (.if_icmp .gt 31, 3) := by decide +kernel
theorem dX11_orders_45 : decode cX11_orders 45 = .ok (.iload 5, 2) := by decide +kernel
theorem dX11_orders_47 : decode cX11_orders 47 = .ok (.aload_n 0, 1) := by decide +kernel
theorem dX11_orders_48 : decode cX11_orders 48 = .ok (.getfield 13, 3) := by decide +kernel
theorem dX11_orders_51 : decode cX11_orders 51 = .ok (.iload 6, 2) := by decide +kernel
theorem dX11_orders_53 : decode cX11_orders 53 = .ok (.iaload, 1) := by decide +kernel
theorem dX11_orders_54 : decode cX11_orders 54 = .ok (.iload 4, 2) := by decide +kernel
theorem dX11_orders_56 : decode cX11_orders 56 = .ok (.if_icmp .ne 7, 3) := by decide +kernel
theorem dX11_orders_59 : decode cX11_orders 59 = .ok (.iconst 1, 1) := by decide +kernel
theorem dX11_orders_60 : decode cX11_orders 60 = .ok (.goto 4, 3) := by decide +kernel
theorem dX11_orders_63 : decode cX11_orders 63 = .ok (.iconst 0, 1) := by decide +kernel
theorem dX11_orders_64 : decode cX11_orders 64 = .ok (.iadd, 1) := by decide +kernel
theorem dX11_orders_65 : decode cX11_orders 65 = .ok (.istore 5, 2) := by decide +kernel
theorem dX11_orders_67 : decode cX11_orders 67 = .ok (.iinc 6 1, 3) := by decide +kernel
theorem dX11_orders_70 : decode cX11_orders 70 = .ok (.goto (-34), 3) := by decide +kernel
theorem dX11_orders_73 : decode cX11_orders 73 = .ok (.lload_n 1, 1) := by decide +kernel
theorem dX11_orders_74 : decode cX11_orders 74 = .ok (.aload_n 0, 1) := by decide +kernel
theorem dX11_orders_75 : decode cX11_orders 75 = .ok (.iload_n 3, 1) := by decide +kernel
theorem dX11_orders_76 : decode cX11_orders 76 = .ok (.iload 5, 2) := by decide +kernel
theorem dX11_orders_78 : decode cX11_orders 78 = .ok (.invokevirtual 148, 3) := by decide +kernel
theorem dX11_orders_81 : decode cX11_orders 81 = .ok (.lmul, 1) := by decide +kernel
theorem dX11_orders_82 : decode cX11_orders 82 = .ok (.lstore_n 1, 1) := by decide +kernel
theorem dX11_orders_83 : decode cX11_orders 83 = .ok (.iload_n 3, 1) := by decide +kernel
theorem dX11_orders_84 : decode cX11_orders 84 = .ok (.iload 5, 2) := by decide +kernel
theorem dX11_orders_86 : decode cX11_orders 86 = .ok (.isub, 1) := by decide +kernel
theorem dX11_orders_87 : decode cX11_orders 87 = .ok (.istore_n 3, 1) := by decide +kernel
theorem dX11_orders_88 : decode cX11_orders 88 = .ok (.iinc 4 1, 3) := by decide +kernel
theorem dX11_orders_91 : decode cX11_orders 91 = .ok (.goto (-70), 3) := by decide +kernel
theorem dX11_orders_94 : decode cX11_orders 94 = .ok (.lload_n 1, 1) := by decide +kernel
theorem dX11_orders_95 : decode cX11_orders 95 = .ok (.lreturn, 1) := by decide +kernel
theorem dX11_sort_0 : decode cX11_sort 0 = .ok (.iconst 2, 1) := by decide +kernel
theorem dX11_sort_1 : decode cX11_sort 1 = .ok (.istore_n 1, 1) := by decide +kernel
theorem dX11_sort_2 : decode cX11_sort 2 = .ok (.iload_n 1, 1) := by decide +kernel
theorem dX11_sort_3 : decode cX11_sort 3 = .ok (.aload_n 0, 1) := by decide +kernel
theorem dX11_sort_4 : decode cX11_sort 4 = .ok (.getfield 110, 3) := by decide +kernel
theorem dX11_sort_7 : decode cX11_sort 7 = .ok (.if_icmp .gt 62, 3) := by decide +kernel
theorem dX11_sort_10 : decode cX11_sort 10 = .ok (.aload_n 0, 1) := by decide +kernel
theorem dX11_sort_11 : decode cX11_sort 11 = .ok (.getfield 13, 3) := by decide +kernel
theorem dX11_sort_14 : decode cX11_sort 14 = .ok (.iload_n 1, 1) := by decide +kernel
theorem dX11_sort_15 : decode cX11_sort 15 = .ok (.iaload, 1) := by decide +kernel
theorem dX11_sort_16 : decode cX11_sort 16 = .ok (.istore_n 2, 1) := by decide +kernel
theorem dX11_sort_17 : decode cX11_sort 17 = .ok (.iload_n 1, 1) := by decide +kernel
theorem dX11_sort_18 : decode cX11_sort 18 = .ok (.istore_n 3, 1) := by decide +kernel
theorem dX11_sort_19 : decode cX11_sort 19 = .ok (.iload_n 3, 1) := by decide +kernel
theorem dX11_sort_20 : decode cX11_sort 20 = .ok (.iconst 1, 1) := by decide +kernel
theorem dX11_sort_21 : decode cX11_sort 21 = .ok (.if_icmp .le 35, 3) := by decide +kernel
theorem dX11_sort_24 : decode cX11_sort 24 = .ok (.aload_n 0, 1) := by decide +kernel
theorem dX11_sort_25 : decode cX11_sort 25 = .ok (.getfield 13, 3) := by decide +kernel
theorem dX11_sort_28 : decode cX11_sort 28 = .ok (.iload_n 3, 1) := by decide +kernel
theorem dX11_sort_29 : decode cX11_sort 29 = .ok (.iconst 1, 1) := by decide +kernel
theorem dX11_sort_30 : decode cX11_sort 30 = .ok (.isub, 1) := by decide +kernel
theorem dX11_sort_31 : decode cX11_sort 31 = .ok (.iaload, 1) := by decide +kernel
theorem dX11_sort_32 : decode cX11_sort 32 = .ok (.iload_n 2, 1) := by decide +kernel
theorem dX11_sort_33 : decode cX11_sort 33 = .ok (.if_icmp .le 23, 3) := by decide +kernel
theorem dX11_sort_36 : decode cX11_sort 36 = .ok (.aload_n 0, 1) := by decide +kernel
theorem dX11_sort_37 : decode cX11_sort 37 = .ok (.getfield 13, 3) := by decide +kernel
theorem dX11_sort_40 : decode cX11_sort 40 = .ok (.iload_n 3, 1) := by decide +kernel
theorem dX11_sort_41 : decode cX11_sort 41 = .ok (.aload_n 0, 1) := by decide +kernel
theorem dX11_sort_42 : decode cX11_sort 42 = .ok (.getfield 13, 3) := by decide +kernel
theorem dX11_sort_45 : decode cX11_sort 45 = .ok (.iload_n 3, 1) := by decide +kernel
theorem dX11_sort_46 : decode cX11_sort 46 = .ok (.iconst 1, 1) := by decide +kernel
theorem dX11_sort_47 : decode cX11_sort 47 = .ok (.isub, 1) := by decide +kernel
theorem dX11_sort_48 : decode cX11_sort 48 = .ok (.iaload, 1) := by decide +kernel
theorem dX11_sort_49 : decode cX11_sort 49 = .ok (.iastore, 1) := by decide +kernel
theorem dX11_sort_50 : decode cX11_sort 50 = .ok (.iinc 3 (-1), 3) := by decide +kernel
theorem dX11_sort_53 : decode cX11_sort 53 = .ok (.goto (-34), 3) := by decide +kernel
theorem dX11_sort_56 : decode cX11_sort 56 = .ok (.aload_n 0, 1) := by decide +kernel
theorem dX11_sort_57 : decode cX11_sort 57 = .ok (.getfield 13, 3) := by decide +kernel
theorem dX11_sort_60 : decode cX11_sort 60 = .ok (.iload_n 3, 1) := by decide +kernel
theorem dX11_sort_61 : decode cX11_sort 61 = .ok (.iload_n 2, 1) := by decide +kernel
theorem dX11_sort_62 : decode cX11_sort 62 = .ok (.iastore, 1) := by decide +kernel
theorem dX11_sort_63 : decode cX11_sort 63 = .ok (.iinc 1 1, 3) := by decide +kernel
theorem dX11_sort_66 : decode cX11_sort 66 = .ok (.goto (-64), 3) := by decide +kernel
theorem dX11_sort_69 : decode cX11_sort 69 = .ok (.return_, 1) := by decide +kernel
theorem dX11_rise_0 : decode cX11_rise 0 = .ok (.iconst 1, 1) := by decide +kernel
theorem dX11_rise_1 : decode cX11_rise 1 = .ok (.istore_n 1, 1) := by decide +kernel
theorem dX11_rise_2 : decode cX11_rise 2 = .ok (.iload_n 1, 1) := by decide +kernel
theorem dX11_rise_3 : decode cX11_rise 3 = .ok (.aload_n 0, 1) := by decide +kernel
theorem dX11_rise_4 : decode cX11_rise 4 = .ok (.getfield 110, 3) := by decide +kernel
theorem dX11_rise_7 : decode cX11_rise 7 = .ok (.if_icmp .gt 21, 3) := by decide +kernel
theorem dX11_rise_10 : decode cX11_rise 10 = .ok (.aload_n 0, 1) := by decide +kernel
theorem dX11_rise_11 : decode cX11_rise 11 = .ok (.getfield 26, 3) := by decide +kernel
theorem dX11_rise_14 : decode cX11_rise 14 = .ok (.iload_n 1, 1) := by decide +kernel
theorem dX11_rise_15 : decode cX11_rise 15 = .ok (.aload_n 0, 1) := by decide +kernel
theorem dX11_rise_16 : decode cX11_rise 16 = .ok (.getfield 13, 3) := by decide +kernel
theorem dX11_rise_19 : decode cX11_rise 19 = .ok (.iload_n 1, 1) := by decide +kernel
theorem dX11_rise_20 : decode cX11_rise 20 = .ok (.iaload, 1) := by decide +kernel
theorem dX11_rise_21 : decode cX11_rise 21 = .ok (.iastore, 1) := by decide +kernel
theorem dX11_rise_22 : decode cX11_rise 22 = .ok (.iinc 1 1, 3) := by decide +kernel
theorem dX11_rise_25 : decode cX11_rise 25 = .ok (.goto (-23), 3) := by decide +kernel
theorem dX11_rise_28 : decode cX11_rise 28 = .ok (.aload_n 0, 1) := by decide +kernel
theorem dX11_rise_29 : decode cX11_rise 29 = .ok (.invokevirtual 180, 3) := by decide +kernel
theorem dX11_rise_32 : decode cX11_rise 32 = .ok (.iconst 0, 1) := by decide +kernel
theorem dX11_rise_33 : decode cX11_rise 33 = .ok (.istore_n 1, 1) := by decide +kernel
theorem dX11_rise_34 : decode cX11_rise 34 = .ok (.iconst 1, 1) := by decide +kernel
theorem dX11_rise_35 : decode cX11_rise 35 = .ok (.istore_n 2, 1) := by decide +kernel
theorem dX11_rise_36 : decode cX11_rise 36 = .ok (.iload_n 2, 1) := by decide +kernel
theorem dX11_rise_37 : decode cX11_rise 37 = .ok (.aload_n 0, 1) := by decide +kernel
theorem dX11_rise_38 : decode cX11_rise 38 = .ok (.getfield 110, 3) := by decide +kernel
theorem dX11_rise_41 : decode cX11_rise 41 = .ok (.if_icmp .gt 32, 3) := by decide +kernel
theorem dX11_rise_44 : decode cX11_rise 44 = .ok (.iload_n 1, 1) := by decide +kernel
theorem dX11_rise_45 : decode cX11_rise 45 = .ok (.aload_n 0, 1) := by decide +kernel
theorem dX11_rise_46 : decode cX11_rise 46 = .ok (.getfield 13, 3) := by decide +kernel
theorem dX11_rise_49 : decode cX11_rise 49 = .ok (.iload_n 2, 1) := by decide +kernel
theorem dX11_rise_50 : decode cX11_rise 50 = .ok (.iaload, 1) := by decide +kernel
theorem dX11_rise_51 : decode cX11_rise 51 = .ok (.aload_n 0, 1) := by decide +kernel
theorem dX11_rise_52 : decode cX11_rise 52 = .ok (.getfield 26, 3) := by decide +kernel
theorem dX11_rise_55 : decode cX11_rise 55 = .ok (.iload_n 2, 1) := by decide +kernel
theorem dX11_rise_56 : decode cX11_rise 56 = .ok (.iaload, 1) := by decide +kernel
theorem dX11_rise_57 : decode cX11_rise 57 = .ok (.if_icmp .ne 7, 3) := by decide +kernel
theorem dX11_rise_60 : decode cX11_rise 60 = .ok (.iconst 0, 1) := by decide +kernel
theorem dX11_rise_61 : decode cX11_rise 61 = .ok (.goto 4, 3) := by decide +kernel
theorem dX11_rise_64 : decode cX11_rise 64 = .ok (.iconst 1, 1) := by decide +kernel
theorem dX11_rise_65 : decode cX11_rise 65 = .ok (.iadd, 1) := by decide +kernel
theorem dX11_rise_66 : decode cX11_rise 66 = .ok (.istore_n 1, 1) := by decide +kernel
theorem dX11_rise_67 : decode cX11_rise 67 = .ok (.iinc 2 1, 3) := by decide +kernel
theorem dX11_rise_70 : decode cX11_rise 70 = .ok (.goto (-34), 3) := by decide +kernel
theorem dX11_rise_73 : decode cX11_rise 73 = .ok (.iload_n 1, 1) := by decide +kernel
theorem dX11_rise_74 : decode cX11_rise 74 = .ok (.ireturn, 1) := by decide +kernel
theorem dX11_findRising_0 : decode cX11_findRising 0 = .ok (.iconst 0, 1) := by decide +kernel
theorem dX11_findRising_1 : decode cX11_findRising 1 = .ok (.istore_n 2, 1) := by decide +kernel
theorem dX11_findRising_2 : decode cX11_findRising 2 = .ok (.iload_n 2, 1) := by decide +kernel
theorem dX11_findRising_3 : decode cX11_findRising 3 = .ok (.bipush 12, 2) := by decide +kernel
theorem dX11_findRising_5 : decode cX11_findRising 5 = .ok (.if_icmp .ge 23, 3) := by decide +kernel
theorem dX11_findRising_8 : decode cX11_findRising 8 = .ok (.aload_n 0, 1) := by decide +kernel
theorem dX11_findRising_9 : decode cX11_findRising 9 = .ok (.getfield 39, 3) := by decide +kernel
theorem dX11_findRising_12 : decode cX11_findRising 12 = .ok (.bipush 12, 2) := by decide +kernel
theorem dX11_findRising_14 : decode cX11_findRising 14 = .ok (.iload_n 1, 1) := by decide +kernel
theorem dX11_findRising_15 : decode cX11_findRising 15 = .ok (.iconst 1, 1) := by decide +kernel
theorem dX11_findRising_16 : decode cX11_findRising 16 = .ok (.iadd, 1) := by decide +kernel
theorem dX11_findRising_17 : decode cX11_findRising 17 = .ok (.imul, 1) := by decide +kernel
theorem dX11_findRising_18 : decode cX11_findRising 18 = .ok (.iload_n 2, 1) := by decide +kernel
theorem dX11_findRising_19 : decode cX11_findRising 19 = .ok (.iadd, 1) := by decide +kernel
theorem dX11_findRising_20 : decode cX11_findRising 20 = .ok (.lconst 1, 1) := by decide +kernel
theorem dX11_findRising_21 : decode cX11_findRising 21 = .ok (.lastore, 1) := by decide +kernel
theorem dX11_findRising_22 : decode cX11_findRising 22 = .ok (.iinc 2 1, 3) := by decide +kernel
theorem dX11_findRising_25 : decode cX11_findRising 25 = .ok (.goto (-23), 3) := by decide +kernel
theorem dX11_findRising_28 : decode cX11_findRising 28 = .ok (.iload_n 1, 1) := by decide +kernel
theorem dX11_findRising_29 : decode cX11_findRising 29 = .ok (.istore_n 2, 1) := by decide +kernel
theorem dX11_findRising_30 : decode cX11_findRising 30 = .ok (.iload_n 2, 1) := by decide +kernel
theorem dX11_findRising_31 : decode cX11_findRising 31 = .ok (.iconst 1, 1) := by decide +kernel
theorem dX11_findRising_32 : decode cX11_findRising 32 = .ok (.if_icmp .lt 91, 3) := by decide +kernel
theorem dX11_findRising_35 : decode cX11_findRising 35 = .ok (.bipush 11, 2) := by decide +kernel
theorem dX11_findRising_37 : decode cX11_findRising 37 = .ok (.istore_n 3, 1) := by decide +kernel
theorem dX11_findRising_38 : decode cX11_findRising 38 = .ok (.iload_n 3, 1) := by decide +kernel
theorem dX11_findRising_39 : decode cX11_findRising 39 = .ok (.iconst 1, 1) := by decide +kernel
theorem dX11_findRising_40 : decode cX11_findRising 40 = .ok (.if_icmp .lt 77, 3) := by decide +kernel
theorem dX11_findRising_43 : decode cX11_findRising 43 = .ok (.iload_n 3, 1) := by decide +kernel
theorem dX11_findRising_44 : decode cX11_findRising 44 = .ok (.aload_n 0, 1) := by decide +kernel
theorem dX11_findRising_45 : decode cX11_findRising 45 = .ok (.getfield 7, 3) := by decide +kernel
theorem dX11_findRising_48 : decode cX11_findRising 48 = .ok (.iload_n 1, 1) := by decide +kernel
theorem dX11_findRising_49 : decode cX11_findRising 49 = .ok (.isub, 1) := by decide +kernel
theorem dX11_findRising_50 : decode cX11_findRising 50 = .ok (.iload_n 2, 1) := by decide +kernel
theorem dX11_findRising_51 : decode cX11_findRising 51 = .ok (.iadd, 1) := by decide +kernel
theorem dX11_findRising_52 : decode cX11_findRising 52 = .ok (.if_icmp .gt 19, 3) := by decide +kernel
theorem dX11_findRising_55 : decode cX11_findRising 55 = .ok (.aload_n 0, 1) := by decide +kernel
theorem dX11_findRising_56 : decode cX11_findRising 56 = .ok (.getfield 39, 3) := by decide +kernel
theorem dX11_findRising_59 : decode cX11_findRising 59 = .ok (.bipush 12, 2) := by decide +kernel
theorem dX11_findRising_61 : decode cX11_findRising 61 = .ok (.iload_n 2, 1) := by decide +kernel
theorem dX11_findRising_62 : decode cX11_findRising 62 = .ok (.iconst 1, 1) := by decide +kernel
theorem dX11_findRising_63 : decode cX11_findRising 63 = .ok (.iadd, 1) := by decide +kernel
theorem dX11_findRising_64 : decode cX11_findRising 64 = .ok (.imul, 1) := by decide +kernel
theorem dX11_findRising_65 : decode cX11_findRising 65 = .ok (.iload_n 3, 1) := by decide +kernel
theorem dX11_findRising_66 : decode cX11_findRising 66 = .ok (.iadd, 1) := by decide +kernel
theorem dX11_findRising_67 : decode cX11_findRising 67 = .ok (.laload, 1) := by decide +kernel
theorem dX11_findRising_68 : decode cX11_findRising 68 = .ok (.goto 4, 3) := by decide +kernel
theorem dX11_findRising_71 : decode cX11_findRising 71 = .ok (.lconst 0, 1) := by decide +kernel
theorem dX11_findRising_72 : decode cX11_findRising 72 = .ok (.lstore 4, 2) := by decide +kernel
theorem dX11_findRising_74 : decode cX11_findRising 74 = .ok (.aload_n 0, 1) := by decide +kernel
theorem dX11_findRising_75 : decode cX11_findRising 75 = .ok (.getfield 39, 3) := by decide +kernel
theorem dX11_findRising_78 : decode cX11_findRising 78 = .ok (.bipush 12, 2) := by decide +kernel
theorem dX11_findRising_80 : decode cX11_findRising 80 = .ok (.iload_n 2, 1) := by decide +kernel
theorem dX11_findRising_81 : decode cX11_findRising 81 = .ok (.imul, 1) := by decide +kernel
theorem dX11_findRising_82 : decode cX11_findRising 82 = .ok (.iload_n 3, 1) := by decide +kernel
theorem dX11_findRising_83 : decode cX11_findRising 83 = .ok (.iadd, 1) := by decide +kernel
theorem dX11_findRising_84 : decode cX11_findRising 84 = .ok (.lload 4, 2) := by decide +kernel
theorem dX11_findRising_86 : decode cX11_findRising 86 = .ok (.iload_n 3, 1) := by decide +kernel
theorem dX11_findRising_87 : decode cX11_findRising 87 = .ok (.bipush 11, 2) := by decide +kernel
theorem dX11_findRising_89 : decode cX11_findRising 89 = .ok (.if_icmp .ge 19, 3) := by decide +kernel
theorem dX11_findRising_92 : decode cX11_findRising 92 = .ok (.aload_n 0, 1) := by decide +kernel
theorem dX11_findRising_93 : decode cX11_findRising 93 = .ok (.getfield 39, 3) := by decide +kernel
theorem dX11_findRising_96 : decode cX11_findRising 96 = .ok (.bipush 12, 2) := by decide +kernel
theorem dX11_findRising_98 : decode cX11_findRising 98 = .ok (.iload_n 2, 1) := by decide +kernel
theorem dX11_findRising_99 : decode cX11_findRising 99 = .ok (.imul, 1) := by decide +kernel
theorem dX11_findRising_100 : decode cX11_findRising 100 = .ok (.iload_n 3, 1) := by decide +kernel
theorem dX11_findRising_101 : decode cX11_findRising 101 = .ok (.iadd, 1) := by decide +kernel
theorem dX11_findRising_102 : decode cX11_findRising 102 = .ok (.iconst 1, 1) := by decide +kernel
theorem dX11_findRising_103 : decode cX11_findRising 103 = .ok (.iadd, 1) := by decide +kernel
theorem dX11_findRising_104 : decode cX11_findRising 104 = .ok (.laload, 1) := by decide +kernel
theorem dX11_findRising_105 : decode cX11_findRising 105 = .ok (.goto 4, 3) := by decide +kernel
theorem dX11_findRising_108 : decode cX11_findRising 108 = .ok (.lconst 0, 1) := by decide +kernel
theorem dX11_findRising_109 : decode cX11_findRising 109 = .ok (.ladd, 1) := by decide +kernel
theorem dX11_findRising_110 : decode cX11_findRising 110 = .ok (.lastore, 1) := by decide +kernel
theorem dX11_findRising_111 : decode cX11_findRising 111 = .ok (.iinc 3 (-1), 3) := by decide +kernel
theorem dX11_findRising_114 : decode cX11_findRising 114 = .ok (.goto (-76), 3) := by decide +kernel
theorem dX11_findRising_117 : decode cX11_findRising 117 = .ok (.iinc 2 (-1), 3) := by decide +kernel
theorem dX11_findRising_120 : decode cX11_findRising 120 = .ok (.goto (-90), 3) := by decide +kernel
theorem dX11_findRising_123 : decode cX11_findRising 123 = .ok (.return_, 1) := by decide +kernel
theorem dX11_risingsOf_0 : decode cX11_risingsOf 0 = .ok (.aload_n 0, 1) := by decide +kernel
theorem dX11_risingsOf_1 : decode cX11_risingsOf 1 = .ok (.iload_n 1, 1) := by decide +kernel
theorem dX11_risingsOf_2 : decode cX11_risingsOf 2 = .ok (.invokevirtual 183, 3) := by decide +kernel
theorem dX11_risingsOf_5 : decode cX11_risingsOf 5 = .ok (.aload_n 0, 1) := by decide +kernel
theorem dX11_risingsOf_6 : decode cX11_risingsOf 6 = .ok (.getfield 39, 3) := by decide +kernel
theorem dX11_risingsOf_9 : decode cX11_risingsOf 9 = .ok (.bipush 13, 2) := by decide +kernel
theorem dX11_risingsOf_11 : decode cX11_risingsOf 11 = .ok (.laload, 1) := by decide +kernel
theorem dX11_risingsOf_12 : decode cX11_risingsOf 12 = .ok (.lreturn, 1) := by decide +kernel
theorem dX11_risings_0 : decode cX11_risings 0 = .ok (.iload_n 1, 1) := by decide +kernel
theorem dX11_risings_1 : decode cX11_risings 1 = .ok (.i2l, 1) := by decide +kernel
theorem dX11_risings_2 : decode cX11_risings 2 = .ok (.lconst 0, 1) := by decide +kernel
theorem dX11_risings_3 : decode cX11_risings 3 = .ok (.aload_n 0, 1) := by decide +kernel
theorem dX11_risings_4 : decode cX11_risings 4 = .ok (.getfield 7, 3) := by decide +kernel
theorem dX11_risings_7 : decode cX11_risings 7 = .ok (.i2l, 1) := by decide +kernel
theorem dX11_risings_8 : decode cX11_risings 8 = .ok (.invokestatic 96, 3) := by decide +kernel
theorem dX11_risings_11 : decode cX11_risings 11 = .ok (.ifCond .eq 11, 3) := by decide +kernel
theorem dX11_risings_14 : decode cX11_risings 14 = .ok (.aload_n 0, 1) := by decide +kernel
theorem dX11_risings_15 : decode cX11_risings 15 = .ok (.iload_n 1, 1) := by decide +kernel
theorem dX11_risings_16 : decode cX11_risings 16 = .ok (.invokevirtual 186, 3) := by decide +kernel
theorem dX11_risings_19 : decode cX11_risings 19 = .ok (.goto 6, 3) := by decide +kernel
theorem dX11_risings_22 : decode cX11_risings 22 = .ok (.ldc2_w 162, 3) := by decide +kernel
theorem dX11_risings_25 : decode cX11_risings 25 = .ok (.lreturn, 1) := by decide +kernel
theorem dX11_riseRank_0 : decode cX11_riseRank 0 = .ok (.aload_n 0, 1) := by decide +kernel
theorem dX11_riseRank_1 : decode cX11_riseRank 1 = .ok (.invokevirtual 167, 3) := by decide +kernel
theorem dX11_riseRank_4 : decode cX11_riseRank 4 = .ok (.istore_n 1, 1) := by decide +kernel
theorem dX11_riseRank_5 : decode cX11_riseRank 5 = .ok (.iconst 2, 1) := by decide +kernel
theorem dX11_riseRank_6 : decode cX11_riseRank 6 = .ok (.istore_n 2, 1) := by decide +kernel
theorem dX11_riseRank_7 : decode cX11_riseRank 7 = .ok (.iload_n 2, 1) := by decide +kernel
theorem dX11_riseRank_8 : decode cX11_riseRank 8 = .ok (.aload_n 0, 1) := by decide +kernel
theorem dX11_riseRank_9 : decode cX11_riseRank 9 = .ok (.getfield 110, 3) := by decide +kernel
theorem dX11_riseRank_12 : decode cX11_riseRank 12 = .ok (.if_icmp .gt 36, 3) := by decide +kernel
theorem dX11_riseRank_15 : decode cX11_riseRank 15 = .ok (.iload_n 1, 1) := by decide +kernel
theorem dX11_riseRank_16 : decode cX11_riseRank 16 = .ok (.ifCond .eq 24, 3) := by decide +kernel
theorem dX11_riseRank_19 : decode cX11_riseRank 19 = .ok (.aload_n 0, 1) := by decide +kernel
theorem dX11_riseRank_20 : decode cX11_riseRank 20 = .ok (.getfield 13, 3) := by decide +kernel
theorem dX11_riseRank_23 : decode cX11_riseRank 23 = .ok (.iload_n 2, 1) := by decide +kernel
theorem dX11_riseRank_24 : decode cX11_riseRank 24 = .ok (.iaload, 1) := by decide +kernel
theorem dX11_riseRank_25 : decode cX11_riseRank 25 = .ok (.aload_n 0, 1) := by decide +kernel
theorem dX11_riseRank_26 : decode cX11_riseRank 26 = .ok (.getfield 13, 3) := by decide +kernel
theorem dX11_riseRank_29 : decode cX11_riseRank 29 = .ok (.iload_n 2, 1) := by decide +kernel
theorem dX11_riseRank_30 : decode cX11_riseRank 30 = .ok (.iconst 1, 1) := by decide +kernel
theorem dX11_riseRank_31 : decode cX11_riseRank 31 = .ok (.isub, 1) := by decide +kernel
theorem dX11_riseRank_32 : decode cX11_riseRank 32 = .ok (.iaload, 1) := by decide +kernel
theorem dX11_riseRank_33 : decode cX11_riseRank 33 = .ok (.if_icmp .lt 7, 3) := by decide +kernel
theorem dX11_riseRank_36 : decode cX11_riseRank 36 = .ok (.iconst 1, 1) := by decide +kernel
theorem dX11_riseRank_37 : decode cX11_riseRank 37 = .ok (.goto 4, 3) := by decide +kernel
theorem dX11_riseRank_40 : decode cX11_riseRank 40 = .ok (.iconst 0, 1) := by decide +kernel
theorem dX11_riseRank_41 : decode cX11_riseRank 41 = .ok (.istore_n 1, 1) := by decide +kernel
theorem dX11_riseRank_42 : decode cX11_riseRank 42 = .ok (.iinc 2 1, 3) := by decide +kernel
theorem dX11_riseRank_45 : decode cX11_riseRank 45 = .ok (.goto (-38), 3) := by decide +kernel
theorem dX11_riseRank_48 : decode cX11_riseRank 48 = .ok (.iload_n 1, 1) := by decide +kernel
theorem dX11_riseRank_49 : decode cX11_riseRank 49 = .ok (.ifCond .ne 7, 3) := by decide +kernel
theorem dX11_riseRank_52 : decode cX11_riseRank 52 = .ok (.ldc2_w 174, 3) := by decide +kernel
theorem dX11_riseRank_55 : decode cX11_riseRank 55 = .ok (.lreturn, 1) := by decide +kernel
theorem dX11_riseRank_56 : decode cX11_riseRank 56 = .ok (.aload_n 0, 1) := by decide +kernel
theorem dX11_riseRank_57 : decode cX11_riseRank 57 = .ok (.aload_n 0, 1) := by decide +kernel
theorem dX11_riseRank_58 : decode cX11_riseRank 58 = .ok (.getfield 110, 3) := by decide +kernel
theorem dX11_riseRank_61 : decode cX11_riseRank 61 = .ok (.invokevirtual 183, 3) := by decide +kernel
theorem dX11_riseRank_64 : decode cX11_riseRank 64 = .ok (.lconst 0, 1) := by decide +kernel
theorem dX11_riseRank_65 : decode cX11_riseRank 65 = .ok (.lstore_n 2, 1) := by decide +kernel
theorem dX11_riseRank_66 : decode cX11_riseRank 66 = .ok (.iconst 1, 1) := by decide +kernel
theorem dX11_riseRank_67 : decode cX11_riseRank 67 = .ok (.istore 4, 2) := by decide +kernel
theorem dX11_riseRank_69 : decode cX11_riseRank 69 = .ok (.iload 4, 2) := by decide +kernel
theorem dX11_riseRank_71 : decode cX11_riseRank 71 = .ok (.aload_n 0, 1) := by decide +kernel
theorem dX11_riseRank_72 : decode cX11_riseRank 72 = .ok (.getfield 110, 3) := by decide +kernel
theorem dX11_riseRank_75 : decode cX11_riseRank 75 = .ok (.if_icmp .gt 66, 3) := by decide +kernel
theorem dX11_riseRank_78 : decode cX11_riseRank 78 = .ok (.iload 4, 2) := by decide +kernel
theorem dX11_riseRank_80 : decode cX11_riseRank 80 = .ok (.iconst 1, 1) := by decide +kernel
theorem dX11_riseRank_81 : decode cX11_riseRank 81 = .ok (.if_icmp .ne 7, 3) := by decide +kernel
theorem dX11_riseRank_84 : decode cX11_riseRank 84 = .ok (.iconst 1, 1) := by decide +kernel
theorem dX11_riseRank_85 : decode cX11_riseRank 85 = .ok (.goto 12, 3) := by decide +kernel
theorem dX11_riseRank_88 : decode cX11_riseRank 88 = .ok (.aload_n 0, 1) := by decide +kernel
theorem dX11_riseRank_89 : decode cX11_riseRank 89 = .ok (.getfield 13, 3) := by decide +kernel
theorem dX11_riseRank_92 : decode cX11_riseRank 92 = .ok (.iload 4, 2) := by decide +kernel
theorem dX11_riseRank_94 : decode cX11_riseRank 94 = .ok (.iconst 1, 1) := by decide +kernel
theorem dX11_riseRank_95 : decode cX11_riseRank 95 = .ok (.isub, 1) := by decide +kernel
theorem dX11_riseRank_96 : decode cX11_riseRank 96 = .ok (.iaload, 1) := by decide +kernel
theorem dX11_riseRank_97 : decode cX11_riseRank 97 = .ok (.istore 5, 2) := by decide +kernel
theorem dX11_riseRank_99 : decode cX11_riseRank 99 = .ok (.iload 5, 2) := by decide +kernel
theorem dX11_riseRank_101 : decode cX11_riseRank 101 = .ok (.aload_n 0, 1) := by decide +kernel
theorem dX11_riseRank_102 : decode cX11_riseRank 102 = .ok (.getfield 13, 3) := by decide +kernel
theorem dX11_riseRank_105 : decode cX11_riseRank 105 = .ok (.iload 4, 2) := by decide +kernel
theorem dX11_riseRank_107 : decode cX11_riseRank 107 = .ok (.iaload, 1) := by decide +kernel
theorem dX11_riseRank_108 : decode cX11_riseRank 108 = .ok (.if_icmp .ge 27, 3) := by decide +kernel
theorem dX11_riseRank_111 : decode cX11_riseRank 111 = .ok (.lload_n 2, 1) := by decide +kernel
theorem dX11_riseRank_112 : decode cX11_riseRank 112 = .ok (.aload_n 0, 1) := by decide +kernel
theorem dX11_riseRank_113 : decode cX11_riseRank 113 = .ok (.getfield 39, 3) := by decide +kernel
theorem dX11_riseRank_116 : decode cX11_riseRank 116 = .ok (.bipush 12, 2) := by decide +kernel
theorem dX11_riseRank_118 : decode cX11_riseRank 118 = .ok (.iload 4, 2) := by decide +kernel
theorem dX11_riseRank_120 : decode cX11_riseRank 120 = .ok (.iconst 1, 1) := by decide +kernel
theorem dX11_riseRank_121 : decode cX11_riseRank 121 = .ok (.iadd, 1) := by decide +kernel
theorem dX11_riseRank_122 : decode cX11_riseRank 122 = .ok (.imul, 1) := by decide +kernel
theorem dX11_riseRank_123 : decode cX11_riseRank 123 = .ok (.iload 5, 2) := by decide +kernel
theorem dX11_riseRank_125 : decode cX11_riseRank 125 = .ok (.iadd, 1) := by decide +kernel
theorem dX11_riseRank_126 : decode cX11_riseRank 126 = .ok (.laload, 1) := by decide +kernel
theorem dX11_riseRank_127 : decode cX11_riseRank 127 = .ok (.ladd, 1) := by decide +kernel
theorem dX11_riseRank_128 : decode cX11_riseRank 128 = .ok (.lstore_n 2, 1) := by decide +kernel
theorem dX11_riseRank_129 : decode cX11_riseRank 129 = .ok (.iinc 5 1, 3) := by decide +kernel
theorem dX11_riseRank_132 : decode cX11_riseRank 132 = .ok (.goto (-33), 3) := by decide +kernel
theorem dX11_riseRank_135 : decode cX11_riseRank 135 = .ok (.iinc 4 1, 3) := by decide +kernel
theorem dX11_riseRank_138 : decode cX11_riseRank 138 = .ok (.goto (-69), 3) := by decide +kernel
theorem dX11_riseRank_141 : decode cX11_riseRank 141 = .ok (.lload_n 2, 1) := by decide +kernel
theorem dX11_riseRank_142 : decode cX11_riseRank 142 = .ok (.lreturn, 1) := by decide +kernel
theorem dX11_riseUnrank_0 : decode cX11_riseUnrank 0 = .ok (.iload_n 1, 1) := by decide +kernel
theorem dX11_riseUnrank_1 : decode cX11_riseUnrank 1 = .ok (.i2l, 1) := by decide +kernel
theorem dX11_riseUnrank_2 : decode cX11_riseUnrank 2 = .ok (.lconst 0, 1) := by decide +kernel
theorem dX11_riseUnrank_3 : decode cX11_riseUnrank 3 = .ok (.aload_n 0, 1) := by decide +kernel
theorem dX11_riseUnrank_4 : decode cX11_riseUnrank 4 = .ok (.getfield 7, 3) := by decide +kernel
theorem dX11_riseUnrank_7 : decode cX11_riseUnrank 7 = .ok (.i2l, 1) := by decide +kernel
theorem dX11_riseUnrank_8 : decode cX11_riseUnrank 8 = .ok (.invokestatic 96, 3) := by decide +kernel
theorem dX11_riseUnrank_11 : decode cX11_riseUnrank 11 = .ok (.ifCond .eq 19, 3) := by decide +kernel
theorem dX11_riseUnrank_14 : decode cX11_riseUnrank 14 = .ok (.lload_n 2, 1) := by decide +kernel
theorem dX11_riseUnrank_15 : decode cX11_riseUnrank 15 = .ok (.lconst 0, 1) := by decide +kernel
theorem dX11_riseUnrank_16 : decode cX11_riseUnrank 16 = .ok (.lcmp, 1) := by decide +kernel
theorem dX11_riseUnrank_17 : decode cX11_riseUnrank 17 = .ok (.ifCond .lt 13, 3) := by decide +kernel
theorem dX11_riseUnrank_20 : decode cX11_riseUnrank 20 = .ok (.lload_n 2, 1) := by decide +kernel
theorem dX11_riseUnrank_21 : decode cX11_riseUnrank 21 = .ok (.aload_n 0, 1) := by decide +kernel
theorem dX11_riseUnrank_22 : decode cX11_riseUnrank 22 = .ok (.iload_n 1, 1) := by decide +kernel
theorem dX11_riseUnrank_23 : decode cX11_riseUnrank 23 = .ok (.invokevirtual 186, 3) := by decide +kernel
theorem dX11_riseUnrank_26 : decode cX11_riseUnrank 26 = .ok (.lcmp, 1) := by decide +kernel
theorem dX11_riseUnrank_27 : decode cX11_riseUnrank 27 = .ok (.ifCond .lt 5, 3) := by decide +kernel
theorem dX11_riseUnrank_30 : decode cX11_riseUnrank 30 = .ok (.iconst (-1), 1) := by decide +kernel
theorem dX11_riseUnrank_31 : decode cX11_riseUnrank 31 = .ok (.ireturn, 1) := by decide +kernel
theorem dX11_riseUnrank_32 : decode cX11_riseUnrank 32 = .ok (.aload_n 0, 1) := by decide +kernel
theorem dX11_riseUnrank_33 : decode cX11_riseUnrank 33 = .ok (.getfield 104, 3) := by decide +kernel
theorem dX11_riseUnrank_36 : decode cX11_riseUnrank 36 = .ok (.ifCond .eq 6, 3) := by decide +kernel
theorem dX11_riseUnrank_39 : decode cX11_riseUnrank 39 = .ok (.bipush (-2), 2) := by decide +kernel
theorem dX11_riseUnrank_41 : decode cX11_riseUnrank 41 = .ok (.ireturn, 1) := by decide +kernel
theorem dX11_riseUnrank_42 : decode cX11_riseUnrank 42 = .ok (.aload_n 0, 1) := by decide +kernel
theorem dX11_riseUnrank_43 : decode cX11_riseUnrank 43 = .ok (.iload_n 1, 1) := by decide +kernel
theorem dX11_riseUnrank_44 : decode cX11_riseUnrank 44 = .ok (.invokevirtual 183, 3) := by decide +kernel
theorem dX11_riseUnrank_47 : decode cX11_riseUnrank 47 = .ok (.aload_n 0, 1) := by decide +kernel
theorem dX11_riseUnrank_48 : decode cX11_riseUnrank 48 = .ok (.iconst 0, 1) := by decide +kernel
theorem dX11_riseUnrank_49 : decode cX11_riseUnrank 49 = .ok (.putfield 110, 3) := by decide +kernel
theorem dX11_riseUnrank_52 : decode cX11_riseUnrank 52 = .ok (.lload_n 2, 1) := by decide +kernel
theorem dX11_riseUnrank_53 : decode cX11_riseUnrank 53 = .ok (.lstore 4, 2) := by decide +kernel
theorem dX11_riseUnrank_55 : decode cX11_riseUnrank 55 = .ok (.iconst 1, 1) := by decide +kernel
theorem dX11_riseUnrank_56 : decode cX11_riseUnrank 56 = .ok (.istore 6, 2) := by decide +kernel
theorem dX11_riseUnrank_58 : decode cX11_riseUnrank 58 = .ok (.iconst 1, 1) := by decide +kernel
theorem dX11_riseUnrank_59 : decode cX11_riseUnrank 59 = .ok (.istore 7, 2) := by decide +kernel
theorem dX11_riseUnrank_61 : decode cX11_riseUnrank 61 = .ok (.iload 7, 2) := by decide +kernel
theorem dX11_riseUnrank_63 : decode cX11_riseUnrank 63 = .ok (.iload_n 1, 1) := by decide +kernel
theorem dX11_riseUnrank_64 : decode cX11_riseUnrank 64 = .ok (.if_icmp .gt 62, 3) := by decide +kernel
theorem dX11_riseUnrank_67 : decode cX11_riseUnrank 67 = .ok (.lload 4, 2) := by decide +kernel
theorem dX11_riseUnrank_69 : decode cX11_riseUnrank 69 = .ok (.aload_n 0, 1) := by decide +kernel
theorem dX11_riseUnrank_70 : decode cX11_riseUnrank 70 = .ok (.getfield 39, 3) := by decide +kernel
theorem dX11_riseUnrank_73 : decode cX11_riseUnrank 73 = .ok (.bipush 12, 2) := by decide +kernel
theorem dX11_riseUnrank_75 : decode cX11_riseUnrank 75 = .ok (.iload 7, 2) := by decide +kernel
theorem dX11_riseUnrank_77 : decode cX11_riseUnrank 77 = .ok (.iconst 1, 1) := by decide +kernel
theorem dX11_riseUnrank_78 : decode cX11_riseUnrank 78 = .ok (.iadd, 1) := by decide +kernel
theorem dX11_riseUnrank_79 : decode cX11_riseUnrank 79 = .ok (.imul, 1) := by decide +kernel
theorem dX11_riseUnrank_80 : decode cX11_riseUnrank 80 = .ok (.iload 6, 2) := by decide +kernel
theorem dX11_riseUnrank_82 : decode cX11_riseUnrank 82 = .ok (.iadd, 1) := by decide +kernel
theorem dX11_riseUnrank_83 : decode cX11_riseUnrank 83 = .ok (.laload, 1) := by decide +kernel
theorem dX11_riseUnrank_84 : decode cX11_riseUnrank 84 = .ok (.lcmp, 1) := by decide +kernel
theorem dX11_riseUnrank_85 : decode cX11_riseUnrank 85 = .ok (.ifCond .lt 29, 3) := by decide +kernel
theorem dX11_riseUnrank_88 : decode cX11_riseUnrank 88 = .ok (.lload 4, 2) := by decide +kernel
theorem dX11_riseUnrank_90 : decode cX11_riseUnrank 90 = .ok (.aload_n 0, 1) := by decide +kernel
theorem dX11_riseUnrank_91 : decode cX11_riseUnrank 91 = .ok (.getfield 39, 3) := by decide +kernel
theorem dX11_riseUnrank_94 : decode cX11_riseUnrank 94 = .ok (.bipush 12, 2) := by decide +kernel
theorem dX11_riseUnrank_96 : decode cX11_riseUnrank 96 = .ok (.iload 7, 2) := by decide +kernel
theorem dX11_riseUnrank_98 : decode cX11_riseUnrank 98 = .ok (.iconst 1, 1) := by decide +kernel
theorem dX11_riseUnrank_99 : decode cX11_riseUnrank 99 = .ok (.iadd, 1) := by decide +kernel
theorem dX11_riseUnrank_100 : decode cX11_riseUnrank 100 = .ok (.imul, 1) := by decide +kernel
theorem dX11_riseUnrank_101 : decode cX11_riseUnrank 101 = .ok (.iload 6, 2) := by decide +kernel
theorem dX11_riseUnrank_103 : decode cX11_riseUnrank 103 = .ok (.iadd, 1) := by decide +kernel
theorem dX11_riseUnrank_104 : decode cX11_riseUnrank 104 = .ok (.laload, 1) := by decide +kernel
theorem dX11_riseUnrank_105 : decode cX11_riseUnrank 105 = .ok (.lsub, 1) := by decide +kernel
theorem dX11_riseUnrank_106 : decode cX11_riseUnrank 106 = .ok (.lstore 4, 2) := by decide +kernel
theorem dX11_riseUnrank_108 : decode cX11_riseUnrank 108 = .ok (.iinc 6 1, 3) := by decide +kernel
theorem dX11_riseUnrank_111 : decode cX11_riseUnrank 111 = .ok (.goto (-44), 3) := by decide +kernel
theorem dX11_riseUnrank_114 : decode cX11_riseUnrank 114 = .ok (.aload_n 0, 1) := by decide +kernel
theorem dX11_riseUnrank_115 : decode cX11_riseUnrank 115 = .ok (.iload 6, 2) := by decide +kernel
theorem dX11_riseUnrank_117 : decode cX11_riseUnrank 117 = .ok (.invokevirtual 113, 3) := by decide +kernel
theorem dX11_riseUnrank_120 : decode cX11_riseUnrank 120 = .ok (.iinc 7 1, 3) := by decide +kernel
theorem dX11_riseUnrank_123 : decode cX11_riseUnrank 123 = .ok (.goto (-62), 3) := by decide +kernel
theorem dX11_riseUnrank_126 : decode cX11_riseUnrank 126 = .ok (.iload_n 1, 1) := by decide +kernel
theorem dX11_riseUnrank_127 : decode cX11_riseUnrank 127 = .ok (.ireturn, 1) := by decide +kernel
theorem dX11_isFull_0 : decode cX11_isFull 0 = .ok (.aload_n 0, 1) := by decide +kernel
theorem dX11_isFull_1 : decode cX11_isFull 1 = .ok (.getfield 110, 3) := by decide +kernel
theorem dX11_isFull_4 : decode cX11_isFull 4 = .ok (.aload_n 0, 1) := by decide +kernel
theorem dX11_isFull_5 : decode cX11_isFull 5 = .ok (.getfield 7, 3) := by decide +kernel
theorem dX11_isFull_8 : decode cX11_isFull 8 = .ok (.if_icmp .ne 14, 3) := by decide +kernel
theorem dX11_isFull_11 : decode cX11_isFull 11 = .ok (.aload_n 0, 1) := by decide +kernel
theorem dX11_isFull_12 : decode cX11_isFull 12 = .ok (.invokevirtual 167, 3) := by decide +kernel
theorem dX11_isFull_15 : decode cX11_isFull 15 = .ok (.ifCond .eq 7, 3) := by decide +kernel
theorem dX11_isFull_18 : decode cX11_isFull 18 = .ok (.iconst 1, 1) := by decide +kernel
theorem dX11_isFull_19 : decode cX11_isFull 19 = .ok (.goto 4, 3) := by decide +kernel
theorem dX11_isFull_22 : decode cX11_isFull 22 = .ok (.iconst 0, 1) := by decide +kernel
theorem dX11_isFull_23 : decode cX11_isFull 23 = .ok (.ireturn, 1) := by decide +kernel
theorem dX11_wishUpTo_0 : decode cX11_wishUpTo 0 = .ok (.iconst 0, 1) := by decide +kernel
theorem dX11_wishUpTo_1 : decode cX11_wishUpTo 1 = .ok (.istore_n 2, 1) := by decide +kernel
theorem dX11_wishUpTo_2 : decode cX11_wishUpTo 2 = .ok (.iconst 1, 1) := by decide +kernel
theorem dX11_wishUpTo_3 : decode cX11_wishUpTo 3 = .ok (.istore_n 3, 1) := by decide +kernel
theorem dX11_wishUpTo_4 : decode cX11_wishUpTo 4 = .ok (.iload_n 3, 1) := by decide +kernel
theorem dX11_wishUpTo_5 : decode cX11_wishUpTo 5 = .ok (.aload_n 0, 1) := by decide +kernel
theorem dX11_wishUpTo_6 : decode cX11_wishUpTo 6 = .ok (.getfield 110, 3) := by decide +kernel
theorem dX11_wishUpTo_9 : decode cX11_wishUpTo 9 = .ok (.if_icmp .gt 27, 3) := by decide +kernel
theorem dX11_wishUpTo_12 : decode cX11_wishUpTo 12 = .ok (.iload_n 2, 1) := by decide +kernel
theorem dX11_wishUpTo_13 : decode cX11_wishUpTo 13 = .ok (.aload_n 0, 1) := by decide +kernel
theorem dX11_wishUpTo_14 : decode cX11_wishUpTo 14 = .ok (.getfield 13, 3) := by decide +kernel
theorem dX11_wishUpTo_17 : decode cX11_wishUpTo 17 = .ok (.iload_n 3, 1) := by decide +kernel
theorem dX11_wishUpTo_18 : decode cX11_wishUpTo 18 = .ok (.iaload, 1) := by decide +kernel
theorem dX11_wishUpTo_19 : decode cX11_wishUpTo 19 = .ok (.iload_n 1, 1) := by decide +kernel
theorem dX11_wishUpTo_20 : decode cX11_wishUpTo 20 = .ok (.if_icmp .gt 7, 3) := by decide +kernel
theorem dX11_wishUpTo_23 : decode cX11_wishUpTo 23 = .ok (.iconst 1, 1) := by decide +kernel
theorem dX11_wishUpTo_24 : decode cX11_wishUpTo 24 = .ok (.goto 4, 3) := by decide +kernel
theorem dX11_wishUpTo_27 : decode cX11_wishUpTo 27 = .ok (.iconst 0, 1) := by decide +kernel
theorem dX11_wishUpTo_28 : decode cX11_wishUpTo 28 = .ok (.iadd, 1) := by decide +kernel
theorem dX11_wishUpTo_29 : decode cX11_wishUpTo 29 = .ok (.istore_n 2, 1) := by decide +kernel
theorem dX11_wishUpTo_30 : decode cX11_wishUpTo 30 = .ok (.iinc 3 1, 3) := by decide +kernel
theorem dX11_wishUpTo_33 : decode cX11_wishUpTo 33 = .ok (.goto (-29), 3) := by decide +kernel
theorem dX11_wishUpTo_36 : decode cX11_wishUpTo 36 = .ok (.iload_n 2, 1) := by decide +kernel
theorem dX11_wishUpTo_37 : decode cX11_wishUpTo 37 = .ok (.ireturn, 1) := by decide +kernel
theorem dX11_cuts_0 : decode cX11_cuts 0 = .ok (.aload_n 0, 1) := by decide +kernel
theorem dX11_cuts_1 : decode cX11_cuts 1 = .ok (.invokevirtual 189, 3) := by decide +kernel
theorem dX11_cuts_4 : decode cX11_cuts 4 = .ok (.ifCond .ne 6, 3) := by decide +kernel
theorem dX11_cuts_7 : decode cX11_cuts 7 = .ok (.bipush (-2), 2) := by decide +kernel
theorem dX11_cuts_9 : decode cX11_cuts 9 = .ok (.ireturn, 1) := by decide +kernel
theorem dX11_cuts_10 : decode cX11_cuts 10 = .ok (.iconst 0, 1) := by decide +kernel
theorem dX11_cuts_11 : decode cX11_cuts 11 = .ok (.istore_n 1, 1) := by decide +kernel
theorem dX11_cuts_12 : decode cX11_cuts 12 = .ok (.iconst 1, 1) := by decide +kernel
theorem dX11_cuts_13 : decode cX11_cuts 13 = .ok (.istore_n 2, 1) := by decide +kernel
theorem dX11_cuts_14 : decode cX11_cuts 14 = .ok (.iload_n 2, 1) := by decide +kernel
theorem dX11_cuts_15 : decode cX11_cuts 15 = .ok (.aload_n 0, 1) := by decide +kernel
theorem dX11_cuts_16 : decode cX11_cuts 16 = .ok (.getfield 7, 3) := by decide +kernel
theorem dX11_cuts_19 : decode cX11_cuts 19 = .ok (.if_icmp .ge 28, 3) := by decide +kernel
theorem dX11_cuts_22 : decode cX11_cuts 22 = .ok (.iload_n 1, 1) := by decide +kernel
theorem dX11_cuts_23 : decode cX11_cuts 23 = .ok (.aload_n 0, 1) := by decide +kernel
theorem dX11_cuts_24 : decode cX11_cuts 24 = .ok (.iload_n 2, 1) := by decide +kernel
theorem dX11_cuts_25 : decode cX11_cuts 25 = .ok (.invokevirtual 192, 3) := by decide +kernel
theorem dX11_cuts_28 : decode cX11_cuts 28 = .ok (.iload_n 2, 1) := by decide +kernel
theorem dX11_cuts_29 : decode cX11_cuts 29 = .ok (.if_icmp .ne 9, 3) := by decide +kernel
theorem dX11_cuts_32 : decode cX11_cuts 32 = .ok (.iconst 1, 1) := by decide +kernel
theorem dX11_cuts_33 : decode cX11_cuts 33 = .ok (.iload_n 2, 1) := by decide +kernel
theorem dX11_cuts_34 : decode cX11_cuts 34 = .ok (.ishl, 1) := by decide +kernel
theorem dX11_cuts_35 : decode cX11_cuts 35 = .ok (.goto 4, 3) := by decide +kernel
theorem dX11_cuts_38 : decode cX11_cuts 38 = .ok (.iconst 0, 1) := by decide +kernel
theorem dX11_cuts_39 : decode cX11_cuts 39 = .ok (.ior, 1) := by decide +kernel
theorem dX11_cuts_40 : decode cX11_cuts 40 = .ok (.istore_n 1, 1) := by decide +kernel
theorem dX11_cuts_41 : decode cX11_cuts 41 = .ok (.iinc 2 1, 3) := by decide +kernel
theorem dX11_cuts_44 : decode cX11_cuts 44 = .ok (.goto (-30), 3) := by decide +kernel
theorem dX11_cuts_47 : decode cX11_cuts 47 = .ok (.iload_n 1, 1) := by decide +kernel
theorem dX11_cuts_48 : decode cX11_cuts 48 = .ok (.ireturn, 1) := by decide +kernel
theorem dX11_primesOf_0 : decode cX11_primesOf 0 = .ok (.iload_n 0, 1) := by decide +kernel
theorem dX11_primesOf_1 : decode cX11_primesOf 1 = .ok (.iconst 1, 1) := by decide +kernel
theorem dX11_primesOf_2 : decode cX11_primesOf 2 = .ok (.isub, 1) := by decide +kernel
theorem dX11_primesOf_3 : decode cX11_primesOf 3 = .ok (.i2l, 1) := by decide +kernel
theorem dX11_primesOf_4 : decode cX11_primesOf 4 = .ok (.iload_n 0, 1) := by decide +kernel
theorem dX11_primesOf_5 : decode cX11_primesOf 5 = .ok (.iconst 1, 1) := by decide +kernel
theorem dX11_primesOf_6 : decode cX11_primesOf 6 = .ok (.isub, 1) := by decide +kernel
theorem dX11_primesOf_7 : decode cX11_primesOf 7 = .ok (.invokestatic 195, 3) := by decide +kernel
theorem dX11_primesOf_10 : decode cX11_primesOf 10 = .ok (.lreturn, 1) := by decide +kernel
theorem dX11_primes_0 : decode cX11_primes 0 = .ok (.aload_n 0, 1) := by decide +kernel
theorem dX11_primes_1 : decode cX11_primes 1 = .ok (.getfield 7, 3) := by decide +kernel
theorem dX11_primes_4 : decode cX11_primes 4 = .ok (.invokestatic 199, 3) := by decide +kernel
theorem dX11_primes_7 : decode cX11_primes 7 = .ok (.lreturn, 1) := by decide +kernel
theorem dX11_mend_0 : decode cX11_mend 0 = .ok (.aload_n 0, 1) := by decide +kernel
theorem dX11_mend_1 : decode cX11_mend 1 = .ok (.getfield 110, 3) := by decide +kernel
theorem dX11_mend_4 : decode cX11_mend 4 = .ok (.aload_n 0, 1) := by decide +kernel
theorem dX11_mend_5 : decode cX11_mend 5 = .ok (.getfield 7, 3) := by decide +kernel
theorem dX11_mend_8 : decode cX11_mend 8 = .ok (.if_icmp .ne 10, 3) := by decide +kernel
theorem dX11_mend_11 : decode cX11_mend 11 = .ok (.aload_n 0, 1) := by decide +kernel
theorem dX11_mend_12 : decode cX11_mend 12 = .ok (.invokevirtual 164, 3) := by decide +kernel
theorem dX11_mend_15 : decode cX11_mend 15 = .ok (.ifCond .ne 6, 3) := by decide +kernel
theorem dX11_mend_18 : decode cX11_mend 18 = .ok (.bipush (-2), 2) := by decide +kernel
theorem dX11_mend_20 : decode cX11_mend 20 = .ok (.ireturn, 1) := by decide +kernel
theorem dX11_mend_21 : decode cX11_mend 21 = .ok (.iconst 0, 1) := by decide +kernel
theorem dX11_mend_22 : decode cX11_mend 22 = .ok (.istore_n 1, 1) := by decide +kernel
theorem dX11_mend_23 : decode cX11_mend 23 = .ok (.aload_n 0, 1) := by decide +kernel
theorem dX11_mend_24 : decode cX11_mend 24 = .ok (.invokevirtual 139, 3) := by decide +kernel
theorem dX11_mend_27 : decode cX11_mend 27 = .ok (.ifCond .ne 55, 3) := by decide +kernel
theorem dX11_mend_30 : decode cX11_mend 30 = .ok (.iconst 1, 1) := by decide +kernel
theorem dX11_mend_31 : decode cX11_mend 31 = .ok (.istore_n 2, 1) := by decide +kernel
theorem dX11_mend_32 : decode cX11_mend 32 = .ok (.iconst 2, 1) := by decide +kernel
theorem dX11_mend_33 : decode cX11_mend 33 = .ok (.istore_n 3, 1) := by decide +kernel
theorem dX11_mend_34 : decode cX11_mend 34 = .ok (.iload_n 3, 1) := by decide +kernel
theorem dX11_mend_35 : decode cX11_mend 35 = .ok (.aload_n 0, 1) := by decide +kernel
theorem dX11_mend_36 : decode cX11_mend 36 = .ok (.getfield 110, 3) := by decide +kernel
theorem dX11_mend_39 : decode cX11_mend 39 = .ok (.if_icmp .gt 30, 3) := by decide +kernel
theorem dX11_mend_42 : decode cX11_mend 42 = .ok (.aload_n 0, 1) := by decide +kernel
theorem dX11_mend_43 : decode cX11_mend 43 = .ok (.getfield 13, 3) := by decide +kernel
theorem dX11_mend_46 : decode cX11_mend 46 = .ok (.iload_n 3, 1) := by decide +kernel
theorem dX11_mend_47 : decode cX11_mend 47 = .ok (.iaload, 1) := by decide +kernel
theorem dX11_mend_48 : decode cX11_mend 48 = .ok (.aload_n 0, 1) := by decide +kernel
theorem dX11_mend_49 : decode cX11_mend 49 = .ok (.getfield 13, 3) := by decide +kernel
theorem dX11_mend_52 : decode cX11_mend 52 = .ok (.iload_n 2, 1) := by decide +kernel
theorem dX11_mend_53 : decode cX11_mend 53 = .ok (.iaload, 1) := by decide +kernel
theorem dX11_mend_54 : decode cX11_mend 54 = .ok (.if_icmp .lt 7, 3) := by decide +kernel
theorem dX11_mend_57 : decode cX11_mend 57 = .ok (.iload_n 3, 1) := by decide +kernel
theorem dX11_mend_58 : decode cX11_mend 58 = .ok (.goto 4, 3) := by decide +kernel
theorem dX11_mend_61 : decode cX11_mend 61 = .ok (.iload_n 2, 1) := by decide +kernel
theorem dX11_mend_62 : decode cX11_mend 62 = .ok (.istore_n 2, 1) := by decide +kernel
theorem dX11_mend_63 : decode cX11_mend 63 = .ok (.iinc 3 1, 3) := by decide +kernel
theorem dX11_mend_66 : decode cX11_mend 66 = .ok (.goto (-32), 3) := by decide +kernel
theorem dX11_mend_69 : decode cX11_mend 69 = .ok (.aload_n 0, 1) := by decide +kernel
theorem dX11_mend_70 : decode cX11_mend 70 = .ok (.getfield 13, 3) := by decide +kernel
theorem dX11_mend_73 : decode cX11_mend 73 = .ok (.iload_n 2, 1) := by decide +kernel
theorem dX11_mend_74 : decode cX11_mend 74 = .ok (.iconst 1, 1) := by decide +kernel
theorem dX11_mend_75 : decode cX11_mend 75 = .ok (.iastore, 1) := by decide +kernel
theorem dX11_mend_76 : decode cX11_mend 76 = .ok (.iinc 1 1, 3) := by decide +kernel
theorem dX11_mend_79 : decode cX11_mend 79 = .ok (.goto (-56), 3) := by decide +kernel
theorem dX11_mend_82 : decode cX11_mend 82 = .ok (.iload_n 1, 1) := by decide +kernel
theorem dX11_mend_83 : decode cX11_mend 83 = .ok (.ireturn, 1) := by decide +kernel
theorem dX11_findTree_0 : decode cX11_findTree 0 = .ok (.iconst 1, 1) := by decide +kernel
theorem dX11_findTree_1 : decode cX11_findTree 1 = .ok (.istore_n 1, 1) := by decide +kernel
theorem dX11_findTree_2 : decode cX11_findTree 2 = .ok (.aload_n 0, 1) := by decide +kernel
theorem dX11_findTree_3 : decode cX11_findTree 3 = .ok (.getfield 45, 3) := by decide +kernel
theorem dX11_findTree_6 : decode cX11_findTree 6 = .ok (.iconst 0, 1) := by decide +kernel
theorem dX11_findTree_7 : decode cX11_findTree 7 = .ok (.iconst 0, 1) := by decide +kernel
theorem dX11_findTree_8 : decode cX11_findTree 8 = .ok (.iastore, 1) := by decide +kernel
theorem dX11_findTree_9 : decode cX11_findTree 9 = .ok (.aload_n 0, 1) := by decide +kernel
theorem dX11_findTree_10 : decode cX11_findTree 10 = .ok (.getfield 48, 3) := by decide +kernel
theorem dX11_findTree_13 : decode cX11_findTree 13 = .ok (.iconst 0, 1) := by decide +kernel
theorem dX11_findTree_14 : decode cX11_findTree 14 = .ok (.iconst 1, 1) := by decide +kernel
theorem dX11_findTree_15 : decode cX11_findTree 15 = .ok (.iastore, 1) := by decide +kernel
theorem dX11_findTree_16 : decode cX11_findTree 16 = .ok (.iconst 1, 1) := by decide +kernel
theorem dX11_findTree_17 : decode cX11_findTree 17 = .ok (.istore_n 2, 1) := by decide +kernel
theorem dX11_findTree_18 : decode cX11_findTree 18 = .ok (.iload_n 2, 1) := by decide +kernel
theorem dX11_findTree_19 : decode cX11_findTree 19 = .ok (.aload_n 0, 1) := by decide +kernel
theorem dX11_findTree_20 : decode cX11_findTree 20 = .ok (.getfield 7, 3) := by decide +kernel
theorem dX11_findTree_23 : decode cX11_findTree 23 = .ok (.if_icmp .gt 66, 3) := by decide +kernel
theorem dX11_findTree_26 : decode cX11_findTree 26 = .ok (.iconst 1, 1) := by decide +kernel
theorem dX11_findTree_27 : decode cX11_findTree 27 = .ok (.istore_n 3, 1) := by decide +kernel
theorem dX11_findTree_28 : decode cX11_findTree 28 = .ok (.iload_n 3, 1) := by decide +kernel
theorem dX11_findTree_29 : decode cX11_findTree 29 = .ok (.aload_n 0, 1) := by decide +kernel
theorem dX11_findTree_30 : decode cX11_findTree 30 = .ok (.getfield 110, 3) := by decide +kernel
theorem dX11_findTree_33 : decode cX11_findTree 33 = .ok (.if_icmp .gt 50, 3) := by decide +kernel
theorem dX11_findTree_36 : decode cX11_findTree 36 = .ok (.aload_n 0, 1) := by decide +kernel
theorem dX11_findTree_37 : decode cX11_findTree 37 = .ok (.getfield 13, 3) := by decide +kernel
theorem dX11_findTree_40 : decode cX11_findTree 40 = .ok (.iload_n 3, 1) := by decide +kernel
theorem dX11_findTree_41 : decode cX11_findTree 41 = .ok (.iaload, 1) := by decide +kernel
theorem dX11_findTree_42 : decode cX11_findTree 42 = .ok (.iload_n 2, 1) := by decide +kernel
theorem dX11_findTree_43 : decode cX11_findTree 43 = .ok (.if_icmp .ne 34, 3) := by decide +kernel
theorem dX11_findTree_46 : decode cX11_findTree 46 = .ok (.aload_n 0, 1) := by decide +kernel
theorem dX11_findTree_47 : decode cX11_findTree 47 = .ok (.getfield 42, 3) := by decide +kernel
theorem dX11_findTree_50 : decode cX11_findTree 50 = .ok (.iload_n 3, 1) := by decide +kernel
theorem dX11_findTree_51 : decode cX11_findTree 51 = .ok (.aload_n 0, 1) := by decide +kernel
theorem dX11_findTree_52 : decode cX11_findTree 52 = .ok (.getfield 45, 3) := by decide +kernel
theorem dX11_findTree_55 : decode cX11_findTree 55 = .ok (.iload_n 2, 1) := by decide +kernel
theorem dX11_findTree_56 : decode cX11_findTree 56 = .ok (.iconst 1, 1) := by decide +kernel
theorem dX11_findTree_57 : decode cX11_findTree 57 = .ok (.isub, 1) := by decide +kernel
theorem dX11_findTree_58 : decode cX11_findTree 58 = .ok (.iaload, 1) := by decide +kernel
theorem dX11_findTree_59 : decode cX11_findTree 59 = .ok (.iastore, 1) := by decide +kernel
theorem dX11_findTree_60 : decode cX11_findTree 60 = .ok (.aload_n 0, 1) := by decide +kernel
theorem dX11_findTree_61 : decode cX11_findTree 61 = .ok (.getfield 45, 3) := by decide +kernel
theorem dX11_findTree_64 : decode cX11_findTree 64 = .ok (.iload_n 1, 1) := by decide +kernel
theorem dX11_findTree_65 : decode cX11_findTree 65 = .ok (.iload_n 3, 1) := by decide +kernel
theorem dX11_findTree_66 : decode cX11_findTree 66 = .ok (.iastore, 1) := by decide +kernel
theorem dX11_findTree_67 : decode cX11_findTree 67 = .ok (.iinc 1 1, 3) := by decide +kernel
theorem dX11_findTree_70 : decode cX11_findTree 70 = .ok (.aload_n 0, 1) := by decide +kernel
theorem dX11_findTree_71 : decode cX11_findTree 71 = .ok (.getfield 48, 3) := by decide +kernel
theorem dX11_findTree_74 : decode cX11_findTree 74 = .ok (.iload_n 3, 1) := by decide +kernel
theorem dX11_findTree_75 : decode cX11_findTree 75 = .ok (.iload_n 1, 1) := by decide +kernel
theorem dX11_findTree_76 : decode cX11_findTree 76 = .ok (.iastore, 1) := by decide +kernel
theorem dX11_findTree_77 : decode cX11_findTree 77 = .ok (.iinc 3 1, 3) := by decide +kernel
theorem dX11_findTree_80 : decode cX11_findTree 80 = .ok (.goto (-52), 3) := by decide +kernel
theorem dX11_findTree_83 : decode cX11_findTree 83 = .ok (.iinc 2 1, 3) := by decide +kernel
theorem dX11_findTree_86 : decode cX11_findTree 86 = .ok (.goto (-68), 3) := by decide +kernel
theorem dX11_findTree_89 : decode cX11_findTree 89 = .ok (.return_, 1) := by decide +kernel
theorem dX11_isBelow_0 : decode cX11_isBelow 0 = .ok (.iload_n 1, 1) := by decide +kernel
theorem dX11_isBelow_1 : decode cX11_isBelow 1 = .ok (.istore_n 3, 1) := by decide +kernel
theorem dX11_isBelow_2 : decode cX11_isBelow 2 = .ok (.iload_n 3, 1) := by decide +kernel
theorem dX11_isBelow_3 : decode cX11_isBelow 3 = .ok (.ifCond .eq 17, 3) := by decide +kernel
theorem dX11_isBelow_6 : decode cX11_isBelow 6 = .ok (.aload_n 0, 1) := by decide +kernel
theorem dX11_isBelow_7 : decode cX11_isBelow 7 = .ok (.getfield 42, 3) := by decide +kernel
theorem dX11_isBelow_10 : decode cX11_isBelow 10 = .ok (.iload_n 3, 1) := by decide +kernel
theorem dX11_isBelow_11 : decode cX11_isBelow 11 = .ok (.iaload, 1) := by decide +kernel
theorem dX11_isBelow_12 : decode cX11_isBelow 12 = .ok (.istore_n 3, 1) := by decide +kernel
theorem dX11_isBelow_13 : decode cX11_isBelow 13 = .ok (.iload_n 3, 1) := by decide +kernel
theorem dX11_isBelow_14 : decode cX11_isBelow 14 = .ok (.iload_n 2, 1) := by decide +kernel
theorem dX11_isBelow_15 : decode cX11_isBelow 15 = .ok (.if_icmp .ne (-13), 3) := by decide +kernel
theorem dX11_isBelow_18 : decode cX11_isBelow 18 = .ok (.iconst 1, 1) := by decide +kernel
theorem dX11_isBelow_19 : decode cX11_isBelow 19 = .ok (.ireturn, 1) := by decide +kernel
theorem dX11_isBelow_20 : decode cX11_isBelow 20 = .ok (.iconst 0, 1) := by decide +kernel
theorem dX11_isBelow_21 : decode cX11_isBelow 21 = .ok (.ireturn, 1) := by decide +kernel
theorem dX11_node_0 : decode cX11_node 0 = .ok (.aload_n 0, 1) := by decide +kernel
theorem dX11_node_1 : decode cX11_node 1 = .ok (.iload_n 1, 1) := by decide +kernel
theorem dX11_node_2 : decode cX11_node 2 = .ok (.invokevirtual 117, 3) := by decide +kernel
theorem dX11_node_5 : decode cX11_node 5 = .ok (.ifCond .eq 15, 3) := by decide +kernel
theorem dX11_node_8 : decode cX11_node 8 = .ok (.iload_n 2, 1) := by decide +kernel
theorem dX11_node_9 : decode cX11_node 9 = .ok (.i2l, 1) := by decide +kernel
theorem dX11_node_10 : decode cX11_node 10 = .ok (.lconst 0, 1) := by decide +kernel
theorem dX11_node_11 : decode cX11_node 11 = .ok (.ldc2_w 121, 3) := by decide +kernel
theorem dX11_node_14 : decode cX11_node 14 = .ok (.invokestatic 96, 3) := by decide +kernel
theorem dX11_node_17 : decode cX11_node 17 = .ok (.ifCond .ne 5, 3) := by decide +kernel
theorem dX11_node_20 : decode cX11_node 20 = .ok (.iconst (-1), 1) := by decide +kernel
theorem dX11_node_21 : decode cX11_node 21 = .ok (.ireturn, 1) := by decide +kernel
theorem dX11_node_22 : decode cX11_node 22 = .ok (.aload_n 0, 1) := by decide +kernel
theorem dX11_node_23 : decode cX11_node 23 = .ok (.invokevirtual 189, 3) := by decide +kernel
theorem dX11_node_26 : decode cX11_node 26 = .ok (.ifCond .ne 6, 3) := by decide +kernel
theorem dX11_node_29 : decode cX11_node 29 = .ok (.bipush (-2), 2) := by decide +kernel
theorem dX11_node_31 : decode cX11_node 31 = .ok (.ireturn, 1) := by decide +kernel
theorem dX11_node_32 : decode cX11_node 32 = .ok (.aload_n 0, 1) := by decide +kernel
theorem dX11_node_33 : decode cX11_node 33 = .ok (.invokevirtual 202, 3) := by decide +kernel
theorem dX11_node_36 : decode cX11_node 36 = .ok (.iconst 0, 1) := by decide +kernel
theorem dX11_node_37 : decode cX11_node 37 = .ok (.istore_n 3, 1) := by decide +kernel
theorem dX11_node_38 : decode cX11_node 38 = .ok (.iload_n 2, 1) := by decide +kernel
theorem dX11_node_39 : decode cX11_node 39 = .ok (.tableswitch 118 0 3 #[29, 36, 61, 61], 29) := by decide +kernel
theorem dX11_node_68 : decode cX11_node 68 = .ok (.aload_n 0, 1) := by decide +kernel
theorem dX11_node_69 : decode cX11_node 69 = .ok (.getfield 42, 3) := by decide +kernel
theorem dX11_node_72 : decode cX11_node 72 = .ok (.iload_n 1, 1) := by decide +kernel
theorem dX11_node_73 : decode cX11_node 73 = .ok (.iaload, 1) := by decide +kernel
theorem dX11_node_74 : decode cX11_node 74 = .ok (.ireturn, 1) := by decide +kernel
theorem dX11_node_75 : decode cX11_node 75 = .ok (.iload_n 1, 1) := by decide +kernel
end
section
theorem dX11_node_76 : decode cX11_node 76 = .ok (.istore 4, 2) := by decide +kernel
theorem dX11_node_78 : decode cX11_node 78 = .ok (.iload 4, 2) := by decide +kernel
theorem dX11_node_80 : decode cX11_node 80 = .ok (.ifCond .eq 18, 3) := by decide +kernel
theorem dX11_node_83 : decode cX11_node 83 = .ok (.iinc 3 1, 3) := by decide +kernel
theorem dX11_node_86 : decode cX11_node 86 = .ok (.aload_n 0, 1) := by decide +kernel
theorem dX11_node_87 : decode cX11_node 87 = .ok (.getfield 42, 3) := by decide +kernel
theorem dX11_node_90 : decode cX11_node 90 = .ok (.iload 4, 2) := by decide +kernel
theorem dX11_node_92 : decode cX11_node 92 = .ok (.iaload, 1) := by decide +kernel
theorem dX11_node_93 : decode cX11_node 93 = .ok (.istore 4, 2) := by decide +kernel
theorem dX11_node_95 : decode cX11_node 95 = .ok (.goto (-17), 3) := by decide +kernel
theorem dX11_node_98 : decode cX11_node 98 = .ok (.iload_n 3, 1) := by decide +kernel
theorem dX11_node_99 : decode cX11_node 99 = .ok (.ireturn, 1) := by decide +kernel
theorem dX11_node_100 : decode cX11_node 100 = .ok (.iconst 1, 1) := by decide +kernel
theorem dX11_node_101 : decode cX11_node 101 = .ok (.istore 4, 2) := by decide +kernel
theorem dX11_node_103 : decode cX11_node 103 = .ok (.iload 4, 2) := by decide +kernel
theorem dX11_node_105 : decode cX11_node 105 = .ok (.aload_n 0, 1) := by decide +kernel
theorem dX11_node_106 : decode cX11_node 106 = .ok (.getfield 7, 3) := by decide +kernel
theorem dX11_node_109 : decode cX11_node 109 = .ok (.if_icmp .gt 46, 3) := by decide +kernel
theorem dX11_node_112 : decode cX11_node 112 = .ok (.iload_n 3, 1) := by decide +kernel
theorem dX11_node_113 : decode cX11_node 113 = .ok (.iload_n 2, 1) := by decide +kernel
theorem dX11_node_114 : decode cX11_node 114 = .ok (.iconst 2, 1) := by decide +kernel
theorem dX11_node_115 : decode cX11_node 115 = .ok (.if_icmp .ne 17, 3) := by decide +kernel
theorem dX11_node_118 : decode cX11_node 118 = .ok (.aload_n 0, 1) := by decide +kernel
theorem dX11_node_119 : decode cX11_node 119 = .ok (.getfield 42, 3) := by decide +kernel
theorem dX11_node_122 : decode cX11_node 122 = .ok (.iload 4, 2) := by decide +kernel
theorem dX11_node_124 : decode cX11_node 124 = .ok (.iaload, 1) := by decide +kernel
theorem dX11_node_125 : decode cX11_node 125 = .ok (.iload_n 1, 1) := by decide +kernel
theorem dX11_node_126 : decode cX11_node 126 = .ok (.if_icmp .ne 20, 3) := by decide +kernel
theorem dX11_node_129 : decode cX11_node 129 = .ok (.goto 13, 3) := by decide +kernel
theorem dX11_node_132 : decode cX11_node 132 = .ok (.aload_n 0, 1) := by decide +kernel
theorem dX11_node_133 : decode cX11_node 133 = .ok (.iload 4, 2) := by decide +kernel
theorem dX11_node_135 : decode cX11_node 135 = .ok (.iload_n 1, 1) := by decide +kernel
theorem dX11_node_136 : decode cX11_node 136 = .ok (.invokevirtual 205, 3) := by decide +kernel
theorem dX11_node_139 : decode cX11_node 139 = .ok (.ifCond .eq 7, 3) := by decide +kernel
theorem dX11_node_142 : decode cX11_node 142 = .ok (.iconst 1, 1) := by decide +kernel
theorem dX11_node_143 : decode cX11_node 143 = .ok (.goto 4, 3) := by decide +kernel
theorem dX11_node_146 : decode cX11_node 146 = .ok (.iconst 0, 1) := by decide +kernel
theorem dX11_node_147 : decode cX11_node 147 = .ok (.iadd, 1) := by decide +kernel
theorem dX11_node_148 : decode cX11_node 148 = .ok (.istore_n 3, 1) := by decide +kernel
theorem dX11_node_149 : decode cX11_node 149 = .ok (.iinc 4 1, 3) := by decide +kernel
theorem dX11_node_152 : decode cX11_node 152 = .ok (.goto (-49), 3) := by decide +kernel
theorem dX11_node_155 : decode cX11_node 155 = .ok (.iload_n 3, 1) := by decide +kernel
theorem dX11_node_156 : decode cX11_node 156 = .ok (.ireturn, 1) := by decide +kernel
theorem dX11_node_157 : decode cX11_node 157 = .ok (.aload_n 0, 1) := by decide +kernel
theorem dX11_node_158 : decode cX11_node 158 = .ok (.getfield 48, 3) := by decide +kernel
theorem dX11_node_161 : decode cX11_node 161 = .ok (.iload_n 1, 1) := by decide +kernel
theorem dX11_node_162 : decode cX11_node 162 = .ok (.iaload, 1) := by decide +kernel
theorem dX11_node_163 : decode cX11_node 163 = .ok (.ireturn, 1) := by decide +kernel
theorem dX11_inv_0 : decode cX11_inv 0 = .ok (.aload_n 0, 1) := by decide +kernel
theorem dX11_inv_1 : decode cX11_inv 1 = .ok (.invokevirtual 189, 3) := by decide +kernel
theorem dX11_inv_4 : decode cX11_inv 4 = .ok (.ifCond .ne 6, 3) := by decide +kernel
theorem dX11_inv_7 : decode cX11_inv 7 = .ok (.bipush (-2), 2) := by decide +kernel
theorem dX11_inv_9 : decode cX11_inv 9 = .ok (.ireturn, 1) := by decide +kernel
theorem dX11_inv_10 : decode cX11_inv 10 = .ok (.aload_n 0, 1) := by decide +kernel
theorem dX11_inv_11 : decode cX11_inv 11 = .ok (.invokevirtual 202, 3) := by decide +kernel
theorem dX11_inv_14 : decode cX11_inv 14 = .ok (.iconst 0, 1) := by decide +kernel
theorem dX11_inv_15 : decode cX11_inv 15 = .ok (.istore_n 1, 1) := by decide +kernel
theorem dX11_inv_16 : decode cX11_inv 16 = .ok (.iconst 1, 1) := by decide +kernel
theorem dX11_inv_17 : decode cX11_inv 17 = .ok (.istore_n 2, 1) := by decide +kernel
theorem dX11_inv_18 : decode cX11_inv 18 = .ok (.iload_n 2, 1) := by decide +kernel
theorem dX11_inv_19 : decode cX11_inv 19 = .ok (.aload_n 0, 1) := by decide +kernel
theorem dX11_inv_20 : decode cX11_inv 20 = .ok (.getfield 7, 3) := by decide +kernel
theorem dX11_inv_23 : decode cX11_inv 23 = .ok (.if_icmp .gt 44, 3) := by decide +kernel
theorem dX11_inv_26 : decode cX11_inv 26 = .ok (.iload_n 2, 1) := by decide +kernel
theorem dX11_inv_27 : decode cX11_inv 27 = .ok (.iconst 1, 1) := by decide +kernel
theorem dX11_inv_28 : decode cX11_inv 28 = .ok (.iadd, 1) := by decide +kernel
theorem dX11_inv_29 : decode cX11_inv 29 = .ok (.istore_n 3, 1) := by decide +kernel
theorem dX11_inv_30 : decode cX11_inv 30 = .ok (.iload_n 3, 1) := by decide +kernel
theorem dX11_inv_31 : decode cX11_inv 31 = .ok (.aload_n 0, 1) := by decide +kernel
theorem dX11_inv_32 : decode cX11_inv 32 = .ok (.getfield 7, 3) := by decide +kernel
theorem dX11_inv_35 : decode cX11_inv 35 = .ok (.if_icmp .gt 26, 3) := by decide +kernel
theorem dX11_inv_38 : decode cX11_inv 38 = .ok (.iload_n 1, 1) := by decide +kernel
theorem dX11_inv_39 : decode cX11_inv 39 = .ok (.aload_n 0, 1) := by decide +kernel
theorem dX11_inv_40 : decode cX11_inv 40 = .ok (.iload_n 2, 1) := by decide +kernel
theorem dX11_inv_41 : decode cX11_inv 41 = .ok (.iload_n 3, 1) := by decide +kernel
theorem dX11_inv_42 : decode cX11_inv 42 = .ok (.invokevirtual 205, 3) := by decide +kernel
theorem dX11_inv_45 : decode cX11_inv 45 = .ok (.ifCond .eq 7, 3) := by decide +kernel
theorem dX11_inv_48 : decode cX11_inv 48 = .ok (.iconst 1, 1) := by decide +kernel
theorem dX11_inv_49 : decode cX11_inv 49 = .ok (.goto 4, 3) := by decide +kernel
theorem dX11_inv_52 : decode cX11_inv 52 = .ok (.iconst 0, 1) := by decide +kernel
theorem dX11_inv_53 : decode cX11_inv 53 = .ok (.iadd, 1) := by decide +kernel
theorem dX11_inv_54 : decode cX11_inv 54 = .ok (.istore_n 1, 1) := by decide +kernel
theorem dX11_inv_55 : decode cX11_inv 55 = .ok (.iinc 3 1, 3) := by decide +kernel
theorem dX11_inv_58 : decode cX11_inv 58 = .ok (.goto (-28), 3) := by decide +kernel
theorem dX11_inv_61 : decode cX11_inv 61 = .ok (.iinc 2 1, 3) := by decide +kernel
theorem dX11_inv_64 : decode cX11_inv 64 = .ok (.goto (-46), 3) := by decide +kernel
theorem dX11_inv_67 : decode cX11_inv 67 = .ok (.iload_n 1, 1) := by decide +kernel
theorem dX11_inv_68 : decode cX11_inv 68 = .ok (.ireturn, 1) := by decide +kernel
theorem dX11_neighbourOf_0 : decode cX11_neighbourOf 0 = .ok (.iconst (-1), 1) := by decide +kernel
theorem dX11_neighbourOf_1 : decode cX11_neighbourOf 1 = .ok (.istore_n 2, 1) := by decide +kernel
theorem dX11_neighbourOf_2 : decode cX11_neighbourOf 2 = .ok (.iconst 0, 1) := by decide +kernel
theorem dX11_neighbourOf_3 : decode cX11_neighbourOf 3 = .ok (.istore_n 3, 1) := by decide +kernel
theorem dX11_neighbourOf_4 : decode cX11_neighbourOf 4 = .ok (.iconst 1, 1) := by decide +kernel
theorem dX11_neighbourOf_5 : decode cX11_neighbourOf 5 = .ok (.istore 4, 2) := by decide +kernel
theorem dX11_neighbourOf_7 : decode cX11_neighbourOf 7 = .ok (.iload 4, 2) := by decide +kernel
theorem dX11_neighbourOf_9 : decode cX11_neighbourOf 9 = .ok (.aload_n 0, 1) := by decide +kernel
theorem dX11_neighbourOf_10 : decode cX11_neighbourOf 10 = .ok (.getfield 7, 3) := by decide +kernel
theorem dX11_neighbourOf_13 : decode cX11_neighbourOf 13 = .ok (.if_icmp .gt 75, 3) := by decide +kernel
theorem dX11_neighbourOf_16 : decode cX11_neighbourOf 16 = .ok (.iload 4, 2) := by decide +kernel
theorem dX11_neighbourOf_18 : decode cX11_neighbourOf 18 = .ok (.iload_n 1, 1) := by decide +kernel
theorem dX11_neighbourOf_19 : decode cX11_neighbourOf 19 = .ok (.if_icmp .ne 13, 3) := by decide +kernel
theorem dX11_neighbourOf_22 : decode cX11_neighbourOf 22 = .ok (.aload_n 0, 1) := by decide +kernel
theorem dX11_neighbourOf_23 : decode cX11_neighbourOf 23 = .ok (.getfield 42, 3) := by decide +kernel
theorem dX11_neighbourOf_26 : decode cX11_neighbourOf 26 = .ok (.iload 4, 2) := by decide +kernel
theorem dX11_neighbourOf_28 : decode cX11_neighbourOf 28 = .ok (.iaload, 1) := by decide +kernel
theorem dX11_neighbourOf_29 : decode cX11_neighbourOf 29 = .ok (.goto 20, 3) := by decide +kernel
theorem dX11_neighbourOf_32 : decode cX11_neighbourOf 32 = .ok (.aload_n 0, 1) := by decide +kernel
theorem dX11_neighbourOf_33 : decode cX11_neighbourOf 33 = .ok (.getfield 42, 3) := by decide +kernel
theorem dX11_neighbourOf_36 : decode cX11_neighbourOf 36 = .ok (.iload 4, 2) := by decide +kernel
theorem dX11_neighbourOf_38 : decode cX11_neighbourOf 38 = .ok (.iaload, 1) := by decide +kernel
theorem dX11_neighbourOf_39 : decode cX11_neighbourOf 39 = .ok (.iload_n 1, 1) := by decide +kernel
theorem dX11_neighbourOf_40 : decode cX11_neighbourOf 40 = .ok (.if_icmp .ne 8, 3) := by decide +kernel
theorem dX11_neighbourOf_43 : decode cX11_neighbourOf 43 = .ok (.iload 4, 2) := by decide +kernel
theorem dX11_neighbourOf_45 : decode cX11_neighbourOf 45 = .ok (.goto 4, 3) := by decide +kernel
theorem dX11_neighbourOf_48 : decode cX11_neighbourOf 48 = .ok (.iconst (-1), 1) := by decide +kernel
theorem dX11_neighbourOf_49 : decode cX11_neighbourOf 49 = .ok (.istore 5, 2) := by decide +kernel
theorem dX11_neighbourOf_51 : decode cX11_neighbourOf 51 = .ok (.iload 5, 2) := by decide +kernel
theorem dX11_neighbourOf_53 : decode cX11_neighbourOf 53 = .ok (.ifCond .lt 29, 3) := by decide +kernel
theorem dX11_neighbourOf_56 : decode cX11_neighbourOf 56 = .ok (.aload_n 0, 1) := by decide +kernel
theorem dX11_neighbourOf_57 : decode cX11_neighbourOf 57 = .ok (.getfield 51, 3) := by decide +kernel
theorem dX11_neighbourOf_60 : decode cX11_neighbourOf 60 = .ok (.iload 4, 2) := by decide +kernel
theorem dX11_neighbourOf_62 : decode cX11_neighbourOf 62 = .ok (.baload, 1) := by decide +kernel
theorem dX11_neighbourOf_63 : decode cX11_neighbourOf 63 = .ok (.ifCond .ne 19, 3) := by decide +kernel
theorem dX11_neighbourOf_66 : decode cX11_neighbourOf 66 = .ok (.aload_n 0, 1) := by decide +kernel
theorem dX11_neighbourOf_67 : decode cX11_neighbourOf 67 = .ok (.getfield 51, 3) := by decide +kernel
theorem dX11_neighbourOf_70 : decode cX11_neighbourOf 70 = .ok (.iload 5, 2) := by decide +kernel
theorem dX11_neighbourOf_72 : decode cX11_neighbourOf 72 = .ok (.baload, 1) := by decide +kernel
theorem dX11_neighbourOf_73 : decode cX11_neighbourOf 73 = .ok (.ifCond .ne 9, 3) := by decide +kernel
theorem dX11_neighbourOf_76 : decode cX11_neighbourOf 76 = .ok (.iload 5, 2) := by decide +kernel
theorem dX11_neighbourOf_78 : decode cX11_neighbourOf 78 = .ok (.istore_n 2, 1) := by decide +kernel
theorem dX11_neighbourOf_79 : decode cX11_neighbourOf 79 = .ok (.iinc 3 1, 3) := by decide +kernel
theorem dX11_neighbourOf_82 : decode cX11_neighbourOf 82 = .ok (.iinc 4 1, 3) := by decide +kernel
theorem dX11_neighbourOf_85 : decode cX11_neighbourOf 85 = .ok (.goto (-78), 3) := by decide +kernel
theorem dX11_neighbourOf_88 : decode cX11_neighbourOf 88 = .ok (.iload_n 3, 1) := by decide +kernel
theorem dX11_neighbourOf_89 : decode cX11_neighbourOf 89 = .ok (.iconst 1, 1) := by decide +kernel
theorem dX11_neighbourOf_90 : decode cX11_neighbourOf 90 = .ok (.if_icmp .ne 7, 3) := by decide +kernel
theorem dX11_neighbourOf_93 : decode cX11_neighbourOf 93 = .ok (.iload_n 2, 1) := by decide +kernel
theorem dX11_neighbourOf_94 : decode cX11_neighbourOf 94 = .ok (.goto 4, 3) := by decide +kernel
theorem dX11_neighbourOf_97 : decode cX11_neighbourOf 97 = .ok (.iconst (-1), 1) := by decide +kernel
theorem dX11_neighbourOf_98 : decode cX11_neighbourOf 98 = .ok (.ireturn, 1) := by decide +kernel
theorem dX11_code_0 : decode cX11_code 0 = .ok (.iload_n 1, 1) := by decide +kernel
theorem dX11_code_1 : decode cX11_code 1 = .ok (.i2l, 1) := by decide +kernel
theorem dX11_code_2 : decode cX11_code 2 = .ok (.lconst 0, 1) := by decide +kernel
theorem dX11_code_3 : decode cX11_code 3 = .ok (.aload_n 0, 1) := by decide +kernel
theorem dX11_code_4 : decode cX11_code 4 = .ok (.getfield 7, 3) := by decide +kernel
theorem dX11_code_7 : decode cX11_code 7 = .ok (.iconst 2, 1) := by decide +kernel
theorem dX11_code_8 : decode cX11_code 8 = .ok (.isub, 1) := by decide +kernel
theorem dX11_code_9 : decode cX11_code 9 = .ok (.i2l, 1) := by decide +kernel
theorem dX11_code_10 : decode cX11_code 10 = .ok (.invokestatic 96, 3) := by decide +kernel
theorem dX11_code_13 : decode cX11_code 13 = .ok (.ifCond .ne 5, 3) := by decide +kernel
theorem dX11_code_16 : decode cX11_code 16 = .ok (.iconst (-1), 1) := by decide +kernel
theorem dX11_code_17 : decode cX11_code 17 = .ok (.ireturn, 1) := by decide +kernel
theorem dX11_code_18 : decode cX11_code 18 = .ok (.aload_n 0, 1) := by decide +kernel
theorem dX11_code_19 : decode cX11_code 19 = .ok (.invokevirtual 189, 3) := by decide +kernel
theorem dX11_code_22 : decode cX11_code 22 = .ok (.ifCond .ne 6, 3) := by decide +kernel
theorem dX11_code_25 : decode cX11_code 25 = .ok (.bipush (-2), 2) := by decide +kernel
theorem dX11_code_27 : decode cX11_code 27 = .ok (.ireturn, 1) := by decide +kernel
theorem dX11_code_28 : decode cX11_code 28 = .ok (.aload_n 0, 1) := by decide +kernel
theorem dX11_code_29 : decode cX11_code 29 = .ok (.invokevirtual 202, 3) := by decide +kernel
theorem dX11_code_32 : decode cX11_code 32 = .ok (.iconst 0, 1) := by decide +kernel
theorem dX11_code_33 : decode cX11_code 33 = .ok (.istore_n 2, 1) := by decide +kernel
theorem dX11_code_34 : decode cX11_code 34 = .ok (.iload_n 2, 1) := by decide +kernel
theorem dX11_code_35 : decode cX11_code 35 = .ok (.aload_n 0, 1) := by decide +kernel
theorem dX11_code_36 : decode cX11_code 36 = .ok (.getfield 7, 3) := by decide +kernel
theorem dX11_code_39 : decode cX11_code 39 = .ok (.if_icmp .gt 16, 3) := by decide +kernel
theorem dX11_code_42 : decode cX11_code 42 = .ok (.aload_n 0, 1) := by decide +kernel
theorem dX11_code_43 : decode cX11_code 43 = .ok (.getfield 51, 3) := by decide +kernel
theorem dX11_code_46 : decode cX11_code 46 = .ok (.iload_n 2, 1) := by decide +kernel
theorem dX11_code_47 : decode cX11_code 47 = .ok (.iconst 0, 1) := by decide +kernel
theorem dX11_code_48 : decode cX11_code 48 = .ok (.bastore, 1) := by decide +kernel
theorem dX11_code_49 : decode cX11_code 49 = .ok (.iinc 2 1, 3) := by decide +kernel
theorem dX11_code_52 : decode cX11_code 52 = .ok (.goto (-18), 3) := by decide +kernel
theorem dX11_code_55 : decode cX11_code 55 = .ok (.iconst (-1), 1) := by decide +kernel
theorem dX11_code_56 : decode cX11_code 56 = .ok (.istore_n 2, 1) := by decide +kernel
theorem dX11_code_57 : decode cX11_code 57 = .ok (.iconst 0, 1) := by decide +kernel
theorem dX11_code_58 : decode cX11_code 58 = .ok (.istore_n 3, 1) := by decide +kernel
theorem dX11_code_59 : decode cX11_code 59 = .ok (.iload_n 3, 1) := by decide +kernel
theorem dX11_code_60 : decode cX11_code 60 = .ok (.iload_n 1, 1) := by decide +kernel
theorem dX11_code_61 : decode cX11_code 61 = .ok (.if_icmp .gt 55, 3) := by decide +kernel
theorem dX11_code_64 : decode cX11_code 64 = .ok (.aload_n 0, 1) := by decide +kernel
theorem dX11_code_65 : decode cX11_code 65 = .ok (.getfield 7, 3) := by decide +kernel
theorem dX11_code_68 : decode cX11_code 68 = .ok (.istore 4, 2) := by decide +kernel
theorem dX11_code_70 : decode cX11_code 70 = .ok (.aload_n 0, 1) := by decide +kernel
theorem dX11_code_71 : decode cX11_code 71 = .ok (.getfield 51, 3) := by decide +kernel
theorem dX11_code_74 : decode cX11_code 74 = .ok (.iload 4, 2) := by decide +kernel
theorem dX11_code_76 : decode cX11_code 76 = .ok (.baload, 1) := by decide +kernel
theorem dX11_code_77 : decode cX11_code 77 = .ok (.ifCond .ne 12, 3) := by decide +kernel
theorem dX11_code_80 : decode cX11_code 80 = .ok (.aload_n 0, 1) := by decide +kernel
theorem dX11_code_81 : decode cX11_code 81 = .ok (.iload 4, 2) := by decide +kernel
theorem dX11_code_83 : decode cX11_code 83 = .ok (.invokevirtual 208, 3) := by decide +kernel
theorem dX11_code_86 : decode cX11_code 86 = .ok (.ifCond .ge 9, 3) := by decide +kernel
theorem dX11_code_89 : decode cX11_code 89 = .ok (.iinc 4 (-1), 3) := by decide +kernel
theorem dX11_code_92 : decode cX11_code 92 = .ok (.goto (-22), 3) := by decide +kernel
theorem dX11_code_95 : decode cX11_code 95 = .ok (.aload_n 0, 1) := by decide +kernel
theorem dX11_code_96 : decode cX11_code 96 = .ok (.iload 4, 2) := by decide +kernel
theorem dX11_code_98 : decode cX11_code 98 = .ok (.invokevirtual 208, 3) := by decide +kernel
theorem dX11_code_101 : decode cX11_code 101 = .ok (.istore_n 2, 1) := by decide +kernel
theorem dX11_code_102 : decode cX11_code 102 = .ok (.aload_n 0, 1) := by decide +kernel
theorem dX11_code_103 : decode cX11_code 103 = .ok (.getfield 51, 3) := by decide +kernel
theorem dX11_code_106 : decode cX11_code 106 = .ok (.iload 4, 2) := by decide +kernel
theorem dX11_code_108 : decode cX11_code 108 = .ok (.iconst 1, 1) := by decide +kernel
theorem dX11_code_109 : decode cX11_code 109 = .ok (.bastore, 1) := by decide +kernel
theorem dX11_code_110 : decode cX11_code 110 = .ok (.iinc 3 1, 3) := by decide +kernel
theorem dX11_code_113 : decode cX11_code 113 = .ok (.goto (-54), 3) := by decide +kernel
theorem dX11_code_116 : decode cX11_code 116 = .ok (.iload_n 2, 1) := by decide +kernel
theorem dX11_code_117 : decode cX11_code 117 = .ok (.ireturn, 1) := by decide +kernel
theorem dX11_read_0 : decode cX11_read 0 = .ok (.aload_n 0, 1) := by decide +kernel
theorem dX11_read_1 : decode cX11_read 1 = .ok (.getfield 91, 3) := by decide +kernel
theorem dX11_read_4 : decode cX11_read 4 = .ok (.bipush 20, 2) := by decide +kernel
theorem dX11_read_6 : decode cX11_read 6 = .ok (.iload_n 1, 1) := by decide +kernel
theorem dX11_read_7 : decode cX11_read 7 = .ok (.imul, 1) := by decide +kernel
theorem dX11_read_8 : decode cX11_read 8 = .ok (.iload_n 2, 1) := by decide +kernel
theorem dX11_read_9 : decode cX11_read 9 = .ok (.iadd, 1) := by decide +kernel
theorem dX11_read_10 : decode cX11_read 10 = .ok (.iaload, 1) := by decide +kernel
theorem dX11_read_11 : decode cX11_read 11 = .ok (.ireturn, 1) := by decide +kernel
theorem dX11_plant_0 : decode cX11_plant 0 = .ok (.iconst 1, 1) := by decide +kernel
theorem dX11_plant_1 : decode cX11_plant 1 = .ok (.istore_n 1, 1) := by decide +kernel
theorem dX11_plant_2 : decode cX11_plant 2 = .ok (.aload_n 0, 1) := by decide +kernel
theorem dX11_plant_3 : decode cX11_plant 3 = .ok (.getfield 45, 3) := by decide +kernel
theorem dX11_plant_6 : decode cX11_plant 6 = .ok (.iconst 0, 1) := by decide +kernel
theorem dX11_plant_7 : decode cX11_plant 7 = .ok (.iconst 0, 1) := by decide +kernel
theorem dX11_plant_8 : decode cX11_plant 8 = .ok (.iastore, 1) := by decide +kernel
theorem dX11_plant_9 : decode cX11_plant 9 = .ok (.iconst 0, 1) := by decide +kernel
theorem dX11_plant_10 : decode cX11_plant 10 = .ok (.istore_n 2, 1) := by decide +kernel
theorem dX11_plant_11 : decode cX11_plant 11 = .ok (.iload_n 2, 1) := by decide +kernel
theorem dX11_plant_12 : decode cX11_plant 12 = .ok (.iload_n 1, 1) := by decide +kernel
theorem dX11_plant_13 : decode cX11_plant 13 = .ok (.if_icmp .ge 66, 3) := by decide +kernel
theorem dX11_plant_16 : decode cX11_plant 16 = .ok (.iconst 1, 1) := by decide +kernel
theorem dX11_plant_17 : decode cX11_plant 17 = .ok (.istore_n 3, 1) := by decide +kernel
theorem dX11_plant_18 : decode cX11_plant 18 = .ok (.iload_n 3, 1) := by decide +kernel
theorem dX11_plant_19 : decode cX11_plant 19 = .ok (.aload_n 0, 1) := by decide +kernel
theorem dX11_plant_20 : decode cX11_plant 20 = .ok (.getfield 7, 3) := by decide +kernel
theorem dX11_plant_23 : decode cX11_plant 23 = .ok (.if_icmp .gt 50, 3) := by decide +kernel
theorem dX11_plant_26 : decode cX11_plant 26 = .ok (.aload_n 0, 1) := by decide +kernel
theorem dX11_plant_27 : decode cX11_plant 27 = .ok (.getfield 42, 3) := by decide +kernel
theorem dX11_plant_30 : decode cX11_plant 30 = .ok (.iload_n 3, 1) := by decide +kernel
theorem dX11_plant_31 : decode cX11_plant 31 = .ok (.iaload, 1) := by decide +kernel
theorem dX11_plant_32 : decode cX11_plant 32 = .ok (.aload_n 0, 1) := by decide +kernel
theorem dX11_plant_33 : decode cX11_plant 33 = .ok (.getfield 45, 3) := by decide +kernel
theorem dX11_plant_36 : decode cX11_plant 36 = .ok (.iload_n 2, 1) := by decide +kernel
theorem dX11_plant_37 : decode cX11_plant 37 = .ok (.iaload, 1) := by decide +kernel
theorem dX11_plant_38 : decode cX11_plant 38 = .ok (.if_icmp .ne 29, 3) := by decide +kernel
theorem dX11_plant_41 : decode cX11_plant 41 = .ok (.aload_n 0, 1) := by decide +kernel
theorem dX11_plant_42 : decode cX11_plant 42 = .ok (.getfield 45, 3) := by decide +kernel
theorem dX11_plant_45 : decode cX11_plant 45 = .ok (.iload_n 1, 1) := by decide +kernel
theorem dX11_plant_46 : decode cX11_plant 46 = .ok (.iload_n 3, 1) := by decide +kernel
theorem dX11_plant_47 : decode cX11_plant 47 = .ok (.iastore, 1) := by decide +kernel
theorem dX11_plant_48 : decode cX11_plant 48 = .ok (.iinc 1 1, 3) := by decide +kernel
theorem dX11_plant_51 : decode cX11_plant 51 = .ok (.aload_n 0, 1) := by decide +kernel
theorem dX11_plant_52 : decode cX11_plant 52 = .ok (.getfield 13, 3) := by decide +kernel
theorem dX11_plant_55 : decode cX11_plant 55 = .ok (.iload_n 3, 1) := by decide +kernel
theorem dX11_plant_56 : decode cX11_plant 56 = .ok (.iload_n 2, 1) := by decide +kernel
theorem dX11_plant_57 : decode cX11_plant 57 = .ok (.iconst 1, 1) := by decide +kernel
theorem dX11_plant_58 : decode cX11_plant 58 = .ok (.iadd, 1) := by decide +kernel
theorem dX11_plant_59 : decode cX11_plant 59 = .ok (.iastore, 1) := by decide +kernel
theorem dX11_plant_60 : decode cX11_plant 60 = .ok (.aload_n 0, 1) := by decide +kernel
theorem dX11_plant_61 : decode cX11_plant 61 = .ok (.getfield 17, 3) := by decide +kernel
theorem dX11_plant_64 : decode cX11_plant 64 = .ok (.iload_n 3, 1) := by decide +kernel
theorem dX11_plant_65 : decode cX11_plant 65 = .ok (.iconst 1, 1) := by decide +kernel
theorem dX11_plant_66 : decode cX11_plant 66 = .ok (.iastore, 1) := by decide +kernel
theorem dX11_plant_67 : decode cX11_plant 67 = .ok (.iinc 3 1, 3) := by decide +kernel
theorem dX11_plant_70 : decode cX11_plant 70 = .ok (.goto (-52), 3) := by decide +kernel
theorem dX11_plant_73 : decode cX11_plant 73 = .ok (.iinc 2 1, 3) := by decide +kernel
theorem dX11_plant_76 : decode cX11_plant 76 = .ok (.goto (-65), 3) := by decide +kernel
theorem dX11_plant_79 : decode cX11_plant 79 = .ok (.aload_n 0, 1) := by decide +kernel
theorem dX11_plant_80 : decode cX11_plant 80 = .ok (.aload_n 0, 1) := by decide +kernel
theorem dX11_plant_81 : decode cX11_plant 81 = .ok (.getfield 7, 3) := by decide +kernel
theorem dX11_plant_84 : decode cX11_plant 84 = .ok (.putfield 110, 3) := by decide +kernel
theorem dX11_plant_87 : decode cX11_plant 87 = .ok (.return_, 1) := by decide +kernel
theorem dX11_decode_0 : decode cX11_decode 0 = .ok (.iload_n 1, 1) := by decide +kernel
theorem dX11_decode_1 : decode cX11_decode 1 = .ok (.iload_n 2, 1) := by decide +kernel
theorem dX11_decode_2 : decode cX11_decode 2 = .ok (.invokestatic 211, 3) := by decide +kernel
theorem dX11_decode_5 : decode cX11_decode 5 = .ok (.ifCond .ne 5, 3) := by decide +kernel
theorem dX11_decode_8 : decode cX11_decode 8 = .ok (.iconst (-1), 1) := by decide +kernel
theorem dX11_decode_9 : decode cX11_decode 9 = .ok (.ireturn, 1) := by decide +kernel
theorem dX11_decode_10 : decode cX11_decode 10 = .ok (.aload_n 0, 1) := by decide +kernel
theorem dX11_decode_11 : decode cX11_decode 11 = .ok (.iload_n 1, 1) := by decide +kernel
theorem dX11_decode_12 : decode cX11_decode 12 = .ok (.iload_n 2, 1) := by decide +kernel
theorem dX11_decode_13 : decode cX11_decode 13 = .ok (.iload_n 3, 1) := by decide +kernel
theorem dX11_decode_14 : decode cX11_decode 14 = .ok (.aload_n 0, 1) := by decide +kernel
theorem dX11_decode_15 : decode cX11_decode 15 = .ok (.getfield 7, 3) := by decide +kernel
theorem dX11_decode_18 : decode cX11_decode 18 = .ok (.iconst 1, 1) := by decide +kernel
theorem dX11_decode_19 : decode cX11_decode 19 = .ok (.isub, 1) := by decide +kernel
theorem dX11_decode_20 : decode cX11_decode 20 = .ok (.invokevirtual 214, 3) := by decide +kernel
theorem dX11_decode_23 : decode cX11_decode 23 = .ok (.istore 4, 2) := by decide +kernel
theorem dX11_decode_25 : decode cX11_decode 25 = .ok (.iload 4, 2) := by decide +kernel
theorem dX11_decode_27 : decode cX11_decode 27 = .ok (.ifCond .ge 6, 3) := by decide +kernel
theorem dX11_decode_30 : decode cX11_decode 30 = .ok (.iload 4, 2) := by decide +kernel
theorem dX11_decode_32 : decode cX11_decode 32 = .ok (.ireturn, 1) := by decide +kernel
theorem dX11_decode_33 : decode cX11_decode 33 = .ok (.aload_n 0, 1) := by decide +kernel
theorem dX11_decode_34 : decode cX11_decode 34 = .ok (.getfield 104, 3) := by decide +kernel
theorem dX11_decode_37 : decode cX11_decode 37 = .ok (.ifCond .ne 15, 3) := by decide +kernel
theorem dX11_decode_40 : decode cX11_decode 40 = .ok (.aload_n 0, 1) := by decide +kernel
theorem dX11_decode_41 : decode cX11_decode 41 = .ok (.getfield 7, 3) := by decide +kernel
theorem dX11_decode_44 : decode cX11_decode 44 = .ok (.iconst 1, 1) := by decide +kernel
theorem dX11_decode_45 : decode cX11_decode 45 = .ok (.if_icmp .le 7, 3) := by decide +kernel
theorem dX11_decode_48 : decode cX11_decode 48 = .ok (.iconst 1, 1) := by decide +kernel
theorem dX11_decode_49 : decode cX11_decode 49 = .ok (.goto 4, 3) := by decide +kernel
theorem dX11_decode_52 : decode cX11_decode 52 = .ok (.iconst 0, 1) := by decide +kernel
theorem dX11_decode_53 : decode cX11_decode 53 = .ok (.istore 5, 2) := by decide +kernel
theorem dX11_decode_55 : decode cX11_decode 55 = .ok (.iconst 0, 1) := by decide +kernel
theorem dX11_decode_56 : decode cX11_decode 56 = .ok (.istore 6, 2) := by decide +kernel
theorem dX11_decode_58 : decode cX11_decode 58 = .ok (.iload 6, 2) := by decide +kernel
theorem dX11_decode_60 : decode cX11_decode 60 = .ok (.aload_n 0, 1) := by decide +kernel
theorem dX11_decode_61 : decode cX11_decode 61 = .ok (.getfield 7, 3) := by decide +kernel
theorem dX11_decode_64 : decode cX11_decode 64 = .ok (.iconst 1, 1) := by decide +kernel
theorem dX11_decode_65 : decode cX11_decode 65 = .ok (.isub, 1) := by decide +kernel
theorem dX11_decode_66 : decode cX11_decode 66 = .ok (.if_icmp .ge 43, 3) := by decide +kernel
theorem dX11_decode_69 : decode cX11_decode 69 = .ok (.iload 5, 2) := by decide +kernel
theorem dX11_decode_71 : decode cX11_decode 71 = .ok (.ifCond .eq 29, 3) := by decide +kernel
theorem dX11_decode_74 : decode cX11_decode 74 = .ok (.aload_n 0, 1) := by decide +kernel
theorem dX11_decode_75 : decode cX11_decode 75 = .ok (.iload_n 1, 1) := by decide +kernel
theorem dX11_decode_76 : decode cX11_decode 76 = .ok (.iload_n 3, 1) := by decide +kernel
theorem dX11_decode_77 : decode cX11_decode 77 = .ok (.iload 6, 2) := by decide +kernel
theorem dX11_decode_79 : decode cX11_decode 79 = .ok (.iadd, 1) := by decide +kernel
theorem dX11_decode_80 : decode cX11_decode 80 = .ok (.invokevirtual 218, 3) := by decide +kernel
theorem dX11_decode_83 : decode cX11_decode 83 = .ok (.i2l, 1) := by decide +kernel
theorem dX11_decode_84 : decode cX11_decode 84 = .ok (.lconst 0, 1) := by decide +kernel
theorem dX11_decode_85 : decode cX11_decode 85 = .ok (.aload_n 0, 1) := by decide +kernel
theorem dX11_decode_86 : decode cX11_decode 86 = .ok (.getfield 7, 3) := by decide +kernel
theorem dX11_decode_89 : decode cX11_decode 89 = .ok (.i2l, 1) := by decide +kernel
theorem dX11_decode_90 : decode cX11_decode 90 = .ok (.invokestatic 96, 3) := by decide +kernel
theorem dX11_decode_93 : decode cX11_decode 93 = .ok (.ifCond .eq 7, 3) := by decide +kernel
theorem dX11_decode_96 : decode cX11_decode 96 = .ok (.iconst 1, 1) := by decide +kernel
theorem dX11_decode_97 : decode cX11_decode 97 = .ok (.goto 4, 3) := by decide +kernel
theorem dX11_decode_100 : decode cX11_decode 100 = .ok (.iconst 0, 1) := by decide +kernel
theorem dX11_decode_101 : decode cX11_decode 101 = .ok (.istore 5, 2) := by decide +kernel
theorem dX11_decode_103 : decode cX11_decode 103 = .ok (.iinc 6 1, 3) := by decide +kernel
theorem dX11_decode_106 : decode cX11_decode 106 = .ok (.goto (-48), 3) := by decide +kernel
theorem dX11_decode_109 : decode cX11_decode 109 = .ok (.iload 5, 2) := by decide +kernel
theorem dX11_decode_111 : decode cX11_decode 111 = .ok (.ifCond .ne 6, 3) := by decide +kernel
theorem dX11_decode_114 : decode cX11_decode 114 = .ok (.bipush (-2), 2) := by decide +kernel
theorem dX11_decode_116 : decode cX11_decode 116 = .ok (.ireturn, 1) := by decide +kernel
theorem dX11_decode_117 : decode cX11_decode 117 = .ok (.iconst 0, 1) := by decide +kernel
theorem dX11_decode_118 : decode cX11_decode 118 = .ok (.istore 6, 2) := by decide +kernel
theorem dX11_decode_120 : decode cX11_decode 120 = .ok (.iload 6, 2) := by decide +kernel
theorem dX11_decode_122 : decode cX11_decode 122 = .ok (.aload_n 0, 1) := by decide +kernel
theorem dX11_decode_123 : decode cX11_decode 123 = .ok (.getfield 7, 3) := by decide +kernel
theorem dX11_decode_126 : decode cX11_decode 126 = .ok (.if_icmp .gt 17, 3) := by decide +kernel
theorem dX11_decode_129 : decode cX11_decode 129 = .ok (.aload_n 0, 1) := by decide +kernel
theorem dX11_decode_130 : decode cX11_decode 130 = .ok (.getfield 55, 3) := by decide +kernel
theorem dX11_decode_133 : decode cX11_decode 133 = .ok (.iload 6, 2) := by decide +kernel
theorem dX11_decode_135 : decode cX11_decode 135 = .ok (.iconst 1, 1) := by decide +kernel
theorem dX11_decode_136 : decode cX11_decode 136 = .ok (.iastore, 1) := by decide +kernel
theorem dX11_decode_137 : decode cX11_decode 137 = .ok (.iinc 6 1, 3) := by decide +kernel
theorem dX11_decode_140 : decode cX11_decode 140 = .ok (.goto (-20), 3) := by decide +kernel
theorem dX11_decode_143 : decode cX11_decode 143 = .ok (.iconst 0, 1) := by decide +kernel
theorem dX11_decode_144 : decode cX11_decode 144 = .ok (.istore 6, 2) := by decide +kernel
theorem dX11_decode_146 : decode cX11_decode 146 = .ok (.iload 6, 2) := by decide +kernel
theorem dX11_decode_148 : decode cX11_decode 148 = .ok (.aload_n 0, 1) := by decide +kernel
theorem dX11_decode_149 : decode cX11_decode 149 = .ok (.getfield 7, 3) := by decide +kernel
theorem dX11_decode_152 : decode cX11_decode 152 = .ok (.iconst 1, 1) := by decide +kernel
theorem dX11_decode_153 : decode cX11_decode 153 = .ok (.isub, 1) := by decide +kernel
theorem dX11_decode_154 : decode cX11_decode 154 = .ok (.if_icmp .ge 27, 3) := by decide +kernel
theorem dX11_decode_157 : decode cX11_decode 157 = .ok (.aload_n 0, 1) := by decide +kernel
theorem dX11_decode_158 : decode cX11_decode 158 = .ok (.getfield 55, 3) := by decide +kernel
theorem dX11_decode_161 : decode cX11_decode 161 = .ok (.aload_n 0, 1) := by decide +kernel
theorem dX11_decode_162 : decode cX11_decode 162 = .ok (.iload_n 1, 1) := by decide +kernel
theorem dX11_decode_163 : decode cX11_decode 163 = .ok (.iload_n 3, 1) := by decide +kernel
theorem dX11_decode_164 : decode cX11_decode 164 = .ok (.iload 6, 2) := by decide +kernel
theorem dX11_decode_166 : decode cX11_decode 166 = .ok (.iadd, 1) := by decide +kernel
theorem dX11_decode_167 : decode cX11_decode 167 = .ok (.invokevirtual 218, 3) := by decide +kernel
theorem dX11_decode_170 : decode cX11_decode 170 = .ok (.dup2, 1) := by decide +kernel
theorem dX11_decode_171 : decode cX11_decode 171 = .ok (.iaload, 1) := by decide +kernel
theorem dX11_decode_172 : decode cX11_decode 172 = .ok (.iconst 1, 1) := by decide +kernel
theorem dX11_decode_173 : decode cX11_decode 173 = .ok (.iadd, 1) := by decide +kernel
theorem dX11_decode_174 : decode cX11_decode 174 = .ok (.iastore, 1) := by decide +kernel
theorem dX11_decode_175 : decode cX11_decode 175 = .ok (.iinc 6 1, 3) := by decide +kernel
theorem dX11_decode_178 : decode cX11_decode 178 = .ok (.goto (-32), 3) := by decide +kernel
theorem dX11_decode_181 : decode cX11_decode 181 = .ok (.iconst 0, 1) := by decide +kernel
theorem dX11_decode_182 : decode cX11_decode 182 = .ok (.istore 6, 2) := by decide +kernel
theorem dX11_decode_184 : decode cX11_decode 184 = .ok (.iload 6, 2) := by decide +kernel
theorem dX11_decode_186 : decode cX11_decode 186 = .ok (.aload_n 0, 1) := by decide +kernel
theorem dX11_decode_187 : decode cX11_decode 187 = .ok (.getfield 7, 3) := by decide +kernel
theorem dX11_decode_190 : decode cX11_decode 190 = .ok (.iconst 1, 1) := by decide +kernel
theorem dX11_decode_191 : decode cX11_decode 191 = .ok (.isub, 1) := by decide +kernel
theorem dX11_decode_192 : decode cX11_decode 192 = .ok (.if_icmp .ge 81, 3) := by decide +kernel
theorem dX11_decode_195 : decode cX11_decode 195 = .ok (.aload_n 0, 1) := by decide +kernel
theorem dX11_decode_196 : decode cX11_decode 196 = .ok (.getfield 7, 3) := by decide +kernel
theorem dX11_decode_199 : decode cX11_decode 199 = .ok (.istore 7, 2) := by decide +kernel
theorem dX11_decode_201 : decode cX11_decode 201 = .ok (.aload_n 0, 1) := by decide +kernel
theorem dX11_decode_202 : decode cX11_decode 202 = .ok (.getfield 55, 3) := by decide +kernel
theorem dX11_decode_205 : decode cX11_decode 205 = .ok (.iload 7, 2) := by decide +kernel
theorem dX11_decode_207 : decode cX11_decode 207 = .ok (.iaload, 1) := by decide +kernel
theorem dX11_decode_208 : decode cX11_decode 208 = .ok (.iconst 1, 1) := by decide +kernel
theorem dX11_decode_209 : decode cX11_decode 209 = .ok (.if_icmp .eq 9, 3) := by decide +kernel
theorem dX11_decode_212 : decode cX11_decode 212 = .ok (.iinc 7 (-1), 3) := by decide +kernel
theorem dX11_decode_215 : decode cX11_decode 215 = .ok (.goto (-14), 3) := by decide +kernel
theorem dX11_decode_218 : decode cX11_decode 218 = .ok (.aload_n 0, 1) := by decide +kernel
theorem dX11_decode_219 : decode cX11_decode 219 = .ok (.getfield 58, 3) := by decide +kernel
theorem dX11_decode_222 : decode cX11_decode 222 = .ok (.iload 6, 2) := by decide +kernel
theorem dX11_decode_224 : decode cX11_decode 224 = .ok (.iload 7, 2) := by decide +kernel
theorem dX11_decode_226 : decode cX11_decode 226 = .ok (.iastore, 1) := by decide +kernel
theorem dX11_decode_227 : decode cX11_decode 227 = .ok (.aload_n 0, 1) := by decide +kernel
theorem dX11_decode_228 : decode cX11_decode 228 = .ok (.getfield 61, 3) := by decide +kernel
theorem dX11_decode_231 : decode cX11_decode 231 = .ok (.iload 6, 2) := by decide +kernel
theorem dX11_decode_233 : decode cX11_decode 233 = .ok (.aload_n 0, 1) := by decide +kernel
theorem dX11_decode_234 : decode cX11_decode 234 = .ok (.iload_n 1, 1) := by decide +kernel
theorem dX11_decode_235 : decode cX11_decode 235 = .ok (.iload_n 3, 1) := by decide +kernel
theorem dX11_decode_236 : decode cX11_decode 236 = .ok (.iload 6, 2) := by decide +kernel
theorem dX11_decode_238 : decode cX11_decode 238 = .ok (.iadd, 1) := by decide +kernel
theorem dX11_decode_239 : decode cX11_decode 239 = .ok (.invokevirtual 218, 3) := by decide +kernel
theorem dX11_decode_242 : decode cX11_decode 242 = .ok (.iastore, 1) := by decide +kernel
theorem dX11_decode_243 : decode cX11_decode 243 = .ok (.aload_n 0, 1) := by decide +kernel
theorem dX11_decode_244 : decode cX11_decode 244 = .ok (.getfield 55, 3) := by decide +kernel
theorem dX11_decode_247 : decode cX11_decode 247 = .ok (.iload 7, 2) := by decide +kernel
theorem dX11_decode_249 : decode cX11_decode 249 = .ok (.iconst 0, 1) := by decide +kernel
theorem dX11_decode_250 : decode cX11_decode 250 = .ok (.iastore, 1) := by decide +kernel
theorem dX11_decode_251 : decode cX11_decode 251 = .ok (.aload_n 0, 1) := by decide +kernel
theorem dX11_decode_252 : decode cX11_decode 252 = .ok (.getfield 55, 3) := by decide +kernel
theorem dX11_decode_255 : decode cX11_decode 255 = .ok (.aload_n 0, 1) := by decide +kernel
theorem dX11_decode_256 : decode cX11_decode 256 = .ok (.getfield 61, 3) := by decide +kernel
theorem dX11_decode_259 : decode cX11_decode 259 = .ok (.iload 6, 2) := by decide +kernel
theorem dX11_decode_261 : decode cX11_decode 261 = .ok (.iaload, 1) := by decide +kernel
theorem dX11_decode_262 : decode cX11_decode 262 = .ok (.dup2, 1) := by decide +kernel
theorem dX11_decode_263 : decode cX11_decode 263 = .ok (.iaload, 1) := by decide +kernel
theorem dX11_decode_264 : decode cX11_decode 264 = .ok (.iconst 1, 1) := by decide +kernel
theorem dX11_decode_265 : decode cX11_decode 265 = .ok (.isub, 1) := by decide +kernel
theorem dX11_decode_266 : decode cX11_decode 266 = .ok (.iastore, 1) := by decide +kernel
theorem dX11_decode_267 : decode cX11_decode 267 = .ok (.iinc 6 1, 3) := by decide +kernel
theorem dX11_decode_270 : decode cX11_decode 270 = .ok (.goto (-86), 3) := by decide +kernel
theorem dX11_decode_273 : decode cX11_decode 273 = .ok (.aload_n 0, 1) := by decide +kernel
theorem dX11_decode_274 : decode cX11_decode 274 = .ok (.getfield 7, 3) := by decide +kernel
theorem dX11_decode_277 : decode cX11_decode 277 = .ok (.istore 6, 2) := by decide +kernel
theorem dX11_decode_279 : decode cX11_decode 279 = .ok (.aload_n 0, 1) := by decide +kernel
theorem dX11_decode_280 : decode cX11_decode 280 = .ok (.getfield 55, 3) := by decide +kernel
theorem dX11_decode_283 : decode cX11_decode 283 = .ok (.iload 6, 2) := by decide +kernel
theorem dX11_decode_285 : decode cX11_decode 285 = .ok (.iaload, 1) := by decide +kernel
theorem dX11_decode_286 : decode cX11_decode 286 = .ok (.iconst 1, 1) := by decide +kernel
theorem dX11_decode_287 : decode cX11_decode 287 = .ok (.if_icmp .eq 9, 3) := by decide +kernel
theorem dX11_decode_290 : decode cX11_decode 290 = .ok (.iinc 6 (-1), 3) := by decide +kernel
theorem dX11_decode_293 : decode cX11_decode 293 = .ok (.goto (-14), 3) := by decide +kernel
theorem dX11_decode_296 : decode cX11_decode 296 = .ok (.iload 6, 2) := by decide +kernel
theorem dX11_decode_298 : decode cX11_decode 298 = .ok (.iconst 1, 1) := by decide +kernel
theorem dX11_decode_299 : decode cX11_decode 299 = .ok (.isub, 1) := by decide +kernel
theorem dX11_decode_300 : decode cX11_decode 300 = .ok (.istore 7, 2) := by decide +kernel
theorem dX11_decode_302 : decode cX11_decode 302 = .ok (.aload_n 0, 1) := by decide +kernel
theorem dX11_decode_303 : decode cX11_decode 303 = .ok (.getfield 55, 3) := by decide +kernel
theorem dX11_decode_306 : decode cX11_decode 306 = .ok (.iload 7, 2) := by decide +kernel
theorem dX11_decode_308 : decode cX11_decode 308 = .ok (.iaload, 1) := by decide +kernel
theorem dX11_decode_309 : decode cX11_decode 309 = .ok (.iconst 1, 1) := by decide +kernel
theorem dX11_decode_310 : decode cX11_decode 310 = .ok (.if_icmp .eq 9, 3) := by decide +kernel
theorem dX11_decode_313 : decode cX11_decode 313 = .ok (.iinc 7 (-1), 3) := by decide +kernel
theorem dX11_decode_316 : decode cX11_decode 316 = .ok (.goto (-14), 3) := by decide +kernel
theorem dX11_decode_319 : decode cX11_decode 319 = .ok (.aload_n 0, 1) := by decide +kernel
theorem dX11_decode_320 : decode cX11_decode 320 = .ok (.getfield 58, 3) := by decide +kernel
theorem dX11_decode_323 : decode cX11_decode 323 = .ok (.aload_n 0, 1) := by decide +kernel
theorem dX11_decode_324 : decode cX11_decode 324 = .ok (.getfield 7, 3) := by decide +kernel
theorem dX11_decode_327 : decode cX11_decode 327 = .ok (.iconst 1, 1) := by decide +kernel
theorem dX11_decode_328 : decode cX11_decode 328 = .ok (.isub, 1) := by decide +kernel
theorem dX11_decode_329 : decode cX11_decode 329 = .ok (.iload 6, 2) := by decide +kernel
theorem dX11_decode_331 : decode cX11_decode 331 = .ok (.iastore, 1) := by decide +kernel
theorem dX11_decode_332 : decode cX11_decode 332 = .ok (.aload_n 0, 1) := by decide +kernel
theorem dX11_decode_333 : decode cX11_decode 333 = .ok (.getfield 61, 3) := by decide +kernel
theorem dX11_decode_336 : decode cX11_decode 336 = .ok (.aload_n 0, 1) := by decide +kernel
theorem dX11_decode_337 : decode cX11_decode 337 = .ok (.getfield 7, 3) := by decide +kernel
theorem dX11_decode_340 : decode cX11_decode 340 = .ok (.iconst 1, 1) := by decide +kernel
theorem dX11_decode_341 : decode cX11_decode 341 = .ok (.isub, 1) := by decide +kernel
theorem dX11_decode_342 : decode cX11_decode 342 = .ok (.iload 7, 2) := by decide +kernel
theorem dX11_decode_344 : decode cX11_decode 344 = .ok (.iastore, 1) := by decide +kernel
theorem dX11_decode_345 : decode cX11_decode 345 = .ok (.aload_n 0, 1) := by decide +kernel
theorem dX11_decode_346 : decode cX11_decode 346 = .ok (.invokevirtual 222, 3) := by decide +kernel
theorem dX11_decode_349 : decode cX11_decode 349 = .ok (.aload_n 0, 1) := by decide +kernel
theorem dX11_decode_350 : decode cX11_decode 350 = .ok (.invokevirtual 225, 3) := by decide +kernel
theorem dX11_decode_353 : decode cX11_decode 353 = .ok (.aload_n 0, 1) := by decide +kernel
theorem dX11_decode_354 : decode cX11_decode 354 = .ok (.getfield 7, 3) := by decide +kernel
theorem dX11_decode_357 : decode cX11_decode 357 = .ok (.ireturn, 1) := by decide +kernel
theorem dX11_hang_0 : decode cX11_hang 0 = .ok (.iconst 0, 1) := by decide +kernel
theorem dX11_hang_1 : decode cX11_hang 1 = .ok (.istore_n 1, 1) := by decide +kernel
theorem dX11_hang_2 : decode cX11_hang 2 = .ok (.iload_n 1, 1) := by decide +kernel
theorem dX11_hang_3 : decode cX11_hang 3 = .ok (.aload_n 0, 1) := by decide +kernel
theorem dX11_hang_4 : decode cX11_hang 4 = .ok (.getfield 7, 3) := by decide +kernel
theorem dX11_hang_7 : decode cX11_hang 7 = .ok (.if_icmp .gt 24, 3) := by decide +kernel
theorem dX11_hang_10 : decode cX11_hang 10 = .ok (.aload_n 0, 1) := by decide +kernel
theorem dX11_hang_11 : decode cX11_hang 11 = .ok (.getfield 42, 3) := by decide +kernel
theorem dX11_hang_14 : decode cX11_hang 14 = .ok (.iload_n 1, 1) := by decide +kernel
theorem dX11_hang_15 : decode cX11_hang 15 = .ok (.iload_n 1, 1) := by decide +kernel
theorem dX11_hang_16 : decode cX11_hang 16 = .ok (.ifCond .ne 7, 3) := by decide +kernel
theorem dX11_hang_19 : decode cX11_hang 19 = .ok (.iconst 0, 1) := by decide +kernel
theorem dX11_hang_20 : decode cX11_hang 20 = .ok (.goto 4, 3) := by decide +kernel
theorem dX11_hang_23 : decode cX11_hang 23 = .ok (.iconst (-1), 1) := by decide +kernel
theorem dX11_hang_24 : decode cX11_hang 24 = .ok (.iastore, 1) := by decide +kernel
theorem dX11_hang_25 : decode cX11_hang 25 = .ok (.iinc 1 1, 3) := by decide +kernel
theorem dX11_hang_28 : decode cX11_hang 28 = .ok (.goto (-26), 3) := by decide +kernel
theorem dX11_hang_31 : decode cX11_hang 31 = .ok (.iconst 1, 1) := by decide +kernel
theorem dX11_hang_32 : decode cX11_hang 32 = .ok (.istore_n 1, 1) := by decide +kernel
theorem dX11_hang_33 : decode cX11_hang 33 = .ok (.iload_n 1, 1) := by decide +kernel
theorem dX11_hang_34 : decode cX11_hang 34 = .ok (.ifCond .eq 108, 3) := by decide +kernel
theorem dX11_hang_37 : decode cX11_hang 37 = .ok (.iconst 0, 1) := by decide +kernel
theorem dX11_hang_38 : decode cX11_hang 38 = .ok (.istore_n 1, 1) := by decide +kernel
theorem dX11_hang_39 : decode cX11_hang 39 = .ok (.iconst 0, 1) := by decide +kernel
theorem dX11_hang_40 : decode cX11_hang 40 = .ok (.istore_n 2, 1) := by decide +kernel
theorem dX11_hang_41 : decode cX11_hang 41 = .ok (.iload_n 2, 1) := by decide +kernel
theorem dX11_hang_42 : decode cX11_hang 42 = .ok (.aload_n 0, 1) := by decide +kernel
theorem dX11_hang_43 : decode cX11_hang 43 = .ok (.getfield 7, 3) := by decide +kernel
theorem dX11_hang_46 : decode cX11_hang 46 = .ok (.if_icmp .ge 93, 3) := by decide +kernel
theorem dX11_hang_49 : decode cX11_hang 49 = .ok (.aload_n 0, 1) := by decide +kernel
theorem dX11_hang_50 : decode cX11_hang 50 = .ok (.getfield 58, 3) := by decide +kernel
theorem dX11_hang_53 : decode cX11_hang 53 = .ok (.iload_n 2, 1) := by decide +kernel
theorem dX11_hang_54 : decode cX11_hang 54 = .ok (.iaload, 1) := by decide +kernel
theorem dX11_hang_55 : decode cX11_hang 55 = .ok (.istore_n 3, 1) := by decide +kernel
theorem dX11_hang_56 : decode cX11_hang 56 = .ok (.aload_n 0, 1) := by decide +kernel
theorem dX11_hang_57 : decode cX11_hang 57 = .ok (.getfield 61, 3) := by decide +kernel
theorem dX11_hang_60 : decode cX11_hang 60 = .ok (.iload_n 2, 1) := by decide +kernel
theorem dX11_hang_61 : decode cX11_hang 61 = .ok (.iaload, 1) := by decide +kernel
theorem dX11_hang_62 : decode cX11_hang 62 = .ok (.istore 4, 2) := by decide +kernel
theorem dX11_hang_64 : decode cX11_hang 64 = .ok (.aload_n 0, 1) := by decide +kernel
theorem dX11_hang_65 : decode cX11_hang 65 = .ok (.getfield 42, 3) := by decide +kernel
theorem dX11_hang_68 : decode cX11_hang 68 = .ok (.iload_n 3, 1) := by decide +kernel
theorem dX11_hang_69 : decode cX11_hang 69 = .ok (.iaload, 1) := by decide +kernel
theorem dX11_hang_70 : decode cX11_hang 70 = .ok (.ifCond .ge 7, 3) := by decide +kernel
theorem dX11_hang_73 : decode cX11_hang 73 = .ok (.iconst 1, 1) := by decide +kernel
theorem dX11_hang_74 : decode cX11_hang 74 = .ok (.goto 4, 3) := by decide +kernel
theorem dX11_hang_77 : decode cX11_hang 77 = .ok (.iconst 0, 1) := by decide +kernel
theorem dX11_hang_78 : decode cX11_hang 78 = .ok (.aload_n 0, 1) := by decide +kernel
theorem dX11_hang_79 : decode cX11_hang 79 = .ok (.getfield 42, 3) := by decide +kernel
theorem dX11_hang_82 : decode cX11_hang 82 = .ok (.iload 4, 2) := by decide +kernel
theorem dX11_hang_84 : decode cX11_hang 84 = .ok (.iaload, 1) := by decide +kernel
theorem dX11_hang_85 : decode cX11_hang 85 = .ok (.ifCond .ge 7, 3) := by decide +kernel
theorem dX11_hang_88 : decode cX11_hang 88 = .ok (.iconst 1, 1) := by decide +kernel
theorem dX11_hang_89 : decode cX11_hang 89 = .ok (.goto 4, 3) := by decide +kernel
theorem dX11_hang_92 : decode cX11_hang 92 = .ok (.iconst 0, 1) := by decide +kernel
theorem dX11_hang_93 : decode cX11_hang 93 = .ok (.if_icmp .eq 40, 3) := by decide +kernel
theorem dX11_hang_96 : decode cX11_hang 96 = .ok (.aload_n 0, 1) := by decide +kernel
theorem dX11_hang_97 : decode cX11_hang 97 = .ok (.getfield 42, 3) := by decide +kernel
theorem dX11_hang_100 : decode cX11_hang 100 = .ok (.aload_n 0, 1) := by decide +kernel
theorem dX11_hang_101 : decode cX11_hang 101 = .ok (.getfield 42, 3) := by decide +kernel
theorem dX11_hang_104 : decode cX11_hang 104 = .ok (.iload_n 3, 1) := by decide +kernel
theorem dX11_hang_105 : decode cX11_hang 105 = .ok (.iaload, 1) := by decide +kernel
theorem dX11_hang_106 : decode cX11_hang 106 = .ok (.ifCond .ge 7, 3) := by decide +kernel
theorem dX11_hang_109 : decode cX11_hang 109 = .ok (.iload_n 3, 1) := by decide +kernel
theorem dX11_hang_110 : decode cX11_hang 110 = .ok (.goto 5, 3) := by decide +kernel
theorem dX11_hang_113 : decode cX11_hang 113 = .ok (.iload 4, 2) := by decide +kernel
theorem dX11_hang_115 : decode cX11_hang 115 = .ok (.aload_n 0, 1) := by decide +kernel
theorem dX11_hang_116 : decode cX11_hang 116 = .ok (.getfield 42, 3) := by decide +kernel
theorem dX11_hang_119 : decode cX11_hang 119 = .ok (.iload_n 3, 1) := by decide +kernel
theorem dX11_hang_120 : decode cX11_hang 120 = .ok (.iaload, 1) := by decide +kernel
theorem dX11_hang_121 : decode cX11_hang 121 = .ok (.ifCond .ge 8, 3) := by decide +kernel
theorem dX11_hang_124 : decode cX11_hang 124 = .ok (.iload 4, 2) := by decide +kernel
theorem dX11_hang_126 : decode cX11_hang 126 = .ok (.goto 4, 3) := by decide +kernel
theorem dX11_hang_129 : decode cX11_hang 129 = .ok (.iload_n 3, 1) := by decide +kernel
theorem dX11_hang_130 : decode cX11_hang 130 = .ok (.iastore, 1) := by decide +kernel
theorem dX11_hang_131 : decode cX11_hang 131 = .ok (.iconst 1, 1) := by decide +kernel
theorem dX11_hang_132 : decode cX11_hang 132 = .ok (.istore_n 1, 1) := by decide +kernel
theorem dX11_hang_133 : decode cX11_hang 133 = .ok (.iinc 2 1, 3) := by decide +kernel
theorem dX11_hang_136 : decode cX11_hang 136 = .ok (.goto (-95), 3) := by decide +kernel
theorem dX11_hang_139 : decode cX11_hang 139 = .ok (.goto (-106), 3) := by decide +kernel
theorem dX11_hang_142 : decode cX11_hang 142 = .ok (.return_, 1) := by decide +kernel
theorem dX11_grow_0 : decode cX11_grow 0 = .ok (.iload_n 1, 1) := by decide +kernel
theorem dX11_grow_1 : decode cX11_grow 1 = .ok (.iload_n 2, 1) := by decide +kernel
theorem dX11_grow_2 : decode cX11_grow 2 = .ok (.invokestatic 211, 3) := by decide +kernel
theorem dX11_grow_5 : decode cX11_grow 5 = .ok (.ifCond .ne 5, 3) := by decide +kernel
theorem dX11_grow_8 : decode cX11_grow 8 = .ok (.iconst (-1), 1) := by decide +kernel
theorem dX11_grow_9 : decode cX11_grow 9 = .ok (.ireturn, 1) := by decide +kernel
theorem dX11_grow_10 : decode cX11_grow 10 = .ok (.aload_n 0, 1) := by decide +kernel
theorem dX11_grow_11 : decode cX11_grow 11 = .ok (.iload_n 1, 1) := by decide +kernel
theorem dX11_grow_12 : decode cX11_grow 12 = .ok (.iload_n 2, 1) := by decide +kernel
theorem dX11_grow_13 : decode cX11_grow 13 = .ok (.iload_n 3, 1) := by decide +kernel
theorem dX11_grow_14 : decode cX11_grow 14 = .ok (.aload_n 0, 1) := by decide +kernel
theorem dX11_grow_15 : decode cX11_grow 15 = .ok (.getfield 7, 3) := by decide +kernel
theorem dX11_grow_18 : decode cX11_grow 18 = .ok (.invokevirtual 214, 3) := by decide +kernel
theorem dX11_grow_21 : decode cX11_grow 21 = .ok (.istore 4, 2) := by decide +kernel
theorem dX11_grow_23 : decode cX11_grow 23 = .ok (.iload 4, 2) := by decide +kernel
theorem dX11_grow_25 : decode cX11_grow 25 = .ok (.ifCond .ge 6, 3) := by decide +kernel
theorem dX11_grow_28 : decode cX11_grow 28 = .ok (.iload 4, 2) := by decide +kernel
theorem dX11_grow_30 : decode cX11_grow 30 = .ok (.ireturn, 1) := by decide +kernel
theorem dX11_grow_31 : decode cX11_grow 31 = .ok (.aload_n 0, 1) := by decide +kernel
theorem dX11_grow_32 : decode cX11_grow 32 = .ok (.getfield 104, 3) := by decide +kernel
theorem dX11_grow_35 : decode cX11_grow 35 = .ok (.ifCond .ne 7, 3) := by decide +kernel
theorem dX11_grow_38 : decode cX11_grow 38 = .ok (.iconst 1, 1) := by decide +kernel
theorem dX11_grow_39 : decode cX11_grow 39 = .ok (.goto 4, 3) := by decide +kernel
theorem dX11_grow_42 : decode cX11_grow 42 = .ok (.iconst 0, 1) := by decide +kernel
theorem dX11_grow_43 : decode cX11_grow 43 = .ok (.istore 5, 2) := by decide +kernel
theorem dX11_grow_45 : decode cX11_grow 45 = .ok (.iconst 1, 1) := by decide +kernel
theorem dX11_grow_46 : decode cX11_grow 46 = .ok (.istore 6, 2) := by decide +kernel
theorem dX11_grow_48 : decode cX11_grow 48 = .ok (.iload 6, 2) := by decide +kernel
theorem dX11_grow_50 : decode cX11_grow 50 = .ok (.aload_n 0, 1) := by decide +kernel
theorem dX11_grow_51 : decode cX11_grow 51 = .ok (.getfield 7, 3) := by decide +kernel
theorem dX11_grow_54 : decode cX11_grow 54 = .ok (.if_icmp .gt 45, 3) := by decide +kernel
theorem dX11_grow_57 : decode cX11_grow 57 = .ok (.iload 5, 2) := by decide +kernel
theorem dX11_grow_59 : decode cX11_grow 59 = .ok (.ifCond .eq 31, 3) := by decide +kernel
theorem dX11_grow_62 : decode cX11_grow 62 = .ok (.aload_n 0, 1) := by decide +kernel
theorem dX11_grow_63 : decode cX11_grow 63 = .ok (.iload_n 1, 1) := by decide +kernel
theorem dX11_grow_64 : decode cX11_grow 64 = .ok (.iload_n 3, 1) := by decide +kernel
theorem dX11_grow_65 : decode cX11_grow 65 = .ok (.iload 6, 2) := by decide +kernel
theorem dX11_grow_67 : decode cX11_grow 67 = .ok (.iadd, 1) := by decide +kernel
theorem dX11_grow_68 : decode cX11_grow 68 = .ok (.iconst 1, 1) := by decide +kernel
theorem dX11_grow_69 : decode cX11_grow 69 = .ok (.isub, 1) := by decide +kernel
theorem dX11_grow_70 : decode cX11_grow 70 = .ok (.invokevirtual 218, 3) := by decide +kernel
theorem dX11_grow_73 : decode cX11_grow 73 = .ok (.i2l, 1) := by decide +kernel
theorem dX11_grow_74 : decode cX11_grow 74 = .ok (.lconst 0, 1) := by decide +kernel
theorem dX11_grow_75 : decode cX11_grow 75 = .ok (.aload_n 0, 1) := by decide +kernel
theorem dX11_grow_76 : decode cX11_grow 76 = .ok (.getfield 7, 3) := by decide +kernel
theorem dX11_grow_79 : decode cX11_grow 79 = .ok (.i2l, 1) := by decide +kernel
theorem dX11_grow_80 : decode cX11_grow 80 = .ok (.invokestatic 96, 3) := by decide +kernel
theorem dX11_grow_83 : decode cX11_grow 83 = .ok (.ifCond .eq 7, 3) := by decide +kernel
theorem dX11_grow_86 : decode cX11_grow 86 = .ok (.iconst 1, 1) := by decide +kernel
theorem dX11_grow_87 : decode cX11_grow 87 = .ok (.goto 4, 3) := by decide +kernel
theorem dX11_grow_90 : decode cX11_grow 90 = .ok (.iconst 0, 1) := by decide +kernel
theorem dX11_grow_91 : decode cX11_grow 91 = .ok (.istore 5, 2) := by decide +kernel
theorem dX11_grow_93 : decode cX11_grow 93 = .ok (.iinc 6 1, 3) := by decide +kernel
theorem dX11_grow_96 : decode cX11_grow 96 = .ok (.goto (-48), 3) := by decide +kernel
theorem dX11_grow_99 : decode cX11_grow 99 = .ok (.iconst 1, 1) := by decide +kernel
theorem dX11_grow_100 : decode cX11_grow 100 = .ok (.istore 6, 2) := by decide +kernel
theorem dX11_grow_102 : decode cX11_grow 102 = .ok (.iload 6, 2) := by decide +kernel
theorem dX11_grow_104 : decode cX11_grow 104 = .ok (.aload_n 0, 1) := by decide +kernel
theorem dX11_grow_105 : decode cX11_grow 105 = .ok (.getfield 7, 3) := by decide +kernel
theorem dX11_grow_108 : decode cX11_grow 108 = .ok (.if_icmp .gt 66, 3) := by decide +kernel
theorem dX11_grow_111 : decode cX11_grow 111 = .ok (.iload 5, 2) := by decide +kernel
theorem dX11_grow_113 : decode cX11_grow 113 = .ok (.ifCond .eq 61, 3) := by decide +kernel
theorem dX11_grow_116 : decode cX11_grow 116 = .ok (.iload 6, 2) := by decide +kernel
theorem dX11_grow_118 : decode cX11_grow 118 = .ok (.istore 7, 2) := by decide +kernel
theorem dX11_grow_120 : decode cX11_grow 120 = .ok (.iconst 0, 1) := by decide +kernel
theorem dX11_grow_121 : decode cX11_grow 121 = .ok (.istore 8, 2) := by decide +kernel
theorem dX11_grow_123 : decode cX11_grow 123 = .ok (.iload 8, 2) := by decide +kernel
theorem dX11_grow_125 : decode cX11_grow 125 = .ok (.aload_n 0, 1) := by decide +kernel
theorem dX11_grow_126 : decode cX11_grow 126 = .ok (.getfield 7, 3) := by decide +kernel
theorem dX11_grow_129 : decode cX11_grow 129 = .ok (.if_icmp .gt 27, 3) := by decide +kernel
theorem dX11_grow_132 : decode cX11_grow 132 = .ok (.iload 7, 2) := by decide +kernel
theorem dX11_grow_134 : decode cX11_grow 134 = .ok (.ifCond .eq 22, 3) := by decide +kernel
theorem dX11_grow_137 : decode cX11_grow 137 = .ok (.aload_n 0, 1) := by decide +kernel
theorem dX11_grow_138 : decode cX11_grow 138 = .ok (.iload_n 1, 1) := by decide +kernel
theorem dX11_grow_139 : decode cX11_grow 139 = .ok (.iload_n 3, 1) := by decide +kernel
theorem dX11_grow_140 : decode cX11_grow 140 = .ok (.iload 7, 2) := by decide +kernel
theorem dX11_grow_142 : decode cX11_grow 142 = .ok (.iadd, 1) := by decide +kernel
theorem dX11_grow_143 : decode cX11_grow 143 = .ok (.iconst 1, 1) := by decide +kernel
theorem dX11_grow_144 : decode cX11_grow 144 = .ok (.isub, 1) := by decide +kernel
theorem dX11_grow_145 : decode cX11_grow 145 = .ok (.invokevirtual 218, 3) := by decide +kernel
theorem dX11_grow_148 : decode cX11_grow 148 = .ok (.istore 7, 2) := by decide +kernel
theorem dX11_grow_150 : decode cX11_grow 150 = .ok (.iinc 8 1, 3) := by decide +kernel
theorem dX11_grow_153 : decode cX11_grow 153 = .ok (.goto (-30), 3) := by decide +kernel
theorem dX11_grow_156 : decode cX11_grow 156 = .ok (.iload 7, 2) := by decide +kernel
theorem dX11_grow_158 : decode cX11_grow 158 = .ok (.ifCond .ne 7, 3) := by decide +kernel
theorem dX11_grow_161 : decode cX11_grow 161 = .ok (.iconst 1, 1) := by decide +kernel
theorem dX11_grow_162 : decode cX11_grow 162 = .ok (.goto 4, 3) := by decide +kernel
theorem dX11_grow_165 : decode cX11_grow 165 = .ok (.iconst 0, 1) := by decide +kernel
theorem dX11_grow_166 : decode cX11_grow 166 = .ok (.istore 5, 2) := by decide +kernel
theorem dX11_grow_168 : decode cX11_grow 168 = .ok (.iinc 6 1, 3) := by decide +kernel
theorem dX11_grow_171 : decode cX11_grow 171 = .ok (.goto (-69), 3) := by decide +kernel
theorem dX11_grow_174 : decode cX11_grow 174 = .ok (.iload 5, 2) := by decide +kernel
theorem dX11_grow_176 : decode cX11_grow 176 = .ok (.ifCond .ne 6, 3) := by decide +kernel
theorem dX11_grow_179 : decode cX11_grow 179 = .ok (.bipush (-2), 2) := by decide +kernel
theorem dX11_grow_181 : decode cX11_grow 181 = .ok (.ireturn, 1) := by decide +kernel
theorem dX11_grow_182 : decode cX11_grow 182 = .ok (.aload_n 0, 1) := by decide +kernel
theorem dX11_grow_183 : decode cX11_grow 183 = .ok (.getfield 42, 3) := by decide +kernel
theorem dX11_grow_186 : decode cX11_grow 186 = .ok (.iconst 0, 1) := by decide +kernel
theorem dX11_grow_187 : decode cX11_grow 187 = .ok (.iconst (-1), 1) := by decide +kernel
theorem dX11_grow_188 : decode cX11_grow 188 = .ok (.iastore, 1) := by decide +kernel
theorem dX11_grow_189 : decode cX11_grow 189 = .ok (.iconst 1, 1) := by decide +kernel
theorem dX11_grow_190 : decode cX11_grow 190 = .ok (.istore 6, 2) := by decide +kernel
theorem dX11_grow_192 : decode cX11_grow 192 = .ok (.iload 6, 2) := by decide +kernel
theorem dX11_grow_194 : decode cX11_grow 194 = .ok (.aload_n 0, 1) := by decide +kernel
theorem dX11_grow_195 : decode cX11_grow 195 = .ok (.getfield 7, 3) := by decide +kernel
theorem dX11_grow_198 : decode cX11_grow 198 = .ok (.if_icmp .gt 27, 3) := by decide +kernel
theorem dX11_grow_201 : decode cX11_grow 201 = .ok (.aload_n 0, 1) := by decide +kernel
theorem dX11_grow_202 : decode cX11_grow 202 = .ok (.getfield 42, 3) := by decide +kernel
theorem dX11_grow_205 : decode cX11_grow 205 = .ok (.iload 6, 2) := by decide +kernel
theorem dX11_grow_207 : decode cX11_grow 207 = .ok (.aload_n 0, 1) := by decide +kernel
theorem dX11_grow_208 : decode cX11_grow 208 = .ok (.iload_n 1, 1) := by decide +kernel
theorem dX11_grow_209 : decode cX11_grow 209 = .ok (.iload_n 3, 1) := by decide +kernel
theorem dX11_grow_210 : decode cX11_grow 210 = .ok (.iload 6, 2) := by decide +kernel
theorem dX11_grow_212 : decode cX11_grow 212 = .ok (.iadd, 1) := by decide +kernel
theorem dX11_grow_213 : decode cX11_grow 213 = .ok (.iconst 1, 1) := by decide +kernel
theorem dX11_grow_214 : decode cX11_grow 214 = .ok (.isub, 1) := by decide +kernel
theorem dX11_grow_215 : decode cX11_grow 215 = .ok (.invokevirtual 218, 3) := by decide +kernel
theorem dX11_grow_218 : decode cX11_grow 218 = .ok (.iastore, 1) := by decide +kernel
theorem dX11_grow_219 : decode cX11_grow 219 = .ok (.iinc 6 1, 3) := by decide +kernel
theorem dX11_grow_222 : decode cX11_grow 222 = .ok (.goto (-30), 3) := by decide +kernel
theorem dX11_grow_225 : decode cX11_grow 225 = .ok (.aload_n 0, 1) := by decide +kernel
theorem dX11_grow_226 : decode cX11_grow 226 = .ok (.invokevirtual 225, 3) := by decide +kernel
theorem dX11_grow_229 : decode cX11_grow 229 = .ok (.aload_n 0, 1) := by decide +kernel
theorem dX11_grow_230 : decode cX11_grow 230 = .ok (.getfield 7, 3) := by decide +kernel
theorem dX11_grow_233 : decode cX11_grow 233 = .ok (.ireturn, 1) := by decide +kernel
theorem dX11_findWalk_0 : decode cX11_findWalk 0 = .ok (.iconst 0, 1) := by decide +kernel
theorem dX11_findWalk_1 : decode cX11_findWalk 1 = .ok (.istore_n 1, 1) := by decide +kernel
theorem dX11_findWalk_2 : decode cX11_findWalk 2 = .ok (.iconst 1, 1) := by decide +kernel
theorem dX11_findWalk_3 : decode cX11_findWalk 3 = .ok (.istore_n 2, 1) := by decide +kernel
theorem dX11_findWalk_4 : decode cX11_findWalk 4 = .ok (.iload_n 2, 1) := by decide +kernel
theorem dX11_findWalk_5 : decode cX11_findWalk 5 = .ok (.aload_n 0, 1) := by decide +kernel
theorem dX11_findWalk_6 : decode cX11_findWalk 6 = .ok (.getfield 7, 3) := by decide +kernel
theorem dX11_findWalk_9 : decode cX11_findWalk 9 = .ok (.if_icmp .gt 54, 3) := by decide +kernel
theorem dX11_findWalk_12 : decode cX11_findWalk 12 = .ok (.iconst 1, 1) := by decide +kernel
theorem dX11_findWalk_13 : decode cX11_findWalk 13 = .ok (.istore_n 3, 1) := by decide +kernel
theorem dX11_findWalk_14 : decode cX11_findWalk 14 = .ok (.iload_n 3, 1) := by decide +kernel
theorem dX11_findWalk_15 : decode cX11_findWalk 15 = .ok (.aload_n 0, 1) := by decide +kernel
theorem dX11_findWalk_16 : decode cX11_findWalk 16 = .ok (.getfield 110, 3) := by decide +kernel
theorem dX11_findWalk_19 : decode cX11_findWalk 19 = .ok (.if_icmp .gt 38, 3) := by decide +kernel
theorem dX11_findWalk_22 : decode cX11_findWalk 22 = .ok (.aload_n 0, 1) := by decide +kernel
theorem dX11_findWalk_23 : decode cX11_findWalk 23 = .ok (.getfield 13, 3) := by decide +kernel
theorem dX11_findWalk_26 : decode cX11_findWalk 26 = .ok (.iload_n 3, 1) := by decide +kernel
theorem dX11_findWalk_27 : decode cX11_findWalk 27 = .ok (.iaload, 1) := by decide +kernel
theorem dX11_findWalk_28 : decode cX11_findWalk 28 = .ok (.iload_n 2, 1) := by decide +kernel
theorem dX11_findWalk_29 : decode cX11_findWalk 29 = .ok (.if_icmp .ne 22, 3) := by decide +kernel
theorem dX11_findWalk_32 : decode cX11_findWalk 32 = .ok (.iinc 1 1, 3) := by decide +kernel
theorem dX11_findWalk_35 : decode cX11_findWalk 35 = .ok (.aload_n 0, 1) := by decide +kernel
theorem dX11_findWalk_36 : decode cX11_findWalk 36 = .ok (.getfield 64, 3) := by decide +kernel
theorem dX11_findWalk_39 : decode cX11_findWalk 39 = .ok (.iload_n 1, 1) := by decide +kernel
theorem dX11_findWalk_40 : decode cX11_findWalk 40 = .ok (.iload_n 3, 1) := by decide +kernel
theorem dX11_findWalk_41 : decode cX11_findWalk 41 = .ok (.iastore, 1) := by decide +kernel
theorem dX11_findWalk_42 : decode cX11_findWalk 42 = .ok (.aload_n 0, 1) := by decide +kernel
theorem dX11_findWalk_43 : decode cX11_findWalk 43 = .ok (.getfield 67, 3) := by decide +kernel
theorem dX11_findWalk_46 : decode cX11_findWalk 46 = .ok (.iload_n 1, 1) := by decide +kernel
theorem dX11_findWalk_47 : decode cX11_findWalk 47 = .ok (.iload_n 1, 1) := by decide +kernel
theorem dX11_findWalk_48 : decode cX11_findWalk 48 = .ok (.iload_n 2, 1) := by decide +kernel
theorem dX11_findWalk_49 : decode cX11_findWalk 49 = .ok (.isub, 1) := by decide +kernel
theorem dX11_findWalk_50 : decode cX11_findWalk 50 = .ok (.iastore, 1) := by decide +kernel
theorem dX11_findWalk_51 : decode cX11_findWalk 51 = .ok (.iinc 3 1, 3) := by decide +kernel
theorem dX11_findWalk_54 : decode cX11_findWalk 54 = .ok (.goto (-40), 3) := by decide +kernel
theorem dX11_findWalk_57 : decode cX11_findWalk 57 = .ok (.iinc 2 1, 3) := by decide +kernel
theorem dX11_findWalk_60 : decode cX11_findWalk 60 = .ok (.goto (-56), 3) := by decide +kernel
theorem dX11_findWalk_63 : decode cX11_findWalk 63 = .ok (.return_, 1) := by decide +kernel
theorem dX11_area_0 : decode cX11_area 0 = .ok (.iconst 0, 1) := by decide +kernel
theorem dX11_area_1 : decode cX11_area 1 = .ok (.istore_n 1, 1) := by decide +kernel
theorem dX11_area_2 : decode cX11_area 2 = .ok (.iconst 1, 1) := by decide +kernel
theorem dX11_area_3 : decode cX11_area 3 = .ok (.istore_n 2, 1) := by decide +kernel
theorem dX11_area_4 : decode cX11_area 4 = .ok (.iload_n 2, 1) := by decide +kernel
theorem dX11_area_5 : decode cX11_area 5 = .ok (.aload_n 0, 1) := by decide +kernel
theorem dX11_area_6 : decode cX11_area 6 = .ok (.getfield 7, 3) := by decide +kernel
theorem dX11_area_9 : decode cX11_area 9 = .ok (.if_icmp .gt 18, 3) := by decide +kernel
theorem dX11_area_12 : decode cX11_area 12 = .ok (.iload_n 1, 1) := by decide +kernel
theorem dX11_area_13 : decode cX11_area 13 = .ok (.aload_n 0, 1) := by decide +kernel
theorem dX11_area_14 : decode cX11_area 14 = .ok (.getfield 67, 3) := by decide +kernel
theorem dX11_area_17 : decode cX11_area 17 = .ok (.iload_n 2, 1) := by decide +kernel
theorem dX11_area_18 : decode cX11_area 18 = .ok (.iaload, 1) := by decide +kernel
theorem dX11_area_19 : decode cX11_area 19 = .ok (.iadd, 1) := by decide +kernel
theorem dX11_area_20 : decode cX11_area 20 = .ok (.istore_n 1, 1) := by decide +kernel
theorem dX11_area_21 : decode cX11_area 21 = .ok (.iinc 2 1, 3) := by decide +kernel
theorem dX11_area_24 : decode cX11_area 24 = .ok (.goto (-20), 3) := by decide +kernel
theorem dX11_area_27 : decode cX11_area 27 = .ok (.iload_n 1, 1) := by decide +kernel
theorem dX11_area_28 : decode cX11_area 28 = .ok (.ireturn, 1) := by decide +kernel
theorem dX11_dinv_0 : decode cX11_dinv 0 = .ok (.iconst 0, 1) := by decide +kernel
theorem dX11_dinv_1 : decode cX11_dinv 1 = .ok (.istore_n 1, 1) := by decide +kernel
theorem dX11_dinv_2 : decode cX11_dinv 2 = .ok (.iconst 1, 1) := by decide +kernel
theorem dX11_dinv_3 : decode cX11_dinv 3 = .ok (.istore_n 2, 1) := by decide +kernel
theorem dX11_dinv_4 : decode cX11_dinv 4 = .ok (.iload_n 2, 1) := by decide +kernel
theorem dX11_dinv_5 : decode cX11_dinv 5 = .ok (.aload_n 0, 1) := by decide +kernel
theorem dX11_dinv_6 : decode cX11_dinv 6 = .ok (.getfield 7, 3) := by decide +kernel
theorem dX11_dinv_9 : decode cX11_dinv 9 = .ok (.if_icmp .gt 109, 3) := by decide +kernel
theorem dX11_dinv_12 : decode cX11_dinv 12 = .ok (.iload_n 2, 1) := by decide +kernel
theorem dX11_dinv_13 : decode cX11_dinv 13 = .ok (.iconst 1, 1) := by decide +kernel
theorem dX11_dinv_14 : decode cX11_dinv 14 = .ok (.iadd, 1) := by decide +kernel
theorem dX11_dinv_15 : decode cX11_dinv 15 = .ok (.istore_n 3, 1) := by decide +kernel
theorem dX11_dinv_16 : decode cX11_dinv 16 = .ok (.iload_n 3, 1) := by decide +kernel
theorem dX11_dinv_17 : decode cX11_dinv 17 = .ok (.aload_n 0, 1) := by decide +kernel
theorem dX11_dinv_18 : decode cX11_dinv 18 = .ok (.getfield 7, 3) := by decide +kernel
theorem dX11_dinv_21 : decode cX11_dinv 21 = .ok (.if_icmp .gt 91, 3) := by decide +kernel
theorem dX11_dinv_24 : decode cX11_dinv 24 = .ok (.aload_n 0, 1) := by decide +kernel
theorem dX11_dinv_25 : decode cX11_dinv 25 = .ok (.getfield 67, 3) := by decide +kernel
theorem dX11_dinv_28 : decode cX11_dinv 28 = .ok (.iload_n 2, 1) := by decide +kernel
theorem dX11_dinv_29 : decode cX11_dinv 29 = .ok (.iaload, 1) := by decide +kernel
theorem dX11_dinv_30 : decode cX11_dinv 30 = .ok (.aload_n 0, 1) := by decide +kernel
theorem dX11_dinv_31 : decode cX11_dinv 31 = .ok (.getfield 67, 3) := by decide +kernel
theorem dX11_dinv_34 : decode cX11_dinv 34 = .ok (.iload_n 3, 1) := by decide +kernel
theorem dX11_dinv_35 : decode cX11_dinv 35 = .ok (.iaload, 1) := by decide +kernel
theorem dX11_dinv_36 : decode cX11_dinv 36 = .ok (.if_icmp .ne 22, 3) := by decide +kernel
theorem dX11_dinv_39 : decode cX11_dinv 39 = .ok (.aload_n 0, 1) := by decide +kernel
theorem dX11_dinv_40 : decode cX11_dinv 40 = .ok (.getfield 64, 3) := by decide +kernel
theorem dX11_dinv_43 : decode cX11_dinv 43 = .ok (.iload_n 2, 1) := by decide +kernel
theorem dX11_dinv_44 : decode cX11_dinv 44 = .ok (.iaload, 1) := by decide +kernel
theorem dX11_dinv_45 : decode cX11_dinv 45 = .ok (.aload_n 0, 1) := by decide +kernel
theorem dX11_dinv_46 : decode cX11_dinv 46 = .ok (.getfield 64, 3) := by decide +kernel
theorem dX11_dinv_49 : decode cX11_dinv 49 = .ok (.iload_n 3, 1) := by decide +kernel
theorem dX11_dinv_50 : decode cX11_dinv 50 = .ok (.iaload, 1) := by decide +kernel
theorem dX11_dinv_51 : decode cX11_dinv 51 = .ok (.if_icmp .ge 7, 3) := by decide +kernel
theorem dX11_dinv_54 : decode cX11_dinv 54 = .ok (.iconst 1, 1) := by decide +kernel
theorem dX11_dinv_55 : decode cX11_dinv 55 = .ok (.goto 4, 3) := by decide +kernel
theorem dX11_dinv_58 : decode cX11_dinv 58 = .ok (.iconst 0, 1) := by decide +kernel
theorem dX11_dinv_59 : decode cX11_dinv 59 = .ok (.istore 4, 2) := by decide +kernel
theorem dX11_dinv_61 : decode cX11_dinv 61 = .ok (.iload_n 1, 1) := by decide +kernel
theorem dX11_dinv_62 : decode cX11_dinv 62 = .ok (.iload 4, 2) := by decide +kernel
theorem dX11_dinv_64 : decode cX11_dinv 64 = .ok (.ifCond .ne 35, 3) := by decide +kernel
theorem dX11_dinv_67 : decode cX11_dinv 67 = .ok (.aload_n 0, 1) := by decide +kernel
theorem dX11_dinv_68 : decode cX11_dinv 68 = .ok (.getfield 67, 3) := by decide +kernel
theorem dX11_dinv_71 : decode cX11_dinv 71 = .ok (.iload_n 2, 1) := by decide +kernel
theorem dX11_dinv_72 : decode cX11_dinv 72 = .ok (.iaload, 1) := by decide +kernel
theorem dX11_dinv_73 : decode cX11_dinv 73 = .ok (.aload_n 0, 1) := by decide +kernel
theorem dX11_dinv_74 : decode cX11_dinv 74 = .ok (.getfield 67, 3) := by decide +kernel
theorem dX11_dinv_77 : decode cX11_dinv 77 = .ok (.iload_n 3, 1) := by decide +kernel
theorem dX11_dinv_78 : decode cX11_dinv 78 = .ok (.iaload, 1) := by decide +kernel
theorem dX11_dinv_79 : decode cX11_dinv 79 = .ok (.iconst 1, 1) := by decide +kernel
theorem dX11_dinv_80 : decode cX11_dinv 80 = .ok (.iadd, 1) := by decide +kernel
theorem dX11_dinv_81 : decode cX11_dinv 81 = .ok (.if_icmp .ne 22, 3) := by decide +kernel
theorem dX11_dinv_84 : decode cX11_dinv 84 = .ok (.aload_n 0, 1) := by decide +kernel
theorem dX11_dinv_85 : decode cX11_dinv 85 = .ok (.getfield 64, 3) := by decide +kernel
theorem dX11_dinv_88 : decode cX11_dinv 88 = .ok (.iload_n 2, 1) := by decide +kernel
theorem dX11_dinv_89 : decode cX11_dinv 89 = .ok (.iaload, 1) := by decide +kernel
theorem dX11_dinv_90 : decode cX11_dinv 90 = .ok (.aload_n 0, 1) := by decide +kernel
theorem dX11_dinv_91 : decode cX11_dinv 91 = .ok (.getfield 64, 3) := by decide +kernel
theorem dX11_dinv_94 : decode cX11_dinv 94 = .ok (.iload_n 3, 1) := by decide +kernel
theorem dX11_dinv_95 : decode cX11_dinv 95 = .ok (.iaload, 1) := by decide +kernel
theorem dX11_dinv_96 : decode cX11_dinv 96 = .ok (.if_icmp .le 7, 3) := by decide +kernel
theorem dX11_dinv_99 : decode cX11_dinv 99 = .ok (.iconst 1, 1) := by decide +kernel
theorem dX11_dinv_100 : decode cX11_dinv 100 = .ok (.goto 4, 3) := by decide +kernel
theorem dX11_dinv_103 : decode cX11_dinv 103 = .ok (.iconst 0, 1) := by decide +kernel
theorem dX11_dinv_104 : decode cX11_dinv 104 = .ok (.iadd, 1) := by decide +kernel
theorem dX11_dinv_105 : decode cX11_dinv 105 = .ok (.istore_n 1, 1) := by decide +kernel
theorem dX11_dinv_106 : decode cX11_dinv 106 = .ok (.iinc 3 1, 3) := by decide +kernel
theorem dX11_dinv_109 : decode cX11_dinv 109 = .ok (.goto (-93), 3) := by decide +kernel
theorem dX11_dinv_112 : decode cX11_dinv 112 = .ok (.iinc 2 1, 3) := by decide +kernel
theorem dX11_dinv_115 : decode cX11_dinv 115 = .ok (.goto (-111), 3) := by decide +kernel
theorem dX11_dinv_118 : decode cX11_dinv 118 = .ok (.iload_n 1, 1) := by decide +kernel
theorem dX11_dinv_119 : decode cX11_dinv 119 = .ok (.ireturn, 1) := by decide +kernel
theorem dX11_walk_0 : decode cX11_walk 0 = .ok (.iload_n 1, 1) := by decide +kernel
theorem dX11_walk_1 : decode cX11_walk 1 = .ok (.i2l, 1) := by decide +kernel
theorem dX11_walk_2 : decode cX11_walk 2 = .ok (.lconst 1, 1) := by decide +kernel
theorem dX11_walk_3 : decode cX11_walk 3 = .ok (.aload_n 0, 1) := by decide +kernel
theorem dX11_walk_4 : decode cX11_walk 4 = .ok (.getfield 7, 3) := by decide +kernel
theorem dX11_walk_7 : decode cX11_walk 7 = .ok (.i2l, 1) := by decide +kernel
theorem dX11_walk_8 : decode cX11_walk 8 = .ok (.invokestatic 96, 3) := by decide +kernel
theorem dX11_walk_11 : decode cX11_walk 11 = .ok (.ifCond .eq 13, 3) := by decide +kernel
theorem dX11_walk_14 : decode cX11_walk 14 = .ok (.iload_n 2, 1) := by decide +kernel
theorem dX11_walk_15 : decode cX11_walk 15 = .ok (.i2l, 1) := by decide +kernel
theorem dX11_walk_16 : decode cX11_walk 16 = .ok (.lconst 0, 1) := by decide +kernel
theorem dX11_walk_17 : decode cX11_walk 17 = .ok (.lconst 1, 1) := by decide +kernel
theorem dX11_walk_18 : decode cX11_walk 18 = .ok (.invokestatic 96, 3) := by decide +kernel
theorem dX11_walk_21 : decode cX11_walk 21 = .ok (.ifCond .ne 5, 3) := by decide +kernel
theorem dX11_walk_24 : decode cX11_walk 24 = .ok (.iconst (-1), 1) := by decide +kernel
theorem dX11_walk_25 : decode cX11_walk 25 = .ok (.ireturn, 1) := by decide +kernel
theorem dX11_walk_26 : decode cX11_walk 26 = .ok (.aload_n 0, 1) := by decide +kernel
theorem dX11_walk_27 : decode cX11_walk 27 = .ok (.invokevirtual 189, 3) := by decide +kernel
theorem dX11_walk_30 : decode cX11_walk 30 = .ok (.ifCond .ne 6, 3) := by decide +kernel
theorem dX11_walk_33 : decode cX11_walk 33 = .ok (.bipush (-2), 2) := by decide +kernel
theorem dX11_walk_35 : decode cX11_walk 35 = .ok (.ireturn, 1) := by decide +kernel
theorem dX11_walk_36 : decode cX11_walk 36 = .ok (.aload_n 0, 1) := by decide +kernel
theorem dX11_walk_37 : decode cX11_walk 37 = .ok (.invokevirtual 228, 3) := by decide +kernel
theorem dX11_walk_40 : decode cX11_walk 40 = .ok (.iload_n 2, 1) := by decide +kernel
theorem dX11_walk_41 : decode cX11_walk 41 = .ok (.ifCond .ne 12, 3) := by decide +kernel
theorem dX11_walk_44 : decode cX11_walk 44 = .ok (.aload_n 0, 1) := by decide +kernel
theorem dX11_walk_45 : decode cX11_walk 45 = .ok (.getfield 64, 3) := by decide +kernel
theorem dX11_walk_48 : decode cX11_walk 48 = .ok (.iload_n 1, 1) := by decide +kernel
theorem dX11_walk_49 : decode cX11_walk 49 = .ok (.iaload, 1) := by decide +kernel
theorem dX11_walk_50 : decode cX11_walk 50 = .ok (.goto 9, 3) := by decide +kernel
theorem dX11_walk_53 : decode cX11_walk 53 = .ok (.aload_n 0, 1) := by decide +kernel
theorem dX11_walk_54 : decode cX11_walk 54 = .ok (.getfield 67, 3) := by decide +kernel
theorem dX11_walk_57 : decode cX11_walk 57 = .ok (.iload_n 1, 1) := by decide +kernel
theorem dX11_walk_58 : decode cX11_walk 58 = .ok (.iaload, 1) := by decide +kernel
theorem dX11_walk_59 : decode cX11_walk 59 = .ok (.ireturn, 1) := by decide +kernel
theorem dX11_counts_0 : decode cX11_counts 0 = .ok (.iload_n 1, 1) := by decide +kernel
theorem dX11_counts_1 : decode cX11_counts 1 = .ok (.i2l, 1) := by decide +kernel
theorem dX11_counts_2 : decode cX11_counts 2 = .ok (.lconst 0, 1) := by decide +kernel
theorem dX11_counts_3 : decode cX11_counts 3 = .ok (.lconst 1, 1) := by decide +kernel
theorem dX11_counts_4 : decode cX11_counts 4 = .ok (.invokestatic 96, 3) := by decide +kernel
theorem dX11_counts_7 : decode cX11_counts 7 = .ok (.ifCond .ne 5, 3) := by decide +kernel
theorem dX11_counts_10 : decode cX11_counts 10 = .ok (.iconst (-1), 1) := by decide +kernel
theorem dX11_counts_11 : decode cX11_counts 11 = .ok (.ireturn, 1) := by decide +kernel
theorem dX11_counts_12 : decode cX11_counts 12 = .ok (.aload_n 0, 1) := by decide +kernel
theorem dX11_counts_13 : decode cX11_counts 13 = .ok (.invokevirtual 189, 3) := by decide +kernel
theorem dX11_counts_16 : decode cX11_counts 16 = .ok (.ifCond .ne 6, 3) := by decide +kernel
theorem dX11_counts_19 : decode cX11_counts 19 = .ok (.bipush (-2), 2) := by decide +kernel
theorem dX11_counts_21 : decode cX11_counts 21 = .ok (.ireturn, 1) := by decide +kernel
theorem dX11_counts_22 : decode cX11_counts 22 = .ok (.aload_n 0, 1) := by decide +kernel
theorem dX11_counts_23 : decode cX11_counts 23 = .ok (.invokevirtual 228, 3) := by decide +kernel
theorem dX11_counts_26 : decode cX11_counts 26 = .ok (.iload_n 1, 1) := by decide +kernel
theorem dX11_counts_27 : decode cX11_counts 27 = .ok (.ifCond .ne 10, 3) := by decide +kernel
theorem dX11_counts_30 : decode cX11_counts 30 = .ok (.aload_n 0, 1) := by decide +kernel
theorem dX11_counts_31 : decode cX11_counts 31 = .ok (.invokevirtual 231, 3) := by decide +kernel
theorem dX11_counts_34 : decode cX11_counts 34 = .ok (.goto 7, 3) := by decide +kernel
theorem dX11_counts_37 : decode cX11_counts 37 = .ok (.aload_n 0, 1) := by decide +kernel
theorem dX11_counts_38 : decode cX11_counts 38 = .ok (.invokevirtual 235, 3) := by decide +kernel
theorem dX11_counts_41 : decode cX11_counts 41 = .ok (.ireturn, 1) := by decide +kernel
theorem dX11_both_0 : decode cX11_both 0 = .ok (.iload_n 1, 1) := by decide +kernel
theorem dX11_both_1 : decode cX11_both 1 = .ok (.i2l, 1) := by decide +kernel
theorem dX11_both_2 : decode cX11_both 2 = .ok (.lconst 1, 1) := by decide +kernel
theorem dX11_both_3 : decode cX11_both 3 = .ok (.ldc2_w 238, 3) := by decide +kernel
theorem dX11_both_6 : decode cX11_both 6 = .ok (.invokestatic 96, 3) := by decide +kernel
theorem dX11_both_9 : decode cX11_both 9 = .ok (.ifCond .ne 5, 3) := by decide +kernel
theorem dX11_both_12 : decode cX11_both 12 = .ok (.iconst (-1), 1) := by decide +kernel
theorem dX11_both_13 : decode cX11_both 13 = .ok (.ireturn, 1) := by decide +kernel
theorem dX11_both_14 : decode cX11_both 14 = .ok (.aload_n 0, 1) := by decide +kernel
theorem dX11_both_15 : decode cX11_both 15 = .ok (.getfield 104, 3) := by decide +kernel
theorem dX11_both_18 : decode cX11_both 18 = .ok (.istore 4, 2) := by decide +kernel
theorem dX11_both_20 : decode cX11_both 20 = .ok (.aload_n 0, 1) := by decide +kernel
theorem dX11_both_21 : decode cX11_both 21 = .ok (.getfield 7, 3) := by decide +kernel
theorem dX11_both_24 : decode cX11_both 24 = .ok (.istore 5, 2) := by decide +kernel
theorem dX11_both_26 : decode cX11_both 26 = .ok (.aload_n 0, 1) := by decide +kernel
theorem dX11_both_27 : decode cX11_both 27 = .ok (.getfield 110, 3) := by decide +kernel
theorem dX11_both_30 : decode cX11_both 30 = .ok (.istore 6, 2) := by decide +kernel
theorem dX11_both_32 : decode cX11_both 32 = .ok (.iconst 1, 1) := by decide +kernel
theorem dX11_both_33 : decode cX11_both 33 = .ok (.istore 7, 2) := by decide +kernel
theorem dX11_both_35 : decode cX11_both 35 = .ok (.iload 7, 2) := by decide +kernel
theorem dX11_both_37 : decode cX11_both 37 = .ok (.iload 6, 2) := by decide +kernel
theorem dX11_both_39 : decode cX11_both 39 = .ok (.if_icmp .gt 37, 3) := by decide +kernel
theorem dX11_both_42 : decode cX11_both 42 = .ok (.aload_n 0, 1) := by decide +kernel
theorem dX11_both_43 : decode cX11_both 43 = .ok (.getfield 73, 3) := by decide +kernel
theorem dX11_both_46 : decode cX11_both 46 = .ok (.iload 7, 2) := by decide +kernel
theorem dX11_both_48 : decode cX11_both 48 = .ok (.aload_n 0, 1) := by decide +kernel
theorem dX11_both_49 : decode cX11_both 49 = .ok (.getfield 13, 3) := by decide +kernel
theorem dX11_both_52 : decode cX11_both 52 = .ok (.iload 7, 2) := by decide +kernel
theorem dX11_both_54 : decode cX11_both 54 = .ok (.iaload, 1) := by decide +kernel
theorem dX11_both_55 : decode cX11_both 55 = .ok (.iastore, 1) := by decide +kernel
theorem dX11_both_56 : decode cX11_both 56 = .ok (.aload_n 0, 1) := by decide +kernel
theorem dX11_both_57 : decode cX11_both 57 = .ok (.getfield 70, 3) := by decide +kernel
theorem dX11_both_60 : decode cX11_both 60 = .ok (.iload 7, 2) := by decide +kernel
theorem dX11_both_62 : decode cX11_both 62 = .ok (.aload_n 0, 1) := by decide +kernel
theorem dX11_both_63 : decode cX11_both 63 = .ok (.getfield 17, 3) := by decide +kernel
theorem dX11_both_66 : decode cX11_both 66 = .ok (.iload 7, 2) := by decide +kernel
theorem dX11_both_68 : decode cX11_both 68 = .ok (.iaload, 1) := by decide +kernel
theorem dX11_both_69 : decode cX11_both 69 = .ok (.iastore, 1) := by decide +kernel
theorem dX11_both_70 : decode cX11_both 70 = .ok (.iinc 7 1, 3) := by decide +kernel
theorem dX11_both_73 : decode cX11_both 73 = .ok (.goto (-38), 3) := by decide +kernel
theorem dX11_both_76 : decode cX11_both 76 = .ok (.aload_n 0, 1) := by decide +kernel
theorem dX11_both_77 : decode cX11_both 77 = .ok (.iconst 0, 1) := by decide +kernel
theorem dX11_both_78 : decode cX11_both 78 = .ok (.putfield 104, 3) := by decide +kernel
theorem dX11_both_81 : decode cX11_both 81 = .ok (.aload_n 0, 1) := by decide +kernel
theorem dX11_both_82 : decode cX11_both 82 = .ok (.iload_n 1, 1) := by decide +kernel
theorem dX11_both_83 : decode cX11_both 83 = .ok (.putfield 7, 3) := by decide +kernel
theorem dX11_both_86 : decode cX11_both 86 = .ok (.aload_n 0, 1) := by decide +kernel
theorem dX11_both_87 : decode cX11_both 87 = .ok (.iconst 0, 1) := by decide +kernel
theorem dX11_both_88 : decode cX11_both 88 = .ok (.putfield 110, 3) := by decide +kernel
theorem dX11_both_91 : decode cX11_both 91 = .ok (.iconst 1, 1) := by decide +kernel
theorem dX11_both_92 : decode cX11_both 92 = .ok (.istore 7, 2) := by decide +kernel
theorem dX11_both_94 : decode cX11_both 94 = .ok (.iload 7, 2) := by decide +kernel
theorem dX11_both_96 : decode cX11_both 96 = .ok (.iload_n 1, 1) := by decide +kernel
theorem dX11_both_97 : decode cX11_both 97 = .ok (.if_icmp .gt 14, 3) := by decide +kernel
theorem dX11_both_100 : decode cX11_both 100 = .ok (.aload_n 0, 1) := by decide +kernel
theorem dX11_both_101 : decode cX11_both 101 = .ok (.iconst 1, 1) := by decide +kernel
theorem dX11_both_102 : decode cX11_both 102 = .ok (.invokevirtual 113, 3) := by decide +kernel
theorem dX11_both_105 : decode cX11_both 105 = .ok (.iinc 7 1, 3) := by decide +kernel
theorem dX11_both_108 : decode cX11_both 108 = .ok (.goto (-14), 3) := by decide +kernel
theorem dX11_both_111 : decode cX11_both 111 = .ok (.iconst 0, 1) := by decide +kernel
theorem dX11_both_112 : decode cX11_both 112 = .ok (.istore 7, 2) := by decide +kernel
theorem dX11_both_114 : decode cX11_both 114 = .ok (.iconst 1, 1) := by decide +kernel
theorem dX11_both_115 : decode cX11_both 115 = .ok (.istore 8, 2) := by decide +kernel
theorem dX11_both_117 : decode cX11_both 117 = .ok (.iload 8, 2) := by decide +kernel
theorem dX11_both_119 : decode cX11_both 119 = .ok (.ifCond .eq 49, 3) := by decide +kernel
theorem dX11_both_122 : decode cX11_both 122 = .ok (.aload_n 0, 1) := by decide +kernel
theorem dX11_both_123 : decode cX11_both 123 = .ok (.invokevirtual 139, 3) := by decide +kernel
theorem dX11_both_126 : decode cX11_both 126 = .ok (.ifCond .eq 33, 3) := by decide +kernel
theorem dX11_both_129 : decode cX11_both 129 = .ok (.aload_n 0, 1) := by decide +kernel
theorem dX11_both_130 : decode cX11_both 130 = .ok (.invokevirtual 228, 3) := by decide +kernel
theorem dX11_both_133 : decode cX11_both 133 = .ok (.iload 7, 2) := by decide +kernel
theorem dX11_both_135 : decode cX11_both 135 = .ok (.aload_n 0, 1) := by decide +kernel
theorem dX11_both_136 : decode cX11_both 136 = .ok (.invokevirtual 231, 3) := by decide +kernel
theorem dX11_both_139 : decode cX11_both 139 = .ok (.iload_n 2, 1) := by decide +kernel
theorem dX11_both_140 : decode cX11_both 140 = .ok (.if_icmp .ne 15, 3) := by decide +kernel
theorem dX11_both_143 : decode cX11_both 143 = .ok (.aload_n 0, 1) := by decide +kernel
theorem dX11_both_144 : decode cX11_both 144 = .ok (.invokevirtual 235, 3) := by decide +kernel
theorem dX11_both_147 : decode cX11_both 147 = .ok (.iload_n 3, 1) := by decide +kernel
theorem dX11_both_148 : decode cX11_both 148 = .ok (.if_icmp .ne 7, 3) := by decide +kernel
theorem dX11_both_151 : decode cX11_both 151 = .ok (.iconst 1, 1) := by decide +kernel
theorem dX11_both_152 : decode cX11_both 152 = .ok (.goto 4, 3) := by decide +kernel
theorem dX11_both_155 : decode cX11_both 155 = .ok (.iconst 0, 1) := by decide +kernel
theorem dX11_both_156 : decode cX11_both 156 = .ok (.iadd, 1) := by decide +kernel
theorem dX11_both_157 : decode cX11_both 157 = .ok (.istore 7, 2) := by decide +kernel
theorem dX11_both_159 : decode cX11_both 159 = .ok (.aload_n 0, 1) := by decide +kernel
theorem dX11_both_160 : decode cX11_both 160 = .ok (.invokevirtual 145, 3) := by decide +kernel
theorem dX11_both_163 : decode cX11_both 163 = .ok (.istore 8, 2) := by decide +kernel
theorem dX11_both_165 : decode cX11_both 165 = .ok (.goto (-48), 3) := by decide +kernel
theorem dX11_both_168 : decode cX11_both 168 = .ok (.aload_n 0, 1) := by decide +kernel
theorem dX11_both_169 : decode cX11_both 169 = .ok (.iload 4, 2) := by decide +kernel
theorem dX11_both_171 : decode cX11_both 171 = .ok (.putfield 104, 3) := by decide +kernel
theorem dX11_both_174 : decode cX11_both 174 = .ok (.aload_n 0, 1) := by decide +kernel
theorem dX11_both_175 : decode cX11_both 175 = .ok (.iload 5, 2) := by decide +kernel
theorem dX11_both_177 : decode cX11_both 177 = .ok (.putfield 7, 3) := by decide +kernel
theorem dX11_both_180 : decode cX11_both 180 = .ok (.aload_n 0, 1) := by decide +kernel
theorem dX11_both_181 : decode cX11_both 181 = .ok (.iload 6, 2) := by decide +kernel
theorem dX11_both_183 : decode cX11_both 183 = .ok (.putfield 110, 3) := by decide +kernel
theorem dX11_both_186 : decode cX11_both 186 = .ok (.iconst 1, 1) := by decide +kernel
theorem dX11_both_187 : decode cX11_both 187 = .ok (.istore 9, 2) := by decide +kernel
theorem dX11_both_189 : decode cX11_both 189 = .ok (.iload 9, 2) := by decide +kernel
theorem dX11_both_191 : decode cX11_both 191 = .ok (.iload 6, 2) := by decide +kernel
theorem dX11_both_193 : decode cX11_both 193 = .ok (.if_icmp .gt 37, 3) := by decide +kernel
theorem dX11_both_196 : decode cX11_both 196 = .ok (.aload_n 0, 1) := by decide +kernel
theorem dX11_both_197 : decode cX11_both 197 = .ok (.getfield 13, 3) := by decide +kernel
theorem dX11_both_200 : decode cX11_both 200 = .ok (.iload 9, 2) := by decide +kernel
theorem dX11_both_202 : decode cX11_both 202 = .ok (.aload_n 0, 1) := by decide +kernel
theorem dX11_both_203 : decode cX11_both 203 = .ok (.getfield 73, 3) := by decide +kernel
theorem dX11_both_206 : decode cX11_both 206 = .ok (.iload 9, 2) := by decide +kernel
theorem dX11_both_208 : decode cX11_both 208 = .ok (.iaload, 1) := by decide +kernel
theorem dX11_both_209 : decode cX11_both 209 = .ok (.iastore, 1) := by decide +kernel
theorem dX11_both_210 : decode cX11_both 210 = .ok (.aload_n 0, 1) := by decide +kernel
theorem dX11_both_211 : decode cX11_both 211 = .ok (.getfield 17, 3) := by decide +kernel
theorem dX11_both_214 : decode cX11_both 214 = .ok (.iload 9, 2) := by decide +kernel
theorem dX11_both_216 : decode cX11_both 216 = .ok (.aload_n 0, 1) := by decide +kernel
theorem dX11_both_217 : decode cX11_both 217 = .ok (.getfield 70, 3) := by decide +kernel
theorem dX11_both_220 : decode cX11_both 220 = .ok (.iload 9, 2) := by decide +kernel
theorem dX11_both_222 : decode cX11_both 222 = .ok (.iaload, 1) := by decide +kernel
theorem dX11_both_223 : decode cX11_both 223 = .ok (.iastore, 1) := by decide +kernel
theorem dX11_both_224 : decode cX11_both 224 = .ok (.iinc 9 1, 3) := by decide +kernel
theorem dX11_both_227 : decode cX11_both 227 = .ok (.goto (-38), 3) := by decide +kernel
theorem dX11_both_230 : decode cX11_both 230 = .ok (.iload 7, 2) := by decide +kernel
theorem dX11_both_232 : decode cX11_both 232 = .ok (.ireturn, 1) := by decide +kernel
theorem dX11_withSum_0 : decode cX11_withSum 0 = .ok (.bipush 56, 2) := by decide +kernel
theorem dX11_withSum_2 : decode cX11_withSum 2 = .ok (.istore_n 3, 1) := by decide +kernel
theorem dX11_withSum_3 : decode cX11_withSum 3 = .ok (.iconst 0, 1) := by decide +kernel
theorem dX11_withSum_4 : decode cX11_withSum 4 = .ok (.istore 4, 2) := by decide +kernel
theorem dX11_withSum_6 : decode cX11_withSum 6 = .ok (.iload 4, 2) := by decide +kernel
theorem dX11_withSum_8 : decode cX11_withSum 8 = .ok (.sipush 8064, 3) := by decide +kernel
theorem dX11_withSum_11 : decode cX11_withSum 11 = .ok (.if_icmp .ge 17, 3) := by decide +kernel
theorem dX11_withSum_14 : decode cX11_withSum 14 = .ok (.aload_n 0, 1) := by decide +kernel
theorem dX11_withSum_15 : decode cX11_withSum 15 = .ok (.getfield 76, 3) := by decide +kernel
theorem dX11_withSum_18 : decode cX11_withSum 18 = .ok (.iload 4, 2) := by decide +kernel
theorem dX11_withSum_20 : decode cX11_withSum 20 = .ok (.lconst 0, 1) := by decide +kernel
theorem dX11_withSum_21 : decode cX11_withSum 21 = .ok (.lastore, 1) := by decide +kernel
theorem dX11_withSum_22 : decode cX11_withSum 22 = .ok (.iinc 4 1, 3) := by decide +kernel
theorem dX11_withSum_25 : decode cX11_withSum 25 = .ok (.goto (-19), 3) := by decide +kernel
theorem dX11_withSum_28 : decode cX11_withSum 28 = .ok (.aload_n 0, 1) := by decide +kernel
theorem dX11_withSum_29 : decode cX11_withSum 29 = .ok (.getfield 76, 3) := by decide +kernel
theorem dX11_withSum_32 : decode cX11_withSum 32 = .ok (.iload_n 3, 1) := by decide +kernel
theorem dX11_withSum_33 : decode cX11_withSum 33 = .ok (.bipush 12, 2) := by decide +kernel
theorem dX11_withSum_35 : decode cX11_withSum 35 = .ok (.imul, 1) := by decide +kernel
theorem dX11_withSum_36 : decode cX11_withSum 36 = .ok (.iload_n 1, 1) := by decide +kernel
theorem dX11_withSum_37 : decode cX11_withSum 37 = .ok (.iconst 1, 1) := by decide +kernel
theorem dX11_withSum_38 : decode cX11_withSum 38 = .ok (.iadd, 1) := by decide +kernel
theorem dX11_withSum_39 : decode cX11_withSum 39 = .ok (.imul, 1) := by decide +kernel
theorem dX11_withSum_40 : decode cX11_withSum 40 = .ok (.lconst 1, 1) := by decide +kernel
theorem dX11_withSum_41 : decode cX11_withSum 41 = .ok (.lastore, 1) := by decide +kernel
theorem dX11_withSum_42 : decode cX11_withSum 42 = .ok (.iload_n 1, 1) := by decide +kernel
theorem dX11_withSum_43 : decode cX11_withSum 43 = .ok (.istore 4, 2) := by decide +kernel
theorem dX11_withSum_45 : decode cX11_withSum 45 = .ok (.iload 4, 2) := by decide +kernel
theorem dX11_withSum_47 : decode cX11_withSum 47 = .ok (.iconst 1, 1) := by decide +kernel
theorem dX11_withSum_48 : decode cX11_withSum 48 = .ok (.if_icmp .lt 128, 3) := by decide +kernel
theorem dX11_withSum_51 : decode cX11_withSum 51 = .ok (.iconst 0, 1) := by decide +kernel
theorem dX11_withSum_52 : decode cX11_withSum 52 = .ok (.istore 5, 2) := by decide +kernel
theorem dX11_withSum_54 : decode cX11_withSum 54 = .ok (.iload 5, 2) := by decide +kernel
theorem dX11_withSum_56 : decode cX11_withSum 56 = .ok (.iload_n 1, 1) := by decide +kernel
theorem dX11_withSum_57 : decode cX11_withSum 57 = .ok (.iload 4, 2) := by decide +kernel
theorem dX11_withSum_59 : decode cX11_withSum 59 = .ok (.isub, 1) := by decide +kernel
theorem dX11_withSum_60 : decode cX11_withSum 60 = .ok (.iconst 1, 1) := by decide +kernel
theorem dX11_withSum_61 : decode cX11_withSum 61 = .ok (.iadd, 1) := by decide +kernel
theorem dX11_withSum_62 : decode cX11_withSum 62 = .ok (.if_icmp .gt 108, 3) := by decide +kernel
theorem dX11_withSum_65 : decode cX11_withSum 65 = .ok (.iconst 0, 1) := by decide +kernel
theorem dX11_withSum_66 : decode cX11_withSum 66 = .ok (.istore 6, 2) := by decide +kernel
theorem dX11_withSum_68 : decode cX11_withSum 68 = .ok (.iload 6, 2) := by decide +kernel
theorem dX11_withSum_70 : decode cX11_withSum 70 = .ok (.iload 5, 2) := by decide +kernel
theorem dX11_withSum_72 : decode cX11_withSum 72 = .ok (.if_icmp .gt 92, 3) := by decide +kernel
theorem dX11_withSum_75 : decode cX11_withSum 75 = .ok (.iload 6, 2) := by decide +kernel
theorem dX11_withSum_77 : decode cX11_withSum 77 = .ok (.iload 4, 2) := by decide +kernel
theorem dX11_withSum_79 : decode cX11_withSum 79 = .ok (.imul, 1) := by decide +kernel
theorem dX11_withSum_80 : decode cX11_withSum 80 = .ok (.istore 7, 2) := by decide +kernel
theorem dX11_withSum_82 : decode cX11_withSum 82 = .ok (.iload 7, 2) := by decide +kernel
theorem dX11_withSum_84 : decode cX11_withSum 84 = .ok (.iload_n 3, 1) := by decide +kernel
theorem dX11_withSum_85 : decode cX11_withSum 85 = .ok (.if_icmp .ge 73, 3) := by decide +kernel
theorem dX11_withSum_88 : decode cX11_withSum 88 = .ok (.aload_n 0, 1) := by decide +kernel
theorem dX11_withSum_89 : decode cX11_withSum 89 = .ok (.getfield 76, 3) := by decide +kernel
theorem dX11_withSum_92 : decode cX11_withSum 92 = .ok (.iload_n 3, 1) := by decide +kernel
theorem dX11_withSum_93 : decode cX11_withSum 93 = .ok (.bipush 12, 2) := by decide +kernel
theorem dX11_withSum_95 : decode cX11_withSum 95 = .ok (.iload 4, 2) := by decide +kernel
theorem dX11_withSum_97 : decode cX11_withSum 97 = .ok (.imul, 1) := by decide +kernel
theorem dX11_withSum_98 : decode cX11_withSum 98 = .ok (.iload 5, 2) := by decide +kernel
theorem dX11_withSum_100 : decode cX11_withSum 100 = .ok (.iadd, 1) := by decide +kernel
theorem dX11_withSum_101 : decode cX11_withSum 101 = .ok (.imul, 1) := by decide +kernel
theorem dX11_withSum_102 : decode cX11_withSum 102 = .ok (.iload 7, 2) := by decide +kernel
theorem dX11_withSum_104 : decode cX11_withSum 104 = .ok (.iadd, 1) := by decide +kernel
theorem dX11_withSum_105 : decode cX11_withSum 105 = .ok (.dup2, 1) := by decide +kernel
theorem dX11_withSum_106 : decode cX11_withSum 106 = .ok (.laload, 1) := by decide +kernel
theorem dX11_withSum_107 : decode cX11_withSum 107 = .ok (.aload_n 0, 1) := by decide +kernel
theorem dX11_withSum_108 : decode cX11_withSum 108 = .ok (.getfield 76, 3) := by decide +kernel
theorem dX11_withSum_111 : decode cX11_withSum 111 = .ok (.iload_n 3, 1) := by decide +kernel
theorem dX11_withSum_112 : decode cX11_withSum 112 = .ok (.bipush 12, 2) := by decide +kernel
theorem dX11_withSum_114 : decode cX11_withSum 114 = .ok (.iload 4, 2) := by decide +kernel
theorem dX11_withSum_116 : decode cX11_withSum 116 = .ok (.iconst 1, 1) := by decide +kernel
theorem dX11_withSum_117 : decode cX11_withSum 117 = .ok (.iadd, 1) := by decide +kernel
theorem dX11_withSum_118 : decode cX11_withSum 118 = .ok (.imul, 1) := by decide +kernel
theorem dX11_withSum_119 : decode cX11_withSum 119 = .ok (.iload 5, 2) := by decide +kernel
theorem dX11_withSum_121 : decode cX11_withSum 121 = .ok (.iadd, 1) := by decide +kernel
theorem dX11_withSum_122 : decode cX11_withSum 122 = .ok (.iload 6, 2) := by decide +kernel
theorem dX11_withSum_124 : decode cX11_withSum 124 = .ok (.isub, 1) := by decide +kernel
theorem dX11_withSum_125 : decode cX11_withSum 125 = .ok (.imul, 1) := by decide +kernel
theorem dX11_withSum_126 : decode cX11_withSum 126 = .ok (.iload 7, 2) := by decide +kernel
theorem dX11_withSum_128 : decode cX11_withSum 128 = .ok (.iadd, 1) := by decide +kernel
theorem dX11_withSum_129 : decode cX11_withSum 129 = .ok (.iload 6, 2) := by decide +kernel
theorem dX11_withSum_131 : decode cX11_withSum 131 = .ok (.iload 4, 2) := by decide +kernel
theorem dX11_withSum_133 : decode cX11_withSum 133 = .ok (.imul, 1) := by decide +kernel
theorem dX11_withSum_134 : decode cX11_withSum 134 = .ok (.isub, 1) := by decide +kernel
theorem dX11_withSum_135 : decode cX11_withSum 135 = .ok (.laload, 1) := by decide +kernel
theorem dX11_withSum_136 : decode cX11_withSum 136 = .ok (.aload_n 0, 1) := by decide +kernel
theorem dX11_withSum_137 : decode cX11_withSum 137 = .ok (.iload_n 1, 1) := by decide +kernel
theorem dX11_withSum_138 : decode cX11_withSum 138 = .ok (.iload 5, 2) := by decide +kernel
theorem dX11_withSum_140 : decode cX11_withSum 140 = .ok (.iload 6, 2) := by decide +kernel
theorem dX11_withSum_142 : decode cX11_withSum 142 = .ok (.isub, 1) := by decide +kernel
theorem dX11_withSum_143 : decode cX11_withSum 143 = .ok (.isub, 1) := by decide +kernel
theorem dX11_withSum_144 : decode cX11_withSum 144 = .ok (.iload 6, 2) := by decide +kernel
theorem dX11_withSum_146 : decode cX11_withSum 146 = .ok (.invokevirtual 148, 3) := by decide +kernel
theorem dX11_withSum_149 : decode cX11_withSum 149 = .ok (.lmul, 1) := by decide +kernel
theorem dX11_withSum_150 : decode cX11_withSum 150 = .ok (.ladd, 1) := by decide +kernel
theorem dX11_withSum_151 : decode cX11_withSum 151 = .ok (.lastore, 1) := by decide +kernel
theorem dX11_withSum_152 : decode cX11_withSum 152 = .ok (.iinc 7 1, 3) := by decide +kernel
theorem dX11_withSum_155 : decode cX11_withSum 155 = .ok (.goto (-73), 3) := by decide +kernel
theorem dX11_withSum_158 : decode cX11_withSum 158 = .ok (.iinc 6 1, 3) := by decide +kernel
theorem dX11_withSum_161 : decode cX11_withSum 161 = .ok (.goto (-93), 3) := by decide +kernel
theorem dX11_withSum_164 : decode cX11_withSum 164 = .ok (.iinc 5 1, 3) := by decide +kernel
theorem dX11_withSum_167 : decode cX11_withSum 167 = .ok (.goto (-113), 3) := by decide +kernel
theorem dX11_withSum_170 : decode cX11_withSum 170 = .ok (.iinc 4 (-1), 3) := by decide +kernel
theorem dX11_withSum_173 : decode cX11_withSum 173 = .ok (.goto (-128), 3) := by decide +kernel
theorem dX11_withSum_176 : decode cX11_withSum 176 = .ok (.iload_n 2, 1) := by decide +kernel
theorem dX11_withSum_177 : decode cX11_withSum 177 = .ok (.i2l, 1) := by decide +kernel
theorem dX11_withSum_178 : decode cX11_withSum 178 = .ok (.lconst 0, 1) := by decide +kernel
theorem dX11_withSum_179 : decode cX11_withSum 179 = .ok (.iload_n 3, 1) := by decide +kernel
theorem dX11_withSum_180 : decode cX11_withSum 180 = .ok (.iconst 1, 1) := by decide +kernel
theorem dX11_withSum_181 : decode cX11_withSum 181 = .ok (.isub, 1) := by decide +kernel
theorem dX11_withSum_182 : decode cX11_withSum 182 = .ok (.i2l, 1) := by decide +kernel
theorem dX11_withSum_183 : decode cX11_withSum 183 = .ok (.invokestatic 96, 3) := by decide +kernel
theorem dX11_withSum_186 : decode cX11_withSum 186 = .ok (.ifCond .eq 19, 3) := by decide +kernel
theorem dX11_withSum_189 : decode cX11_withSum 189 = .ok (.aload_n 0, 1) := by decide +kernel
theorem dX11_withSum_190 : decode cX11_withSum 190 = .ok (.getfield 76, 3) := by decide +kernel
theorem dX11_withSum_193 : decode cX11_withSum 193 = .ok (.iload_n 3, 1) := by decide +kernel
theorem dX11_withSum_194 : decode cX11_withSum 194 = .ok (.bipush 12, 2) := by decide +kernel
theorem dX11_withSum_196 : decode cX11_withSum 196 = .ok (.iload_n 1, 1) := by decide +kernel
theorem dX11_withSum_197 : decode cX11_withSum 197 = .ok (.iadd, 1) := by decide +kernel
theorem dX11_withSum_198 : decode cX11_withSum 198 = .ok (.imul, 1) := by decide +kernel
theorem dX11_withSum_199 : decode cX11_withSum 199 = .ok (.iload_n 2, 1) := by decide +kernel
theorem dX11_withSum_200 : decode cX11_withSum 200 = .ok (.iadd, 1) := by decide +kernel
theorem dX11_withSum_201 : decode cX11_withSum 201 = .ok (.laload, 1) := by decide +kernel
theorem dX11_withSum_202 : decode cX11_withSum 202 = .ok (.goto 4, 3) := by decide +kernel
theorem dX11_withSum_205 : decode cX11_withSum 205 = .ok (.lconst 0, 1) := by decide +kernel
theorem dX11_withSum_206 : decode cX11_withSum 206 = .ok (.lreturn, 1) := by decide +kernel
theorem dX11_withLucky_0 : decode cX11_withLucky 0 = .ok (.iconst 0, 1) := by decide +kernel
theorem dX11_withLucky_1 : decode cX11_withLucky 1 = .ok (.istore_n 3, 1) := by decide +kernel
theorem dX11_withLucky_2 : decode cX11_withLucky 2 = .ok (.iload_n 3, 1) := by decide +kernel
theorem dX11_withLucky_3 : decode cX11_withLucky 3 = .ok (.bipush 12, 2) := by decide +kernel
theorem dX11_withLucky_5 : decode cX11_withLucky 5 = .ok (.if_icmp .ge 25, 3) := by decide +kernel
theorem dX11_withLucky_8 : decode cX11_withLucky 8 = .ok (.aload_n 0, 1) := by decide +kernel
theorem dX11_withLucky_9 : decode cX11_withLucky 9 = .ok (.getfield 79, 3) := by decide +kernel
theorem dX11_withLucky_12 : decode cX11_withLucky 12 = .ok (.iload_n 3, 1) := by decide +kernel
theorem dX11_withLucky_13 : decode cX11_withLucky 13 = .ok (.iload_n 3, 1) := by decide +kernel
theorem dX11_withLucky_14 : decode cX11_withLucky 14 = .ok (.iconst 1, 1) := by decide +kernel
theorem dX11_withLucky_15 : decode cX11_withLucky 15 = .ok (.if_icmp .ne 7, 3) := by decide +kernel
theorem dX11_withLucky_18 : decode cX11_withLucky 18 = .ok (.lconst 1, 1) := by decide +kernel
theorem dX11_withLucky_19 : decode cX11_withLucky 19 = .ok (.goto 4, 3) := by decide +kernel
theorem dX11_withLucky_22 : decode cX11_withLucky 22 = .ok (.lconst 0, 1) := by decide +kernel
theorem dX11_withLucky_23 : decode cX11_withLucky 23 = .ok (.lastore, 1) := by decide +kernel
theorem dX11_withLucky_24 : decode cX11_withLucky 24 = .ok (.iinc 3 1, 3) := by decide +kernel
theorem dX11_withLucky_27 : decode cX11_withLucky 27 = .ok (.goto (-25), 3) := by decide +kernel
theorem dX11_withLucky_30 : decode cX11_withLucky 30 = .ok (.iconst 1, 1) := by decide +kernel
theorem dX11_withLucky_31 : decode cX11_withLucky 31 = .ok (.istore_n 3, 1) := by decide +kernel
theorem dX11_withLucky_32 : decode cX11_withLucky 32 = .ok (.iload_n 3, 1) := by decide +kernel
theorem dX11_withLucky_33 : decode cX11_withLucky 33 = .ok (.iload_n 1, 1) := by decide +kernel
theorem dX11_withLucky_34 : decode cX11_withLucky 34 = .ok (.if_icmp .ge 67, 3) := by decide +kernel
theorem dX11_withLucky_37 : decode cX11_withLucky 37 = .ok (.bipush 11, 2) := by decide +kernel
theorem dX11_withLucky_39 : decode cX11_withLucky 39 = .ok (.istore 4, 2) := by decide +kernel
theorem dX11_withLucky_41 : decode cX11_withLucky 41 = .ok (.iload 4, 2) := by decide +kernel
theorem dX11_withLucky_43 : decode cX11_withLucky 43 = .ok (.ifCond .lt 52, 3) := by decide +kernel
theorem dX11_withLucky_46 : decode cX11_withLucky 46 = .ok (.aload_n 0, 1) := by decide +kernel
theorem dX11_withLucky_47 : decode cX11_withLucky 47 = .ok (.getfield 79, 3) := by decide +kernel
theorem dX11_withLucky_50 : decode cX11_withLucky 50 = .ok (.iload 4, 2) := by decide +kernel
theorem dX11_withLucky_52 : decode cX11_withLucky 52 = .ok (.iload_n 3, 1) := by decide +kernel
theorem dX11_withLucky_53 : decode cX11_withLucky 53 = .ok (.i2l, 1) := by decide +kernel
theorem dX11_withLucky_54 : decode cX11_withLucky 54 = .ok (.aload_n 0, 1) := by decide +kernel
theorem dX11_withLucky_55 : decode cX11_withLucky 55 = .ok (.getfield 79, 3) := by decide +kernel
theorem dX11_withLucky_58 : decode cX11_withLucky 58 = .ok (.iload 4, 2) := by decide +kernel
theorem dX11_withLucky_60 : decode cX11_withLucky 60 = .ok (.laload, 1) := by decide +kernel
theorem dX11_withLucky_61 : decode cX11_withLucky 61 = .ok (.lmul, 1) := by decide +kernel
theorem dX11_withLucky_62 : decode cX11_withLucky 62 = .ok (.iload 4, 2) := by decide +kernel
theorem dX11_withLucky_64 : decode cX11_withLucky 64 = .ok (.ifCond .le 22, 3) := by decide +kernel
theorem dX11_withLucky_67 : decode cX11_withLucky 67 = .ok (.iload_n 1, 1) := by decide +kernel
theorem dX11_withLucky_68 : decode cX11_withLucky 68 = .ok (.iload_n 3, 1) := by decide +kernel
theorem dX11_withLucky_69 : decode cX11_withLucky 69 = .ok (.isub, 1) := by decide +kernel
theorem dX11_withLucky_70 : decode cX11_withLucky 70 = .ok (.iconst 1, 1) := by decide +kernel
theorem dX11_withLucky_71 : decode cX11_withLucky 71 = .ok (.iadd, 1) := by decide +kernel
theorem dX11_withLucky_72 : decode cX11_withLucky 72 = .ok (.i2l, 1) := by decide +kernel
theorem dX11_withLucky_73 : decode cX11_withLucky 73 = .ok (.aload_n 0, 1) := by decide +kernel
theorem dX11_withLucky_74 : decode cX11_withLucky 74 = .ok (.getfield 79, 3) := by decide +kernel
theorem dX11_withLucky_77 : decode cX11_withLucky 77 = .ok (.iload 4, 2) := by decide +kernel
theorem dX11_withLucky_79 : decode cX11_withLucky 79 = .ok (.iconst 1, 1) := by decide +kernel
theorem dX11_withLucky_80 : decode cX11_withLucky 80 = .ok (.isub, 1) := by decide +kernel
theorem dX11_withLucky_81 : decode cX11_withLucky 81 = .ok (.laload, 1) := by decide +kernel
theorem dX11_withLucky_82 : decode cX11_withLucky 82 = .ok (.lmul, 1) := by decide +kernel
theorem dX11_withLucky_83 : decode cX11_withLucky 83 = .ok (.goto 4, 3) := by decide +kernel
theorem dX11_withLucky_86 : decode cX11_withLucky 86 = .ok (.lconst 0, 1) := by decide +kernel
theorem dX11_withLucky_87 : decode cX11_withLucky 87 = .ok (.ladd, 1) := by decide +kernel
theorem dX11_withLucky_88 : decode cX11_withLucky 88 = .ok (.lastore, 1) := by decide +kernel
theorem dX11_withLucky_89 : decode cX11_withLucky 89 = .ok (.iinc 4 (-1), 3) := by decide +kernel
theorem dX11_withLucky_92 : decode cX11_withLucky 92 = .ok (.goto (-51), 3) := by decide +kernel
theorem dX11_withLucky_95 : decode cX11_withLucky 95 = .ok (.iinc 3 1, 3) := by decide +kernel
theorem dX11_withLucky_98 : decode cX11_withLucky 98 = .ok (.goto (-66), 3) := by decide +kernel
theorem dX11_withLucky_101 : decode cX11_withLucky 101 = .ok (.iload_n 2, 1) := by decide +kernel
theorem dX11_withLucky_102 : decode cX11_withLucky 102 = .ok (.i2l, 1) := by decide +kernel
theorem dX11_withLucky_103 : decode cX11_withLucky 103 = .ok (.lconst 0, 1) := by decide +kernel
theorem dX11_withLucky_104 : decode cX11_withLucky 104 = .ok (.ldc2_w 240, 3) := by decide +kernel
theorem dX11_withLucky_107 : decode cX11_withLucky 107 = .ok (.invokestatic 96, 3) := by decide +kernel
theorem dX11_withLucky_110 : decode cX11_withLucky 110 = .ok (.ifCond .eq 12, 3) := by decide +kernel
theorem dX11_withLucky_113 : decode cX11_withLucky 113 = .ok (.aload_n 0, 1) := by decide +kernel
theorem dX11_withLucky_114 : decode cX11_withLucky 114 = .ok (.getfield 79, 3) := by decide +kernel
theorem dX11_withLucky_117 : decode cX11_withLucky 117 = .ok (.iload_n 2, 1) := by decide +kernel
theorem dX11_withLucky_118 : decode cX11_withLucky 118 = .ok (.laload, 1) := by decide +kernel
theorem dX11_withLucky_119 : decode cX11_withLucky 119 = .ok (.goto 4, 3) := by decide +kernel
theorem dX11_withLucky_122 : decode cX11_withLucky 122 = .ok (.lconst 0, 1) := by decide +kernel
theorem dX11_withLucky_123 : decode cX11_withLucky 123 = .ok (.lreturn, 1) := by decide +kernel
theorem dX11_allOf_0 : decode cX11_allOf 0 = .ok (.iload_n 0, 1) := by decide +kernel
theorem dX11_allOf_1 : decode cX11_allOf 1 = .ok (.ifCond .ne 7, 3) := by decide +kernel
theorem dX11_allOf_4 : decode cX11_allOf 4 = .ok (.lconst 1, 1) := by decide +kernel
theorem dX11_allOf_5 : decode cX11_allOf 5 = .ok (.goto 13, 3) := by decide +kernel
theorem dX11_allOf_8 : decode cX11_allOf 8 = .ok (.iload_n 0, 1) := by decide +kernel
theorem dX11_allOf_9 : decode cX11_allOf 9 = .ok (.iconst 1, 1) := by decide +kernel
theorem dX11_allOf_10 : decode cX11_allOf 10 = .ok (.iadd, 1) := by decide +kernel
theorem dX11_allOf_11 : decode cX11_allOf 11 = .ok (.i2l, 1) := by decide +kernel
theorem dX11_allOf_12 : decode cX11_allOf 12 = .ok (.iload_n 0, 1) := by decide +kernel
theorem dX11_allOf_13 : decode cX11_allOf 13 = .ok (.iconst 1, 1) := by decide +kernel
theorem dX11_allOf_14 : decode cX11_allOf 14 = .ok (.isub, 1) := by decide +kernel
theorem dX11_allOf_15 : decode cX11_allOf 15 = .ok (.invokestatic 195, 3) := by decide +kernel
theorem dX11_allOf_18 : decode cX11_allOf 18 = .ok (.lreturn, 1) := by decide +kernel
theorem dX11_withParts_0 : decode cX11_withParts 0 = .ok (.iconst 0, 1) := by decide +kernel
theorem dX11_withParts_1 : decode cX11_withParts 1 = .ok (.istore_n 3, 1) := by decide +kernel
theorem dX11_withParts_2 : decode cX11_withParts 2 = .ok (.iload_n 3, 1) := by decide +kernel
theorem dX11_withParts_3 : decode cX11_withParts 3 = .ok (.sipush 144, 3) := by decide +kernel
theorem dX11_withParts_6 : decode cX11_withParts 6 = .ok (.if_icmp .ge 16, 3) := by decide +kernel
theorem dX11_withParts_9 : decode cX11_withParts 9 = .ok (.aload_n 0, 1) := by decide +kernel
theorem dX11_withParts_10 : decode cX11_withParts 10 = .ok (.getfield 82, 3) := by decide +kernel
theorem dX11_withParts_13 : decode cX11_withParts 13 = .ok (.iload_n 3, 1) := by decide +kernel
theorem dX11_withParts_14 : decode cX11_withParts 14 = .ok (.lconst 0, 1) := by decide +kernel
theorem dX11_withParts_15 : decode cX11_withParts 15 = .ok (.lastore, 1) := by decide +kernel
theorem dX11_withParts_16 : decode cX11_withParts 16 = .ok (.iinc 3 1, 3) := by decide +kernel
theorem dX11_withParts_19 : decode cX11_withParts 19 = .ok (.goto (-17), 3) := by decide +kernel
theorem dX11_withParts_22 : decode cX11_withParts 22 = .ok (.aload_n 0, 1) := by decide +kernel
theorem dX11_withParts_23 : decode cX11_withParts 23 = .ok (.getfield 82, 3) := by decide +kernel
theorem dX11_withParts_26 : decode cX11_withParts 26 = .ok (.iconst 0, 1) := by decide +kernel
theorem dX11_withParts_27 : decode cX11_withParts 27 = .ok (.lconst 1, 1) := by decide +kernel
theorem dX11_withParts_28 : decode cX11_withParts 28 = .ok (.lastore, 1) := by decide +kernel
theorem dX11_withParts_29 : decode cX11_withParts 29 = .ok (.iconst 1, 1) := by decide +kernel
theorem dX11_withParts_30 : decode cX11_withParts 30 = .ok (.istore_n 3, 1) := by decide +kernel
theorem dX11_withParts_31 : decode cX11_withParts 31 = .ok (.iload_n 3, 1) := by decide +kernel
theorem dX11_withParts_32 : decode cX11_withParts 32 = .ok (.iload_n 1, 1) := by decide +kernel
theorem dX11_withParts_33 : decode cX11_withParts 33 = .ok (.if_icmp .gt 87, 3) := by decide +kernel
theorem dX11_withParts_36 : decode cX11_withParts 36 = .ok (.iconst 1, 1) := by decide +kernel
theorem dX11_withParts_37 : decode cX11_withParts 37 = .ok (.istore 4, 2) := by decide +kernel
theorem dX11_withParts_39 : decode cX11_withParts 39 = .ok (.iload 4, 2) := by decide +kernel
theorem dX11_withParts_41 : decode cX11_withParts 41 = .ok (.iload_n 1, 1) := by decide +kernel
theorem dX11_withParts_42 : decode cX11_withParts 42 = .ok (.if_icmp .gt 72, 3) := by decide +kernel
theorem dX11_withParts_45 : decode cX11_withParts 45 = .ok (.iconst 1, 1) := by decide +kernel
theorem dX11_withParts_46 : decode cX11_withParts 46 = .ok (.istore 5, 2) := by decide +kernel
theorem dX11_withParts_48 : decode cX11_withParts 48 = .ok (.iload 5, 2) := by decide +kernel
theorem dX11_withParts_50 : decode cX11_withParts 50 = .ok (.iload 4, 2) := by decide +kernel
theorem dX11_withParts_52 : decode cX11_withParts 52 = .ok (.if_icmp .gt 56, 3) := by decide +kernel
theorem dX11_withParts_55 : decode cX11_withParts 55 = .ok (.aload_n 0, 1) := by decide +kernel
theorem dX11_withParts_56 : decode cX11_withParts 56 = .ok (.getfield 82, 3) := by decide +kernel
theorem dX11_withParts_59 : decode cX11_withParts 59 = .ok (.bipush 12, 2) := by decide +kernel
theorem dX11_withParts_61 : decode cX11_withParts 61 = .ok (.iload_n 3, 1) := by decide +kernel
theorem dX11_withParts_62 : decode cX11_withParts 62 = .ok (.imul, 1) := by decide +kernel
theorem dX11_withParts_63 : decode cX11_withParts 63 = .ok (.iload 4, 2) := by decide +kernel
theorem dX11_withParts_65 : decode cX11_withParts 65 = .ok (.iadd, 1) := by decide +kernel
theorem dX11_withParts_66 : decode cX11_withParts 66 = .ok (.dup2, 1) := by decide +kernel
theorem dX11_withParts_67 : decode cX11_withParts 67 = .ok (.laload, 1) := by decide +kernel
theorem dX11_withParts_68 : decode cX11_withParts 68 = .ok (.aload_n 0, 1) := by decide +kernel
theorem dX11_withParts_69 : decode cX11_withParts 69 = .ok (.getfield 82, 3) := by decide +kernel
theorem dX11_withParts_72 : decode cX11_withParts 72 = .ok (.bipush 12, 2) := by decide +kernel
theorem dX11_withParts_74 : decode cX11_withParts 74 = .ok (.iload_n 3, 1) := by decide +kernel
theorem dX11_withParts_75 : decode cX11_withParts 75 = .ok (.iconst 1, 1) := by decide +kernel
theorem dX11_withParts_76 : decode cX11_withParts 76 = .ok (.isub, 1) := by decide +kernel
theorem dX11_withParts_77 : decode cX11_withParts 77 = .ok (.imul, 1) := by decide +kernel
theorem dX11_withParts_78 : decode cX11_withParts 78 = .ok (.iload 4, 2) := by decide +kernel
theorem dX11_withParts_80 : decode cX11_withParts 80 = .ok (.iadd, 1) := by decide +kernel
theorem dX11_withParts_81 : decode cX11_withParts 81 = .ok (.iload 5, 2) := by decide +kernel
theorem dX11_withParts_83 : decode cX11_withParts 83 = .ok (.isub, 1) := by decide +kernel
theorem dX11_withParts_84 : decode cX11_withParts 84 = .ok (.laload, 1) := by decide +kernel
theorem dX11_withParts_85 : decode cX11_withParts 85 = .ok (.aload_n 0, 1) := by decide +kernel
theorem dX11_withParts_86 : decode cX11_withParts 86 = .ok (.iload 4, 2) := by decide +kernel
theorem dX11_withParts_88 : decode cX11_withParts 88 = .ok (.iload 5, 2) := by decide +kernel
theorem dX11_withParts_90 : decode cX11_withParts 90 = .ok (.invokevirtual 148, 3) := by decide +kernel
theorem dX11_withParts_93 : decode cX11_withParts 93 = .ok (.lmul, 1) := by decide +kernel
theorem dX11_withParts_94 : decode cX11_withParts 94 = .ok (.iload 5, 2) := by decide +kernel
theorem dX11_withParts_96 : decode cX11_withParts 96 = .ok (.invokestatic 199, 3) := by decide +kernel
theorem dX11_withParts_99 : decode cX11_withParts 99 = .ok (.lmul, 1) := by decide +kernel
theorem dX11_withParts_100 : decode cX11_withParts 100 = .ok (.ladd, 1) := by decide +kernel
theorem dX11_withParts_101 : decode cX11_withParts 101 = .ok (.lastore, 1) := by decide +kernel
theorem dX11_withParts_102 : decode cX11_withParts 102 = .ok (.iinc 5 1, 3) := by decide +kernel
theorem dX11_withParts_105 : decode cX11_withParts 105 = .ok (.goto (-57), 3) := by decide +kernel
theorem dX11_withParts_108 : decode cX11_withParts 108 = .ok (.iinc 4 1, 3) := by decide +kernel
theorem dX11_withParts_111 : decode cX11_withParts 111 = .ok (.goto (-72), 3) := by decide +kernel
theorem dX11_withParts_114 : decode cX11_withParts 114 = .ok (.iinc 3 1, 3) := by decide +kernel
theorem dX11_withParts_117 : decode cX11_withParts 117 = .ok (.goto (-86), 3) := by decide +kernel
theorem dX11_withParts_120 : decode cX11_withParts 120 = .ok (.iload_n 2, 1) := by decide +kernel
theorem dX11_withParts_121 : decode cX11_withParts 121 = .ok (.i2l, 1) := by decide +kernel
theorem dX11_withParts_122 : decode cX11_withParts 122 = .ok (.lconst 1, 1) := by decide +kernel
theorem dX11_withParts_123 : decode cX11_withParts 123 = .ok (.iload_n 1, 1) := by decide +kernel
theorem dX11_withParts_124 : decode cX11_withParts 124 = .ok (.i2l, 1) := by decide +kernel
theorem dX11_withParts_125 : decode cX11_withParts 125 = .ok (.invokestatic 96, 3) := by decide +kernel
theorem dX11_withParts_128 : decode cX11_withParts 128 = .ok (.ifCond .eq 17, 3) := by decide +kernel
theorem dX11_withParts_131 : decode cX11_withParts 131 = .ok (.aload_n 0, 1) := by decide +kernel
theorem dX11_withParts_132 : decode cX11_withParts 132 = .ok (.getfield 82, 3) := by decide +kernel
theorem dX11_withParts_135 : decode cX11_withParts 135 = .ok (.bipush 12, 2) := by decide +kernel
theorem dX11_withParts_137 : decode cX11_withParts 137 = .ok (.iload_n 2, 1) := by decide +kernel
theorem dX11_withParts_138 : decode cX11_withParts 138 = .ok (.imul, 1) := by decide +kernel
theorem dX11_withParts_139 : decode cX11_withParts 139 = .ok (.iload_n 1, 1) := by decide +kernel
theorem dX11_withParts_140 : decode cX11_withParts 140 = .ok (.iadd, 1) := by decide +kernel
theorem dX11_withParts_141 : decode cX11_withParts 141 = .ok (.laload, 1) := by decide +kernel
theorem dX11_withParts_142 : decode cX11_withParts 142 = .ok (.goto 4, 3) := by decide +kernel
theorem dX11_withParts_145 : decode cX11_withParts 145 = .ok (.lconst 0, 1) := by decide +kernel
theorem dX11_withParts_146 : decode cX11_withParts 146 = .ok (.lreturn, 1) := by decide +kernel
theorem dX11_spread_0 : decode cX11_spread 0 = .ok (.iload_n 1, 1) := by decide +kernel
theorem dX11_spread_1 : decode cX11_spread 1 = .ok (.i2l, 1) := by decide +kernel
theorem dX11_spread_2 : decode cX11_spread 2 = .ok (.lconst 0, 1) := by decide +kernel
theorem dX11_spread_3 : decode cX11_spread 3 = .ok (.ldc2_w 238, 3) := by decide +kernel
theorem dX11_spread_6 : decode cX11_spread 6 = .ok (.invokestatic 96, 3) := by decide +kernel
theorem dX11_spread_9 : decode cX11_spread 9 = .ok (.ifCond .eq 15, 3) := by decide +kernel
theorem dX11_spread_12 : decode cX11_spread 12 = .ok (.iload_n 2, 1) := by decide +kernel
theorem dX11_spread_13 : decode cX11_spread 13 = .ok (.i2l, 1) := by decide +kernel
theorem dX11_spread_14 : decode cX11_spread 14 = .ok (.lconst 1, 1) := by decide +kernel
theorem dX11_spread_15 : decode cX11_spread 15 = .ok (.ldc2_w 100, 3) := by decide +kernel
theorem dX11_spread_18 : decode cX11_spread 18 = .ok (.invokestatic 96, 3) := by decide +kernel
theorem dX11_spread_21 : decode cX11_spread 21 = .ok (.ifCond .ne 7, 3) := by decide +kernel
theorem dX11_spread_24 : decode cX11_spread 24 = .ok (.ldc2_w 162, 3) := by decide +kernel
theorem dX11_spread_27 : decode cX11_spread 27 = .ok (.lreturn, 1) := by decide +kernel
theorem dX11_spread_28 : decode cX11_spread 28 = .ok (.iload_n 1, 1) := by decide +kernel
theorem dX11_spread_29 : decode cX11_spread 29 = .ok (.ifCond .ne 32, 3) := by decide +kernel
theorem dX11_spread_32 : decode cX11_spread 32 = .ok (.iload_n 3, 1) := by decide +kernel
theorem dX11_spread_33 : decode cX11_spread 33 = .ok (.ifCond .lt 9, 3) := by decide +kernel
theorem dX11_spread_36 : decode cX11_spread 36 = .ok (.iload_n 3, 1) := by decide +kernel
theorem dX11_spread_37 : decode cX11_spread 37 = .ok (.bipush 100, 2) := by decide +kernel
theorem dX11_spread_39 : decode cX11_spread 39 = .ok (.if_icmp .le 7, 3) := by decide +kernel
theorem dX11_spread_42 : decode cX11_spread 42 = .ok (.lconst 0, 1) := by decide +kernel
theorem dX11_spread_43 : decode cX11_spread 43 = .ok (.goto 17, 3) := by decide +kernel
theorem dX11_spread_46 : decode cX11_spread 46 = .ok (.aload_n 0, 1) := by decide +kernel
theorem dX11_spread_47 : decode cX11_spread 47 = .ok (.iload_n 2, 1) := by decide +kernel
theorem dX11_spread_48 : decode cX11_spread 48 = .ok (.iload_n 2, 1) := by decide +kernel
theorem dX11_spread_49 : decode cX11_spread 49 = .ok (.iload_n 2, 1) := by decide +kernel
theorem dX11_spread_50 : decode cX11_spread 50 = .ok (.iconst 1, 1) := by decide +kernel
theorem dX11_spread_51 : decode cX11_spread 51 = .ok (.iadd, 1) := by decide +kernel
theorem dX11_spread_52 : decode cX11_spread 52 = .ok (.imul, 1) := by decide +kernel
theorem dX11_spread_53 : decode cX11_spread 53 = .ok (.iconst 2, 1) := by decide +kernel
theorem dX11_spread_54 : decode cX11_spread 54 = .ok (.idiv, 1) := by decide +kernel
theorem dX11_spread_55 : decode cX11_spread 55 = .ok (.iload_n 3, 1) := by decide +kernel
theorem dX11_spread_56 : decode cX11_spread 56 = .ok (.isub, 1) := by decide +kernel
theorem dX11_spread_57 : decode cX11_spread 57 = .ok (.invokevirtual 242, 3) := by decide +kernel
theorem dX11_spread_60 : decode cX11_spread 60 = .ok (.lreturn, 1) := by decide +kernel
theorem dX11_spread_61 : decode cX11_spread 61 = .ok (.iload_n 1, 1) := by decide +kernel
theorem dX11_spread_62 : decode cX11_spread 62 = .ok (.iconst 1, 1) := by decide +kernel
theorem dX11_spread_63 : decode cX11_spread 63 = .ok (.if_icmp .ne 10, 3) := by decide +kernel
theorem dX11_spread_66 : decode cX11_spread 66 = .ok (.aload_n 0, 1) := by decide +kernel
theorem dX11_spread_67 : decode cX11_spread 67 = .ok (.iload_n 2, 1) := by decide +kernel
theorem dX11_spread_68 : decode cX11_spread 68 = .ok (.iload_n 3, 1) := by decide +kernel
theorem dX11_spread_69 : decode cX11_spread 69 = .ok (.invokevirtual 245, 3) := by decide +kernel
theorem dX11_spread_72 : decode cX11_spread 72 = .ok (.lreturn, 1) := by decide +kernel
theorem dX11_spread_73 : decode cX11_spread 73 = .ok (.iload_n 1, 1) := by decide +kernel
theorem dX11_spread_74 : decode cX11_spread 74 = .ok (.iconst 5, 1) := by decide +kernel
theorem dX11_spread_75 : decode cX11_spread 75 = .ok (.if_icmp .ne 26, 3) := by decide +kernel
theorem dX11_spread_78 : decode cX11_spread 78 = .ok (.iload_n 3, 1) := by decide +kernel
theorem dX11_spread_79 : decode cX11_spread 79 = .ok (.ifCond .lt 9, 3) := by decide +kernel
theorem dX11_spread_82 : decode cX11_spread 82 = .ok (.iload_n 3, 1) := by decide +kernel
theorem dX11_spread_83 : decode cX11_spread 83 = .ok (.bipush 100, 2) := by decide +kernel
theorem dX11_spread_85 : decode cX11_spread 85 = .ok (.if_icmp .le 7, 3) := by decide +kernel
theorem dX11_spread_88 : decode cX11_spread 88 = .ok (.lconst 0, 1) := by decide +kernel
theorem dX11_spread_89 : decode cX11_spread 89 = .ok (.goto 11, 3) := by decide +kernel
theorem dX11_spread_92 : decode cX11_spread 92 = .ok (.aload_n 0, 1) := by decide +kernel
theorem dX11_spread_93 : decode cX11_spread 93 = .ok (.iload_n 2, 1) := by decide +kernel
theorem dX11_spread_94 : decode cX11_spread 94 = .ok (.iload_n 3, 1) := by decide +kernel
theorem dX11_spread_95 : decode cX11_spread 95 = .ok (.iconst 1, 1) := by decide +kernel
theorem dX11_spread_96 : decode cX11_spread 96 = .ok (.iadd, 1) := by decide +kernel
theorem dX11_spread_97 : decode cX11_spread 97 = .ok (.invokevirtual 248, 3) := by decide +kernel
theorem dX11_spread_100 : decode cX11_spread 100 = .ok (.lreturn, 1) := by decide +kernel
theorem dX11_spread_101 : decode cX11_spread 101 = .ok (.iload_n 3, 1) := by decide +kernel
theorem dX11_spread_102 : decode cX11_spread 102 = .ok (.i2l, 1) := by decide +kernel
theorem dX11_spread_103 : decode cX11_spread 103 = .ok (.iload_n 1, 1) := by decide +kernel
theorem dX11_spread_104 : decode cX11_spread 104 = .ok (.iconst 4, 1) := by decide +kernel
theorem dX11_spread_105 : decode cX11_spread 105 = .ok (.if_icmp .ne 7, 3) := by decide +kernel
theorem dX11_spread_108 : decode cX11_spread 108 = .ok (.lconst 0, 1) := by decide +kernel
theorem dX11_spread_109 : decode cX11_spread 109 = .ok (.goto 4, 3) := by decide +kernel
theorem dX11_spread_112 : decode cX11_spread 112 = .ok (.lconst 1, 1) := by decide +kernel
theorem dX11_spread_113 : decode cX11_spread 113 = .ok (.iload_n 2, 1) := by decide +kernel
theorem dX11_spread_114 : decode cX11_spread 114 = .ok (.i2l, 1) := by decide +kernel
theorem dX11_spread_115 : decode cX11_spread 115 = .ok (.invokestatic 96, 3) := by decide +kernel
theorem dX11_spread_118 : decode cX11_spread 118 = .ok (.ifCond .ne 5, 3) := by decide +kernel
theorem dX11_spread_121 : decode cX11_spread 121 = .ok (.lconst 0, 1) := by decide +kernel
theorem dX11_spread_122 : decode cX11_spread 122 = .ok (.lreturn, 1) := by decide +kernel
theorem dX11_spread_123 : decode cX11_spread 123 = .ok (.iload_n 1, 1) := by decide +kernel
theorem dX11_spread_124 : decode cX11_spread 124 = .ok (.iconst 2, 1) := by decide +kernel
theorem dX11_spread_125 : decode cX11_spread 125 = .ok (.if_icmp .ne 31, 3) := by decide +kernel
theorem dX11_spread_128 : decode cX11_spread 128 = .ok (.aload_n 0, 1) := by decide +kernel
theorem dX11_spread_129 : decode cX11_spread 129 = .ok (.iload_n 2, 1) := by decide +kernel
theorem dX11_spread_130 : decode cX11_spread 130 = .ok (.iconst 1, 1) := by decide +kernel
theorem dX11_spread_131 : decode cX11_spread 131 = .ok (.isub, 1) := by decide +kernel
theorem dX11_spread_132 : decode cX11_spread 132 = .ok (.iload_n 3, 1) := by decide +kernel
theorem dX11_spread_133 : decode cX11_spread 133 = .ok (.iconst 1, 1) := by decide +kernel
theorem dX11_spread_134 : decode cX11_spread 134 = .ok (.isub, 1) := by decide +kernel
theorem dX11_spread_135 : decode cX11_spread 135 = .ok (.invokevirtual 148, 3) := by decide +kernel
theorem dX11_spread_138 : decode cX11_spread 138 = .ok (.iload_n 3, 1) := by decide +kernel
theorem dX11_spread_139 : decode cX11_spread 139 = .ok (.iconst 1, 1) := by decide +kernel
theorem dX11_spread_140 : decode cX11_spread 140 = .ok (.isub, 1) := by decide +kernel
theorem dX11_spread_141 : decode cX11_spread 141 = .ok (.invokestatic 251, 3) := by decide +kernel
theorem dX11_spread_144 : decode cX11_spread 144 = .ok (.lmul, 1) := by decide +kernel
theorem dX11_spread_145 : decode cX11_spread 145 = .ok (.iload_n 2, 1) := by decide +kernel
theorem dX11_spread_146 : decode cX11_spread 146 = .ok (.iload_n 3, 1) := by decide +kernel
theorem dX11_spread_147 : decode cX11_spread 147 = .ok (.isub, 1) := by decide +kernel
theorem dX11_spread_148 : decode cX11_spread 148 = .ok (.invokestatic 251, 3) := by decide +kernel
theorem dX11_spread_151 : decode cX11_spread 151 = .ok (.lmul, 1) := by decide +kernel
theorem dX11_spread_152 : decode cX11_spread 152 = .ok (.iload_n 3, 1) := by decide +kernel
theorem dX11_spread_153 : decode cX11_spread 153 = .ok (.i2l, 1) := by decide +kernel
theorem dX11_spread_154 : decode cX11_spread 154 = .ok (.lmul, 1) := by decide +kernel
theorem dX11_spread_155 : decode cX11_spread 155 = .ok (.lreturn, 1) := by decide +kernel
theorem dX11_spread_156 : decode cX11_spread 156 = .ok (.aload_n 0, 1) := by decide +kernel
theorem dX11_spread_157 : decode cX11_spread 157 = .ok (.invokevirtual 152, 3) := by decide +kernel
theorem dX11_spread_160 : decode cX11_spread 160 = .ok (.iload_n 1, 1) := by decide +kernel
theorem dX11_spread_161 : decode cX11_spread 161 = .ok (.iconst 3, 1) := by decide +kernel
theorem dX11_spread_162 : decode cX11_spread 162 = .ok (.if_icmp .ne 19, 3) := by decide +kernel
theorem dX11_spread_165 : decode cX11_spread 165 = .ok (.aload_n 0, 1) := by decide +kernel
theorem dX11_spread_166 : decode cX11_spread 166 = .ok (.getfield 33, 3) := by decide +kernel
theorem dX11_spread_169 : decode cX11_spread 169 = .ok (.iload_n 3, 1) := by decide +kernel
theorem dX11_spread_170 : decode cX11_spread 170 = .ok (.iconst 1, 1) := by decide +kernel
theorem dX11_spread_171 : decode cX11_spread 171 = .ok (.iastore, 1) := by decide +kernel
theorem dX11_spread_172 : decode cX11_spread 172 = .ok (.aload_n 0, 1) := by decide +kernel
theorem dX11_spread_173 : decode cX11_spread 173 = .ok (.iload_n 2, 1) := by decide +kernel
theorem dX11_spread_174 : decode cX11_spread 174 = .ok (.iload_n 2, 1) := by decide +kernel
theorem dX11_spread_175 : decode cX11_spread 175 = .ok (.iconst 1, 1) := by decide +kernel
theorem dX11_spread_176 : decode cX11_spread 176 = .ok (.isub, 1) := by decide +kernel
theorem dX11_spread_177 : decode cX11_spread 177 = .ok (.invokevirtual 155, 3) := by decide +kernel
theorem dX11_spread_180 : decode cX11_spread 180 = .ok (.lreturn, 1) := by decide +kernel
theorem dX11_spread_181 : decode cX11_spread 181 = .ok (.aload_n 0, 1) := by decide +kernel
theorem dX11_spread_182 : decode cX11_spread 182 = .ok (.iload_n 2, 1) := by decide +kernel
theorem dX11_spread_183 : decode cX11_spread 183 = .ok (.iload_n 2, 1) := by decide +kernel
theorem dX11_spread_184 : decode cX11_spread 184 = .ok (.invokevirtual 155, 3) := by decide +kernel
theorem dX11_spread_187 : decode cX11_spread 187 = .ok (.lstore 4, 2) := by decide +kernel
theorem dX11_spread_189 : decode cX11_spread 189 = .ok (.lload 4, 2) := by decide +kernel
theorem dX11_spread_191 : decode cX11_spread 191 = .ok (.lconst 0, 1) := by decide +kernel
theorem dX11_spread_192 : decode cX11_spread 192 = .ok (.lcmp, 1) := by decide +kernel
theorem dX11_spread_193 : decode cX11_spread 193 = .ok (.ifCond .ne 7, 3) := by decide +kernel
theorem dX11_spread_196 : decode cX11_spread 196 = .ok (.lconst 0, 1) := by decide +kernel
theorem dX11_spread_197 : decode cX11_spread 197 = .ok (.goto 14, 3) := by decide +kernel
theorem dX11_spread_200 : decode cX11_spread 200 = .ok (.aload_n 0, 1) := by decide +kernel
theorem dX11_spread_201 : decode cX11_spread 201 = .ok (.getfield 36, 3) := by decide +kernel
theorem dX11_spread_204 : decode cX11_spread 204 = .ok (.bipush 24, 2) := by decide +kernel
theorem dX11_spread_206 : decode cX11_spread 206 = .ok (.iload_n 2, 1) := by decide +kernel
theorem dX11_spread_207 : decode cX11_spread 207 = .ok (.iadd, 1) := by decide +kernel
theorem dX11_spread_208 : decode cX11_spread 208 = .ok (.iload_n 3, 1) := by decide +kernel
theorem dX11_spread_209 : decode cX11_spread 209 = .ok (.isub, 1) := by decide +kernel
theorem dX11_spread_210 : decode cX11_spread 210 = .ok (.laload, 1) := by decide +kernel
theorem dX11_spread_211 : decode cX11_spread 211 = .ok (.lreturn, 1) := by decide +kernel
theorem dX11_isSheet_0 : decode cX11_isSheet 0 = .ok (.iload_n 0, 1) := by decide +kernel
theorem dX11_isSheet_1 : decode cX11_isSheet 1 = .ok (.i2l, 1) := by decide +kernel
theorem dX11_isSheet_2 : decode cX11_isSheet 2 = .ok (.lconst 0, 1) := by decide +kernel
theorem dX11_isSheet_3 : decode cX11_isSheet 3 = .ok (.ldc2_w 254, 3) := by decide +kernel
theorem dX11_isSheet_6 : decode cX11_isSheet 6 = .ok (.invokestatic 96, 3) := by decide +kernel
theorem dX11_isSheet_9 : decode cX11_isSheet 9 = .ok (.ifCond .eq 19, 3) := by decide +kernel
theorem dX11_isSheet_12 : decode cX11_isSheet 12 = .ok (.iload_n 1, 1) := by decide +kernel
theorem dX11_isSheet_13 : decode cX11_isSheet 13 = .ok (.i2l, 1) := by decide +kernel
theorem dX11_isSheet_14 : decode cX11_isSheet 14 = .ok (.lconst 0, 1) := by decide +kernel
theorem dX11_isSheet_15 : decode cX11_isSheet 15 = .ok (.ldc2_w 94, 3) := by decide +kernel
theorem dX11_isSheet_18 : decode cX11_isSheet 18 = .ok (.invokestatic 96, 3) := by decide +kernel
theorem dX11_isSheet_21 : decode cX11_isSheet 21 = .ok (.ifCond .eq 7, 3) := by decide +kernel
theorem dX11_isSheet_24 : decode cX11_isSheet 24 = .ok (.iconst 1, 1) := by decide +kernel
theorem dX11_isSheet_25 : decode cX11_isSheet 25 = .ok (.goto 4, 3) := by decide +kernel
theorem dX11_isSheet_28 : decode cX11_isSheet 28 = .ok (.iconst 0, 1) := by decide +kernel
theorem dX11_isSheet_29 : decode cX11_isSheet 29 = .ok (.ireturn, 1) := by decide +kernel
theorem dX11_sheet_0 : decode cX11_sheet 0 = .ok (.iload_n 1, 1) := by decide +kernel
theorem dX11_sheet_1 : decode cX11_sheet 1 = .ok (.iload_n 2, 1) := by decide +kernel
theorem dX11_sheet_2 : decode cX11_sheet 2 = .ok (.invokestatic 211, 3) := by decide +kernel
theorem dX11_sheet_5 : decode cX11_sheet 5 = .ok (.ifCond .eq 9, 3) := by decide +kernel
theorem dX11_sheet_8 : decode cX11_sheet 8 = .ok (.iload_n 3, 1) := by decide +kernel
theorem dX11_sheet_9 : decode cX11_sheet 9 = .ok (.bipush 20, 2) := by decide +kernel
theorem dX11_sheet_11 : decode cX11_sheet 11 = .ok (.if_icmp .le 5, 3) := by decide +kernel
theorem dX11_sheet_14 : decode cX11_sheet 14 = .ok (.iconst (-1), 1) := by decide +kernel
theorem dX11_sheet_15 : decode cX11_sheet 15 = .ok (.ireturn, 1) := by decide +kernel
theorem dX11_sheet_16 : decode cX11_sheet 16 = .ok (.iload_n 3, 1) := by decide +kernel
theorem dX11_sheet_17 : decode cX11_sheet 17 = .ok (.ifCond .ge 6, 3) := by decide +kernel
theorem dX11_sheet_20 : decode cX11_sheet 20 = .ok (.bipush (-14), 2) := by decide +kernel
theorem dX11_sheet_22 : decode cX11_sheet 22 = .ok (.ireturn, 1) := by decide +kernel
theorem dX11_sheet_23 : decode cX11_sheet 23 = .ok (.aload_n 0, 1) := by decide +kernel
theorem dX11_sheet_24 : decode cX11_sheet 24 = .ok (.getfield 85, 3) := by decide +kernel
theorem dX11_sheet_27 : decode cX11_sheet 27 = .ok (.iload_n 1, 1) := by decide +kernel
theorem dX11_sheet_28 : decode cX11_sheet 28 = .ok (.iload_n 2, 1) := by decide +kernel
theorem dX11_sheet_29 : decode cX11_sheet 29 = .ok (.iastore, 1) := by decide +kernel
theorem dX11_sheet_30 : decode cX11_sheet 30 = .ok (.aload_n 0, 1) := by decide +kernel
theorem dX11_sheet_31 : decode cX11_sheet 31 = .ok (.getfield 88, 3) := by decide +kernel
theorem dX11_sheet_34 : decode cX11_sheet 34 = .ok (.iload_n 1, 1) := by decide +kernel
theorem dX11_sheet_35 : decode cX11_sheet 35 = .ok (.iload_n 3, 1) := by decide +kernel
theorem dX11_sheet_36 : decode cX11_sheet 36 = .ok (.iastore, 1) := by decide +kernel
theorem dX11_sheet_37 : decode cX11_sheet 37 = .ok (.iconst 0, 1) := by decide +kernel
theorem dX11_sheet_38 : decode cX11_sheet 38 = .ok (.istore 4, 2) := by decide +kernel
theorem dX11_sheet_40 : decode cX11_sheet 40 = .ok (.iload 4, 2) := by decide +kernel
theorem dX11_sheet_42 : decode cX11_sheet 42 = .ok (.bipush 20, 2) := by decide +kernel
theorem dX11_sheet_44 : decode cX11_sheet 44 = .ok (.if_icmp .ge 22, 3) := by decide +kernel
theorem dX11_sheet_47 : decode cX11_sheet 47 = .ok (.aload_n 0, 1) := by decide +kernel
theorem dX11_sheet_48 : decode cX11_sheet 48 = .ok (.getfield 91, 3) := by decide +kernel
theorem dX11_sheet_51 : decode cX11_sheet 51 = .ok (.bipush 20, 2) := by decide +kernel
theorem dX11_sheet_53 : decode cX11_sheet 53 = .ok (.iload_n 1, 1) := by decide +kernel
theorem dX11_sheet_54 : decode cX11_sheet 54 = .ok (.imul, 1) := by decide +kernel
theorem dX11_sheet_55 : decode cX11_sheet 55 = .ok (.iload 4, 2) := by decide +kernel
theorem dX11_sheet_57 : decode cX11_sheet 57 = .ok (.iadd, 1) := by decide +kernel
theorem dX11_sheet_58 : decode cX11_sheet 58 = .ok (.iconst 0, 1) := by decide +kernel
theorem dX11_sheet_59 : decode cX11_sheet 59 = .ok (.iastore, 1) := by decide +kernel
theorem dX11_sheet_60 : decode cX11_sheet 60 = .ok (.iinc 4 1, 3) := by decide +kernel
theorem dX11_sheet_63 : decode cX11_sheet 63 = .ok (.goto (-23), 3) := by decide +kernel
theorem dX11_sheet_66 : decode cX11_sheet 66 = .ok (.iload_n 3, 1) := by decide +kernel
theorem dX11_sheet_67 : decode cX11_sheet 67 = .ok (.ireturn, 1) := by decide +kernel
theorem dX11_drop_0 : decode cX11_drop 0 = .ok (.iload_n 1, 1) := by decide +kernel
theorem dX11_drop_1 : decode cX11_drop 1 = .ok (.i2l, 1) := by decide +kernel
theorem dX11_drop_2 : decode cX11_drop 2 = .ok (.lconst 0, 1) := by decide +kernel
theorem dX11_drop_3 : decode cX11_drop 3 = .ok (.ldc2_w 254, 3) := by decide +kernel
theorem dX11_drop_6 : decode cX11_drop 6 = .ok (.invokestatic 96, 3) := by decide +kernel
theorem dX11_drop_9 : decode cX11_drop 9 = .ok (.ifCond .ne 5, 3) := by decide +kernel
theorem dX11_drop_12 : decode cX11_drop 12 = .ok (.iconst (-1), 1) := by decide +kernel
theorem dX11_drop_13 : decode cX11_drop 13 = .ok (.ireturn, 1) := by decide +kernel
theorem dX11_drop_14 : decode cX11_drop 14 = .ok (.aload_n 0, 1) := by decide +kernel
theorem dX11_drop_15 : decode cX11_drop 15 = .ok (.getfield 85, 3) := by decide +kernel
theorem dX11_drop_18 : decode cX11_drop 18 = .ok (.iload_n 1, 1) := by decide +kernel
theorem dX11_drop_19 : decode cX11_drop 19 = .ok (.iaload, 1) := by decide +kernel
theorem dX11_drop_20 : decode cX11_drop 20 = .ok (.ifCond .ge 6, 3) := by decide +kernel
theorem dX11_drop_23 : decode cX11_drop 23 = .ok (.bipush (-11), 2) := by decide +kernel
theorem dX11_drop_25 : decode cX11_drop 25 = .ok (.ireturn, 1) := by decide +kernel
theorem dX11_drop_26 : decode cX11_drop 26 = .ok (.aload_n 0, 1) := by decide +kernel
theorem dX11_drop_27 : decode cX11_drop 27 = .ok (.getfield 85, 3) := by decide +kernel
theorem dX11_drop_30 : decode cX11_drop 30 = .ok (.iload_n 1, 1) := by decide +kernel
theorem dX11_drop_31 : decode cX11_drop 31 = .ok (.iconst (-1), 1) := by decide +kernel
theorem dX11_drop_32 : decode cX11_drop 32 = .ok (.iastore, 1) := by decide +kernel
theorem dX11_drop_33 : decode cX11_drop 33 = .ok (.aload_n 0, 1) := by decide +kernel
theorem dX11_drop_34 : decode cX11_drop 34 = .ok (.getfield 88, 3) := by decide +kernel
theorem dX11_drop_37 : decode cX11_drop 37 = .ok (.iload_n 1, 1) := by decide +kernel
theorem dX11_drop_38 : decode cX11_drop 38 = .ok (.iaload, 1) := by decide +kernel
theorem dX11_drop_39 : decode cX11_drop 39 = .ok (.ireturn, 1) := by decide +kernel
theorem dX11_against_0 : decode cX11_against 0 = .ok (.aload_n 0, 1) := by decide +kernel
theorem dX11_against_1 : decode cX11_against 1 = .ok (.getfield 85, 3) := by decide +kernel
theorem dX11_against_4 : decode cX11_against 4 = .ok (.iload_n 1, 1) := by decide +kernel
theorem dX11_against_5 : decode cX11_against 5 = .ok (.iaload, 1) := by decide +kernel
theorem dX11_against_6 : decode cX11_against 6 = .ok (.iload_n 2, 1) := by decide +kernel
theorem dX11_against_7 : decode cX11_against 7 = .ok (.if_icmp .eq 20, 3) := by decide +kernel
theorem dX11_against_10 : decode cX11_against 10 = .ok (.aload_n 0, 1) := by decide +kernel
theorem dX11_against_11 : decode cX11_against 11 = .ok (.getfield 85, 3) := by decide +kernel
theorem dX11_against_14 : decode cX11_against 14 = .ok (.iload_n 1, 1) := by decide +kernel
theorem dX11_against_15 : decode cX11_against 15 = .ok (.iaload, 1) := by decide +kernel
theorem dX11_against_16 : decode cX11_against 16 = .ok (.ifCond .ge 8, 3) := by decide +kernel
theorem dX11_against_19 : decode cX11_against 19 = .ok (.bipush (-11), 2) := by decide +kernel
theorem dX11_against_21 : decode cX11_against 21 = .ok (.goto 5, 3) := by decide +kernel
theorem dX11_against_24 : decode cX11_against 24 = .ok (.bipush (-12), 2) := by decide +kernel
theorem dX11_against_26 : decode cX11_against 26 = .ok (.ireturn, 1) := by decide +kernel
theorem dX11_against_27 : decode cX11_against 27 = .ok (.iload_n 3, 1) := by decide +kernel
theorem dX11_against_28 : decode cX11_against 28 = .ok (.i2l, 1) := by decide +kernel
theorem dX11_against_29 : decode cX11_against 29 = .ok (.lconst 0, 1) := by decide +kernel
theorem dX11_against_30 : decode cX11_against 30 = .ok (.aload_n 0, 1) := by decide +kernel
theorem dX11_against_31 : decode cX11_against 31 = .ok (.getfield 88, 3) := by decide +kernel
theorem dX11_against_34 : decode cX11_against 34 = .ok (.iload_n 1, 1) := by decide +kernel
theorem dX11_against_35 : decode cX11_against 35 = .ok (.iaload, 1) := by decide +kernel
theorem dX11_against_36 : decode cX11_against 36 = .ok (.iload 4, 2) := by decide +kernel
theorem dX11_against_38 : decode cX11_against 38 = .ok (.isub, 1) := by decide +kernel
theorem dX11_against_39 : decode cX11_against 39 = .ok (.i2l, 1) := by decide +kernel
theorem dX11_against_40 : decode cX11_against 40 = .ok (.invokestatic 96, 3) := by decide +kernel
theorem dX11_against_43 : decode cX11_against 43 = .ok (.ifCond .eq 7, 3) := by decide +kernel
theorem dX11_against_46 : decode cX11_against 46 = .ok (.iconst 0, 1) := by decide +kernel
theorem dX11_against_47 : decode cX11_against 47 = .ok (.goto 5, 3) := by decide +kernel
theorem dX11_against_50 : decode cX11_against 50 = .ok (.bipush (-13), 2) := by decide +kernel
theorem dX11_against_52 : decode cX11_against 52 = .ok (.ireturn, 1) := by decide +kernel
theorem dX11_item_0 : decode cX11_item 0 = .ok (.iload_n 1, 1) := by decide +kernel
theorem dX11_item_1 : decode cX11_item 1 = .ok (.iload_n 2, 1) := by decide +kernel
theorem dX11_item_2 : decode cX11_item 2 = .ok (.invokestatic 211, 3) := by decide +kernel
theorem dX11_item_5 : decode cX11_item 5 = .ok (.ifCond .ne 5, 3) := by decide +kernel
theorem dX11_item_8 : decode cX11_item 8 = .ok (.iconst (-1), 1) := by decide +kernel
theorem dX11_item_9 : decode cX11_item 9 = .ok (.ireturn, 1) := by decide +kernel
theorem dX11_item_10 : decode cX11_item 10 = .ok (.aload_n 0, 1) := by decide +kernel
theorem dX11_item_11 : decode cX11_item 11 = .ok (.iload_n 1, 1) := by decide +kernel
theorem dX11_item_12 : decode cX11_item 12 = .ok (.iload_n 2, 1) := by decide +kernel
theorem dX11_item_13 : decode cX11_item 13 = .ok (.iload_n 3, 1) := by decide +kernel
theorem dX11_item_14 : decode cX11_item 14 = .ok (.iconst 1, 1) := by decide +kernel
theorem dX11_item_15 : decode cX11_item 15 = .ok (.invokevirtual 214, 3) := by decide +kernel
theorem dX11_item_18 : decode cX11_item 18 = .ok (.istore 5, 2) := by decide +kernel
theorem dX11_item_20 : decode cX11_item 20 = .ok (.iload 5, 2) := by decide +kernel
theorem dX11_item_22 : decode cX11_item 22 = .ok (.ifCond .ge 6, 3) := by decide +kernel
theorem dX11_item_25 : decode cX11_item 25 = .ok (.iload 5, 2) := by decide +kernel
theorem dX11_item_27 : decode cX11_item 27 = .ok (.ireturn, 1) := by decide +kernel
theorem dX11_item_28 : decode cX11_item 28 = .ok (.aload_n 0, 1) := by decide +kernel
theorem dX11_item_29 : decode cX11_item 29 = .ok (.getfield 91, 3) := by decide +kernel
theorem dX11_item_32 : decode cX11_item 32 = .ok (.bipush 20, 2) := by decide +kernel
theorem dX11_item_34 : decode cX11_item 34 = .ok (.iload_n 1, 1) := by decide +kernel
theorem dX11_item_35 : decode cX11_item 35 = .ok (.imul, 1) := by decide +kernel
theorem dX11_item_36 : decode cX11_item 36 = .ok (.iload_n 3, 1) := by decide +kernel
theorem dX11_item_37 : decode cX11_item 37 = .ok (.iadd, 1) := by decide +kernel
theorem dX11_item_38 : decode cX11_item 38 = .ok (.iload_n 2, 1) := by decide +kernel
theorem dX11_item_39 : decode cX11_item 39 = .ok (.ifCond .ne 14, 3) := by decide +kernel
theorem dX11_item_42 : decode cX11_item 42 = .ok (.iload 4, 2) := by decide +kernel
theorem dX11_item_44 : decode cX11_item 44 = .ok (.bipush 24, 2) := by decide +kernel
theorem dX11_item_46 : decode cX11_item 46 = .ok (.ishl, 1) := by decide +kernel
theorem dX11_item_47 : decode cX11_item 47 = .ok (.bipush 24, 2) := by decide +kernel
theorem dX11_item_49 : decode cX11_item 49 = .ok (.ishr, 1) := by decide +kernel
theorem dX11_item_50 : decode cX11_item 50 = .ok (.goto 21, 3) := by decide +kernel
theorem dX11_item_53 : decode cX11_item 53 = .ok (.iload_n 2, 1) := by decide +kernel
theorem dX11_item_54 : decode cX11_item 54 = .ok (.iconst 1, 1) := by decide +kernel
theorem dX11_item_55 : decode cX11_item 55 = .ok (.if_icmp .ne 14, 3) := by decide +kernel
theorem dX11_item_58 : decode cX11_item 58 = .ok (.iload 4, 2) := by decide +kernel
theorem dX11_item_60 : decode cX11_item 60 = .ok (.bipush 16, 2) := by decide +kernel
theorem dX11_item_62 : decode cX11_item 62 = .ok (.ishl, 1) := by decide +kernel
theorem dX11_item_63 : decode cX11_item 63 = .ok (.bipush 16, 2) := by decide +kernel
theorem dX11_item_65 : decode cX11_item 65 = .ok (.ishr, 1) := by decide +kernel
theorem dX11_item_66 : decode cX11_item 66 = .ok (.goto 5, 3) := by decide +kernel
theorem dX11_item_69 : decode cX11_item 69 = .ok (.iload 4, 2) := by decide +kernel
theorem dX11_item_71 : decode cX11_item 71 = .ok (.iastore, 1) := by decide +kernel
theorem dX11_item_72 : decode cX11_item 72 = .ok (.iconst 1, 1) := by decide +kernel
theorem dX11_item_73 : decode cX11_item 73 = .ok (.ireturn, 1) := by decide +kernel
theorem dX11_cars_0 : decode cX11_cars 0 = .ok (.iload_n 1, 1) := by decide +kernel
theorem dX11_cars_1 : decode cX11_cars 1 = .ok (.iload_n 2, 1) := by decide +kernel
theorem dX11_cars_2 : decode cX11_cars 2 = .ok (.invokestatic 211, 3) := by decide +kernel
theorem dX11_cars_5 : decode cX11_cars 5 = .ok (.ifCond .eq 16, 3) := by decide +kernel
theorem dX11_cars_8 : decode cX11_cars 8 = .ok (.iload 4, 2) := by decide +kernel
theorem dX11_cars_10 : decode cX11_cars 10 = .ok (.i2l, 1) := by decide +kernel
theorem dX11_cars_11 : decode cX11_cars 11 = .ok (.lconst 0, 1) := by decide +kernel
theorem dX11_cars_12 : decode cX11_cars 12 = .ok (.ldc2_w 100, 3) := by decide +kernel
theorem dX11_cars_15 : decode cX11_cars 15 = .ok (.invokestatic 96, 3) := by decide +kernel
theorem dX11_cars_18 : decode cX11_cars 18 = .ok (.ifCond .ne 5, 3) := by decide +kernel
theorem dX11_cars_21 : decode cX11_cars 21 = .ok (.iconst (-1), 1) := by decide +kernel
theorem dX11_cars_22 : decode cX11_cars 22 = .ok (.ireturn, 1) := by decide +kernel
theorem dX11_cars_23 : decode cX11_cars 23 = .ok (.aload_n 0, 1) := by decide +kernel
theorem dX11_cars_24 : decode cX11_cars 24 = .ok (.iload_n 1, 1) := by decide +kernel
theorem dX11_cars_25 : decode cX11_cars 25 = .ok (.iload_n 2, 1) := by decide +kernel
theorem dX11_cars_26 : decode cX11_cars 26 = .ok (.iload_n 3, 1) := by decide +kernel
theorem dX11_cars_27 : decode cX11_cars 27 = .ok (.iload 4, 2) := by decide +kernel
theorem dX11_cars_29 : decode cX11_cars 29 = .ok (.invokevirtual 214, 3) := by decide +kernel
theorem dX11_cars_32 : decode cX11_cars 32 = .ok (.istore 5, 2) := by decide +kernel
theorem dX11_cars_34 : decode cX11_cars 34 = .ok (.iload 5, 2) := by decide +kernel
theorem dX11_cars_36 : decode cX11_cars 36 = .ok (.ifCond .ge 6, 3) := by decide +kernel
theorem dX11_cars_39 : decode cX11_cars 39 = .ok (.iload 5, 2) := by decide +kernel
theorem dX11_cars_41 : decode cX11_cars 41 = .ok (.ireturn, 1) := by decide +kernel
theorem dX11_cars_42 : decode cX11_cars 42 = .ok (.iconst 0, 1) := by decide +kernel
theorem dX11_cars_43 : decode cX11_cars 43 = .ok (.istore 6, 2) := by decide +kernel
theorem dX11_cars_45 : decode cX11_cars 45 = .ok (.iload 6, 2) := by decide +kernel
theorem dX11_cars_47 : decode cX11_cars 47 = .ok (.iload 4, 2) := by decide +kernel
theorem dX11_cars_49 : decode cX11_cars 49 = .ok (.if_icmp .ge 34, 3) := by decide +kernel
theorem dX11_cars_52 : decode cX11_cars 52 = .ok (.aload_n 0, 1) := by decide +kernel
theorem dX11_cars_53 : decode cX11_cars 53 = .ok (.iload_n 1, 1) := by decide +kernel
theorem dX11_cars_54 : decode cX11_cars 54 = .ok (.iload_n 3, 1) := by decide +kernel
theorem dX11_cars_55 : decode cX11_cars 55 = .ok (.iload 6, 2) := by decide +kernel
theorem dX11_cars_57 : decode cX11_cars 57 = .ok (.iadd, 1) := by decide +kernel
theorem dX11_cars_58 : decode cX11_cars 58 = .ok (.invokevirtual 218, 3) := by decide +kernel
theorem dX11_cars_61 : decode cX11_cars 61 = .ok (.i2l, 1) := by decide +kernel
theorem dX11_cars_62 : decode cX11_cars 62 = .ok (.lconst 1, 1) := by decide +kernel
theorem dX11_cars_63 : decode cX11_cars 63 = .ok (.aload_n 0, 1) := by decide +kernel
theorem dX11_cars_64 : decode cX11_cars 64 = .ok (.getfield 7, 3) := by decide +kernel
theorem dX11_cars_67 : decode cX11_cars 67 = .ok (.i2l, 1) := by decide +kernel
theorem dX11_cars_68 : decode cX11_cars 68 = .ok (.invokestatic 96, 3) := by decide +kernel
theorem dX11_cars_71 : decode cX11_cars 71 = .ok (.ifCond .ne 6, 3) := by decide +kernel
theorem dX11_cars_74 : decode cX11_cars 74 = .ok (.bipush (-2), 2) := by decide +kernel
theorem dX11_cars_76 : decode cX11_cars 76 = .ok (.ireturn, 1) := by decide +kernel
theorem dX11_cars_77 : decode cX11_cars 77 = .ok (.iinc 6 1, 3) := by decide +kernel
theorem dX11_cars_80 : decode cX11_cars 80 = .ok (.goto (-35), 3) := by decide +kernel
theorem dX11_cars_83 : decode cX11_cars 83 = .ok (.aload_n 0, 1) := by decide +kernel
theorem dX11_cars_84 : decode cX11_cars 84 = .ok (.getfield 110, 3) := by decide +kernel
theorem dX11_cars_87 : decode cX11_cars 87 = .ok (.iload 4, 2) := by decide +kernel
theorem dX11_cars_89 : decode cX11_cars 89 = .ok (.iadd, 1) := by decide +kernel
theorem dX11_cars_90 : decode cX11_cars 90 = .ok (.aload_n 0, 1) := by decide +kernel
theorem dX11_cars_91 : decode cX11_cars 91 = .ok (.getfield 7, 3) := by decide +kernel
theorem dX11_cars_94 : decode cX11_cars 94 = .ok (.if_icmp .le 6, 3) := by decide +kernel
theorem dX11_cars_97 : decode cX11_cars 97 = .ok (.bipush (-3), 2) := by decide +kernel
theorem dX11_cars_99 : decode cX11_cars 99 = .ok (.ireturn, 1) := by decide +kernel
theorem dX11_cars_100 : decode cX11_cars 100 = .ok (.iconst 0, 1) := by decide +kernel
theorem dX11_cars_101 : decode cX11_cars 101 = .ok (.istore 6, 2) := by decide +kernel
theorem dX11_cars_103 : decode cX11_cars 103 = .ok (.iload 6, 2) := by decide +kernel
theorem dX11_cars_105 : decode cX11_cars 105 = .ok (.iload 4, 2) := by decide +kernel
theorem dX11_cars_107 : decode cX11_cars 107 = .ok (.if_icmp .ge 22, 3) := by decide +kernel
theorem dX11_cars_110 : decode cX11_cars 110 = .ok (.aload_n 0, 1) := by decide +kernel
theorem dX11_cars_111 : decode cX11_cars 111 = .ok (.aload_n 0, 1) := by decide +kernel
theorem dX11_cars_112 : decode cX11_cars 112 = .ok (.iload_n 1, 1) := by decide +kernel
theorem dX11_cars_113 : decode cX11_cars 113 = .ok (.iload_n 3, 1) := by decide +kernel
theorem dX11_cars_114 : decode cX11_cars 114 = .ok (.iload 6, 2) := by decide +kernel
theorem dX11_cars_116 : decode cX11_cars 116 = .ok (.iadd, 1) := by decide +kernel
theorem dX11_cars_117 : decode cX11_cars 117 = .ok (.invokevirtual 218, 3) := by decide +kernel
theorem dX11_cars_120 : decode cX11_cars 120 = .ok (.invokevirtual 113, 3) := by decide +kernel
theorem dX11_cars_123 : decode cX11_cars 123 = .ok (.iinc 6 1, 3) := by decide +kernel
theorem dX11_cars_126 : decode cX11_cars 126 = .ok (.goto (-23), 3) := by decide +kernel
theorem dX11_cars_129 : decode cX11_cars 129 = .ok (.aload_n 0, 1) := by decide +kernel
theorem dX11_cars_130 : decode cX11_cars 130 = .ok (.getfield 110, 3) := by decide +kernel
theorem dX11_cars_133 : decode cX11_cars 133 = .ok (.ireturn, 1) := by decide +kernel
theorem dX11_keep_0 : decode cX11_keep 0 = .ok (.iload_n 1, 1) := by decide +kernel
theorem dX11_keep_1 : decode cX11_keep 1 = .ok (.iload_n 2, 1) := by decide +kernel
theorem dX11_keep_2 : decode cX11_keep 2 = .ok (.invokestatic 211, 3) := by decide +kernel
theorem dX11_keep_5 : decode cX11_keep 5 = .ok (.ifCond .ne 5, 3) := by decide +kernel
theorem dX11_keep_8 : decode cX11_keep 8 = .ok (.iconst (-1), 1) := by decide +kernel
theorem dX11_keep_9 : decode cX11_keep 9 = .ok (.ireturn, 1) := by decide +kernel
theorem dX11_keep_10 : decode cX11_keep 10 = .ok (.aload_n 0, 1) := by decide +kernel
theorem dX11_keep_11 : decode cX11_keep 11 = .ok (.iload_n 1, 1) := by decide +kernel
theorem dX11_keep_12 : decode cX11_keep 12 = .ok (.iload_n 2, 1) := by decide +kernel
theorem dX11_keep_13 : decode cX11_keep 13 = .ok (.iload_n 3, 1) := by decide +kernel
theorem dX11_keep_14 : decode cX11_keep 14 = .ok (.aload_n 0, 1) := by decide +kernel
theorem dX11_keep_15 : decode cX11_keep 15 = .ok (.getfield 110, 3) := by decide +kernel
theorem dX11_keep_18 : decode cX11_keep 18 = .ok (.invokevirtual 214, 3) := by decide +kernel
theorem dX11_keep_21 : decode cX11_keep 21 = .ok (.istore 4, 2) := by decide +kernel
theorem dX11_keep_23 : decode cX11_keep 23 = .ok (.iload 4, 2) := by decide +kernel
theorem dX11_keep_25 : decode cX11_keep 25 = .ok (.ifCond .ge 6, 3) := by decide +kernel
theorem dX11_keep_28 : decode cX11_keep 28 = .ok (.iload 4, 2) := by decide +kernel
theorem dX11_keep_30 : decode cX11_keep 30 = .ok (.ireturn, 1) := by decide +kernel
theorem dX11_keep_31 : decode cX11_keep 31 = .ok (.iconst 1, 1) := by decide +kernel
theorem dX11_keep_32 : decode cX11_keep 32 = .ok (.istore 5, 2) := by decide +kernel
theorem dX11_keep_34 : decode cX11_keep 34 = .ok (.iload 5, 2) := by decide +kernel
theorem dX11_keep_36 : decode cX11_keep 36 = .ok (.aload_n 0, 1) := by decide +kernel
theorem dX11_keep_37 : decode cX11_keep 37 = .ok (.getfield 110, 3) := by decide +kernel
theorem dX11_keep_40 : decode cX11_keep 40 = .ok (.if_icmp .gt 32, 3) := by decide +kernel
theorem dX11_keep_43 : decode cX11_keep 43 = .ok (.aload_n 0, 1) := by decide +kernel
theorem dX11_keep_44 : decode cX11_keep 44 = .ok (.getfield 91, 3) := by decide +kernel
theorem dX11_keep_47 : decode cX11_keep 47 = .ok (.bipush 20, 2) := by decide +kernel
theorem dX11_keep_49 : decode cX11_keep 49 = .ok (.iload_n 1, 1) := by decide +kernel
theorem dX11_keep_50 : decode cX11_keep 50 = .ok (.imul, 1) := by decide +kernel
theorem dX11_keep_51 : decode cX11_keep 51 = .ok (.iload_n 3, 1) := by decide +kernel
theorem dX11_keep_52 : decode cX11_keep 52 = .ok (.iadd, 1) := by decide +kernel
theorem dX11_keep_53 : decode cX11_keep 53 = .ok (.iload 5, 2) := by decide +kernel
theorem dX11_keep_55 : decode cX11_keep 55 = .ok (.iadd, 1) := by decide +kernel
theorem dX11_keep_56 : decode cX11_keep 56 = .ok (.iconst 1, 1) := by decide +kernel
theorem dX11_keep_57 : decode cX11_keep 57 = .ok (.isub, 1) := by decide +kernel
theorem dX11_keep_58 : decode cX11_keep 58 = .ok (.aload_n 0, 1) := by decide +kernel
theorem dX11_keep_59 : decode cX11_keep 59 = .ok (.getfield 13, 3) := by decide +kernel
theorem dX11_keep_62 : decode cX11_keep 62 = .ok (.iload 5, 2) := by decide +kernel
theorem dX11_keep_64 : decode cX11_keep 64 = .ok (.iaload, 1) := by decide +kernel
theorem dX11_keep_65 : decode cX11_keep 65 = .ok (.iastore, 1) := by decide +kernel
theorem dX11_keep_66 : decode cX11_keep 66 = .ok (.iinc 5 1, 3) := by decide +kernel
theorem dX11_keep_69 : decode cX11_keep 69 = .ok (.goto (-35), 3) := by decide +kernel
theorem dX11_keep_72 : decode cX11_keep 72 = .ok (.aload_n 0, 1) := by decide +kernel
theorem dX11_keep_73 : decode cX11_keep 73 = .ok (.getfield 110, 3) := by decide +kernel
theorem dX11_keep_76 : decode cX11_keep 76 = .ok (.ireturn, 1) := by decide +kernel
theorem dJ6_bitCount_0f7a4_0 : decode cJ6_bitCount_0f7a4 0 = .ok (.iload_n 0, 1) := by decide +kernel
theorem dJ6_bitCount_0f7a4_1 : decode cJ6_bitCount_0f7a4 1 = .ok (.iload_n 0, 1) := by decide +kernel
theorem dJ6_bitCount_0f7a4_2 : decode cJ6_bitCount_0f7a4 2 = .ok (.iconst 1, 1) := by decide +kernel
theorem dJ6_bitCount_0f7a4_3 : decode cJ6_bitCount_0f7a4 3 = .ok (.iushr, 1) := by decide +kernel
theorem dJ6_bitCount_0f7a4_4 : decode cJ6_bitCount_0f7a4 4 = .ok (.ldc_w 265, 3) := by decide +kernel
theorem dJ6_bitCount_0f7a4_7 : decode cJ6_bitCount_0f7a4 7 = .ok (.iand, 1) := by decide +kernel
theorem dJ6_bitCount_0f7a4_8 : decode cJ6_bitCount_0f7a4 8 = .ok (.isub, 1) := by decide +kernel
theorem dJ6_bitCount_0f7a4_9 : decode cJ6_bitCount_0f7a4 9 = .ok (.istore_n 0, 1) := by decide +kernel
theorem dJ6_bitCount_0f7a4_10 : decode cJ6_bitCount_0f7a4 10 = .ok (.iload_n 0, 1) := by decide +kernel
theorem dJ6_bitCount_0f7a4_11 : decode cJ6_bitCount_0f7a4 11 = .ok (.ldc_w 266, 3) := by decide +kernel
theorem dJ6_bitCount_0f7a4_14 : decode cJ6_bitCount_0f7a4 14 = .ok (.iand, 1) := by decide +kernel
theorem dJ6_bitCount_0f7a4_15 : decode cJ6_bitCount_0f7a4 15 = .ok (.iload_n 0, 1) := by decide +kernel
theorem dJ6_bitCount_0f7a4_16 : decode cJ6_bitCount_0f7a4 16 = .ok (.iconst 2, 1) := by decide +kernel
theorem dJ6_bitCount_0f7a4_17 : decode cJ6_bitCount_0f7a4 17 = .ok (.iushr, 1) := by decide +kernel
theorem dJ6_bitCount_0f7a4_18 : decode cJ6_bitCount_0f7a4 18 = .ok (.ldc_w 266, 3) := by decide +kernel
theorem dJ6_bitCount_0f7a4_21 : decode cJ6_bitCount_0f7a4 21 = .ok (.iand, 1) := by decide +kernel
theorem dJ6_bitCount_0f7a4_22 : decode cJ6_bitCount_0f7a4 22 = .ok (.iadd, 1) := by decide +kernel
theorem dJ6_bitCount_0f7a4_23 : decode cJ6_bitCount_0f7a4 23 = .ok (.istore_n 0, 1) := by decide +kernel
theorem dJ6_bitCount_0f7a4_24 : decode cJ6_bitCount_0f7a4 24 = .ok (.iload_n 0, 1) := by decide +kernel
theorem dJ6_bitCount_0f7a4_25 : decode cJ6_bitCount_0f7a4 25 = .ok (.iload_n 0, 1) := by decide +kernel
theorem dJ6_bitCount_0f7a4_26 : decode cJ6_bitCount_0f7a4 26 = .ok (.iconst 4, 1) := by decide +kernel
theorem dJ6_bitCount_0f7a4_27 : decode cJ6_bitCount_0f7a4 27 = .ok (.iushr, 1) := by decide +kernel
theorem dJ6_bitCount_0f7a4_28 : decode cJ6_bitCount_0f7a4 28 = .ok (.iadd, 1) := by decide +kernel
theorem dJ6_bitCount_0f7a4_29 : decode cJ6_bitCount_0f7a4 29 = .ok (.ldc_w 267, 3) := by decide +kernel
theorem dJ6_bitCount_0f7a4_32 : decode cJ6_bitCount_0f7a4 32 = .ok (.iand, 1) := by decide +kernel
theorem dJ6_bitCount_0f7a4_33 : decode cJ6_bitCount_0f7a4 33 = .ok (.istore_n 0, 1) := by decide +kernel
theorem dJ6_bitCount_0f7a4_34 : decode cJ6_bitCount_0f7a4 34 = .ok (.iload_n 0, 1) := by decide +kernel
theorem dJ6_bitCount_0f7a4_35 : decode cJ6_bitCount_0f7a4 35 = .ok (.iload_n 0, 1) := by decide +kernel
theorem dJ6_bitCount_0f7a4_36 : decode cJ6_bitCount_0f7a4 36 = .ok (.bipush 8, 2) := by decide +kernel
theorem dJ6_bitCount_0f7a4_38 : decode cJ6_bitCount_0f7a4 38 = .ok (.iushr, 1) := by decide +kernel
theorem dJ6_bitCount_0f7a4_39 : decode cJ6_bitCount_0f7a4 39 = .ok (.iadd, 1) := by decide +kernel
theorem dJ6_bitCount_0f7a4_40 : decode cJ6_bitCount_0f7a4 40 = .ok (.istore_n 0, 1) := by decide +kernel
theorem dJ6_bitCount_0f7a4_41 : decode cJ6_bitCount_0f7a4 41 = .ok (.iload_n 0, 1) := by decide +kernel
theorem dJ6_bitCount_0f7a4_42 : decode cJ6_bitCount_0f7a4 42 = .ok (.iload_n 0, 1) := by decide +kernel
theorem dJ6_bitCount_0f7a4_43 : decode cJ6_bitCount_0f7a4 43 = .ok (.bipush 16, 2) := by decide +kernel
theorem dJ6_bitCount_0f7a4_45 : decode cJ6_bitCount_0f7a4 45 = .ok (.iushr, 1) := by decide +kernel
theorem dJ6_bitCount_0f7a4_46 : decode cJ6_bitCount_0f7a4 46 = .ok (.iadd, 1) := by decide +kernel
theorem dJ6_bitCount_0f7a4_47 : decode cJ6_bitCount_0f7a4 47 = .ok (.istore_n 0, 1) := by decide +kernel
theorem dJ6_bitCount_0f7a4_48 : decode cJ6_bitCount_0f7a4 48 = .ok (.iload_n 0, 1) := by decide +kernel
theorem dJ6_bitCount_0f7a4_49 : decode cJ6_bitCount_0f7a4 49 = .ok (.bipush 63, 2) := by decide +kernel
theorem dJ6_bitCount_0f7a4_51 : decode cJ6_bitCount_0f7a4 51 = .ok (.iand, 1) := by decide +kernel
theorem dJ6_bitCount_0f7a4_52 : decode cJ6_bitCount_0f7a4 52 = .ok (.ireturn, 1) := by decide +kernel
theorem dJ9_max_7cf53_0 : decode cJ9_max_7cf53 0 = .ok (.iload_n 0, 1) := by decide +kernel
theorem dJ9_max_7cf53_1 : decode cJ9_max_7cf53 1 = .ok (.iload_n 1, 1) := by decide +kernel
theorem dJ9_max_7cf53_2 : decode cJ9_max_7cf53 2 = .ok (.if_icmp .lt 7, 3) := by decide +kernel
theorem dJ9_max_7cf53_5 : decode cJ9_max_7cf53 5 = .ok (.iload_n 0, 1) := by decide +kernel
theorem dJ9_max_7cf53_6 : decode cJ9_max_7cf53 6 = .ok (.goto 4, 3) := by decide +kernel
theorem dJ9_max_7cf53_9 : decode cJ9_max_7cf53 9 = .ok (.iload_n 1, 1) := by decide +kernel
theorem dJ9_max_7cf53_10 : decode cJ9_max_7cf53 10 = .ok (.ireturn, 1) := by decide +kernel
theorem dL_law_0 : decode cL_law 0 = .ok (.new 7, 3) := by decide +kernel
theorem dL_law_3 : decode cL_law 3 = .ok (.dup, 1) := by decide +kernel
theorem dL_law_4 : decode cL_law 4 = .ok (.invokespecial 9, 3) := by decide +kernel
theorem dL_law_7 : decode cL_law 7 = .ok (.astore_n 1, 1) := by decide +kernel
theorem dL_law_8 : decode cL_law 8 = .ok (.new 10, 3) := by decide +kernel
theorem dL_law_11 : decode cL_law 11 = .ok (.dup, 1) := by decide +kernel
theorem dL_law_12 : decode cL_law 12 = .ok (.invokespecial 12, 3) := by decide +kernel
theorem dL_law_15 : decode cL_law 15 = .ok (.astore_n 2, 1) := by decide +kernel
theorem dL_law_16 : decode cL_law 16 = .ok (.iconst 0, 1) := by decide +kernel
theorem dL_law_17 : decode cL_law 17 = .ok (.istore_n 3, 1) := by decide +kernel
theorem dL_law_18 : decode cL_law 18 = .ok (.iload_n 3, 1) := by decide +kernel
theorem dL_law_19 : decode cL_law 19 = .ok (.aload_n 0, 1) := by decide +kernel
theorem dL_law_20 : decode cL_law 20 = .ok (.arraylength, 1) := by decide +kernel
theorem dL_law_21 : decode cL_law 21 = .ok (.iconst 5, 1) := by decide +kernel
theorem dL_law_22 : decode cL_law 22 = .ok (.isub, 1) := by decide +kernel
theorem dL_law_23 : decode cL_law 23 = .ok (.if_icmp .gt 1247, 3) := by decide +kernel
theorem dL_law_26 : decode cL_law 26 = .ok (.aload_n 0, 1) := by decide +kernel
theorem dL_law_27 : decode cL_law 27 = .ok (.iload_n 3, 1) := by decide +kernel
theorem dL_law_28 : decode cL_law 28 = .ok (.iaload, 1) := by decide +kernel
theorem dL_law_29 : decode cL_law 29 = .ok (.bipush 63, 2) := by decide +kernel
theorem dL_law_31 : decode cL_law 31 = .ok (.iand, 1) := by decide +kernel
theorem dL_law_32 : decode cL_law 32 = .ok (.tableswitch 1232 0 37 #[168, 211, 234, 267, 300, 313, 326, 359, 382, 405, 418, 431, 454, 467, 530, 543, 556, 569, 582, 605, 618, 681, 694, 707, 720, 753, 766, 789, 832, 875, 908, 931, 974, 1017, 1060, 1083, 1136, 1189], 168) := by decide +kernel
theorem dL_law_200 : decode cL_law 200 = .ok (.aload_n 1, 1) := by decide +kernel
theorem dL_law_201 : decode cL_law 201 = .ok (.aload_n 0, 1) := by decide +kernel
theorem dL_law_202 : decode cL_law 202 = .ok (.iload_n 3, 1) := by decide +kernel
theorem dL_law_203 : decode cL_law 203 = .ok (.iconst 1, 1) := by decide +kernel
theorem dL_law_204 : decode cL_law 204 = .ok (.iadd, 1) := by decide +kernel
theorem dL_law_205 : decode cL_law 205 = .ok (.iaload, 1) := by decide +kernel
theorem dL_law_206 : decode cL_law 206 = .ok (.aload_n 0, 1) := by decide +kernel
theorem dL_law_207 : decode cL_law 207 = .ok (.iload_n 3, 1) := by decide +kernel
theorem dL_law_208 : decode cL_law 208 = .ok (.iconst 2, 1) := by decide +kernel
theorem dL_law_209 : decode cL_law 209 = .ok (.iadd, 1) := by decide +kernel
theorem dL_law_210 : decode cL_law 210 = .ok (.iaload, 1) := by decide +kernel
theorem dL_law_211 : decode cL_law 211 = .ok (.aload_n 0, 1) := by decide +kernel
theorem dL_law_212 : decode cL_law 212 = .ok (.iload_n 3, 1) := by decide +kernel
theorem dL_law_213 : decode cL_law 213 = .ok (.iconst 3, 1) := by decide +kernel
theorem dL_law_214 : decode cL_law 214 = .ok (.iadd, 1) := by decide +kernel
theorem dL_law_215 : decode cL_law 215 = .ok (.iaload, 1) := by decide +kernel
theorem dL_law_216 : decode cL_law 216 = .ok (.invokevirtual 13, 3) := by decide +kernel
theorem dL_law_219 : decode cL_law 219 = .ok (.pop, 1) := by decide +kernel
theorem dL_law_220 : decode cL_law 220 = .ok (.aload_n 2, 1) := by decide +kernel
theorem dL_law_221 : decode cL_law 221 = .ok (.aload_n 0, 1) := by decide +kernel
theorem dL_law_222 : decode cL_law 222 = .ok (.iload_n 3, 1) := by decide +kernel
theorem dL_law_223 : decode cL_law 223 = .ok (.iconst 1, 1) := by decide +kernel
theorem dL_law_224 : decode cL_law 224 = .ok (.iadd, 1) := by decide +kernel
theorem dL_law_225 : decode cL_law 225 = .ok (.iaload, 1) := by decide +kernel
theorem dL_law_226 : decode cL_law 226 = .ok (.aload_n 0, 1) := by decide +kernel
theorem dL_law_227 : decode cL_law 227 = .ok (.iload_n 3, 1) := by decide +kernel
theorem dL_law_228 : decode cL_law 228 = .ok (.iconst 2, 1) := by decide +kernel
theorem dL_law_229 : decode cL_law 229 = .ok (.iadd, 1) := by decide +kernel
theorem dL_law_230 : decode cL_law 230 = .ok (.iaload, 1) := by decide +kernel
theorem dL_law_231 : decode cL_law 231 = .ok (.aload_n 0, 1) := by decide +kernel
theorem dL_law_232 : decode cL_law 232 = .ok (.iload_n 3, 1) := by decide +kernel
theorem dL_law_233 : decode cL_law 233 = .ok (.iconst 3, 1) := by decide +kernel
theorem dL_law_234 : decode cL_law 234 = .ok (.iadd, 1) := by decide +kernel
theorem dL_law_235 : decode cL_law 235 = .ok (.iaload, 1) := by decide +kernel
theorem dL_law_236 : decode cL_law 236 = .ok (.invokevirtual 17, 3) := by decide +kernel
theorem dL_law_239 : decode cL_law 239 = .ok (.pop, 1) := by decide +kernel
theorem dL_law_240 : decode cL_law 240 = .ok (.goto 1024, 3) := by decide +kernel
theorem dL_law_243 : decode cL_law 243 = .ok (.aload_n 1, 1) := by decide +kernel
theorem dL_law_244 : decode cL_law 244 = .ok (.aload_n 0, 1) := by decide +kernel
theorem dL_law_245 : decode cL_law 245 = .ok (.iload_n 3, 1) := by decide +kernel
theorem dL_law_246 : decode cL_law 246 = .ok (.iconst 1, 1) := by decide +kernel
theorem dL_law_247 : decode cL_law 247 = .ok (.iadd, 1) := by decide +kernel
theorem dL_law_248 : decode cL_law 248 = .ok (.iaload, 1) := by decide +kernel
theorem dL_law_249 : decode cL_law 249 = .ok (.invokevirtual 18, 3) := by decide +kernel
theorem dL_law_252 : decode cL_law 252 = .ok (.pop, 1) := by decide +kernel
theorem dL_law_253 : decode cL_law 253 = .ok (.aload_n 2, 1) := by decide +kernel
theorem dL_law_254 : decode cL_law 254 = .ok (.aload_n 0, 1) := by decide +kernel
theorem dL_law_255 : decode cL_law 255 = .ok (.iload_n 3, 1) := by decide +kernel
theorem dL_law_256 : decode cL_law 256 = .ok (.iconst 1, 1) := by decide +kernel
theorem dL_law_257 : decode cL_law 257 = .ok (.iadd, 1) := by decide +kernel
theorem dL_law_258 : decode cL_law 258 = .ok (.iaload, 1) := by decide +kernel
theorem dL_law_259 : decode cL_law 259 = .ok (.invokevirtual 22, 3) := by decide +kernel
theorem dL_law_262 : decode cL_law 262 = .ok (.pop, 1) := by decide +kernel
theorem dL_law_263 : decode cL_law 263 = .ok (.goto 1001, 3) := by decide +kernel
theorem dL_law_266 : decode cL_law 266 = .ok (.aload_n 1, 1) := by decide +kernel
theorem dL_law_267 : decode cL_law 267 = .ok (.aload_n 0, 1) := by decide +kernel
theorem dL_law_268 : decode cL_law 268 = .ok (.iload_n 3, 1) := by decide +kernel
theorem dL_law_269 : decode cL_law 269 = .ok (.iconst 1, 1) := by decide +kernel
theorem dL_law_270 : decode cL_law 270 = .ok (.iadd, 1) := by decide +kernel
theorem dL_law_271 : decode cL_law 271 = .ok (.iaload, 1) := by decide +kernel
theorem dL_law_272 : decode cL_law 272 = .ok (.aload_n 0, 1) := by decide +kernel
theorem dL_law_273 : decode cL_law 273 = .ok (.iload_n 3, 1) := by decide +kernel
theorem dL_law_274 : decode cL_law 274 = .ok (.iconst 2, 1) := by decide +kernel
theorem dL_law_275 : decode cL_law 275 = .ok (.iadd, 1) := by decide +kernel
theorem dL_law_276 : decode cL_law 276 = .ok (.iaload, 1) := by decide +kernel
theorem dL_law_277 : decode cL_law 277 = .ok (.invokevirtual 23, 3) := by decide +kernel
theorem dL_law_280 : decode cL_law 280 = .ok (.pop, 1) := by decide +kernel
theorem dL_law_281 : decode cL_law 281 = .ok (.aload_n 2, 1) := by decide +kernel
theorem dL_law_282 : decode cL_law 282 = .ok (.aload_n 0, 1) := by decide +kernel
theorem dL_law_283 : decode cL_law 283 = .ok (.iload_n 3, 1) := by decide +kernel
theorem dL_law_284 : decode cL_law 284 = .ok (.iconst 1, 1) := by decide +kernel
theorem dL_law_285 : decode cL_law 285 = .ok (.iadd, 1) := by decide +kernel
theorem dL_law_286 : decode cL_law 286 = .ok (.iaload, 1) := by decide +kernel
theorem dL_law_287 : decode cL_law 287 = .ok (.aload_n 0, 1) := by decide +kernel
theorem dL_law_288 : decode cL_law 288 = .ok (.iload_n 3, 1) := by decide +kernel
theorem dL_law_289 : decode cL_law 289 = .ok (.iconst 2, 1) := by decide +kernel
theorem dL_law_290 : decode cL_law 290 = .ok (.iadd, 1) := by decide +kernel
theorem dL_law_291 : decode cL_law 291 = .ok (.iaload, 1) := by decide +kernel
theorem dL_law_292 : decode cL_law 292 = .ok (.invokevirtual 27, 3) := by decide +kernel
theorem dL_law_295 : decode cL_law 295 = .ok (.pop, 1) := by decide +kernel
theorem dL_law_296 : decode cL_law 296 = .ok (.goto 968, 3) := by decide +kernel
theorem dL_law_299 : decode cL_law 299 = .ok (.aload_n 1, 1) := by decide +kernel
theorem dL_law_300 : decode cL_law 300 = .ok (.aload_n 0, 1) := by decide +kernel
theorem dL_law_301 : decode cL_law 301 = .ok (.iload_n 3, 1) := by decide +kernel
theorem dL_law_302 : decode cL_law 302 = .ok (.iconst 1, 1) := by decide +kernel
theorem dL_law_303 : decode cL_law 303 = .ok (.iadd, 1) := by decide +kernel
theorem dL_law_304 : decode cL_law 304 = .ok (.iaload, 1) := by decide +kernel
theorem dL_law_305 : decode cL_law 305 = .ok (.aload_n 0, 1) := by decide +kernel
theorem dL_law_306 : decode cL_law 306 = .ok (.iload_n 3, 1) := by decide +kernel
theorem dL_law_307 : decode cL_law 307 = .ok (.iconst 2, 1) := by decide +kernel
theorem dL_law_308 : decode cL_law 308 = .ok (.iadd, 1) := by decide +kernel
theorem dL_law_309 : decode cL_law 309 = .ok (.iaload, 1) := by decide +kernel
theorem dL_law_310 : decode cL_law 310 = .ok (.invokevirtual 28, 3) := by decide +kernel
theorem dL_law_313 : decode cL_law 313 = .ok (.pop, 1) := by decide +kernel
theorem dL_law_314 : decode cL_law 314 = .ok (.aload_n 2, 1) := by decide +kernel
theorem dL_law_315 : decode cL_law 315 = .ok (.aload_n 0, 1) := by decide +kernel
theorem dL_law_316 : decode cL_law 316 = .ok (.iload_n 3, 1) := by decide +kernel
theorem dL_law_317 : decode cL_law 317 = .ok (.iconst 1, 1) := by decide +kernel
theorem dL_law_318 : decode cL_law 318 = .ok (.iadd, 1) := by decide +kernel
theorem dL_law_319 : decode cL_law 319 = .ok (.iaload, 1) := by decide +kernel
theorem dL_law_320 : decode cL_law 320 = .ok (.aload_n 0, 1) := by decide +kernel
theorem dL_law_321 : decode cL_law 321 = .ok (.iload_n 3, 1) := by decide +kernel
theorem dL_law_322 : decode cL_law 322 = .ok (.iconst 2, 1) := by decide +kernel
theorem dL_law_323 : decode cL_law 323 = .ok (.iadd, 1) := by decide +kernel
theorem dL_law_324 : decode cL_law 324 = .ok (.iaload, 1) := by decide +kernel
theorem dL_law_325 : decode cL_law 325 = .ok (.invokevirtual 31, 3) := by decide +kernel
theorem dL_law_328 : decode cL_law 328 = .ok (.pop, 1) := by decide +kernel
theorem dL_law_329 : decode cL_law 329 = .ok (.goto 935, 3) := by decide +kernel
theorem dL_law_332 : decode cL_law 332 = .ok (.aload_n 1, 1) := by decide +kernel
theorem dL_law_333 : decode cL_law 333 = .ok (.invokevirtual 32, 3) := by decide +kernel
theorem dL_law_336 : decode cL_law 336 = .ok (.pop, 1) := by decide +kernel
theorem dL_law_337 : decode cL_law 337 = .ok (.aload_n 2, 1) := by decide +kernel
theorem dL_law_338 : decode cL_law 338 = .ok (.invokevirtual 36, 3) := by decide +kernel
theorem dL_law_341 : decode cL_law 341 = .ok (.pop, 1) := by decide +kernel
theorem dL_law_342 : decode cL_law 342 = .ok (.goto 922, 3) := by decide +kernel
theorem dL_law_345 : decode cL_law 345 = .ok (.aload_n 1, 1) := by decide +kernel
theorem dL_law_346 : decode cL_law 346 = .ok (.invokevirtual 37, 3) := by decide +kernel
theorem dL_law_349 : decode cL_law 349 = .ok (.pop, 1) := by decide +kernel
theorem dL_law_350 : decode cL_law 350 = .ok (.aload_n 2, 1) := by decide +kernel
theorem dL_law_351 : decode cL_law 351 = .ok (.invokevirtual 40, 3) := by decide +kernel
theorem dL_law_354 : decode cL_law 354 = .ok (.pop, 1) := by decide +kernel
theorem dL_law_355 : decode cL_law 355 = .ok (.goto 909, 3) := by decide +kernel
theorem dL_law_358 : decode cL_law 358 = .ok (.aload_n 1, 1) := by decide +kernel
theorem dL_law_359 : decode cL_law 359 = .ok (.aload_n 0, 1) := by decide +kernel
theorem dL_law_360 : decode cL_law 360 = .ok (.iload_n 3, 1) := by decide +kernel
theorem dL_law_361 : decode cL_law 361 = .ok (.iconst 1, 1) := by decide +kernel
theorem dL_law_362 : decode cL_law 362 = .ok (.iadd, 1) := by decide +kernel
theorem dL_law_363 : decode cL_law 363 = .ok (.iaload, 1) := by decide +kernel
theorem dL_law_364 : decode cL_law 364 = .ok (.aload_n 0, 1) := by decide +kernel
theorem dL_law_365 : decode cL_law 365 = .ok (.iload_n 3, 1) := by decide +kernel
theorem dL_law_366 : decode cL_law 366 = .ok (.iconst 2, 1) := by decide +kernel
theorem dL_law_367 : decode cL_law 367 = .ok (.iadd, 1) := by decide +kernel
theorem dL_law_368 : decode cL_law 368 = .ok (.iaload, 1) := by decide +kernel
theorem dL_law_369 : decode cL_law 369 = .ok (.invokevirtual 41, 3) := by decide +kernel
theorem dL_law_372 : decode cL_law 372 = .ok (.pop, 1) := by decide +kernel
theorem dL_law_373 : decode cL_law 373 = .ok (.aload_n 2, 1) := by decide +kernel
theorem dL_law_374 : decode cL_law 374 = .ok (.aload_n 0, 1) := by decide +kernel
theorem dL_law_375 : decode cL_law 375 = .ok (.iload_n 3, 1) := by decide +kernel
theorem dL_law_376 : decode cL_law 376 = .ok (.iconst 1, 1) := by decide +kernel
theorem dL_law_377 : decode cL_law 377 = .ok (.iadd, 1) := by decide +kernel
theorem dL_law_378 : decode cL_law 378 = .ok (.iaload, 1) := by decide +kernel
theorem dL_law_379 : decode cL_law 379 = .ok (.aload_n 0, 1) := by decide +kernel
theorem dL_law_380 : decode cL_law 380 = .ok (.iload_n 3, 1) := by decide +kernel
theorem dL_law_381 : decode cL_law 381 = .ok (.iconst 2, 1) := by decide +kernel
theorem dL_law_382 : decode cL_law 382 = .ok (.iadd, 1) := by decide +kernel
theorem dL_law_383 : decode cL_law 383 = .ok (.iaload, 1) := by decide +kernel
theorem dL_law_384 : decode cL_law 384 = .ok (.invokevirtual 44, 3) := by decide +kernel
theorem dL_law_387 : decode cL_law 387 = .ok (.pop, 1) := by decide +kernel
theorem dL_law_388 : decode cL_law 388 = .ok (.goto 876, 3) := by decide +kernel
theorem dL_law_391 : decode cL_law 391 = .ok (.aload_n 1, 1) := by decide +kernel
theorem dL_law_392 : decode cL_law 392 = .ok (.aload_n 0, 1) := by decide +kernel
theorem dL_law_393 : decode cL_law 393 = .ok (.iload_n 3, 1) := by decide +kernel
theorem dL_law_394 : decode cL_law 394 = .ok (.iconst 1, 1) := by decide +kernel
theorem dL_law_395 : decode cL_law 395 = .ok (.iadd, 1) := by decide +kernel
theorem dL_law_396 : decode cL_law 396 = .ok (.iaload, 1) := by decide +kernel
theorem dL_law_397 : decode cL_law 397 = .ok (.invokevirtual 45, 3) := by decide +kernel
theorem dL_law_400 : decode cL_law 400 = .ok (.pop, 1) := by decide +kernel
theorem dL_law_401 : decode cL_law 401 = .ok (.aload_n 2, 1) := by decide +kernel
theorem dL_law_402 : decode cL_law 402 = .ok (.aload_n 0, 1) := by decide +kernel
theorem dL_law_403 : decode cL_law 403 = .ok (.iload_n 3, 1) := by decide +kernel
theorem dL_law_404 : decode cL_law 404 = .ok (.iconst 1, 1) := by decide +kernel
theorem dL_law_405 : decode cL_law 405 = .ok (.iadd, 1) := by decide +kernel
theorem dL_law_406 : decode cL_law 406 = .ok (.iaload, 1) := by decide +kernel
theorem dL_law_407 : decode cL_law 407 = .ok (.invokevirtual 48, 3) := by decide +kernel
theorem dL_law_410 : decode cL_law 410 = .ok (.pop, 1) := by decide +kernel
theorem dL_law_411 : decode cL_law 411 = .ok (.goto 853, 3) := by decide +kernel
theorem dL_law_414 : decode cL_law 414 = .ok (.aload_n 1, 1) := by decide +kernel
theorem dL_law_415 : decode cL_law 415 = .ok (.aload_n 0, 1) := by decide +kernel
theorem dL_law_416 : decode cL_law 416 = .ok (.iload_n 3, 1) := by decide +kernel
theorem dL_law_417 : decode cL_law 417 = .ok (.iconst 1, 1) := by decide +kernel
theorem dL_law_418 : decode cL_law 418 = .ok (.iadd, 1) := by decide +kernel
theorem dL_law_419 : decode cL_law 419 = .ok (.iaload, 1) := by decide +kernel
theorem dL_law_420 : decode cL_law 420 = .ok (.invokevirtual 49, 3) := by decide +kernel
theorem dL_law_423 : decode cL_law 423 = .ok (.pop, 1) := by decide +kernel
theorem dL_law_424 : decode cL_law 424 = .ok (.aload_n 2, 1) := by decide +kernel
theorem dL_law_425 : decode cL_law 425 = .ok (.aload_n 0, 1) := by decide +kernel
theorem dL_law_426 : decode cL_law 426 = .ok (.iload_n 3, 1) := by decide +kernel
theorem dL_law_427 : decode cL_law 427 = .ok (.iconst 1, 1) := by decide +kernel
theorem dL_law_428 : decode cL_law 428 = .ok (.iadd, 1) := by decide +kernel
theorem dL_law_429 : decode cL_law 429 = .ok (.iaload, 1) := by decide +kernel
theorem dL_law_430 : decode cL_law 430 = .ok (.invokevirtual 52, 3) := by decide +kernel
theorem dL_law_433 : decode cL_law 433 = .ok (.pop, 1) := by decide +kernel
theorem dL_law_434 : decode cL_law 434 = .ok (.goto 830, 3) := by decide +kernel
theorem dL_law_437 : decode cL_law 437 = .ok (.aload_n 1, 1) := by decide +kernel
theorem dL_law_438 : decode cL_law 438 = .ok (.invokevirtual 53, 3) := by decide +kernel
theorem dL_law_441 : decode cL_law 441 = .ok (.pop, 1) := by decide +kernel
theorem dL_law_442 : decode cL_law 442 = .ok (.aload_n 2, 1) := by decide +kernel
theorem dL_law_443 : decode cL_law 443 = .ok (.invokevirtual 56, 3) := by decide +kernel
theorem dL_law_446 : decode cL_law 446 = .ok (.pop, 1) := by decide +kernel
theorem dL_law_447 : decode cL_law 447 = .ok (.goto 817, 3) := by decide +kernel
theorem dL_law_450 : decode cL_law 450 = .ok (.aload_n 1, 1) := by decide +kernel
theorem dL_law_451 : decode cL_law 451 = .ok (.invokevirtual 57, 3) := by decide +kernel
theorem dL_law_454 : decode cL_law 454 = .ok (.pop, 1) := by decide +kernel
theorem dL_law_455 : decode cL_law 455 = .ok (.aload_n 2, 1) := by decide +kernel
theorem dL_law_456 : decode cL_law 456 = .ok (.invokevirtual 60, 3) := by decide +kernel
theorem dL_law_459 : decode cL_law 459 = .ok (.pop, 1) := by decide +kernel
theorem dL_law_460 : decode cL_law 460 = .ok (.goto 804, 3) := by decide +kernel
theorem dL_law_463 : decode cL_law 463 = .ok (.aload_n 1, 1) := by decide +kernel
theorem dL_law_464 : decode cL_law 464 = .ok (.aload_n 0, 1) := by decide +kernel
theorem dL_law_465 : decode cL_law 465 = .ok (.iload_n 3, 1) := by decide +kernel
theorem dL_law_466 : decode cL_law 466 = .ok (.iconst 1, 1) := by decide +kernel
theorem dL_law_467 : decode cL_law 467 = .ok (.iadd, 1) := by decide +kernel
theorem dL_law_468 : decode cL_law 468 = .ok (.iaload, 1) := by decide +kernel
theorem dL_law_469 : decode cL_law 469 = .ok (.invokevirtual 61, 3) := by decide +kernel
theorem dL_law_472 : decode cL_law 472 = .ok (.pop2, 1) := by decide +kernel
theorem dL_law_473 : decode cL_law 473 = .ok (.aload_n 2, 1) := by decide +kernel
theorem dL_law_474 : decode cL_law 474 = .ok (.aload_n 0, 1) := by decide +kernel
theorem dL_law_475 : decode cL_law 475 = .ok (.iload_n 3, 1) := by decide +kernel
theorem dL_law_476 : decode cL_law 476 = .ok (.iconst 1, 1) := by decide +kernel
theorem dL_law_477 : decode cL_law 477 = .ok (.iadd, 1) := by decide +kernel
theorem dL_law_478 : decode cL_law 478 = .ok (.iaload, 1) := by decide +kernel
theorem dL_law_479 : decode cL_law 479 = .ok (.invokevirtual 65, 3) := by decide +kernel
theorem dL_law_482 : decode cL_law 482 = .ok (.pop2, 1) := by decide +kernel
theorem dL_law_483 : decode cL_law 483 = .ok (.goto 781, 3) := by decide +kernel
theorem dL_law_486 : decode cL_law 486 = .ok (.aload_n 1, 1) := by decide +kernel
theorem dL_law_487 : decode cL_law 487 = .ok (.invokevirtual 66, 3) := by decide +kernel
theorem dL_law_490 : decode cL_law 490 = .ok (.pop2, 1) := by decide +kernel
theorem dL_law_491 : decode cL_law 491 = .ok (.aload_n 2, 1) := by decide +kernel
theorem dL_law_492 : decode cL_law 492 = .ok (.invokevirtual 70, 3) := by decide +kernel
theorem dL_law_495 : decode cL_law 495 = .ok (.pop2, 1) := by decide +kernel
theorem dL_law_496 : decode cL_law 496 = .ok (.goto 768, 3) := by decide +kernel
theorem dL_law_499 : decode cL_law 499 = .ok (.aload_n 1, 1) := by decide +kernel
theorem dL_law_500 : decode cL_law 500 = .ok (.aload_n 0, 1) := by decide +kernel
theorem dL_law_501 : decode cL_law 501 = .ok (.iload_n 3, 1) := by decide +kernel
theorem dL_law_502 : decode cL_law 502 = .ok (.iconst 1, 1) := by decide +kernel
theorem dL_law_503 : decode cL_law 503 = .ok (.iadd, 1) := by decide +kernel
theorem dL_law_504 : decode cL_law 504 = .ok (.iaload, 1) := by decide +kernel
theorem dL_law_505 : decode cL_law 505 = .ok (.aload_n 0, 1) := by decide +kernel
theorem dL_law_506 : decode cL_law 506 = .ok (.iload_n 3, 1) := by decide +kernel
theorem dL_law_507 : decode cL_law 507 = .ok (.iconst 2, 1) := by decide +kernel
theorem dL_law_508 : decode cL_law 508 = .ok (.iadd, 1) := by decide +kernel
theorem dL_law_509 : decode cL_law 509 = .ok (.iaload, 1) := by decide +kernel
theorem dL_law_510 : decode cL_law 510 = .ok (.i2l, 1) := by decide +kernel
theorem dL_law_511 : decode cL_law 511 = .ok (.bipush 32, 2) := by decide +kernel
theorem dL_law_513 : decode cL_law 513 = .ok (.lshl, 1) := by decide +kernel
theorem dL_law_514 : decode cL_law 514 = .ok (.aload_n 0, 1) := by decide +kernel
theorem dL_law_515 : decode cL_law 515 = .ok (.iload_n 3, 1) := by decide +kernel
theorem dL_law_516 : decode cL_law 516 = .ok (.iconst 3, 1) := by decide +kernel
theorem dL_law_517 : decode cL_law 517 = .ok (.iadd, 1) := by decide +kernel
theorem dL_law_518 : decode cL_law 518 = .ok (.iaload, 1) := by decide +kernel
theorem dL_law_519 : decode cL_law 519 = .ok (.i2l, 1) := by decide +kernel
theorem dL_law_520 : decode cL_law 520 = .ok (.ldc2_w 71, 3) := by decide +kernel
theorem dL_law_523 : decode cL_law 523 = .ok (.land, 1) := by decide +kernel
theorem dL_law_524 : decode cL_law 524 = .ok (.lor, 1) := by decide +kernel
theorem dL_law_525 : decode cL_law 525 = .ok (.invokevirtual 73, 3) := by decide +kernel
theorem dL_law_528 : decode cL_law 528 = .ok (.pop, 1) := by decide +kernel
theorem dL_law_529 : decode cL_law 529 = .ok (.aload_n 2, 1) := by decide +kernel
theorem dL_law_530 : decode cL_law 530 = .ok (.aload_n 0, 1) := by decide +kernel
theorem dL_law_531 : decode cL_law 531 = .ok (.iload_n 3, 1) := by decide +kernel
theorem dL_law_532 : decode cL_law 532 = .ok (.iconst 1, 1) := by decide +kernel
theorem dL_law_533 : decode cL_law 533 = .ok (.iadd, 1) := by decide +kernel
theorem dL_law_534 : decode cL_law 534 = .ok (.iaload, 1) := by decide +kernel
theorem dL_law_535 : decode cL_law 535 = .ok (.aload_n 0, 1) := by decide +kernel
theorem dL_law_536 : decode cL_law 536 = .ok (.iload_n 3, 1) := by decide +kernel
theorem dL_law_537 : decode cL_law 537 = .ok (.iconst 2, 1) := by decide +kernel
theorem dL_law_538 : decode cL_law 538 = .ok (.iadd, 1) := by decide +kernel
theorem dL_law_539 : decode cL_law 539 = .ok (.iaload, 1) := by decide +kernel
theorem dL_law_540 : decode cL_law 540 = .ok (.i2l, 1) := by decide +kernel
theorem dL_law_541 : decode cL_law 541 = .ok (.bipush 32, 2) := by decide +kernel
theorem dL_law_543 : decode cL_law 543 = .ok (.lshl, 1) := by decide +kernel
theorem dL_law_544 : decode cL_law 544 = .ok (.aload_n 0, 1) := by decide +kernel
theorem dL_law_545 : decode cL_law 545 = .ok (.iload_n 3, 1) := by decide +kernel
theorem dL_law_546 : decode cL_law 546 = .ok (.iconst 3, 1) := by decide +kernel
theorem dL_law_547 : decode cL_law 547 = .ok (.iadd, 1) := by decide +kernel
theorem dL_law_548 : decode cL_law 548 = .ok (.iaload, 1) := by decide +kernel
theorem dL_law_549 : decode cL_law 549 = .ok (.i2l, 1) := by decide +kernel
theorem dL_law_550 : decode cL_law 550 = .ok (.ldc2_w 71, 3) := by decide +kernel
theorem dL_law_553 : decode cL_law 553 = .ok (.land, 1) := by decide +kernel
theorem dL_law_554 : decode cL_law 554 = .ok (.lor, 1) := by decide +kernel
theorem dL_law_555 : decode cL_law 555 = .ok (.invokevirtual 77, 3) := by decide +kernel
theorem dL_law_558 : decode cL_law 558 = .ok (.pop, 1) := by decide +kernel
theorem dL_law_559 : decode cL_law 559 = .ok (.goto 705, 3) := by decide +kernel
theorem dL_law_562 : decode cL_law 562 = .ok (.aload_n 1, 1) := by decide +kernel
theorem dL_law_563 : decode cL_law 563 = .ok (.invokevirtual 78, 3) := by decide +kernel
theorem dL_law_566 : decode cL_law 566 = .ok (.pop, 1) := by decide +kernel
theorem dL_law_567 : decode cL_law 567 = .ok (.aload_n 2, 1) := by decide +kernel
theorem dL_law_568 : decode cL_law 568 = .ok (.invokevirtual 81, 3) := by decide +kernel
theorem dL_law_571 : decode cL_law 571 = .ok (.pop, 1) := by decide +kernel
theorem dL_law_572 : decode cL_law 572 = .ok (.goto 692, 3) := by decide +kernel
theorem dL_law_575 : decode cL_law 575 = .ok (.aload_n 1, 1) := by decide +kernel
theorem dL_law_576 : decode cL_law 576 = .ok (.invokevirtual 82, 3) := by decide +kernel
theorem dL_law_579 : decode cL_law 579 = .ok (.pop2, 1) := by decide +kernel
theorem dL_law_580 : decode cL_law 580 = .ok (.aload_n 2, 1) := by decide +kernel
theorem dL_law_581 : decode cL_law 581 = .ok (.invokevirtual 85, 3) := by decide +kernel
theorem dL_law_584 : decode cL_law 584 = .ok (.pop2, 1) := by decide +kernel
theorem dL_law_585 : decode cL_law 585 = .ok (.goto 679, 3) := by decide +kernel
theorem dL_law_588 : decode cL_law 588 = .ok (.aload_n 1, 1) := by decide +kernel
theorem dL_law_589 : decode cL_law 589 = .ok (.invokevirtual 86, 3) := by decide +kernel
theorem dL_law_592 : decode cL_law 592 = .ok (.pop2, 1) := by decide +kernel
theorem dL_law_593 : decode cL_law 593 = .ok (.aload_n 2, 1) := by decide +kernel
theorem dL_law_594 : decode cL_law 594 = .ok (.invokevirtual 89, 3) := by decide +kernel
theorem dL_law_597 : decode cL_law 597 = .ok (.pop2, 1) := by decide +kernel
theorem dL_law_598 : decode cL_law 598 = .ok (.goto 666, 3) := by decide +kernel
theorem dL_law_601 : decode cL_law 601 = .ok (.aload_n 1, 1) := by decide +kernel
theorem dL_law_602 : decode cL_law 602 = .ok (.invokevirtual 90, 3) := by decide +kernel
theorem dL_law_605 : decode cL_law 605 = .ok (.pop, 1) := by decide +kernel
theorem dL_law_606 : decode cL_law 606 = .ok (.aload_n 2, 1) := by decide +kernel
theorem dL_law_607 : decode cL_law 607 = .ok (.invokevirtual 93, 3) := by decide +kernel
theorem dL_law_610 : decode cL_law 610 = .ok (.pop, 1) := by decide +kernel
theorem dL_law_611 : decode cL_law 611 = .ok (.goto 653, 3) := by decide +kernel
theorem dL_law_614 : decode cL_law 614 = .ok (.aload_n 1, 1) := by decide +kernel
theorem dL_law_615 : decode cL_law 615 = .ok (.aload_n 0, 1) := by decide +kernel
theorem dL_law_616 : decode cL_law 616 = .ok (.iload_n 3, 1) := by decide +kernel
theorem dL_law_617 : decode cL_law 617 = .ok (.iconst 1, 1) := by decide +kernel
theorem dL_law_618 : decode cL_law 618 = .ok (.iadd, 1) := by decide +kernel
theorem dL_law_619 : decode cL_law 619 = .ok (.iaload, 1) := by decide +kernel
theorem dL_law_620 : decode cL_law 620 = .ok (.invokevirtual 94, 3) := by decide +kernel
theorem dL_law_623 : decode cL_law 623 = .ok (.pop2, 1) := by decide +kernel
theorem dL_law_624 : decode cL_law 624 = .ok (.aload_n 2, 1) := by decide +kernel
theorem dL_law_625 : decode cL_law 625 = .ok (.aload_n 0, 1) := by decide +kernel
theorem dL_law_626 : decode cL_law 626 = .ok (.iload_n 3, 1) := by decide +kernel
theorem dL_law_627 : decode cL_law 627 = .ok (.iconst 1, 1) := by decide +kernel
theorem dL_law_628 : decode cL_law 628 = .ok (.iadd, 1) := by decide +kernel
theorem dL_law_629 : decode cL_law 629 = .ok (.iaload, 1) := by decide +kernel
theorem dL_law_630 : decode cL_law 630 = .ok (.invokevirtual 97, 3) := by decide +kernel
theorem dL_law_633 : decode cL_law 633 = .ok (.pop2, 1) := by decide +kernel
theorem dL_law_634 : decode cL_law 634 = .ok (.goto 630, 3) := by decide +kernel
theorem dL_law_637 : decode cL_law 637 = .ok (.aload_n 1, 1) := by decide +kernel
theorem dL_law_638 : decode cL_law 638 = .ok (.invokevirtual 98, 3) := by decide +kernel
theorem dL_law_641 : decode cL_law 641 = .ok (.pop2, 1) := by decide +kernel
theorem dL_law_642 : decode cL_law 642 = .ok (.aload_n 2, 1) := by decide +kernel
theorem dL_law_643 : decode cL_law 643 = .ok (.invokevirtual 101, 3) := by decide +kernel
theorem dL_law_646 : decode cL_law 646 = .ok (.pop2, 1) := by decide +kernel
theorem dL_law_647 : decode cL_law 647 = .ok (.goto 617, 3) := by decide +kernel
theorem dL_law_650 : decode cL_law 650 = .ok (.aload_n 1, 1) := by decide +kernel
theorem dL_law_651 : decode cL_law 651 = .ok (.aload_n 0, 1) := by decide +kernel
theorem dL_law_652 : decode cL_law 652 = .ok (.iload_n 3, 1) := by decide +kernel
theorem dL_law_653 : decode cL_law 653 = .ok (.iconst 1, 1) := by decide +kernel
theorem dL_law_654 : decode cL_law 654 = .ok (.iadd, 1) := by decide +kernel
theorem dL_law_655 : decode cL_law 655 = .ok (.iaload, 1) := by decide +kernel
theorem dL_law_656 : decode cL_law 656 = .ok (.aload_n 0, 1) := by decide +kernel
theorem dL_law_657 : decode cL_law 657 = .ok (.iload_n 3, 1) := by decide +kernel
theorem dL_law_658 : decode cL_law 658 = .ok (.iconst 2, 1) := by decide +kernel
theorem dL_law_659 : decode cL_law 659 = .ok (.iadd, 1) := by decide +kernel
theorem dL_law_660 : decode cL_law 660 = .ok (.iaload, 1) := by decide +kernel
theorem dL_law_661 : decode cL_law 661 = .ok (.i2l, 1) := by decide +kernel
theorem dL_law_662 : decode cL_law 662 = .ok (.bipush 32, 2) := by decide +kernel
theorem dL_law_664 : decode cL_law 664 = .ok (.lshl, 1) := by decide +kernel
theorem dL_law_665 : decode cL_law 665 = .ok (.aload_n 0, 1) := by decide +kernel
theorem dL_law_666 : decode cL_law 666 = .ok (.iload_n 3, 1) := by decide +kernel
theorem dL_law_667 : decode cL_law 667 = .ok (.iconst 3, 1) := by decide +kernel
theorem dL_law_668 : decode cL_law 668 = .ok (.iadd, 1) := by decide +kernel
theorem dL_law_669 : decode cL_law 669 = .ok (.iaload, 1) := by decide +kernel
theorem dL_law_670 : decode cL_law 670 = .ok (.i2l, 1) := by decide +kernel
theorem dL_law_671 : decode cL_law 671 = .ok (.ldc2_w 71, 3) := by decide +kernel
theorem dL_law_674 : decode cL_law 674 = .ok (.land, 1) := by decide +kernel
theorem dL_law_675 : decode cL_law 675 = .ok (.lor, 1) := by decide +kernel
theorem dL_law_676 : decode cL_law 676 = .ok (.invokevirtual 102, 3) := by decide +kernel
theorem dL_law_679 : decode cL_law 679 = .ok (.pop, 1) := by decide +kernel
theorem dL_law_680 : decode cL_law 680 = .ok (.aload_n 2, 1) := by decide +kernel
theorem dL_law_681 : decode cL_law 681 = .ok (.aload_n 0, 1) := by decide +kernel
theorem dL_law_682 : decode cL_law 682 = .ok (.iload_n 3, 1) := by decide +kernel
theorem dL_law_683 : decode cL_law 683 = .ok (.iconst 1, 1) := by decide +kernel
theorem dL_law_684 : decode cL_law 684 = .ok (.iadd, 1) := by decide +kernel
theorem dL_law_685 : decode cL_law 685 = .ok (.iaload, 1) := by decide +kernel
theorem dL_law_686 : decode cL_law 686 = .ok (.aload_n 0, 1) := by decide +kernel
theorem dL_law_687 : decode cL_law 687 = .ok (.iload_n 3, 1) := by decide +kernel
theorem dL_law_688 : decode cL_law 688 = .ok (.iconst 2, 1) := by decide +kernel
theorem dL_law_689 : decode cL_law 689 = .ok (.iadd, 1) := by decide +kernel
theorem dL_law_690 : decode cL_law 690 = .ok (.iaload, 1) := by decide +kernel
theorem dL_law_691 : decode cL_law 691 = .ok (.i2l, 1) := by decide +kernel
theorem dL_law_692 : decode cL_law 692 = .ok (.bipush 32, 2) := by decide +kernel
theorem dL_law_694 : decode cL_law 694 = .ok (.lshl, 1) := by decide +kernel
theorem dL_law_695 : decode cL_law 695 = .ok (.aload_n 0, 1) := by decide +kernel
theorem dL_law_696 : decode cL_law 696 = .ok (.iload_n 3, 1) := by decide +kernel
theorem dL_law_697 : decode cL_law 697 = .ok (.iconst 3, 1) := by decide +kernel
theorem dL_law_698 : decode cL_law 698 = .ok (.iadd, 1) := by decide +kernel
theorem dL_law_699 : decode cL_law 699 = .ok (.iaload, 1) := by decide +kernel
theorem dL_law_700 : decode cL_law 700 = .ok (.i2l, 1) := by decide +kernel
theorem dL_law_701 : decode cL_law 701 = .ok (.ldc2_w 71, 3) := by decide +kernel
theorem dL_law_704 : decode cL_law 704 = .ok (.land, 1) := by decide +kernel
theorem dL_law_705 : decode cL_law 705 = .ok (.lor, 1) := by decide +kernel
theorem dL_law_706 : decode cL_law 706 = .ok (.invokevirtual 105, 3) := by decide +kernel
theorem dL_law_709 : decode cL_law 709 = .ok (.pop, 1) := by decide +kernel
theorem dL_law_710 : decode cL_law 710 = .ok (.goto 554, 3) := by decide +kernel
theorem dL_law_713 : decode cL_law 713 = .ok (.aload_n 1, 1) := by decide +kernel
theorem dL_law_714 : decode cL_law 714 = .ok (.invokevirtual 106, 3) := by decide +kernel
theorem dL_law_717 : decode cL_law 717 = .ok (.pop, 1) := by decide +kernel
theorem dL_law_718 : decode cL_law 718 = .ok (.aload_n 2, 1) := by decide +kernel
theorem dL_law_719 : decode cL_law 719 = .ok (.invokevirtual 109, 3) := by decide +kernel
theorem dL_law_722 : decode cL_law 722 = .ok (.pop, 1) := by decide +kernel
theorem dL_law_723 : decode cL_law 723 = .ok (.goto 541, 3) := by decide +kernel
theorem dL_law_726 : decode cL_law 726 = .ok (.aload_n 1, 1) := by decide +kernel
theorem dL_law_727 : decode cL_law 727 = .ok (.invokevirtual 110, 3) := by decide +kernel
theorem dL_law_730 : decode cL_law 730 = .ok (.pop2, 1) := by decide +kernel
theorem dL_law_731 : decode cL_law 731 = .ok (.aload_n 2, 1) := by decide +kernel
theorem dL_law_732 : decode cL_law 732 = .ok (.invokevirtual 113, 3) := by decide +kernel
theorem dL_law_735 : decode cL_law 735 = .ok (.pop2, 1) := by decide +kernel
theorem dL_law_736 : decode cL_law 736 = .ok (.goto 528, 3) := by decide +kernel
theorem dL_law_739 : decode cL_law 739 = .ok (.aload_n 1, 1) := by decide +kernel
theorem dL_law_740 : decode cL_law 740 = .ok (.invokevirtual 114, 3) := by decide +kernel
theorem dL_law_743 : decode cL_law 743 = .ok (.pop, 1) := by decide +kernel
theorem dL_law_744 : decode cL_law 744 = .ok (.aload_n 2, 1) := by decide +kernel
theorem dL_law_745 : decode cL_law 745 = .ok (.invokevirtual 117, 3) := by decide +kernel
theorem dL_law_748 : decode cL_law 748 = .ok (.pop, 1) := by decide +kernel
theorem dL_law_749 : decode cL_law 749 = .ok (.goto 515, 3) := by decide +kernel
theorem dL_law_752 : decode cL_law 752 = .ok (.aload_n 1, 1) := by decide +kernel
theorem dL_law_753 : decode cL_law 753 = .ok (.aload_n 0, 1) := by decide +kernel
theorem dL_law_754 : decode cL_law 754 = .ok (.iload_n 3, 1) := by decide +kernel
theorem dL_law_755 : decode cL_law 755 = .ok (.iconst 1, 1) := by decide +kernel
theorem dL_law_756 : decode cL_law 756 = .ok (.iadd, 1) := by decide +kernel
theorem dL_law_757 : decode cL_law 757 = .ok (.iaload, 1) := by decide +kernel
theorem dL_law_758 : decode cL_law 758 = .ok (.aload_n 0, 1) := by decide +kernel
theorem dL_law_759 : decode cL_law 759 = .ok (.iload_n 3, 1) := by decide +kernel
theorem dL_law_760 : decode cL_law 760 = .ok (.iconst 2, 1) := by decide +kernel
theorem dL_law_761 : decode cL_law 761 = .ok (.iadd, 1) := by decide +kernel
theorem dL_law_762 : decode cL_law 762 = .ok (.iaload, 1) := by decide +kernel
theorem dL_law_763 : decode cL_law 763 = .ok (.invokevirtual 118, 3) := by decide +kernel
theorem dL_law_766 : decode cL_law 766 = .ok (.pop, 1) := by decide +kernel
theorem dL_law_767 : decode cL_law 767 = .ok (.aload_n 2, 1) := by decide +kernel
theorem dL_law_768 : decode cL_law 768 = .ok (.aload_n 0, 1) := by decide +kernel
theorem dL_law_769 : decode cL_law 769 = .ok (.iload_n 3, 1) := by decide +kernel
theorem dL_law_770 : decode cL_law 770 = .ok (.iconst 1, 1) := by decide +kernel
theorem dL_law_771 : decode cL_law 771 = .ok (.iadd, 1) := by decide +kernel
theorem dL_law_772 : decode cL_law 772 = .ok (.iaload, 1) := by decide +kernel
theorem dL_law_773 : decode cL_law 773 = .ok (.aload_n 0, 1) := by decide +kernel
theorem dL_law_774 : decode cL_law 774 = .ok (.iload_n 3, 1) := by decide +kernel
theorem dL_law_775 : decode cL_law 775 = .ok (.iconst 2, 1) := by decide +kernel
theorem dL_law_776 : decode cL_law 776 = .ok (.iadd, 1) := by decide +kernel
theorem dL_law_777 : decode cL_law 777 = .ok (.iaload, 1) := by decide +kernel
theorem dL_law_778 : decode cL_law 778 = .ok (.invokevirtual 121, 3) := by decide +kernel
theorem dL_law_781 : decode cL_law 781 = .ok (.pop, 1) := by decide +kernel
theorem dL_law_782 : decode cL_law 782 = .ok (.goto 482, 3) := by decide +kernel
theorem dL_law_785 : decode cL_law 785 = .ok (.aload_n 1, 1) := by decide +kernel
theorem dL_law_786 : decode cL_law 786 = .ok (.invokevirtual 122, 3) := by decide +kernel
theorem dL_law_789 : decode cL_law 789 = .ok (.pop, 1) := by decide +kernel
theorem dL_law_790 : decode cL_law 790 = .ok (.aload_n 2, 1) := by decide +kernel
theorem dL_law_791 : decode cL_law 791 = .ok (.invokevirtual 125, 3) := by decide +kernel
theorem dL_law_794 : decode cL_law 794 = .ok (.pop, 1) := by decide +kernel
theorem dL_law_795 : decode cL_law 795 = .ok (.goto 469, 3) := by decide +kernel
theorem dL_law_798 : decode cL_law 798 = .ok (.aload_n 1, 1) := by decide +kernel
theorem dL_law_799 : decode cL_law 799 = .ok (.aload_n 0, 1) := by decide +kernel
theorem dL_law_800 : decode cL_law 800 = .ok (.iload_n 3, 1) := by decide +kernel
theorem dL_law_801 : decode cL_law 801 = .ok (.iconst 1, 1) := by decide +kernel
theorem dL_law_802 : decode cL_law 802 = .ok (.iadd, 1) := by decide +kernel
theorem dL_law_803 : decode cL_law 803 = .ok (.iaload, 1) := by decide +kernel
theorem dL_law_804 : decode cL_law 804 = .ok (.invokevirtual 126, 3) := by decide +kernel
theorem dL_law_807 : decode cL_law 807 = .ok (.pop, 1) := by decide +kernel
theorem dL_law_808 : decode cL_law 808 = .ok (.aload_n 2, 1) := by decide +kernel
theorem dL_law_809 : decode cL_law 809 = .ok (.aload_n 0, 1) := by decide +kernel
theorem dL_law_810 : decode cL_law 810 = .ok (.iload_n 3, 1) := by decide +kernel
theorem dL_law_811 : decode cL_law 811 = .ok (.iconst 1, 1) := by decide +kernel
theorem dL_law_812 : decode cL_law 812 = .ok (.iadd, 1) := by decide +kernel
theorem dL_law_813 : decode cL_law 813 = .ok (.iaload, 1) := by decide +kernel
theorem dL_law_814 : decode cL_law 814 = .ok (.invokevirtual 129, 3) := by decide +kernel
theorem dL_law_817 : decode cL_law 817 = .ok (.pop, 1) := by decide +kernel
theorem dL_law_818 : decode cL_law 818 = .ok (.goto 446, 3) := by decide +kernel
theorem dL_law_821 : decode cL_law 821 = .ok (.aload_n 1, 1) := by decide +kernel
theorem dL_law_822 : decode cL_law 822 = .ok (.aload_n 0, 1) := by decide +kernel
theorem dL_law_823 : decode cL_law 823 = .ok (.iload_n 3, 1) := by decide +kernel
theorem dL_law_824 : decode cL_law 824 = .ok (.iconst 1, 1) := by decide +kernel
theorem dL_law_825 : decode cL_law 825 = .ok (.iadd, 1) := by decide +kernel
theorem dL_law_826 : decode cL_law 826 = .ok (.iaload, 1) := by decide +kernel
theorem dL_law_827 : decode cL_law 827 = .ok (.aload_n 0, 1) := by decide +kernel
theorem dL_law_828 : decode cL_law 828 = .ok (.iload_n 3, 1) := by decide +kernel
theorem dL_law_829 : decode cL_law 829 = .ok (.iconst 2, 1) := by decide +kernel
theorem dL_law_830 : decode cL_law 830 = .ok (.iadd, 1) := by decide +kernel
theorem dL_law_831 : decode cL_law 831 = .ok (.iaload, 1) := by decide +kernel
theorem dL_law_832 : decode cL_law 832 = .ok (.aload_n 0, 1) := by decide +kernel
theorem dL_law_833 : decode cL_law 833 = .ok (.iload_n 3, 1) := by decide +kernel
theorem dL_law_834 : decode cL_law 834 = .ok (.iconst 3, 1) := by decide +kernel
theorem dL_law_835 : decode cL_law 835 = .ok (.iadd, 1) := by decide +kernel
theorem dL_law_836 : decode cL_law 836 = .ok (.iaload, 1) := by decide +kernel
theorem dL_law_837 : decode cL_law 837 = .ok (.invokevirtual 130, 3) := by decide +kernel
theorem dL_law_840 : decode cL_law 840 = .ok (.pop, 1) := by decide +kernel
theorem dL_law_841 : decode cL_law 841 = .ok (.aload_n 2, 1) := by decide +kernel
theorem dL_law_842 : decode cL_law 842 = .ok (.aload_n 0, 1) := by decide +kernel
theorem dL_law_843 : decode cL_law 843 = .ok (.iload_n 3, 1) := by decide +kernel
theorem dL_law_844 : decode cL_law 844 = .ok (.iconst 1, 1) := by decide +kernel
theorem dL_law_845 : decode cL_law 845 = .ok (.iadd, 1) := by decide +kernel
theorem dL_law_846 : decode cL_law 846 = .ok (.iaload, 1) := by decide +kernel
theorem dL_law_847 : decode cL_law 847 = .ok (.aload_n 0, 1) := by decide +kernel
theorem dL_law_848 : decode cL_law 848 = .ok (.iload_n 3, 1) := by decide +kernel
theorem dL_law_849 : decode cL_law 849 = .ok (.iconst 2, 1) := by decide +kernel
theorem dL_law_850 : decode cL_law 850 = .ok (.iadd, 1) := by decide +kernel
theorem dL_law_851 : decode cL_law 851 = .ok (.iaload, 1) := by decide +kernel
theorem dL_law_852 : decode cL_law 852 = .ok (.aload_n 0, 1) := by decide +kernel
theorem dL_law_853 : decode cL_law 853 = .ok (.iload_n 3, 1) := by decide +kernel
theorem dL_law_854 : decode cL_law 854 = .ok (.iconst 3, 1) := by decide +kernel
theorem dL_law_855 : decode cL_law 855 = .ok (.iadd, 1) := by decide +kernel
theorem dL_law_856 : decode cL_law 856 = .ok (.iaload, 1) := by decide +kernel
theorem dL_law_857 : decode cL_law 857 = .ok (.invokevirtual 133, 3) := by decide +kernel
theorem dL_law_860 : decode cL_law 860 = .ok (.pop, 1) := by decide +kernel
theorem dL_law_861 : decode cL_law 861 = .ok (.goto 403, 3) := by decide +kernel
theorem dL_law_864 : decode cL_law 864 = .ok (.aload_n 1, 1) := by decide +kernel
theorem dL_law_865 : decode cL_law 865 = .ok (.aload_n 0, 1) := by decide +kernel
theorem dL_law_866 : decode cL_law 866 = .ok (.iload_n 3, 1) := by decide +kernel
theorem dL_law_867 : decode cL_law 867 = .ok (.iconst 1, 1) := by decide +kernel
theorem dL_law_868 : decode cL_law 868 = .ok (.iadd, 1) := by decide +kernel
theorem dL_law_869 : decode cL_law 869 = .ok (.iaload, 1) := by decide +kernel
theorem dL_law_870 : decode cL_law 870 = .ok (.aload_n 0, 1) := by decide +kernel
theorem dL_law_871 : decode cL_law 871 = .ok (.iload_n 3, 1) := by decide +kernel
theorem dL_law_872 : decode cL_law 872 = .ok (.iconst 2, 1) := by decide +kernel
theorem dL_law_873 : decode cL_law 873 = .ok (.iadd, 1) := by decide +kernel
theorem dL_law_874 : decode cL_law 874 = .ok (.iaload, 1) := by decide +kernel
theorem dL_law_875 : decode cL_law 875 = .ok (.aload_n 0, 1) := by decide +kernel
theorem dL_law_876 : decode cL_law 876 = .ok (.iload_n 3, 1) := by decide +kernel
theorem dL_law_877 : decode cL_law 877 = .ok (.iconst 3, 1) := by decide +kernel
theorem dL_law_878 : decode cL_law 878 = .ok (.iadd, 1) := by decide +kernel
theorem dL_law_879 : decode cL_law 879 = .ok (.iaload, 1) := by decide +kernel
theorem dL_law_880 : decode cL_law 880 = .ok (.invokevirtual 134, 3) := by decide +kernel
theorem dL_law_883 : decode cL_law 883 = .ok (.pop, 1) := by decide +kernel
theorem dL_law_884 : decode cL_law 884 = .ok (.aload_n 2, 1) := by decide +kernel
theorem dL_law_885 : decode cL_law 885 = .ok (.aload_n 0, 1) := by decide +kernel
theorem dL_law_886 : decode cL_law 886 = .ok (.iload_n 3, 1) := by decide +kernel
theorem dL_law_887 : decode cL_law 887 = .ok (.iconst 1, 1) := by decide +kernel
theorem dL_law_888 : decode cL_law 888 = .ok (.iadd, 1) := by decide +kernel
theorem dL_law_889 : decode cL_law 889 = .ok (.iaload, 1) := by decide +kernel
theorem dL_law_890 : decode cL_law 890 = .ok (.aload_n 0, 1) := by decide +kernel
theorem dL_law_891 : decode cL_law 891 = .ok (.iload_n 3, 1) := by decide +kernel
theorem dL_law_892 : decode cL_law 892 = .ok (.iconst 2, 1) := by decide +kernel
theorem dL_law_893 : decode cL_law 893 = .ok (.iadd, 1) := by decide +kernel
theorem dL_law_894 : decode cL_law 894 = .ok (.iaload, 1) := by decide +kernel
theorem dL_law_895 : decode cL_law 895 = .ok (.aload_n 0, 1) := by decide +kernel
theorem dL_law_896 : decode cL_law 896 = .ok (.iload_n 3, 1) := by decide +kernel
theorem dL_law_897 : decode cL_law 897 = .ok (.iconst 3, 1) := by decide +kernel
theorem dL_law_898 : decode cL_law 898 = .ok (.iadd, 1) := by decide +kernel
theorem dL_law_899 : decode cL_law 899 = .ok (.iaload, 1) := by decide +kernel
theorem dL_law_900 : decode cL_law 900 = .ok (.invokevirtual 137, 3) := by decide +kernel
theorem dL_law_903 : decode cL_law 903 = .ok (.pop, 1) := by decide +kernel
theorem dL_law_904 : decode cL_law 904 = .ok (.goto 360, 3) := by decide +kernel
theorem dL_law_907 : decode cL_law 907 = .ok (.aload_n 1, 1) := by decide +kernel
theorem dL_law_908 : decode cL_law 908 = .ok (.aload_n 0, 1) := by decide +kernel
theorem dL_law_909 : decode cL_law 909 = .ok (.iload_n 3, 1) := by decide +kernel
theorem dL_law_910 : decode cL_law 910 = .ok (.iconst 1, 1) := by decide +kernel
theorem dL_law_911 : decode cL_law 911 = .ok (.iadd, 1) := by decide +kernel
theorem dL_law_912 : decode cL_law 912 = .ok (.iaload, 1) := by decide +kernel
theorem dL_law_913 : decode cL_law 913 = .ok (.aload_n 0, 1) := by decide +kernel
theorem dL_law_914 : decode cL_law 914 = .ok (.iload_n 3, 1) := by decide +kernel
theorem dL_law_915 : decode cL_law 915 = .ok (.iconst 2, 1) := by decide +kernel
theorem dL_law_916 : decode cL_law 916 = .ok (.iadd, 1) := by decide +kernel
theorem dL_law_917 : decode cL_law 917 = .ok (.iaload, 1) := by decide +kernel
theorem dL_law_918 : decode cL_law 918 = .ok (.invokevirtual 138, 3) := by decide +kernel
theorem dL_law_921 : decode cL_law 921 = .ok (.pop, 1) := by decide +kernel
theorem dL_law_922 : decode cL_law 922 = .ok (.aload_n 2, 1) := by decide +kernel
theorem dL_law_923 : decode cL_law 923 = .ok (.aload_n 0, 1) := by decide +kernel
theorem dL_law_924 : decode cL_law 924 = .ok (.iload_n 3, 1) := by decide +kernel
theorem dL_law_925 : decode cL_law 925 = .ok (.iconst 1, 1) := by decide +kernel
theorem dL_law_926 : decode cL_law 926 = .ok (.iadd, 1) := by decide +kernel
theorem dL_law_927 : decode cL_law 927 = .ok (.iaload, 1) := by decide +kernel
theorem dL_law_928 : decode cL_law 928 = .ok (.aload_n 0, 1) := by decide +kernel
theorem dL_law_929 : decode cL_law 929 = .ok (.iload_n 3, 1) := by decide +kernel
theorem dL_law_930 : decode cL_law 930 = .ok (.iconst 2, 1) := by decide +kernel
theorem dL_law_931 : decode cL_law 931 = .ok (.iadd, 1) := by decide +kernel
theorem dL_law_932 : decode cL_law 932 = .ok (.iaload, 1) := by decide +kernel
theorem dL_law_933 : decode cL_law 933 = .ok (.invokevirtual 141, 3) := by decide +kernel
theorem dL_law_936 : decode cL_law 936 = .ok (.pop, 1) := by decide +kernel
theorem dL_law_937 : decode cL_law 937 = .ok (.goto 327, 3) := by decide +kernel
theorem dL_law_940 : decode cL_law 940 = .ok (.aload_n 1, 1) := by decide +kernel
theorem dL_law_941 : decode cL_law 941 = .ok (.aload_n 0, 1) := by decide +kernel
theorem dL_law_942 : decode cL_law 942 = .ok (.iload_n 3, 1) := by decide +kernel
theorem dL_law_943 : decode cL_law 943 = .ok (.iconst 1, 1) := by decide +kernel
theorem dL_law_944 : decode cL_law 944 = .ok (.iadd, 1) := by decide +kernel
theorem dL_law_945 : decode cL_law 945 = .ok (.iaload, 1) := by decide +kernel
theorem dL_law_946 : decode cL_law 946 = .ok (.invokevirtual 142, 3) := by decide +kernel
theorem dL_law_949 : decode cL_law 949 = .ok (.pop, 1) := by decide +kernel
theorem dL_law_950 : decode cL_law 950 = .ok (.aload_n 2, 1) := by decide +kernel
theorem dL_law_951 : decode cL_law 951 = .ok (.aload_n 0, 1) := by decide +kernel
theorem dL_law_952 : decode cL_law 952 = .ok (.iload_n 3, 1) := by decide +kernel
theorem dL_law_953 : decode cL_law 953 = .ok (.iconst 1, 1) := by decide +kernel
theorem dL_law_954 : decode cL_law 954 = .ok (.iadd, 1) := by decide +kernel
theorem dL_law_955 : decode cL_law 955 = .ok (.iaload, 1) := by decide +kernel
theorem dL_law_956 : decode cL_law 956 = .ok (.invokevirtual 145, 3) := by decide +kernel
theorem dL_law_959 : decode cL_law 959 = .ok (.pop, 1) := by decide +kernel
theorem dL_law_960 : decode cL_law 960 = .ok (.goto 304, 3) := by decide +kernel
theorem dL_law_963 : decode cL_law 963 = .ok (.aload_n 1, 1) := by decide +kernel
theorem dL_law_964 : decode cL_law 964 = .ok (.aload_n 0, 1) := by decide +kernel
theorem dL_law_965 : decode cL_law 965 = .ok (.iload_n 3, 1) := by decide +kernel
theorem dL_law_966 : decode cL_law 966 = .ok (.iconst 1, 1) := by decide +kernel
theorem dL_law_967 : decode cL_law 967 = .ok (.iadd, 1) := by decide +kernel
theorem dL_law_968 : decode cL_law 968 = .ok (.iaload, 1) := by decide +kernel
theorem dL_law_969 : decode cL_law 969 = .ok (.aload_n 0, 1) := by decide +kernel
theorem dL_law_970 : decode cL_law 970 = .ok (.iload_n 3, 1) := by decide +kernel
theorem dL_law_971 : decode cL_law 971 = .ok (.iconst 2, 1) := by decide +kernel
theorem dL_law_972 : decode cL_law 972 = .ok (.iadd, 1) := by decide +kernel
theorem dL_law_973 : decode cL_law 973 = .ok (.iaload, 1) := by decide +kernel
theorem dL_law_974 : decode cL_law 974 = .ok (.aload_n 0, 1) := by decide +kernel
theorem dL_law_975 : decode cL_law 975 = .ok (.iload_n 3, 1) := by decide +kernel
theorem dL_law_976 : decode cL_law 976 = .ok (.iconst 3, 1) := by decide +kernel
theorem dL_law_977 : decode cL_law 977 = .ok (.iadd, 1) := by decide +kernel
theorem dL_law_978 : decode cL_law 978 = .ok (.iaload, 1) := by decide +kernel
theorem dL_law_979 : decode cL_law 979 = .ok (.invokevirtual 146, 3) := by decide +kernel
theorem dL_law_982 : decode cL_law 982 = .ok (.pop, 1) := by decide +kernel
theorem dL_law_983 : decode cL_law 983 = .ok (.aload_n 2, 1) := by decide +kernel
theorem dL_law_984 : decode cL_law 984 = .ok (.aload_n 0, 1) := by decide +kernel
theorem dL_law_985 : decode cL_law 985 = .ok (.iload_n 3, 1) := by decide +kernel
theorem dL_law_986 : decode cL_law 986 = .ok (.iconst 1, 1) := by decide +kernel
theorem dL_law_987 : decode cL_law 987 = .ok (.iadd, 1) := by decide +kernel
theorem dL_law_988 : decode cL_law 988 = .ok (.iaload, 1) := by decide +kernel
theorem dL_law_989 : decode cL_law 989 = .ok (.aload_n 0, 1) := by decide +kernel
theorem dL_law_990 : decode cL_law 990 = .ok (.iload_n 3, 1) := by decide +kernel
theorem dL_law_991 : decode cL_law 991 = .ok (.iconst 2, 1) := by decide +kernel
theorem dL_law_992 : decode cL_law 992 = .ok (.iadd, 1) := by decide +kernel
theorem dL_law_993 : decode cL_law 993 = .ok (.iaload, 1) := by decide +kernel
theorem dL_law_994 : decode cL_law 994 = .ok (.aload_n 0, 1) := by decide +kernel
theorem dL_law_995 : decode cL_law 995 = .ok (.iload_n 3, 1) := by decide +kernel
theorem dL_law_996 : decode cL_law 996 = .ok (.iconst 3, 1) := by decide +kernel
theorem dL_law_997 : decode cL_law 997 = .ok (.iadd, 1) := by decide +kernel
theorem dL_law_998 : decode cL_law 998 = .ok (.iaload, 1) := by decide +kernel
theorem dL_law_999 : decode cL_law 999 = .ok (.invokevirtual 149, 3) := by decide +kernel
theorem dL_law_1002 : decode cL_law 1002 = .ok (.pop, 1) := by decide +kernel
theorem dL_law_1003 : decode cL_law 1003 = .ok (.goto 261, 3) := by decide +kernel
theorem dL_law_1006 : decode cL_law 1006 = .ok (.aload_n 1, 1) := by decide +kernel
theorem dL_law_1007 : decode cL_law 1007 = .ok (.aload_n 0, 1) := by decide +kernel
theorem dL_law_1008 : decode cL_law 1008 = .ok (.iload_n 3, 1) := by decide +kernel
theorem dL_law_1009 : decode cL_law 1009 = .ok (.iconst 1, 1) := by decide +kernel
theorem dL_law_1010 : decode cL_law 1010 = .ok (.iadd, 1) := by decide +kernel
theorem dL_law_1011 : decode cL_law 1011 = .ok (.iaload, 1) := by decide +kernel
theorem dL_law_1012 : decode cL_law 1012 = .ok (.aload_n 0, 1) := by decide +kernel
theorem dL_law_1013 : decode cL_law 1013 = .ok (.iload_n 3, 1) := by decide +kernel
theorem dL_law_1014 : decode cL_law 1014 = .ok (.iconst 2, 1) := by decide +kernel
theorem dL_law_1015 : decode cL_law 1015 = .ok (.iadd, 1) := by decide +kernel
theorem dL_law_1016 : decode cL_law 1016 = .ok (.iaload, 1) := by decide +kernel
theorem dL_law_1017 : decode cL_law 1017 = .ok (.aload_n 0, 1) := by decide +kernel
theorem dL_law_1018 : decode cL_law 1018 = .ok (.iload_n 3, 1) := by decide +kernel
theorem dL_law_1019 : decode cL_law 1019 = .ok (.iconst 3, 1) := by decide +kernel
theorem dL_law_1020 : decode cL_law 1020 = .ok (.iadd, 1) := by decide +kernel
theorem dL_law_1021 : decode cL_law 1021 = .ok (.iaload, 1) := by decide +kernel
theorem dL_law_1022 : decode cL_law 1022 = .ok (.invokevirtual 150, 3) := by decide +kernel
theorem dL_law_1025 : decode cL_law 1025 = .ok (.pop2, 1) := by decide +kernel
theorem dL_law_1026 : decode cL_law 1026 = .ok (.aload_n 2, 1) := by decide +kernel
theorem dL_law_1027 : decode cL_law 1027 = .ok (.aload_n 0, 1) := by decide +kernel
theorem dL_law_1028 : decode cL_law 1028 = .ok (.iload_n 3, 1) := by decide +kernel
theorem dL_law_1029 : decode cL_law 1029 = .ok (.iconst 1, 1) := by decide +kernel
theorem dL_law_1030 : decode cL_law 1030 = .ok (.iadd, 1) := by decide +kernel
theorem dL_law_1031 : decode cL_law 1031 = .ok (.iaload, 1) := by decide +kernel
theorem dL_law_1032 : decode cL_law 1032 = .ok (.aload_n 0, 1) := by decide +kernel
theorem dL_law_1033 : decode cL_law 1033 = .ok (.iload_n 3, 1) := by decide +kernel
theorem dL_law_1034 : decode cL_law 1034 = .ok (.iconst 2, 1) := by decide +kernel
theorem dL_law_1035 : decode cL_law 1035 = .ok (.iadd, 1) := by decide +kernel
theorem dL_law_1036 : decode cL_law 1036 = .ok (.iaload, 1) := by decide +kernel
theorem dL_law_1037 : decode cL_law 1037 = .ok (.aload_n 0, 1) := by decide +kernel
theorem dL_law_1038 : decode cL_law 1038 = .ok (.iload_n 3, 1) := by decide +kernel
theorem dL_law_1039 : decode cL_law 1039 = .ok (.iconst 3, 1) := by decide +kernel
theorem dL_law_1040 : decode cL_law 1040 = .ok (.iadd, 1) := by decide +kernel
theorem dL_law_1041 : decode cL_law 1041 = .ok (.iaload, 1) := by decide +kernel
theorem dL_law_1042 : decode cL_law 1042 = .ok (.invokevirtual 154, 3) := by decide +kernel
theorem dL_law_1045 : decode cL_law 1045 = .ok (.pop2, 1) := by decide +kernel
theorem dL_law_1046 : decode cL_law 1046 = .ok (.goto 218, 3) := by decide +kernel
theorem dL_law_1049 : decode cL_law 1049 = .ok (.aload_n 1, 1) := by decide +kernel
theorem dL_law_1050 : decode cL_law 1050 = .ok (.aload_n 0, 1) := by decide +kernel
theorem dL_law_1051 : decode cL_law 1051 = .ok (.iload_n 3, 1) := by decide +kernel
theorem dL_law_1052 : decode cL_law 1052 = .ok (.iconst 1, 1) := by decide +kernel
theorem dL_law_1053 : decode cL_law 1053 = .ok (.iadd, 1) := by decide +kernel
theorem dL_law_1054 : decode cL_law 1054 = .ok (.iaload, 1) := by decide +kernel
theorem dL_law_1055 : decode cL_law 1055 = .ok (.aload_n 0, 1) := by decide +kernel
theorem dL_law_1056 : decode cL_law 1056 = .ok (.iload_n 3, 1) := by decide +kernel
theorem dL_law_1057 : decode cL_law 1057 = .ok (.iconst 2, 1) := by decide +kernel
theorem dL_law_1058 : decode cL_law 1058 = .ok (.iadd, 1) := by decide +kernel
theorem dL_law_1059 : decode cL_law 1059 = .ok (.iaload, 1) := by decide +kernel
theorem dL_law_1060 : decode cL_law 1060 = .ok (.aload_n 0, 1) := by decide +kernel
theorem dL_law_1061 : decode cL_law 1061 = .ok (.iload_n 3, 1) := by decide +kernel
theorem dL_law_1062 : decode cL_law 1062 = .ok (.iconst 3, 1) := by decide +kernel
theorem dL_law_1063 : decode cL_law 1063 = .ok (.iadd, 1) := by decide +kernel
theorem dL_law_1064 : decode cL_law 1064 = .ok (.iaload, 1) := by decide +kernel
theorem dL_law_1065 : decode cL_law 1065 = .ok (.invokevirtual 155, 3) := by decide +kernel
theorem dL_law_1068 : decode cL_law 1068 = .ok (.aload_n 2, 1) := by decide +kernel
theorem dL_law_1069 : decode cL_law 1069 = .ok (.aload_n 0, 1) := by decide +kernel
theorem dL_law_1070 : decode cL_law 1070 = .ok (.iload_n 3, 1) := by decide +kernel
theorem dL_law_1071 : decode cL_law 1071 = .ok (.iconst 1, 1) := by decide +kernel
theorem dL_law_1072 : decode cL_law 1072 = .ok (.iadd, 1) := by decide +kernel
theorem dL_law_1073 : decode cL_law 1073 = .ok (.iaload, 1) := by decide +kernel
theorem dL_law_1074 : decode cL_law 1074 = .ok (.aload_n 0, 1) := by decide +kernel
theorem dL_law_1075 : decode cL_law 1075 = .ok (.iload_n 3, 1) := by decide +kernel
theorem dL_law_1076 : decode cL_law 1076 = .ok (.iconst 2, 1) := by decide +kernel
theorem dL_law_1077 : decode cL_law 1077 = .ok (.iadd, 1) := by decide +kernel
theorem dL_law_1078 : decode cL_law 1078 = .ok (.iaload, 1) := by decide +kernel
theorem dL_law_1079 : decode cL_law 1079 = .ok (.aload_n 0, 1) := by decide +kernel
theorem dL_law_1080 : decode cL_law 1080 = .ok (.iload_n 3, 1) := by decide +kernel
theorem dL_law_1081 : decode cL_law 1081 = .ok (.iconst 3, 1) := by decide +kernel
theorem dL_law_1082 : decode cL_law 1082 = .ok (.iadd, 1) := by decide +kernel
theorem dL_law_1083 : decode cL_law 1083 = .ok (.iaload, 1) := by decide +kernel
theorem dL_law_1084 : decode cL_law 1084 = .ok (.invokevirtual 158, 3) := by decide +kernel
theorem dL_law_1087 : decode cL_law 1087 = .ok (.if_icmp .eq 177, 3) := by decide +kernel
theorem dL_law_1090 : decode cL_law 1090 = .ok (.iconst 0, 1) := by decide +kernel
theorem dL_law_1091 : decode cL_law 1091 = .ok (.ireturn, 1) := by decide +kernel
theorem dL_law_1092 : decode cL_law 1092 = .ok (.aload_n 1, 1) := by decide +kernel
theorem dL_law_1093 : decode cL_law 1093 = .ok (.aload_n 0, 1) := by decide +kernel
theorem dL_law_1094 : decode cL_law 1094 = .ok (.iload_n 3, 1) := by decide +kernel
theorem dL_law_1095 : decode cL_law 1095 = .ok (.iconst 1, 1) := by decide +kernel
theorem dL_law_1096 : decode cL_law 1096 = .ok (.iadd, 1) := by decide +kernel
theorem dL_law_1097 : decode cL_law 1097 = .ok (.iaload, 1) := by decide +kernel
theorem dL_law_1098 : decode cL_law 1098 = .ok (.invokevirtual 159, 3) := by decide +kernel
theorem dL_law_1101 : decode cL_law 1101 = .ok (.pop, 1) := by decide +kernel
theorem dL_law_1102 : decode cL_law 1102 = .ok (.aload_n 2, 1) := by decide +kernel
theorem dL_law_1103 : decode cL_law 1103 = .ok (.aload_n 0, 1) := by decide +kernel
theorem dL_law_1104 : decode cL_law 1104 = .ok (.iload_n 3, 1) := by decide +kernel
theorem dL_law_1105 : decode cL_law 1105 = .ok (.iconst 1, 1) := by decide +kernel
theorem dL_law_1106 : decode cL_law 1106 = .ok (.iadd, 1) := by decide +kernel
theorem dL_law_1107 : decode cL_law 1107 = .ok (.iaload, 1) := by decide +kernel
theorem dL_law_1108 : decode cL_law 1108 = .ok (.invokevirtual 162, 3) := by decide +kernel
theorem dL_law_1111 : decode cL_law 1111 = .ok (.pop, 1) := by decide +kernel
theorem dL_law_1112 : decode cL_law 1112 = .ok (.goto 152, 3) := by decide +kernel
theorem dL_law_1115 : decode cL_law 1115 = .ok (.aload_n 1, 1) := by decide +kernel
theorem dL_law_1116 : decode cL_law 1116 = .ok (.aload_n 0, 1) := by decide +kernel
theorem dL_law_1117 : decode cL_law 1117 = .ok (.iload_n 3, 1) := by decide +kernel
theorem dL_law_1118 : decode cL_law 1118 = .ok (.iconst 1, 1) := by decide +kernel
theorem dL_law_1119 : decode cL_law 1119 = .ok (.iadd, 1) := by decide +kernel
theorem dL_law_1120 : decode cL_law 1120 = .ok (.iaload, 1) := by decide +kernel
theorem dL_law_1121 : decode cL_law 1121 = .ok (.aload_n 0, 1) := by decide +kernel
theorem dL_law_1122 : decode cL_law 1122 = .ok (.iload_n 3, 1) := by decide +kernel
theorem dL_law_1123 : decode cL_law 1123 = .ok (.iconst 2, 1) := by decide +kernel
theorem dL_law_1124 : decode cL_law 1124 = .ok (.iadd, 1) := by decide +kernel
theorem dL_law_1125 : decode cL_law 1125 = .ok (.iaload, 1) := by decide +kernel
theorem dL_law_1126 : decode cL_law 1126 = .ok (.aload_n 0, 1) := by decide +kernel
theorem dL_law_1127 : decode cL_law 1127 = .ok (.iload_n 3, 1) := by decide +kernel
theorem dL_law_1128 : decode cL_law 1128 = .ok (.iconst 3, 1) := by decide +kernel
theorem dL_law_1129 : decode cL_law 1129 = .ok (.iadd, 1) := by decide +kernel
theorem dL_law_1130 : decode cL_law 1130 = .ok (.iaload, 1) := by decide +kernel
theorem dL_law_1131 : decode cL_law 1131 = .ok (.aload_n 0, 1) := by decide +kernel
theorem dL_law_1132 : decode cL_law 1132 = .ok (.iload_n 3, 1) := by decide +kernel
theorem dL_law_1133 : decode cL_law 1133 = .ok (.iconst 4, 1) := by decide +kernel
theorem dL_law_1134 : decode cL_law 1134 = .ok (.iadd, 1) := by decide +kernel
theorem dL_law_1135 : decode cL_law 1135 = .ok (.iaload, 1) := by decide +kernel
theorem dL_law_1136 : decode cL_law 1136 = .ok (.invokevirtual 163, 3) := by decide +kernel
theorem dL_law_1139 : decode cL_law 1139 = .ok (.pop, 1) := by decide +kernel
theorem dL_law_1140 : decode cL_law 1140 = .ok (.aload_n 2, 1) := by decide +kernel
theorem dL_law_1141 : decode cL_law 1141 = .ok (.aload_n 0, 1) := by decide +kernel
theorem dL_law_1142 : decode cL_law 1142 = .ok (.iload_n 3, 1) := by decide +kernel
theorem dL_law_1143 : decode cL_law 1143 = .ok (.iconst 1, 1) := by decide +kernel
theorem dL_law_1144 : decode cL_law 1144 = .ok (.iadd, 1) := by decide +kernel
theorem dL_law_1145 : decode cL_law 1145 = .ok (.iaload, 1) := by decide +kernel
theorem dL_law_1146 : decode cL_law 1146 = .ok (.aload_n 0, 1) := by decide +kernel
theorem dL_law_1147 : decode cL_law 1147 = .ok (.iload_n 3, 1) := by decide +kernel
theorem dL_law_1148 : decode cL_law 1148 = .ok (.iconst 2, 1) := by decide +kernel
theorem dL_law_1149 : decode cL_law 1149 = .ok (.iadd, 1) := by decide +kernel
theorem dL_law_1150 : decode cL_law 1150 = .ok (.iaload, 1) := by decide +kernel
theorem dL_law_1151 : decode cL_law 1151 = .ok (.aload_n 0, 1) := by decide +kernel
theorem dL_law_1152 : decode cL_law 1152 = .ok (.iload_n 3, 1) := by decide +kernel
theorem dL_law_1153 : decode cL_law 1153 = .ok (.iconst 3, 1) := by decide +kernel
theorem dL_law_1154 : decode cL_law 1154 = .ok (.iadd, 1) := by decide +kernel
theorem dL_law_1155 : decode cL_law 1155 = .ok (.iaload, 1) := by decide +kernel
theorem dL_law_1156 : decode cL_law 1156 = .ok (.aload_n 0, 1) := by decide +kernel
theorem dL_law_1157 : decode cL_law 1157 = .ok (.iload_n 3, 1) := by decide +kernel
theorem dL_law_1158 : decode cL_law 1158 = .ok (.iconst 4, 1) := by decide +kernel
theorem dL_law_1159 : decode cL_law 1159 = .ok (.iadd, 1) := by decide +kernel
theorem dL_law_1160 : decode cL_law 1160 = .ok (.iaload, 1) := by decide +kernel
theorem dL_law_1161 : decode cL_law 1161 = .ok (.invokevirtual 167, 3) := by decide +kernel
theorem dL_law_1164 : decode cL_law 1164 = .ok (.pop, 1) := by decide +kernel
theorem dL_law_1165 : decode cL_law 1165 = .ok (.goto 99, 3) := by decide +kernel
theorem dL_law_1168 : decode cL_law 1168 = .ok (.aload_n 1, 1) := by decide +kernel
theorem dL_law_1169 : decode cL_law 1169 = .ok (.aload_n 0, 1) := by decide +kernel
theorem dL_law_1170 : decode cL_law 1170 = .ok (.iload_n 3, 1) := by decide +kernel
theorem dL_law_1171 : decode cL_law 1171 = .ok (.iconst 1, 1) := by decide +kernel
theorem dL_law_1172 : decode cL_law 1172 = .ok (.iadd, 1) := by decide +kernel
theorem dL_law_1173 : decode cL_law 1173 = .ok (.iaload, 1) := by decide +kernel
theorem dL_law_1174 : decode cL_law 1174 = .ok (.aload_n 0, 1) := by decide +kernel
theorem dL_law_1175 : decode cL_law 1175 = .ok (.iload_n 3, 1) := by decide +kernel
theorem dL_law_1176 : decode cL_law 1176 = .ok (.iconst 2, 1) := by decide +kernel
theorem dL_law_1177 : decode cL_law 1177 = .ok (.iadd, 1) := by decide +kernel
theorem dL_law_1178 : decode cL_law 1178 = .ok (.iaload, 1) := by decide +kernel
theorem dL_law_1179 : decode cL_law 1179 = .ok (.aload_n 0, 1) := by decide +kernel
theorem dL_law_1180 : decode cL_law 1180 = .ok (.iload_n 3, 1) := by decide +kernel
theorem dL_law_1181 : decode cL_law 1181 = .ok (.iconst 3, 1) := by decide +kernel
theorem dL_law_1182 : decode cL_law 1182 = .ok (.iadd, 1) := by decide +kernel
theorem dL_law_1183 : decode cL_law 1183 = .ok (.iaload, 1) := by decide +kernel
theorem dL_law_1184 : decode cL_law 1184 = .ok (.aload_n 0, 1) := by decide +kernel
theorem dL_law_1185 : decode cL_law 1185 = .ok (.iload_n 3, 1) := by decide +kernel
theorem dL_law_1186 : decode cL_law 1186 = .ok (.iconst 4, 1) := by decide +kernel
theorem dL_law_1187 : decode cL_law 1187 = .ok (.iadd, 1) := by decide +kernel
theorem dL_law_1188 : decode cL_law 1188 = .ok (.iaload, 1) := by decide +kernel
theorem dL_law_1189 : decode cL_law 1189 = .ok (.invokevirtual 168, 3) := by decide +kernel
theorem dL_law_1192 : decode cL_law 1192 = .ok (.pop, 1) := by decide +kernel
theorem dL_law_1193 : decode cL_law 1193 = .ok (.aload_n 2, 1) := by decide +kernel
theorem dL_law_1194 : decode cL_law 1194 = .ok (.aload_n 0, 1) := by decide +kernel
theorem dL_law_1195 : decode cL_law 1195 = .ok (.iload_n 3, 1) := by decide +kernel
theorem dL_law_1196 : decode cL_law 1196 = .ok (.iconst 1, 1) := by decide +kernel
theorem dL_law_1197 : decode cL_law 1197 = .ok (.iadd, 1) := by decide +kernel
theorem dL_law_1198 : decode cL_law 1198 = .ok (.iaload, 1) := by decide +kernel
theorem dL_law_1199 : decode cL_law 1199 = .ok (.aload_n 0, 1) := by decide +kernel
theorem dL_law_1200 : decode cL_law 1200 = .ok (.iload_n 3, 1) := by decide +kernel
theorem dL_law_1201 : decode cL_law 1201 = .ok (.iconst 2, 1) := by decide +kernel
theorem dL_law_1202 : decode cL_law 1202 = .ok (.iadd, 1) := by decide +kernel
theorem dL_law_1203 : decode cL_law 1203 = .ok (.iaload, 1) := by decide +kernel
theorem dL_law_1204 : decode cL_law 1204 = .ok (.aload_n 0, 1) := by decide +kernel
theorem dL_law_1205 : decode cL_law 1205 = .ok (.iload_n 3, 1) := by decide +kernel
theorem dL_law_1206 : decode cL_law 1206 = .ok (.iconst 3, 1) := by decide +kernel
theorem dL_law_1207 : decode cL_law 1207 = .ok (.iadd, 1) := by decide +kernel
theorem dL_law_1208 : decode cL_law 1208 = .ok (.iaload, 1) := by decide +kernel
theorem dL_law_1209 : decode cL_law 1209 = .ok (.aload_n 0, 1) := by decide +kernel
theorem dL_law_1210 : decode cL_law 1210 = .ok (.iload_n 3, 1) := by decide +kernel
theorem dL_law_1211 : decode cL_law 1211 = .ok (.iconst 4, 1) := by decide +kernel
theorem dL_law_1212 : decode cL_law 1212 = .ok (.iadd, 1) := by decide +kernel
theorem dL_law_1213 : decode cL_law 1213 = .ok (.iaload, 1) := by decide +kernel
theorem dL_law_1214 : decode cL_law 1214 = .ok (.invokevirtual 171, 3) := by decide +kernel
theorem dL_law_1217 : decode cL_law 1217 = .ok (.pop, 1) := by decide +kernel
theorem dL_law_1218 : decode cL_law 1218 = .ok (.goto 46, 3) := by decide +kernel
theorem dL_law_1221 : decode cL_law 1221 = .ok (.aload_n 1, 1) := by decide +kernel
theorem dL_law_1222 : decode cL_law 1222 = .ok (.aload_n 0, 1) := by decide +kernel
theorem dL_law_1223 : decode cL_law 1223 = .ok (.iload_n 3, 1) := by decide +kernel
theorem dL_law_1224 : decode cL_law 1224 = .ok (.iconst 1, 1) := by decide +kernel
theorem dL_law_1225 : decode cL_law 1225 = .ok (.iadd, 1) := by decide +kernel
theorem dL_law_1226 : decode cL_law 1226 = .ok (.iaload, 1) := by decide +kernel
theorem dL_law_1227 : decode cL_law 1227 = .ok (.aload_n 0, 1) := by decide +kernel
theorem dL_law_1228 : decode cL_law 1228 = .ok (.iload_n 3, 1) := by decide +kernel
theorem dL_law_1229 : decode cL_law 1229 = .ok (.iconst 2, 1) := by decide +kernel
theorem dL_law_1230 : decode cL_law 1230 = .ok (.iadd, 1) := by decide +kernel
theorem dL_law_1231 : decode cL_law 1231 = .ok (.iaload, 1) := by decide +kernel
theorem dL_law_1232 : decode cL_law 1232 = .ok (.aload_n 0, 1) := by decide +kernel
theorem dL_law_1233 : decode cL_law 1233 = .ok (.iload_n 3, 1) := by decide +kernel
theorem dL_law_1234 : decode cL_law 1234 = .ok (.iconst 3, 1) := by decide +kernel
theorem dL_law_1235 : decode cL_law 1235 = .ok (.iadd, 1) := by decide +kernel
theorem dL_law_1236 : decode cL_law 1236 = .ok (.iaload, 1) := by decide +kernel
theorem dL_law_1237 : decode cL_law 1237 = .ok (.invokevirtual 172, 3) := by decide +kernel
theorem dL_law_1240 : decode cL_law 1240 = .ok (.pop, 1) := by decide +kernel
theorem dL_law_1241 : decode cL_law 1241 = .ok (.aload_n 2, 1) := by decide +kernel
theorem dL_law_1242 : decode cL_law 1242 = .ok (.aload_n 0, 1) := by decide +kernel
theorem dL_law_1243 : decode cL_law 1243 = .ok (.iload_n 3, 1) := by decide +kernel
theorem dL_law_1244 : decode cL_law 1244 = .ok (.iconst 1, 1) := by decide +kernel
theorem dL_law_1245 : decode cL_law 1245 = .ok (.iadd, 1) := by decide +kernel
theorem dL_law_1246 : decode cL_law 1246 = .ok (.iaload, 1) := by decide +kernel
theorem dL_law_1247 : decode cL_law 1247 = .ok (.aload_n 0, 1) := by decide +kernel
theorem dL_law_1248 : decode cL_law 1248 = .ok (.iload_n 3, 1) := by decide +kernel
theorem dL_law_1249 : decode cL_law 1249 = .ok (.iconst 2, 1) := by decide +kernel
theorem dL_law_1250 : decode cL_law 1250 = .ok (.iadd, 1) := by decide +kernel
theorem dL_law_1251 : decode cL_law 1251 = .ok (.iaload, 1) := by decide +kernel
theorem dL_law_1252 : decode cL_law 1252 = .ok (.aload_n 0, 1) := by decide +kernel
theorem dL_law_1253 : decode cL_law 1253 = .ok (.iload_n 3, 1) := by decide +kernel
theorem dL_law_1254 : decode cL_law 1254 = .ok (.iconst 3, 1) := by decide +kernel
theorem dL_law_1255 : decode cL_law 1255 = .ok (.iadd, 1) := by decide +kernel
theorem dL_law_1256 : decode cL_law 1256 = .ok (.iaload, 1) := by decide +kernel
theorem dL_law_1257 : decode cL_law 1257 = .ok (.invokevirtual 175, 3) := by decide +kernel
theorem dL_law_1260 : decode cL_law 1260 = .ok (.pop, 1) := by decide +kernel
theorem dL_law_1261 : decode cL_law 1261 = .ok (.goto 3, 3) := by decide +kernel
theorem dL_law_1264 : decode cL_law 1264 = .ok (.iinc 3 5, 3) := by decide +kernel
theorem dL_law_1267 : decode cL_law 1267 = .ok (.goto (-1249), 3) := by decide +kernel
theorem dL_law_1270 : decode cL_law 1270 = .ok (.iconst 1, 1) := by decide +kernel
theorem dL_law_1271 : decode cL_law 1271 = .ok (.ireturn, 1) := by decide +kernel
end
