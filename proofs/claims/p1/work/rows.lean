section
-- ===== PART A: goes FIRST, ahead of the names: the tables' words, and 'selects' of the private methods out of them =====
/-- a private method of a class that the tables say can be made, by its rows of tables_1 -/
def lw_okq (q : MethodName × Nat) : Prop := (q.1.cls ≠ "java/lang/invoke/MethodHandle" ∧ q.1.cls ≠ "java/lang/invoke/VarHandle") ∧ Cond.instantiable q.1.cls q.2 ∈ tables_1 ∧ Cond.privateMethod q.1 ∈ tables_1 ∧ Cond.instanceMethod q.1 ∈ tables_1
theorem lw_p0 : lw_okq (⟨"ScaleShop", "refuse", "(I)I"⟩, 13) := ⟨⟨by decide +kernel, by decide +kernel⟩, List.mem_of_getElem? (i := 23) (by decide +kernel), List.mem_of_getElem? (i := 259) (by decide +kernel), List.mem_of_getElem? (i := 260) (by decide +kernel)⟩
theorem lw_p1 : lw_okq (⟨"ScaleShop", "seal", "()Z"⟩, 13) := ⟨⟨by decide +kernel, by decide +kernel⟩, List.mem_of_getElem? (i := 23) (by decide +kernel), List.mem_of_getElem? (i := 363) (by decide +kernel), List.mem_of_getElem? (i := 364) (by decide +kernel)⟩
theorem lw_p2 : lw_okq (⟨"ScaleShop", "forgetUndone", "()V"⟩, 13) := ⟨⟨by decide +kernel, by decide +kernel⟩, List.mem_of_getElem? (i := 23) (by decide +kernel), List.mem_of_getElem? (i := 367) (by decide +kernel), List.mem_of_getElem? (i := 368) (by decide +kernel)⟩
theorem lw_p3 : lw_okq (⟨"java/util/ArrayList", "fastRemove", "([Ljava/lang/Object;I)V"⟩, 3) := ⟨⟨by decide +kernel, by decide +kernel⟩, List.mem_of_getElem? (i := 185) (by decide +kernel), List.mem_of_getElem? (i := 385) (by decide +kernel), List.mem_of_getElem? (i := 386) (by decide +kernel)⟩
theorem lw_p4 : lw_okq (⟨"ScaleShop", "deny", "(I)Z"⟩, 13) := ⟨⟨by decide +kernel, by decide +kernel⟩, List.mem_of_getElem? (i := 23) (by decide +kernel), List.mem_of_getElem? (i := 416) (by decide +kernel), List.mem_of_getElem? (i := 417) (by decide +kernel)⟩
theorem lw_p5 : lw_okq (⟨"ScaleShop$Row", "foldsBack", "(I)Z"⟩, 4) := ⟨⟨by decide +kernel, by decide +kernel⟩, List.mem_of_getElem? (i := 55) (by decide +kernel), List.mem_of_getElem? (i := 447) (by decide +kernel), List.mem_of_getElem? (i := 448) (by decide +kernel)⟩
theorem lw_p6 : lw_okq (⟨"ScaleShop$Row", "hasRightAngles", "()Z"⟩, 4) := ⟨⟨by decide +kernel, by decide +kernel⟩, List.mem_of_getElem? (i := 55) (by decide +kernel), List.mem_of_getElem? (i := 455) (by decide +kernel), List.mem_of_getElem? (i := 456) (by decide +kernel)⟩
theorem lw_p7 : lw_okq (⟨"ScaleShop", "thin", "(LScaleShop$Feature;I)I"⟩, 13) := ⟨⟨by decide +kernel, by decide +kernel⟩, List.mem_of_getElem? (i := 23) (by decide +kernel), List.mem_of_getElem? (i := 471) (by decide +kernel), List.mem_of_getElem? (i := 472) (by decide +kernel)⟩
theorem lw_p8 : lw_okq (⟨"ScaleShop$Law", "leastArea", "(II)I"⟩, 6) := ⟨⟨by decide +kernel, by decide +kernel⟩, List.mem_of_getElem? (i := 49) (by decide +kernel), List.mem_of_getElem? (i := 494) (by decide +kernel), List.mem_of_getElem? (i := 495) (by decide +kernel)⟩
theorem lw_p9 : lw_okq (⟨"ScaleShop$Law", "isBare", "(LScaleShop$Sheet;LScaleShop$Feature;II)Z"⟩, 6) := ⟨⟨by decide +kernel, by decide +kernel⟩, List.mem_of_getElem? (i := 49) (by decide +kernel), List.mem_of_getElem? (i := 511) (by decide +kernel), List.mem_of_getElem? (i := 512) (by decide +kernel)⟩
theorem lw_p10 : lw_okq (⟨"ScaleShop$Law", "measureReach", "(LScaleShop$Row;I)V"⟩, 6) := ⟨⟨by decide +kernel, by decide +kernel⟩, List.mem_of_getElem? (i := 49) (by decide +kernel), List.mem_of_getElem? (i := 545) (by decide +kernel), List.mem_of_getElem? (i := 546) (by decide +kernel)⟩
theorem lw_p11 : lw_okq (⟨"ScaleShop$Law", "isAsBefore", "(LScaleShop$Row;LScaleShop$Row;I)Z"⟩, 6) := ⟨⟨by decide +kernel, by decide +kernel⟩, List.mem_of_getElem? (i := 49) (by decide +kernel), List.mem_of_getElem? (i := 578) (by decide +kernel), List.mem_of_getElem? (i := 579) (by decide +kernel)⟩
theorem lw_p12 : lw_okq (⟨"ScaleShop$Law", "holdsAsBefore", "(LScaleShop$Row;LScaleShop$Row;)Z"⟩, 6) := ⟨⟨by decide +kernel, by decide +kernel⟩, List.mem_of_getElem? (i := 49) (by decide +kernel), List.mem_of_getElem? (i := 586) (by decide +kernel), List.mem_of_getElem? (i := 587) (by decide +kernel)⟩
theorem lw_p13 : lw_okq (⟨"ScaleShop$Law", "isWayFree", "(LScaleShop$Row;LScaleShop$Row;)Z"⟩, 6) := ⟨⟨by decide +kernel, by decide +kernel⟩, List.mem_of_getElem? (i := 49) (by decide +kernel), List.mem_of_getElem? (i := 597) (by decide +kernel), List.mem_of_getElem? (i := 598) (by decide +kernel)⟩
theorem lw_p14 : lw_okq (⟨"ScaleShop$Law", "leadsTo", "(II)Z"⟩, 6) := ⟨⟨by decide +kernel, by decide +kernel⟩, List.mem_of_getElem? (i := 49) (by decide +kernel), List.mem_of_getElem? (i := 606) (by decide +kernel), List.mem_of_getElem? (i := 607) (by decide +kernel)⟩
theorem lw_p15 : lw_okq (⟨"ScaleShop$Law", "isSweptByMove", "(LScaleShop$Row;LScaleShop$Row;)Z"⟩, 6) := ⟨⟨by decide +kernel, by decide +kernel⟩, List.mem_of_getElem? (i := 49) (by decide +kernel), List.mem_of_getElem? (i := 611) (by decide +kernel), List.mem_of_getElem? (i := 612) (by decide +kernel)⟩
def lw_privs_1 : List (MethodName × Nat) := [(⟨"ScaleShop", "refuse", "(I)I"⟩, 13), (⟨"ScaleShop", "seal", "()Z"⟩, 13), (⟨"ScaleShop", "forgetUndone", "()V"⟩, 13), (⟨"java/util/ArrayList", "fastRemove", "([Ljava/lang/Object;I)V"⟩, 3), (⟨"ScaleShop", "deny", "(I)Z"⟩, 13), (⟨"ScaleShop$Row", "foldsBack", "(I)Z"⟩, 4), (⟨"ScaleShop$Row", "hasRightAngles", "()Z"⟩, 4), (⟨"ScaleShop", "thin", "(LScaleShop$Feature;I)I"⟩, 13), (⟨"ScaleShop$Law", "leastArea", "(II)I"⟩, 6), (⟨"ScaleShop$Law", "isBare", "(LScaleShop$Sheet;LScaleShop$Feature;II)Z"⟩, 6), (⟨"ScaleShop$Law", "measureReach", "(LScaleShop$Row;I)V"⟩, 6), (⟨"ScaleShop$Law", "isAsBefore", "(LScaleShop$Row;LScaleShop$Row;I)Z"⟩, 6), (⟨"ScaleShop$Law", "holdsAsBefore", "(LScaleShop$Row;LScaleShop$Row;)Z"⟩, 6), (⟨"ScaleShop$Law", "isWayFree", "(LScaleShop$Row;LScaleShop$Row;)Z"⟩, 6), (⟨"ScaleShop$Law", "leadsTo", "(II)Z"⟩, 6), (⟨"ScaleShop$Law", "isSweptByMove", "(LScaleShop$Row;LScaleShop$Row;)Z"⟩, 6)]
theorem lw_r1 : ∀ q ∈ lw_privs_1, lw_okq q := List.forall_mem_cons.mpr ⟨lw_p0, List.forall_mem_cons.mpr ⟨lw_p1, List.forall_mem_cons.mpr ⟨lw_p2, List.forall_mem_cons.mpr ⟨lw_p3, List.forall_mem_cons.mpr ⟨lw_p4, List.forall_mem_cons.mpr ⟨lw_p5, List.forall_mem_cons.mpr ⟨lw_p6, List.forall_mem_cons.mpr ⟨lw_p7, List.forall_mem_cons.mpr ⟨lw_p8, List.forall_mem_cons.mpr ⟨lw_p9, List.forall_mem_cons.mpr ⟨lw_p10, List.forall_mem_cons.mpr ⟨lw_p11, List.forall_mem_cons.mpr ⟨lw_p12, List.forall_mem_cons.mpr ⟨lw_p13, List.forall_mem_cons.mpr ⟨lw_p14, List.forall_mem_cons.mpr ⟨lw_p15, fun _ h => absurd h List.not_mem_nil⟩⟩⟩⟩⟩⟩⟩⟩⟩⟩⟩⟩⟩⟩⟩⟩
theorem lw_p16 : lw_okq (⟨"ScaleShop$Law", "setTriangle", "(LScaleShop$Row;ILScaleShop$Row;ILScaleShop$Row;I)V"⟩, 6) := ⟨⟨by decide +kernel, by decide +kernel⟩, List.mem_of_getElem? (i := 49) (by decide +kernel), List.mem_of_getElem? (i := 617) (by decide +kernel), List.mem_of_getElem? (i := 618) (by decide +kernel)⟩
theorem lw_p17 : lw_okq (⟨"ScaleShop$Law", "holdsCorner", "(LScaleShop$Row;LScaleShop$Row;ILScaleShop$Row;I)Z"⟩, 6) := ⟨⟨by decide +kernel, by decide +kernel⟩, List.mem_of_getElem? (i := 49) (by decide +kernel), List.mem_of_getElem? (i := 621) (by decide +kernel), List.mem_of_getElem? (i := 622) (by decide +kernel)⟩
theorem lw_p18 : lw_okq (⟨"ScaleShop$Law", "isSweptByCut", "(LScaleShop$Row;LScaleShop$Row;I)Z"⟩, 6) := ⟨⟨by decide +kernel, by decide +kernel⟩, List.mem_of_getElem? (i := 49) (by decide +kernel), List.mem_of_getElem? (i := 625) (by decide +kernel), List.mem_of_getElem? (i := 626) (by decide +kernel)⟩
theorem lw_p19 : lw_okq (⟨"ScaleShop$Feature", "keepFormer", "()V"⟩, 8) := ⟨⟨by decide +kernel, by decide +kernel⟩, List.mem_of_getElem? (i := 267) (by decide +kernel), List.mem_of_getElem? (i := 637) (by decide +kernel), List.mem_of_getElem? (i := 638) (by decide +kernel)⟩
theorem lw_p20 : lw_okq (⟨"ScaleShop", "book", "(IIILScaleShop$Feature;)Z"⟩, 13) := ⟨⟨by decide +kernel, by decide +kernel⟩, List.mem_of_getElem? (i := 23) (by decide +kernel), List.mem_of_getElem? (i := 656) (by decide +kernel), List.mem_of_getElem? (i := 657) (by decide +kernel)⟩
theorem lw_p21 : lw_okq (⟨"java/util/ArrayList", "add", "(Ljava/lang/Object;[Ljava/lang/Object;I)V"⟩, 3) := ⟨⟨by decide +kernel, by decide +kernel⟩, List.mem_of_getElem? (i := 185) (by decide +kernel), List.mem_of_getElem? (i := 714) (by decide +kernel), List.mem_of_getElem? (i := 715) (by decide +kernel)⟩
theorem lw_p22 : lw_okq (⟨"java/util/ArrayList", "grow", "()[Ljava/lang/Object;"⟩, 3) := ⟨⟨by decide +kernel, by decide +kernel⟩, List.mem_of_getElem? (i := 185) (by decide +kernel), List.mem_of_getElem? (i := 718) (by decide +kernel), List.mem_of_getElem? (i := 719) (by decide +kernel)⟩
theorem lw_p23 : lw_okq (⟨"java/util/ArrayList", "grow", "(I)[Ljava/lang/Object;"⟩, 3) := ⟨⟨by decide +kernel, by decide +kernel⟩, List.mem_of_getElem? (i := 185) (by decide +kernel), List.mem_of_getElem? (i := 722) (by decide +kernel), List.mem_of_getElem? (i := 723) (by decide +kernel)⟩
theorem lw_p24 : lw_okq (⟨"ScaleShop", "moveTo", "(LScaleShop$Feature;II)Z"⟩, 13) := ⟨⟨by decide +kernel, by decide +kernel⟩, List.mem_of_getElem? (i := 23) (by decide +kernel), List.mem_of_getElem? (i := 775) (by decide +kernel), List.mem_of_getElem? (i := 776) (by decide +kernel)⟩
theorem lw_p25 : lw_okq (⟨"ScaleShop$Fraction", "offerPart", "(IILScaleShop$Row;I)V"⟩, 2) := ⟨⟨by decide +kernel, by decide +kernel⟩, List.mem_of_getElem? (i := 170) (by decide +kernel), List.mem_of_getElem? (i := 846) (by decide +kernel), List.mem_of_getElem? (i := 847) (by decide +kernel)⟩
theorem lw_p26 : lw_okq (⟨"ScaleShop", "unite", "(LScaleShop$Feature;LScaleShop$Feature;II)I"⟩, 13) := ⟨⟨by decide +kernel, by decide +kernel⟩, List.mem_of_getElem? (i := 23) (by decide +kernel), List.mem_of_getElem? (i := 865) (by decide +kernel), List.mem_of_getElem? (i := 866) (by decide +kernel)⟩
theorem lw_p27 : lw_okq (⟨"ScaleShop", "isSmallHouse", "(II)Z"⟩, 13) := ⟨⟨by decide +kernel, by decide +kernel⟩, List.mem_of_getElem? (i := 23) (by decide +kernel), List.mem_of_getElem? (i := 882) (by decide +kernel), List.mem_of_getElem? (i := 883) (by decide +kernel)⟩
theorem lw_p28 : lw_okq (⟨"ScaleShop", "rankInTown", "(I)I"⟩, 13) := ⟨⟨by decide +kernel, by decide +kernel⟩, List.mem_of_getElem? (i := 23) (by decide +kernel), List.mem_of_getElem? (i := 891) (by decide +kernel), List.mem_of_getElem? (i := 892) (by decide +kernel)⟩
theorem lw_p29 : lw_okq (⟨"ScaleShop$Roads", "insert", "(LScaleShop$Feature;I)V"⟩, 6) := ⟨⟨by decide +kernel, by decide +kernel⟩, List.mem_of_getElem? (i := 142) (by decide +kernel), List.mem_of_getElem? (i := 909) (by decide +kernel), List.mem_of_getElem? (i := 910) (by decide +kernel)⟩
theorem lw_p30 : lw_okq (⟨"ScaleShop$Roads", "setEnd", "(III)V"⟩, 6) := ⟨⟨by decide +kernel, by decide +kernel⟩, List.mem_of_getElem? (i := 142) (by decide +kernel), List.mem_of_getElem? (i := 913) (by decide +kernel), List.mem_of_getElem? (i := 914) (by decide +kernel)⟩
theorem lw_p31 : lw_okq (⟨"ScaleShop$Roads", "uniteGroups", "(II)V"⟩, 6) := ⟨⟨by decide +kernel, by decide +kernel⟩, List.mem_of_getElem? (i := 142) (by decide +kernel), List.mem_of_getElem? (i := 921) (by decide +kernel), List.mem_of_getElem? (i := 922) (by decide +kernel)⟩
def lw_privs_2 : List (MethodName × Nat) := [(⟨"ScaleShop$Law", "setTriangle", "(LScaleShop$Row;ILScaleShop$Row;ILScaleShop$Row;I)V"⟩, 6), (⟨"ScaleShop$Law", "holdsCorner", "(LScaleShop$Row;LScaleShop$Row;ILScaleShop$Row;I)Z"⟩, 6), (⟨"ScaleShop$Law", "isSweptByCut", "(LScaleShop$Row;LScaleShop$Row;I)Z"⟩, 6), (⟨"ScaleShop$Feature", "keepFormer", "()V"⟩, 8), (⟨"ScaleShop", "book", "(IIILScaleShop$Feature;)Z"⟩, 13), (⟨"java/util/ArrayList", "add", "(Ljava/lang/Object;[Ljava/lang/Object;I)V"⟩, 3), (⟨"java/util/ArrayList", "grow", "()[Ljava/lang/Object;"⟩, 3), (⟨"java/util/ArrayList", "grow", "(I)[Ljava/lang/Object;"⟩, 3), (⟨"ScaleShop", "moveTo", "(LScaleShop$Feature;II)Z"⟩, 13), (⟨"ScaleShop$Fraction", "offerPart", "(IILScaleShop$Row;I)V"⟩, 2), (⟨"ScaleShop", "unite", "(LScaleShop$Feature;LScaleShop$Feature;II)I"⟩, 13), (⟨"ScaleShop", "isSmallHouse", "(II)Z"⟩, 13), (⟨"ScaleShop", "rankInTown", "(I)I"⟩, 13), (⟨"ScaleShop$Roads", "insert", "(LScaleShop$Feature;I)V"⟩, 6), (⟨"ScaleShop$Roads", "setEnd", "(III)V"⟩, 6), (⟨"ScaleShop$Roads", "uniteGroups", "(II)V"⟩, 6)]
theorem lw_r2 : ∀ q ∈ lw_privs_2, lw_okq q := List.forall_mem_cons.mpr ⟨lw_p16, List.forall_mem_cons.mpr ⟨lw_p17, List.forall_mem_cons.mpr ⟨lw_p18, List.forall_mem_cons.mpr ⟨lw_p19, List.forall_mem_cons.mpr ⟨lw_p20, List.forall_mem_cons.mpr ⟨lw_p21, List.forall_mem_cons.mpr ⟨lw_p22, List.forall_mem_cons.mpr ⟨lw_p23, List.forall_mem_cons.mpr ⟨lw_p24, List.forall_mem_cons.mpr ⟨lw_p25, List.forall_mem_cons.mpr ⟨lw_p26, List.forall_mem_cons.mpr ⟨lw_p27, List.forall_mem_cons.mpr ⟨lw_p28, List.forall_mem_cons.mpr ⟨lw_p29, List.forall_mem_cons.mpr ⟨lw_p30, List.forall_mem_cons.mpr ⟨lw_p31, fun _ h => absurd h List.not_mem_nil⟩⟩⟩⟩⟩⟩⟩⟩⟩⟩⟩⟩⟩⟩⟩⟩
theorem lw_p32 : lw_okq (⟨"ScaleShop", "nextClash", "(II)I"⟩, 13) := ⟨⟨by decide +kernel, by decide +kernel⟩, List.mem_of_getElem? (i := 23) (by decide +kernel), List.mem_of_getElem? (i := 989) (by decide +kernel), List.mem_of_getElem? (i := 990) (by decide +kernel)⟩
theorem lw_p33 : lw_okq (⟨"ScaleShop", "isClash", "(III)Z"⟩, 13) := ⟨⟨by decide +kernel, by decide +kernel⟩, List.mem_of_getElem? (i := 23) (by decide +kernel), List.mem_of_getElem? (i := 993) (by decide +kernel), List.mem_of_getElem? (i := 994) (by decide +kernel)⟩
theorem lw_p34 : lw_okq (⟨"ScaleShopModel", "refuse", "(I)I"⟩, 55) := ⟨⟨by decide +kernel, by decide +kernel⟩, List.mem_of_getElem? (i := 1056) (by decide +kernel), List.mem_of_getElem? (i := 1232) (by decide +kernel), List.mem_of_getElem? (i := 1233) (by decide +kernel)⟩
theorem lw_p35 : lw_okq (⟨"ScaleShopModel", "begin", "(IIIII)V"⟩, 55) := ⟨⟨by decide +kernel, by decide +kernel⟩, List.mem_of_getElem? (i := 1056) (by decide +kernel), List.mem_of_getElem? (i := 1236) (by decide +kernel), List.mem_of_getElem? (i := 1237) (by decide +kernel)⟩
theorem lw_p36 : lw_okq (⟨"ScaleShopModel", "settle", "()V"⟩, 55) := ⟨⟨by decide +kernel, by decide +kernel⟩, List.mem_of_getElem? (i := 1056) (by decide +kernel), List.mem_of_getElem? (i := 1240) (by decide +kernel), List.mem_of_getElem? (i := 1241) (by decide +kernel)⟩
theorem lw_p37 : lw_okq (⟨"ScaleShopModel", "isFeature", "(I)Z"⟩, 55) := ⟨⟨by decide +kernel, by decide +kernel⟩, List.mem_of_getElem? (i := 1056) (by decide +kernel), List.mem_of_getElem? (i := 1248) (by decide +kernel), List.mem_of_getElem? (i := 1249) (by decide +kernel)⟩
theorem lw_p38 : lw_okq (⟨"ScaleShopModel", "no", "(I)Z"⟩, 55) := ⟨⟨by decide +kernel, by decide +kernel⟩, List.mem_of_getElem? (i := 1056) (by decide +kernel), List.mem_of_getElem? (i := 1256) (by decide +kernel), List.mem_of_getElem? (i := 1257) (by decide +kernel)⟩
theorem lw_p39 : lw_okq (⟨"ScaleShopModel", "isSimple", "(I)Z"⟩, 55) := ⟨⟨by decide +kernel, by decide +kernel⟩, List.mem_of_getElem? (i := 1056) (by decide +kernel), List.mem_of_getElem? (i := 1264) (by decide +kernel), List.mem_of_getElem? (i := 1265) (by decide +kernel)⟩
theorem lw_p40 : lw_okq (⟨"ScaleShopModel", "isRing", "(I)Z"⟩, 55) := ⟨⟨by decide +kernel, by decide +kernel⟩, List.mem_of_getElem? (i := 1056) (by decide +kernel), List.mem_of_getElem? (i := 1268) (by decide +kernel), List.mem_of_getElem? (i := 1269) (by decide +kernel)⟩
theorem lw_p41 : lw_okq (⟨"ScaleShopModel", "edgesOf", "(I)I"⟩, 55) := ⟨⟨by decide +kernel, by decide +kernel⟩, List.mem_of_getElem? (i := 1056) (by decide +kernel), List.mem_of_getElem? (i := 1272) (by decide +kernel), List.mem_of_getElem? (i := 1273) (by decide +kernel)⟩
theorem lw_p42 : lw_okq (⟨"ScaleShopModel", "edge", "(III)V"⟩, 55) := ⟨⟨by decide +kernel, by decide +kernel⟩, List.mem_of_getElem? (i := 1056) (by decide +kernel), List.mem_of_getElem? (i := 1276) (by decide +kernel), List.mem_of_getElem? (i := 1277) (by decide +kernel)⟩
theorem lw_p43 : lw_okq (⟨"ScaleShopModel", "folds", "(III)Z"⟩, 55) := ⟨⟨by decide +kernel, by decide +kernel⟩, List.mem_of_getElem? (i := 1056) (by decide +kernel), List.mem_of_getElem? (i := 1280) (by decide +kernel), List.mem_of_getElem? (i := 1281) (by decide +kernel)⟩
theorem lw_p44 : lw_okq (⟨"ScaleShopModel", "meetsEdge", "(III)Z"⟩, 55) := ⟨⟨by decide +kernel, by decide +kernel⟩, List.mem_of_getElem? (i := 1056) (by decide +kernel), List.mem_of_getElem? (i := 1287) (by decide +kernel), List.mem_of_getElem? (i := 1288) (by decide +kernel)⟩
theorem lw_p45 : lw_okq (⟨"ScaleShopModel", "isSquare", "(I)Z"⟩, 55) := ⟨⟨by decide +kernel, by decide +kernel⟩, List.mem_of_getElem? (i := 1056) (by decide +kernel), List.mem_of_getElem? (i := 1302) (by decide +kernel), List.mem_of_getElem? (i := 1303) (by decide +kernel)⟩
theorem lw_p46 : lw_okq (⟨"ScaleShopModel", "wrong", "(I)I"⟩, 55) := ⟨⟨by decide +kernel, by decide +kernel⟩, List.mem_of_getElem? (i := 1056) (by decide +kernel), List.mem_of_getElem? (i := 1310) (by decide +kernel), List.mem_of_getElem? (i := 1311) (by decide +kernel)⟩
theorem lw_p47 : lw_okq (⟨"ScaleShopModel", "isPlainable", "(I)Z"⟩, 55) := ⟨⟨by decide +kernel, by decide +kernel⟩, List.mem_of_getElem? (i := 1056) (by decide +kernel), List.mem_of_getElem? (i := 1314) (by decide +kernel), List.mem_of_getElem? (i := 1315) (by decide +kernel)⟩
def lw_privs_3 : List (MethodName × Nat) := [(⟨"ScaleShop", "nextClash", "(II)I"⟩, 13), (⟨"ScaleShop", "isClash", "(III)Z"⟩, 13), (⟨"ScaleShopModel", "refuse", "(I)I"⟩, 55), (⟨"ScaleShopModel", "begin", "(IIIII)V"⟩, 55), (⟨"ScaleShopModel", "settle", "()V"⟩, 55), (⟨"ScaleShopModel", "isFeature", "(I)Z"⟩, 55), (⟨"ScaleShopModel", "no", "(I)Z"⟩, 55), (⟨"ScaleShopModel", "isSimple", "(I)Z"⟩, 55), (⟨"ScaleShopModel", "isRing", "(I)Z"⟩, 55), (⟨"ScaleShopModel", "edgesOf", "(I)I"⟩, 55), (⟨"ScaleShopModel", "edge", "(III)V"⟩, 55), (⟨"ScaleShopModel", "folds", "(III)Z"⟩, 55), (⟨"ScaleShopModel", "meetsEdge", "(III)Z"⟩, 55), (⟨"ScaleShopModel", "isSquare", "(I)Z"⟩, 55), (⟨"ScaleShopModel", "wrong", "(I)I"⟩, 55), (⟨"ScaleShopModel", "isPlainable", "(I)Z"⟩, 55)]
theorem lw_r3 : ∀ q ∈ lw_privs_3, lw_okq q := List.forall_mem_cons.mpr ⟨lw_p32, List.forall_mem_cons.mpr ⟨lw_p33, List.forall_mem_cons.mpr ⟨lw_p34, List.forall_mem_cons.mpr ⟨lw_p35, List.forall_mem_cons.mpr ⟨lw_p36, List.forall_mem_cons.mpr ⟨lw_p37, List.forall_mem_cons.mpr ⟨lw_p38, List.forall_mem_cons.mpr ⟨lw_p39, List.forall_mem_cons.mpr ⟨lw_p40, List.forall_mem_cons.mpr ⟨lw_p41, List.forall_mem_cons.mpr ⟨lw_p42, List.forall_mem_cons.mpr ⟨lw_p43, List.forall_mem_cons.mpr ⟨lw_p44, List.forall_mem_cons.mpr ⟨lw_p45, List.forall_mem_cons.mpr ⟨lw_p46, List.forall_mem_cons.mpr ⟨lw_p47, fun _ h => absurd h List.not_mem_nil⟩⟩⟩⟩⟩⟩⟩⟩⟩⟩⟩⟩⟩⟩⟩⟩
theorem lw_p48 : lw_okq (⟨"ScaleShopModel", "tell", "(III)I"⟩, 55) := ⟨⟨by decide +kernel, by decide +kernel⟩, List.mem_of_getElem? (i := 1056) (by decide +kernel), List.mem_of_getElem? (i := 1318) (by decide +kernel), List.mem_of_getElem? (i := 1319) (by decide +kernel)⟩
theorem lw_p49 : lw_okq (⟨"ScaleShopModel", "begins", "()V"⟩, 55) := ⟨⟨by decide +kernel, by decide +kernel⟩, List.mem_of_getElem? (i := 1056) (by decide +kernel), List.mem_of_getElem? (i := 1322) (by decide +kernel), List.mem_of_getElem? (i := 1323) (by decide +kernel)⟩
theorem lw_p50 : lw_okq (⟨"ScaleShopModel", "keep", "(I)V"⟩, 55) := ⟨⟨by decide +kernel, by decide +kernel⟩, List.mem_of_getElem? (i := 1056) (by decide +kernel), List.mem_of_getElem? (i := 1326) (by decide +kernel), List.mem_of_getElem? (i := 1327) (by decide +kernel)⟩
theorem lw_p51 : lw_okq (⟨"ScaleShopModel", "write", "(I)V"⟩, 55) := ⟨⟨by decide +kernel, by decide +kernel⟩, List.mem_of_getElem? (i := 1056) (by decide +kernel), List.mem_of_getElem? (i := 1330) (by decide +kernel), List.mem_of_getElem? (i := 1331) (by decide +kernel)⟩
theorem lw_p52 : lw_okq (⟨"ScaleShopModel", "plainAll", "(III)I"⟩, 55) := ⟨⟨by decide +kernel, by decide +kernel⟩, List.mem_of_getElem? (i := 1056) (by decide +kernel), List.mem_of_getElem? (i := 1334) (by decide +kernel), List.mem_of_getElem? (i := 1335) (by decide +kernel)⟩
theorem lw_p53 : lw_okq (⟨"ScaleShopModel", "plain", "(IJI)Z"⟩, 55) := ⟨⟨by decide +kernel, by decide +kernel⟩, List.mem_of_getElem? (i := 1056) (by decide +kernel), List.mem_of_getElem? (i := 1338) (by decide +kernel), List.mem_of_getElem? (i := 1339) (by decide +kernel)⟩
theorem lw_p54 : lw_okq (⟨"ScaleShopModel", "mayGo", "(II)Z"⟩, 55) := ⟨⟨by decide +kernel, by decide +kernel⟩, List.mem_of_getElem? (i := 1056) (by decide +kernel), List.mem_of_getElem? (i := 1342) (by decide +kernel), List.mem_of_getElem? (i := 1343) (by decide +kernel)⟩
theorem lw_p55 : lw_okq (⟨"ScaleShopModel", "isHeld", "(III)Z"⟩, 55) := ⟨⟨by decide +kernel, by decide +kernel⟩, List.mem_of_getElem? (i := 1056) (by decide +kernel), List.mem_of_getElem? (i := 1346) (by decide +kernel), List.mem_of_getElem? (i := 1347) (by decide +kernel)⟩
theorem lw_p56 : lw_okq (⟨"ScaleShopModel", "is", "(I)Z"⟩, 55) := ⟨⟨by decide +kernel, by decide +kernel⟩, List.mem_of_getElem? (i := 1056) (by decide +kernel), List.mem_of_getElem? (i := 1350) (by decide +kernel), List.mem_of_getElem? (i := 1351) (by decide +kernel)⟩
theorem lw_p57 : lw_okq (⟨"ScaleShopModel", "isOnSet", "(III)Z"⟩, 55) := ⟨⟨by decide +kernel, by decide +kernel⟩, List.mem_of_getElem? (i := 1056) (by decide +kernel), List.mem_of_getElem? (i := 1354) (by decide +kernel), List.mem_of_getElem? (i := 1355) (by decide +kernel)⟩
theorem lw_p58 : lw_okq (⟨"ScaleShopModel", "triangle", "(II)J"⟩, 55) := ⟨⟨by decide +kernel, by decide +kernel⟩, List.mem_of_getElem? (i := 1056) (by decide +kernel), List.mem_of_getElem? (i := 1358) (by decide +kernel), List.mem_of_getElem? (i := 1359) (by decide +kernel)⟩
theorem lw_p59 : lw_okq (⟨"ScaleShopModel", "goes", "(II)Z"⟩, 55) := ⟨⟨by decide +kernel, by decide +kernel⟩, List.mem_of_getElem? (i := 1056) (by decide +kernel), List.mem_of_getElem? (i := 1362) (by decide +kernel), List.mem_of_getElem? (i := 1363) (by decide +kernel)⟩
theorem lw_p60 : lw_okq (⟨"ScaleShopModel", "remember", "(I)V"⟩, 55) := ⟨⟨by decide +kernel, by decide +kernel⟩, List.mem_of_getElem? (i := 1056) (by decide +kernel), List.mem_of_getElem? (i := 1366) (by decide +kernel), List.mem_of_getElem? (i := 1367) (by decide +kernel)⟩
theorem lw_p61 : lw_okq (⟨"ScaleShopModel", "isMet", "(II)Z"⟩, 55) := ⟨⟨by decide +kernel, by decide +kernel⟩, List.mem_of_getElem? (i := 1056) (by decide +kernel), List.mem_of_getElem? (i := 1370) (by decide +kernel), List.mem_of_getElem? (i := 1371) (by decide +kernel)⟩
theorem lw_p62 : lw_okq (⟨"ScaleShopModel", "isInside", "(III)Z"⟩, 55) := ⟨⟨by decide +kernel, by decide +kernel⟩, List.mem_of_getElem? (i := 1056) (by decide +kernel), List.mem_of_getElem? (i := 1374) (by decide +kernel), List.mem_of_getElem? (i := 1375) (by decide +kernel)⟩
theorem lw_p63 : lw_okq (⟨"ScaleShopModel", "isLawful", "(III)Z"⟩, 55) := ⟨⟨by decide +kernel, by decide +kernel⟩, List.mem_of_getElem? (i := 1056) (by decide +kernel), List.mem_of_getElem? (i := 1378) (by decide +kernel), List.mem_of_getElem? (i := 1379) (by decide +kernel)⟩
def lw_privs_4 : List (MethodName × Nat) := [(⟨"ScaleShopModel", "tell", "(III)I"⟩, 55), (⟨"ScaleShopModel", "begins", "()V"⟩, 55), (⟨"ScaleShopModel", "keep", "(I)V"⟩, 55), (⟨"ScaleShopModel", "write", "(I)V"⟩, 55), (⟨"ScaleShopModel", "plainAll", "(III)I"⟩, 55), (⟨"ScaleShopModel", "plain", "(IJI)Z"⟩, 55), (⟨"ScaleShopModel", "mayGo", "(II)Z"⟩, 55), (⟨"ScaleShopModel", "isHeld", "(III)Z"⟩, 55), (⟨"ScaleShopModel", "is", "(I)Z"⟩, 55), (⟨"ScaleShopModel", "isOnSet", "(III)Z"⟩, 55), (⟨"ScaleShopModel", "triangle", "(II)J"⟩, 55), (⟨"ScaleShopModel", "goes", "(II)Z"⟩, 55), (⟨"ScaleShopModel", "remember", "(I)V"⟩, 55), (⟨"ScaleShopModel", "isMet", "(II)Z"⟩, 55), (⟨"ScaleShopModel", "isInside", "(III)Z"⟩, 55), (⟨"ScaleShopModel", "isLawful", "(III)Z"⟩, 55)]
theorem lw_r4 : ∀ q ∈ lw_privs_4, lw_okq q := List.forall_mem_cons.mpr ⟨lw_p48, List.forall_mem_cons.mpr ⟨lw_p49, List.forall_mem_cons.mpr ⟨lw_p50, List.forall_mem_cons.mpr ⟨lw_p51, List.forall_mem_cons.mpr ⟨lw_p52, List.forall_mem_cons.mpr ⟨lw_p53, List.forall_mem_cons.mpr ⟨lw_p54, List.forall_mem_cons.mpr ⟨lw_p55, List.forall_mem_cons.mpr ⟨lw_p56, List.forall_mem_cons.mpr ⟨lw_p57, List.forall_mem_cons.mpr ⟨lw_p58, List.forall_mem_cons.mpr ⟨lw_p59, List.forall_mem_cons.mpr ⟨lw_p60, List.forall_mem_cons.mpr ⟨lw_p61, List.forall_mem_cons.mpr ⟨lw_p62, List.forall_mem_cons.mpr ⟨lw_p63, fun _ h => absurd h List.not_mem_nil⟩⟩⟩⟩⟩⟩⟩⟩⟩⟩⟩⟩⟩⟩⟩⟩
theorem lw_p64 : lw_okq (⟨"ScaleShopModel", "arePlaces", "(I)Z"⟩, 55) := ⟨⟨by decide +kernel, by decide +kernel⟩, List.mem_of_getElem? (i := 1056) (by decide +kernel), List.mem_of_getElem? (i := 1382) (by decide +kernel), List.mem_of_getElem? (i := 1383) (by decide +kernel)⟩
theorem lw_p65 : lw_okq (⟨"ScaleShopModel", "isLawfulTo", "(IIII)Z"⟩, 55) := ⟨⟨by decide +kernel, by decide +kernel⟩, List.mem_of_getElem? (i := 1056) (by decide +kernel), List.mem_of_getElem? (i := 1386) (by decide +kernel), List.mem_of_getElem? (i := 1387) (by decide +kernel)⟩
theorem lw_p66 : lw_okq (⟨"ScaleShopModel", "isSweptBy", "(III)Z"⟩, 55) := ⟨⟨by decide +kernel, by decide +kernel⟩, List.mem_of_getElem? (i := 1056) (by decide +kernel), List.mem_of_getElem? (i := 1390) (by decide +kernel), List.mem_of_getElem? (i := 1391) (by decide +kernel)⟩
theorem lw_p67 : lw_okq (⟨"ScaleShopModel", "isSwept", "(III)Z"⟩, 55) := ⟨⟨by decide +kernel, by decide +kernel⟩, List.mem_of_getElem? (i := 1056) (by decide +kernel), List.mem_of_getElem? (i := 1397) (by decide +kernel), List.mem_of_getElem? (i := 1398) (by decide +kernel)⟩
theorem lw_p68 : lw_okq (⟨"ScaleShopModel", "take", "(I)V"⟩, 55) := ⟨⟨by decide +kernel, by decide +kernel⟩, List.mem_of_getElem? (i := 1056) (by decide +kernel), List.mem_of_getElem? (i := 1401) (by decide +kernel), List.mem_of_getElem? (i := 1402) (by decide +kernel)⟩
theorem lw_p69 : lw_okq (⟨"ScaleShopModel", "isThree", "(IIIIIII)Z"⟩, 55) := ⟨⟨by decide +kernel, by decide +kernel⟩, List.mem_of_getElem? (i := 1056) (by decide +kernel), List.mem_of_getElem? (i := 1405) (by decide +kernel), List.mem_of_getElem? (i := 1406) (by decide +kernel)⟩
theorem lw_p70 : lw_okq (⟨"ScaleShopModel", "isFreeWay", "(II)Z"⟩, 55) := ⟨⟨by decide +kernel, by decide +kernel⟩, List.mem_of_getElem? (i := 1056) (by decide +kernel), List.mem_of_getElem? (i := 1409) (by decide +kernel), List.mem_of_getElem? (i := 1410) (by decide +kernel)⟩
theorem lw_p71 : lw_okq (⟨"ScaleShopModel", "isOnlyAt", "(II)Z"⟩, 55) := ⟨⟨by decide +kernel, by decide +kernel⟩, List.mem_of_getElem? (i := 1056) (by decide +kernel), List.mem_of_getElem? (i := 1413) (by decide +kernel), List.mem_of_getElem? (i := 1414) (by decide +kernel)⟩
theorem lw_p72 : lw_okq (⟨"ScaleShopModel", "isAhead", "(IIII)Z"⟩, 55) := ⟨⟨by decide +kernel, by decide +kernel⟩, List.mem_of_getElem? (i := 1056) (by decide +kernel), List.mem_of_getElem? (i := 1417) (by decide +kernel), List.mem_of_getElem? (i := 1418) (by decide +kernel)⟩
theorem lw_p73 : lw_okq (⟨"ScaleShopModel", "forgetNew", "(I)V"⟩, 55) := ⟨⟨by decide +kernel, by decide +kernel⟩, List.mem_of_getElem? (i := 1056) (by decide +kernel), List.mem_of_getElem? (i := 1421) (by decide +kernel), List.mem_of_getElem? (i := 1422) (by decide +kernel)⟩
theorem lw_p74 : lw_okq (⟨"ScaleShopModel", "lose", "(IIII)V"⟩, 55) := ⟨⟨by decide +kernel, by decide +kernel⟩, List.mem_of_getElem? (i := 1056) (by decide +kernel), List.mem_of_getElem? (i := 1425) (by decide +kernel), List.mem_of_getElem? (i := 1426) (by decide +kernel)⟩
theorem lw_p75 : lw_okq (⟨"ScaleShopModel", "squeeze", "(I)V"⟩, 55) := ⟨⟨by decide +kernel, by decide +kernel⟩, List.mem_of_getElem? (i := 1056) (by decide +kernel), List.mem_of_getElem? (i := 1429) (by decide +kernel), List.mem_of_getElem? (i := 1430) (by decide +kernel)⟩
theorem lw_p76 : lw_okq (⟨"ScaleShopModel", "ends", "(III)I"⟩, 55) := ⟨⟨by decide +kernel, by decide +kernel⟩, List.mem_of_getElem? (i := 1056) (by decide +kernel), List.mem_of_getElem? (i := 1433) (by decide +kernel), List.mem_of_getElem? (i := 1434) (by decide +kernel)⟩
theorem lw_p77 : lw_okq (⟨"ScaleShopModel", "moves", "(I)Z"⟩, 55) := ⟨⟨by decide +kernel, by decide +kernel⟩, List.mem_of_getElem? (i := 1056) (by decide +kernel), List.mem_of_getElem? (i := 1445) (by decide +kernel), List.mem_of_getElem? (i := 1446) (by decide +kernel)⟩
theorem lw_p78 : lw_okq (⟨"ScaleShopModel", "changes", "(II)Z"⟩, 55) := ⟨⟨by decide +kernel, by decide +kernel⟩, List.mem_of_getElem? (i := 1056) (by decide +kernel), List.mem_of_getElem? (i := 1449) (by decide +kernel), List.mem_of_getElem? (i := 1450) (by decide +kernel)⟩
theorem lw_p79 : lw_okq (⟨"ScaleShopModel", "give", "(I)V"⟩, 55) := ⟨⟨by decide +kernel, by decide +kernel⟩, List.mem_of_getElem? (i := 1056) (by decide +kernel), List.mem_of_getElem? (i := 1453) (by decide +kernel), List.mem_of_getElem? (i := 1454) (by decide +kernel)⟩
def lw_privs_5 : List (MethodName × Nat) := [(⟨"ScaleShopModel", "arePlaces", "(I)Z"⟩, 55), (⟨"ScaleShopModel", "isLawfulTo", "(IIII)Z"⟩, 55), (⟨"ScaleShopModel", "isSweptBy", "(III)Z"⟩, 55), (⟨"ScaleShopModel", "isSwept", "(III)Z"⟩, 55), (⟨"ScaleShopModel", "take", "(I)V"⟩, 55), (⟨"ScaleShopModel", "isThree", "(IIIIIII)Z"⟩, 55), (⟨"ScaleShopModel", "isFreeWay", "(II)Z"⟩, 55), (⟨"ScaleShopModel", "isOnlyAt", "(II)Z"⟩, 55), (⟨"ScaleShopModel", "isAhead", "(IIII)Z"⟩, 55), (⟨"ScaleShopModel", "forgetNew", "(I)V"⟩, 55), (⟨"ScaleShopModel", "lose", "(IIII)V"⟩, 55), (⟨"ScaleShopModel", "squeeze", "(I)V"⟩, 55), (⟨"ScaleShopModel", "ends", "(III)I"⟩, 55), (⟨"ScaleShopModel", "moves", "(I)Z"⟩, 55), (⟨"ScaleShopModel", "changes", "(II)Z"⟩, 55), (⟨"ScaleShopModel", "give", "(I)V"⟩, 55)]
theorem lw_r5 : ∀ q ∈ lw_privs_5, lw_okq q := List.forall_mem_cons.mpr ⟨lw_p64, List.forall_mem_cons.mpr ⟨lw_p65, List.forall_mem_cons.mpr ⟨lw_p66, List.forall_mem_cons.mpr ⟨lw_p67, List.forall_mem_cons.mpr ⟨lw_p68, List.forall_mem_cons.mpr ⟨lw_p69, List.forall_mem_cons.mpr ⟨lw_p70, List.forall_mem_cons.mpr ⟨lw_p71, List.forall_mem_cons.mpr ⟨lw_p72, List.forall_mem_cons.mpr ⟨lw_p73, List.forall_mem_cons.mpr ⟨lw_p74, List.forall_mem_cons.mpr ⟨lw_p75, List.forall_mem_cons.mpr ⟨lw_p76, List.forall_mem_cons.mpr ⟨lw_p77, List.forall_mem_cons.mpr ⟨lw_p78, List.forall_mem_cons.mpr ⟨lw_p79, fun _ h => absurd h List.not_mem_nil⟩⟩⟩⟩⟩⟩⟩⟩⟩⟩⟩⟩⟩⟩⟩⟩
theorem lw_p80 : lw_okq (⟨"ScaleShopModel", "wayOf", "(III)I"⟩, 55) := ⟨⟨by decide +kernel, by decide +kernel⟩, List.mem_of_getElem? (i := 1056) (by decide +kernel), List.mem_of_getElem? (i := 1461) (by decide +kernel), List.mem_of_getElem? (i := 1462) (by decide +kernel)⟩
theorem lw_p81 : lw_okq (⟨"ScaleShopModel", "box", "(IZ)V"⟩, 55) := ⟨⟨by decide +kernel, by decide +kernel⟩, List.mem_of_getElem? (i := 1056) (by decide +kernel), List.mem_of_getElem? (i := 1474) (by decide +kernel), List.mem_of_getElem? (i := 1475) (by decide +kernel)⟩
theorem lw_p82 : lw_okq (⟨"ScaleShopModel", "area", "(I)J"⟩, 55) := ⟨⟨by decide +kernel, by decide +kernel⟩, List.mem_of_getElem? (i := 1056) (by decide +kernel), List.mem_of_getElem? (i := 1479) (by decide +kernel), List.mem_of_getElem? (i := 1480) (by decide +kernel)⟩
theorem lw_p83 : lw_okq (⟨"ScaleShopModel", "layBox", "(I)V"⟩, 55) := ⟨⟨by decide +kernel, by decide +kernel⟩, List.mem_of_getElem? (i := 1056) (by decide +kernel), List.mem_of_getElem? (i := 1483) (by decide +kernel), List.mem_of_getElem? (i := 1484) (by decide +kernel)⟩
theorem lw_p84 : lw_okq (⟨"ScaleShopModel", "distance", "(II)V"⟩, 55) := ⟨⟨by decide +kernel, by decide +kernel⟩, List.mem_of_getElem? (i := 1056) (by decide +kernel), List.mem_of_getElem? (i := 1491) (by decide +kernel), List.mem_of_getElem? (i := 1492) (by decide +kernel)⟩
theorem lw_p85 : lw_okq (⟨"ScaleShopModel", "nearer", "([IIII)V"⟩, 55) := ⟨⟨by decide +kernel, by decide +kernel⟩, List.mem_of_getElem? (i := 1056) (by decide +kernel), List.mem_of_getElem? (i := 1495) (by decide +kernel), List.mem_of_getElem? (i := 1496) (by decide +kernel)⟩
theorem lw_p86 : lw_okq (⟨"ScaleShopModel", "isLess", "(JJJJ)Z"⟩, 55) := ⟨⟨by decide +kernel, by decide +kernel⟩, List.mem_of_getElem? (i := 1056) (by decide +kernel), List.mem_of_getElem? (i := 1499) (by decide +kernel), List.mem_of_getElem? (i := 1500) (by decide +kernel)⟩
theorem lw_p87 : lw_okq (⟨"ScaleShopModel", "plainFraction", "()V"⟩, 55) := ⟨⟨by decide +kernel, by decide +kernel⟩, List.mem_of_getElem? (i := 1056) (by decide +kernel), List.mem_of_getElem? (i := 1503) (by decide +kernel), List.mem_of_getElem? (i := 1504) (by decide +kernel)⟩
theorem lw_p88 : lw_okq (⟨"ScaleShopModel", "gone", "(II)V"⟩, 55) := ⟨⟨by decide +kernel, by decide +kernel⟩, List.mem_of_getElem? (i := 1056) (by decide +kernel), List.mem_of_getElem? (i := 1507) (by decide +kernel), List.mem_of_getElem? (i := 1508) (by decide +kernel)⟩
theorem lw_p89 : lw_okq (⟨"ScaleShopModel", "isSmall", "(II)Z"⟩, 55) := ⟨⟨by decide +kernel, by decide +kernel⟩, List.mem_of_getElem? (i := 1056) (by decide +kernel), List.mem_of_getElem? (i := 1519) (by decide +kernel), List.mem_of_getElem? (i := 1520) (by decide +kernel)⟩
theorem lw_p90 : lw_okq (⟨"ScaleShopModel", "dropMarked", "(I)I"⟩, 55) := ⟨⟨by decide +kernel, by decide +kernel⟩, List.mem_of_getElem? (i := 1056) (by decide +kernel), List.mem_of_getElem? (i := 1524) (by decide +kernel), List.mem_of_getElem? (i := 1525) (by decide +kernel)⟩
theorem lw_p91 : lw_okq (⟨"ScaleShopModel", "isRoad", "(I)Z"⟩, 55) := ⟨⟨by decide +kernel, by decide +kernel⟩, List.mem_of_getElem? (i := 1056) (by decide +kernel), List.mem_of_getElem? (i := 1532) (by decide +kernel), List.mem_of_getElem? (i := 1533) (by decide +kernel)⟩
theorem lw_p92 : lw_okq (⟨"ScaleShopModel", "weight", "(I)J"⟩, 55) := ⟨⟨by decide +kernel, by decide +kernel⟩, List.mem_of_getElem? (i := 1056) (by decide +kernel), List.mem_of_getElem? (i := 1536) (by decide +kernel), List.mem_of_getElem? (i := 1537) (by decide +kernel)⟩
theorem lw_p93 : lw_okq (⟨"ScaleShopModel", "lengthOf", "(I)J"⟩, 55) := ⟨⟨by decide +kernel, by decide +kernel⟩, List.mem_of_getElem? (i := 1056) (by decide +kernel), List.mem_of_getElem? (i := 1540) (by decide +kernel), List.mem_of_getElem? (i := 1541) (by decide +kernel)⟩
theorem lw_p94 : lw_okq (⟨"ScaleShopModel", "placeOf", "(II)I"⟩, 55) := ⟨⟨by decide +kernel, by decide +kernel⟩, List.mem_of_getElem? (i := 1056) (by decide +kernel), List.mem_of_getElem? (i := 1544) (by decide +kernel), List.mem_of_getElem? (i := 1545) (by decide +kernel)⟩
theorem lw_p95 : lw_okq (⟨"ScaleShopModel", "restore", "(I)V"⟩, 55) := ⟨⟨by decide +kernel, by decide +kernel⟩, List.mem_of_getElem? (i := 1056) (by decide +kernel), List.mem_of_getElem? (i := 1552) (by decide +kernel), List.mem_of_getElem? (i := 1553) (by decide +kernel)⟩
def lw_privs_6 : List (MethodName × Nat) := [(⟨"ScaleShopModel", "wayOf", "(III)I"⟩, 55), (⟨"ScaleShopModel", "box", "(IZ)V"⟩, 55), (⟨"ScaleShopModel", "area", "(I)J"⟩, 55), (⟨"ScaleShopModel", "layBox", "(I)V"⟩, 55), (⟨"ScaleShopModel", "distance", "(II)V"⟩, 55), (⟨"ScaleShopModel", "nearer", "([IIII)V"⟩, 55), (⟨"ScaleShopModel", "isLess", "(JJJJ)Z"⟩, 55), (⟨"ScaleShopModel", "plainFraction", "()V"⟩, 55), (⟨"ScaleShopModel", "gone", "(II)V"⟩, 55), (⟨"ScaleShopModel", "isSmall", "(II)Z"⟩, 55), (⟨"ScaleShopModel", "dropMarked", "(I)I"⟩, 55), (⟨"ScaleShopModel", "isRoad", "(I)Z"⟩, 55), (⟨"ScaleShopModel", "weight", "(I)J"⟩, 55), (⟨"ScaleShopModel", "lengthOf", "(I)J"⟩, 55), (⟨"ScaleShopModel", "placeOf", "(II)I"⟩, 55), (⟨"ScaleShopModel", "restore", "(I)V"⟩, 55)]
theorem lw_r6 : ∀ q ∈ lw_privs_6, lw_okq q := List.forall_mem_cons.mpr ⟨lw_p80, List.forall_mem_cons.mpr ⟨lw_p81, List.forall_mem_cons.mpr ⟨lw_p82, List.forall_mem_cons.mpr ⟨lw_p83, List.forall_mem_cons.mpr ⟨lw_p84, List.forall_mem_cons.mpr ⟨lw_p85, List.forall_mem_cons.mpr ⟨lw_p86, List.forall_mem_cons.mpr ⟨lw_p87, List.forall_mem_cons.mpr ⟨lw_p88, List.forall_mem_cons.mpr ⟨lw_p89, List.forall_mem_cons.mpr ⟨lw_p90, List.forall_mem_cons.mpr ⟨lw_p91, List.forall_mem_cons.mpr ⟨lw_p92, List.forall_mem_cons.mpr ⟨lw_p93, List.forall_mem_cons.mpr ⟨lw_p94, List.forall_mem_cons.mpr ⟨lw_p95, fun _ h => absurd h List.not_mem_nil⟩⟩⟩⟩⟩⟩⟩⟩⟩⟩⟩⟩⟩⟩⟩⟩
theorem lw_p96 : lw_okq (⟨"ScaleShopModel", "next", "()I"⟩, 55) := ⟨⟨by decide +kernel, by decide +kernel⟩, List.mem_of_getElem? (i := 1056) (by decide +kernel), List.mem_of_getElem? (i := 1556) (by decide +kernel), List.mem_of_getElem? (i := 1557) (by decide +kernel)⟩
theorem lw_p97 : lw_okq (⟨"ScaleShopModel", "isClash", "(III)Z"⟩, 55) := ⟨⟨by decide +kernel, by decide +kernel⟩, List.mem_of_getElem? (i := 1056) (by decide +kernel), List.mem_of_getElem? (i := 1584) (by decide +kernel), List.mem_of_getElem? (i := 1585) (by decide +kernel)⟩
def lw_privs_7 : List (MethodName × Nat) := [(⟨"ScaleShopModel", "next", "()I"⟩, 55), (⟨"ScaleShopModel", "isClash", "(III)Z"⟩, 55)]
theorem lw_r7 : ∀ q ∈ lw_privs_7, lw_okq q := List.forall_mem_cons.mpr ⟨lw_p96, List.forall_mem_cons.mpr ⟨lw_p97, fun _ h => absurd h List.not_mem_nil⟩⟩
def lw_privs : List (MethodName × Nat) := lw_privs_1 ++ (lw_privs_2 ++ (lw_privs_3 ++ (lw_privs_4 ++ (lw_privs_5 ++ (lw_privs_6 ++ (lw_privs_7))))))
def lw_tbl : List Cond := k2_sels lw_privs ++ tables_1
theorem lw_privs_ok : ∀ q ∈ lw_privs, lw_okq q := by
  show ∀ q ∈ lw_privs_1 ++ (lw_privs_2 ++ (lw_privs_3 ++ (lw_privs_4 ++ (lw_privs_5 ++ (lw_privs_6 ++ (lw_privs_7)))))), lw_okq q
  exact List.forall_mem_append.mpr ⟨lw_r1, List.forall_mem_append.mpr ⟨lw_r2, List.forall_mem_append.mpr ⟨lw_r3, List.forall_mem_append.mpr ⟨lw_r4, List.forall_mem_append.mpr ⟨lw_r5, List.forall_mem_append.mpr ⟨lw_r6, lw_r7⟩⟩⟩⟩⟩⟩
-- ===== end of PART A; then your names; then what follows =====
end
section
/-! the words: those of the tables that a contract may carry; and the calls' own end -/
def ws0 : List Cond := lw_tbl.filter goodWord
theorem zz_m {w : Cond} (i : Nat) (h : lw_tbl[i]? = some w) (g : goodWord w = true) : w ∈ ws0 := List.mem_filter.mpr ⟨List.mem_of_getElem? h, g⟩
theorem zz_g0 {w : Cond} (h : w ∈ ws0) : w ∈ ws0 ∧ ((w.onTables && w.keeps) = true ∨ ∃ ty, w = .arrayClass ty) := ⟨h, good_of_word (List.mem_filter.mp h).2⟩
theorem zz_in (ws : List Cond) (ps : List Nat) (hp : ws = ps.filterMap (fun i => lw_tbl[i]?)) (hg : ws.all goodWord = true) : ∀ w ∈ ws, w ∈ ws0 := by
  intro w hw
  have h1 := List.all_eq_true.mp hg w hw
  rw [hp] at hw
  obtain ⟨i, -, hi⟩ := List.mem_filterMap.mp hw
  exact zz_m i hi h1
theorem zz_gl {ws : List Cond} (h : ∀ w ∈ ws, w ∈ ws0) : GoodIn ws0 ws := fun w hw => zz_g0 (h w hw)
theorem zz_gC {cd : Cond} (h5 : cd ∈ ws0) : GoodIn ws0 (cd :: ws0) := zz_gl (fun w hw => (List.mem_cons.mp hw).elim (fun e => by rw [e]; exact h5) id)
theorem zz_gV {own C : String} {idx : Nat} {y : MethodName} {cd : Cond} (h1 : Cond.methodLink own idx y ∈ ws0) (h2 : Cond.instanceMethod y ∈ ws0) (h3 : Cond.selects C y y ∈ ws0) (h4 : Cond.initialized C ∈ ws0) (h5 : cd ∈ ws0) : GoodIn ws0 (wsV own idx C y (cd :: ws0)) := by
  intro w hw
  unfold wsV at hw
  rcases List.mem_append.mp hw with h | h
  · simp only [List.mem_cons, List.not_mem_nil, or_false] at h
    rcases h with rfl | rfl | rfl | rfl
    · exact zz_g0 h1
    · exact zz_g0 h2
    · exact zz_g0 h3
    · exact zz_g0 h4
  · exact zz_gC h5 w h
theorem zz_gS {own : String} {idx : Nat} {y : MethodName} {cd : Cond} (h1 : Cond.methodLink own idx y ∈ ws0) (h2 : Cond.static y ∈ ws0) (h4 : Cond.initialized y.cls ∈ ws0) (h5 : cd ∈ ws0) : GoodIn ws0 (va_wsS own idx y (cd :: ws0)) := by
  intro w hw
  unfold va_wsS at hw
  rcases List.mem_append.mp hw with h | h
  · simp only [List.mem_cons, List.not_mem_nil, or_false] at h
    rcases h with rfl | rfl | rfl
    · exact zz_g0 h1
    · exact zz_g0 h2
    · exact zz_g0 h4
  · exact zz_gC h5 w h
/-- a method's end: its answer, its world behind it, and that nothing else has changed -/
def zQ (v : Option Value) (B : State → Prop) (A : Nat → Prop) : Array Value → State → Outcome → State → Prop := fun _ st oc t => (oc = .returned v ∧ B t) ∧ va_F A st t
section ZC
variable {p : Program} {l : Launch} {e : Env} {R : Room} {s : State} {m : MethodId} {args : Array Value} {below : List Frame} {meth : Method} {c : Code} {H : Heap} {locs : List Loc} {cells slots : Nat} {Q : State → Prop}
variable {pc : Nat} {ls : Array Slot} {rest st0 st1 : List Value} {a : Array Value} {A0 A1 : Nat → Prop} {H0 : Heap} {mc ms : Nat} {free : Addr → Prop}
theorem zcall {v : Option Value} {B : State → Prop} (hr : va_Run p l e R s m args below meth c H locs cells slots mc ms (F0 m pc ls st0) rest (zQ v B A1 a) free) (hS : va_S A0 H0 H locs) (hA : ∀ q, A1 q → A0 q) (hf : ∀ q, free q → A0 q) (hst : v.toList ++ rest = st1)
    (kk : ∀ (t : State) (H1 : Heap) (locs1 : List Loc), t.heap = H1 → B t → (∀ q : Nat, q < H.size → ¬ A1 q → H1[q]? = H[q]?) → va_S A0 H0 H1 locs1 → W p l e R s m args below meth c H1 locs1 (cells + mc) (slots + ms) Q (F0 m (pc + 3) ls st1)) : W p l e R s m args below meth c H locs cells slots Q (F0 m pc ls st0) := by
  intro T hT X
  obtain ⟨v1, st₀, t, T', L, h0, X', hL, e1, e2, ⟨⟨hv, hb⟩, hz, hk⟩, st⟩ := hr T hT X
  cases hv
  rw [h0] at hz hk
  subst hst
  obtain ⟨t2, a1, b1⟩ := kk t T'.heap (locs ++ L) e1.symm hb (fun q h1 h2 => by rw [e1]; exact hk q h1 h2)
    ⟨Nat.le_trans hS.1 (by rw [e1]; exact hz), fun q h1 h2 => by rw [e1, hk q (Nat.lt_of_lt_of_le h1 hS.1) (fun z => h2 (hA q z))]; exact hS.2.1 q h1 h2, fun q hq => by
      rcases List.mem_append.mp hq with h | h
      · exact hS.2.2 q h
      · exact hf _ (hL q h)⟩ T' rfl X'
  exact ⟨t2, st t2 a1, b1⟩
theorem zz_i {x v : Int32} (h : x = v) (k : W p l e R s m args below meth c H locs cells slots Q (F0 m pc ls (.int v :: rest))) : W p l e R s m args below meth c H locs cells slots Q (F0 m pc ls (.int x :: rest)) := by
  subst h; exact k
theorem zz_l {x v : Int64} (h : x = v) (k : W p l e R s m args below meth c H locs cells slots Q (F0 m pc ls (.long v :: rest))) : W p l e R s m args below meth c H locs cells slots Q (F0 m pc ls (.long x :: rest)) := by
  subst h; exact k
end ZC
/-- a method's start: the heap's size, its world, the tables; and what else it wants -/
def zPre (D : va_G) (cl : List vw_C) (tys : List (ClassId × FieldType)) (w : va_W) (sz : Nat) (X : State → Prop) (U : State) : Prop := U.heap.size = sz ∧ va_P D cl w U.heap ∧ va_K D cl tys U ∧ va_D (fun _ => True) w ∧ X U
def zTrue : State → Prop := fun _ => True
theorem zBlind {D : va_G} {cl : List vw_C} {tys : List (ClassId × FieldType)} {w : va_W} {sz : Nat} {X : State → Prop} {av : List Value} (hX : ∀ (a : Array Value) (U : State) (g : JFrame) (mk : MethodId), X U → X (U.calling g mk a)) : FrameBlind (va_Pc av (zPre D cl tys w sz X)) := by
  intro a U g mk q
  obtain ⟨q0, q1, qP, qK, qD, qX⟩ := q
  exact ⟨q0, q1, qP, va_K.moved (u := U) (U := U.calling g mk a) (Vm.Alike.refl U.vm) qK, qD, hX a U g mk qX⟩
theorem zAt {s : State} {H : Heap} {D : va_G} {cl : List vw_C} {tys : List (ClassId × FieldType)} {w : va_W} {A : Nat → Prop} {X : State → Prop} {av : List Value} (hP : va_P D cl w H) (hD : va_D A w) (hK : va_K D cl tys s) (hX : ∀ U : State, U.heap = H → s.WarmedH U.vm → X U) : ∀ U : State, U.heap = H → s.WarmedH U.vm → va_Pc av (zPre D cl tys w H.size X) av.toArray U :=
  fun U hU hW => ⟨rfl, by rw [hU], by rw [hU]; exact hP, va_K.moved hW.alike hK, hD.weaken (fun _ _ _ _ => trivial), hX U hU hW⟩
theorem zPS {s : State} {H : Heap} {D : va_G} {cl : List vw_C} {tys : List (ClassId × FieldType)} {w : va_W} {A : Nat → Prop} {av : List Value} (hP : va_P D cl w H) (hD : va_D A w) (hK : va_K D cl tys s) : PreS s H (va_Pc av (zPre D cl tys w H.size zTrue)) av :=
  ⟨zBlind (fun _ _ _ _ h => h), zAt hP hD hK (fun _ _ _ => trivial)⟩
theorem zPV {s : State} {H : Heap} {D : va_G} {cl : List vw_C} {tys : List (ClassId × FieldType)} {w : va_W} {A : Nat → Prop} {b q0 ci : Nat} {q : vw_C} {fs : List Value} {As : List Value} (hP : va_P D cl w H) (hD : va_D A w) (hK : va_K D cl tys s) (hc : cl[ci]? = some q) (he : w[q0]? = some (b, .inr (ci, fs))) : PreV s H q.1 b (va_Pc (.ref b :: As) (zPre D cl tys w H.size zTrue)) As :=
  ⟨zBlind (fun _ _ _ _ h => h), va_recv hK hP hc he, zAt hP hD hK (fun _ _ _ => trivial)⟩
/-- arrays whose class is known already -/
theorem zz_sameArr {s : State} {c1 c2 : ClassId} {ty : FieldType} (h1 : va_RA s c1 ty) (h2 : va_RA s c2 ty) : c1 = c2 := by
  cases ty with
  | object C =>
    obtain ⟨-, -, -, -, -, h1⟩ := h1
    obtain ⟨-, -, -, -, -, h2⟩ := h2
    exact Option.some.inj (h1.symm.trans h2)
  | _ => exact Option.some.inj (h1.symm.trans h2)
section ZN
variable {p : Program} {l : Launch} {e : Env} {R : Room} {s : State} {m : MethodId} {args : Array Value} {below : List Frame} {meth : Method} {c : Code} {H : Heap} {locs : List Loc} {cells slots : Nat} {Q : State → Prop}
variable {cc : ByteArray} {pc : Nat} {ls : Array Slot} {rest : List Value} {D : va_G} {cl : List vw_C} {A : Nat → Prop} {tys : List (ClassId × FieldType)} {ws : va_W} {H0 : Heap}
theorem zz_newa (hexec : p.tables.exec = Jvm.exec) (hb : c.code = cc) {atype : ArrayType} (harr : (Cond.arrayClass (newarray.typeOf atype)).before args s = true) {ty : FieldType} (hty : newarray.typeOf atype = ty) (hK : va_K D cl tys s) (hP : va_P D cl ws H) (hD : va_D A ws) (hS : va_S A H0 H locs) (hA : ∀ q, H0.size ≤ q → A q)
    {n : Int32} {N' : Nat} {a0 : vp_A} {cA : ClassId} (t0 : Nat) (ht : tys[t0]? = some (cA, ty)) (ha : ∀ cA : ClassId, vp_cell cA a0 = arrV cA N' (fun _ => defaultValue ty)) (hn : ¬ n < 0) (hN : n.toNatClampNeg = N') (hbytes : N' * componentBytes ty ≤ 536870912) (hcells : cells + 1 ≤ R.cells) (hslots : slots + N' ≤ R.slots) (hdg : decode cc pc = .ok (.newarray atype, 2))
    (kk : ∀ (q : Nat) (H1 : Heap), va_P D cl (ws ++ [(q, .inl (cA, a0))]) H1 → va_D A (ws ++ [(q, .inl (cA, a0))]) → va_S A H0 H1 locs →
      W p l e R s m args below meth c H1 locs (cells + 1) (slots + N') Q (F0 m (pc + 2) ls (.ref q :: rest))) : W p l e R s m args below meth c H locs cells slots Q (F0 m pc ls (.int n :: rest)) := by
  refine va_newa hexec hb harr hty hK hP hD hS hA ha hn hN hbytes hcells hslots hdg (fun q cB H1 hK1 hP1 hD1 hS1 => ?_)
  have e1 : (tys ++ [(cB, ty)])[tys.length]? = some (cB, ty) := by rw [List.getElem?_append_right (Nat.le_refl _)]; simp
  have e2 : cB = cA := zz_sameArr (hK1.2 _ _ e1).2 (hK.2 t0 _ ht).2
  subst e2
  exact kk q H1 hP1 hD1 hS1
theorem zz_newq (hexec : p.tables.exec = Jvm.exec) (hb : c.code = cc) {own C : String} {index : Nat} (hown : s.vm.findClass own = some m.cls) (hclink : (Cond.classLink own index C).before args s = true) (hover : (Cond.arrayOver (.object C)).before args s = true) (hK : va_K D cl tys s) (hP : va_P D cl ws H) (hD : va_D A ws) (hS : va_S A H0 H locs) (hA : ∀ q, H0.size ≤ q → A q)
    {n : Int32} {N' : Nat} {cA : ClassId} (t0 : Nat) (ht : tys[t0]? = some (cA, .object C)) (hn : ¬ n < 0) (hN : n.toNatClampNeg = N') (hbytes : N' * 4 ≤ 536870912) (hcells : cells + 1 ≤ R.cells) (hslots : slots + N' ≤ R.slots) (hdg : decode cc pc = .ok (.anewarray index, 3))
    (kk : ∀ (q : Nat) (H1 : Heap), va_P D cl (ws ++ [(q, .inl (cA, N', .inr (.inr (.inr (.inr (fun _ => none))))))]) H1 → va_D A (ws ++ [(q, .inl (cA, N', .inr (.inr (.inr (.inr (fun _ => none))))))]) → va_S A H0 H1 locs →
      W p l e R s m args below meth c H1 locs (cells + 1) (slots + N') Q (F0 m (pc + 3) ls (.ref q :: rest))) : W p l e R s m args below meth c H locs cells slots Q (F0 m pc ls (.int n :: rest)) := by
  refine va_newq hexec hb hown hclink (va_AO.of hover) hK hP hD hS hA hn hN hbytes hcells hslots hdg (fun q cB H1 hK1 hP1 hD1 hS1 => ?_)
  have e1 : (tys ++ [(cB, .object C)])[tys.length]? = some (cB, FieldType.object C) := by rw [List.getElem?_append_right (Nat.le_refl _)]; simp
  have e2 : cB = cA := zz_sameArr (hK1.2 _ _ e1).2 (hK.2 t0 _ ht).2
  subst e2
  exact kk q H1 hP1 hD1 hS1
end ZN
/-- numbers between two bounds, as the class and the reference ask it -/
def zw (v a b : Int32) : Int32 := if v < a then 0 else if b < v then 0 else 1
end
section
def RX0 : String := "ScaleShop$Box"
def TX0 : u_T := fun k => match k with
  | 0 => ("ScaleShop$Box", "left", "I", false)
  | 1 => ("ScaleShop$Box", "low", "I", false)
  | 2 => ("ScaleShop$Box", "right", "I", false)
  | _ => ("ScaleShop$Box", "high", "I", false)
def tyX0 : Nat → FieldType := fun k => match k with
  | 0 => .int
  | 1 => .int
  | 2 => .int
  | _ => .int
abbrev wsX00 : List Cond := u_ws RX0 TX0 4
theorem nmX0 : ∀ a, a < 4 → ∀ b, b < 4 → a ≠ b → (TX0 a).2.1 ≠ (TX0 b).2.1 := by decide +kernel
theorem tyX0_ok : ∀ k, k < 4 → parseFieldDescriptor (TX0 k).2.2.1 = some (tyX0 k) := by decide +kernel
def RX2 : String := "ScaleShop$Feature"
def TX2 : u_T := fun k => match k with
  | 0 => ("ScaleShop$Feature", "rank", "I", true)
  | 1 => ("ScaleShop$Feature", "width", "I", true)
  | 2 => ("ScaleShop$Feature", "town", "I", true)
  | 3 => ("ScaleShop$Feature", "firstPart", "I", false)
  | 4 => ("ScaleShop$Feature", "secondPart", "I", false)
  | 5 => ("ScaleShop$Feature", "lost", "LScaleShop$Row;", true)
  | 6 => ("ScaleShop$Feature", "now", "LScaleShop$Look;", false)
  | _ => ("ScaleShop$Feature", "former", "LScaleShop$Look;", false)
def tyX2 : Nat → FieldType := fun k => match k with
  | 0 => .int
  | 1 => .int
  | 2 => .int
  | 3 => .int
  | 4 => .int
  | 5 => .object "ScaleShop$Row"
  | 6 => .object "ScaleShop$Look"
  | _ => .object "ScaleShop$Look"
abbrev wsX20 : List Cond := u_ws RX2 TX2 8
theorem nmX2 : ∀ a, a < 8 → ∀ b, b < 8 → a ≠ b → (TX2 a).2.1 ≠ (TX2 b).2.1 := by decide +kernel
theorem tyX2_ok : ∀ k, k < 8 → parseFieldDescriptor (TX2 k).2.2.1 = some (tyX2 k) := by decide +kernel
def RX3 : String := "ScaleShop$Fraction"
def TX3 : u_T := fun k => match k with
  | 0 => ("ScaleShop$Fraction", "over", "J", false)
  | _ => ("ScaleShop$Fraction", "under", "J", false)
def tyX3 : Nat → FieldType := fun k => match k with
  | 0 => .long
  | _ => .long
abbrev wsX30 : List Cond := u_ws RX3 TX3 2
theorem nmX3 : ∀ a, a < 2 → ∀ b, b < 2 → a ≠ b → (TX3 a).2.1 ≠ (TX3 b).2.1 := by decide +kernel
theorem tyX3_ok : ∀ k, k < 2 → parseFieldDescriptor (TX3 k).2.2.1 = some (tyX3 k) := by decide +kernel
def RX4 : String := "ScaleShop$Law"
def TX4 : u_T := fun k => match k with
  | 0 => ("ScaleShop$Law", "draft", "LScaleShop$Row;", true)
  | 1 => ("ScaleShop$Law", "triangle", "LScaleShop$Row;", true)
  | 2 => ("ScaleShop$Law", "way", "LScaleShop$Row;", true)
  | 3 => ("ScaleShop$Law", "reach", "LScaleShop$Box;", true)
  | 4 => ("ScaleShop$Law", "otherBox", "LScaleShop$Box;", true)
  | _ => ("ScaleShop$Law", "areas", "[I", true)
def tyX4 : Nat → FieldType := fun k => match k with
  | 0 => .object "ScaleShop$Row"
  | 1 => .object "ScaleShop$Row"
  | 2 => .object "ScaleShop$Row"
  | 3 => .object "ScaleShop$Box"
  | 4 => .object "ScaleShop$Box"
  | _ => .array .int
abbrev wsX40 : List Cond := u_ws RX4 TX4 6
theorem nmX4 : ∀ a, a < 6 → ∀ b, b < 6 → a ≠ b → (TX4 a).2.1 ≠ (TX4 b).2.1 := by decide +kernel
theorem tyX4_ok : ∀ k, k < 6 → parseFieldDescriptor (TX4 k).2.2.1 = some (tyX4 k) := by decide +kernel
def RX5 : String := "ScaleShop$Look"
def TX5 : u_T := fun k => match k with
  | 0 => ("ScaleShop$Look", "kind", "I", false)
  | 1 => ("ScaleShop$Look", "state", "I", false)
  | 2 => ("ScaleShop$Look", "row", "LScaleShop$Row;", false)
  | 3 => ("ScaleShop$Look", "goneBy", "I", false)
  | 4 => ("ScaleShop$Look", "joinedTo", "I", false)
  | _ => ("ScaleShop$Look", "went", "I", false)
def tyX5 : Nat → FieldType := fun k => match k with
  | 0 => .int
  | 1 => .int
  | 2 => .object "ScaleShop$Row"
  | 3 => .int
  | 4 => .int
  | _ => .int
abbrev wsX50 : List Cond := u_ws RX5 TX5 6
theorem nmX5 : ∀ a, a < 6 → ∀ b, b < 6 → a ≠ b → (TX5 a).2.1 ≠ (TX5 b).2.1 := by decide +kernel
theorem tyX5_ok : ∀ k, k < 6 → parseFieldDescriptor (TX5 k).2.2.1 = some (tyX5 k) := by decide +kernel
def RX6 : String := "ScaleShop$Roads"
def TX6 : u_T := fun k => match k with
  | 0 => ("ScaleShop$Roads", "roads", "[LScaleShop$Feature;", true)
  | 1 => ("ScaleShop$Roads", "weights", "[I", true)
  | 2 => ("ScaleShop$Roads", "endX", "[I", true)
  | 3 => ("ScaleShop$Roads", "endY", "[I", true)
  | 4 => ("ScaleShop$Roads", "groups", "[I", true)
  | _ => ("ScaleShop$Roads", "n", "I", false)
def tyX6 : Nat → FieldType := fun k => match k with
  | 0 => .array (.object "ScaleShop$Feature")
  | 1 => .array .int
  | 2 => .array .int
  | 3 => .array .int
  | 4 => .array .int
  | _ => .int
abbrev wsX60 : List Cond := u_ws RX6 TX6 6
theorem nmX6 : ∀ a, a < 6 → ∀ b, b < 6 → a ≠ b → (TX6 a).2.1 ≠ (TX6 b).2.1 := by decide +kernel
theorem tyX6_ok : ∀ k, k < 6 → parseFieldDescriptor (TX6 k).2.2.1 = some (tyX6 k) := by decide +kernel
def RX7 : String := "ScaleShop$Row"
def TX7 : u_T := fun k => match k with
  | 0 => ("ScaleShop$Row", "x", "[I", true)
  | 1 => ("ScaleShop$Row", "y", "[I", true)
  | 2 => ("ScaleShop$Row", "n", "I", false)
  | _ => ("ScaleShop$Row", "ring", "Z", false)
def tyX7 : Nat → FieldType := fun k => match k with
  | 0 => .array .int
  | 1 => .array .int
  | 2 => .int
  | _ => .boolean
abbrev wsX70 : List Cond := u_ws RX7 TX7 4
theorem nmX7 : ∀ a, a < 4 → ∀ b, b < 4 → a ≠ b → (TX7 a).2.1 ≠ (TX7 b).2.1 := by decide +kernel
theorem tyX7_ok : ∀ k, k < 4 → parseFieldDescriptor (TX7 k).2.2.1 = some (tyX7 k) := by decide +kernel
def RX8 : String := "ScaleShop$Sheet"
def TX8 : u_T := fun k => match k with
  | 0 => ("ScaleShop$Sheet", "features", "[LScaleShop$Feature;", true)
  | _ => ("ScaleShop$Sheet", "total", "I", false)
def tyX8 : Nat → FieldType := fun k => match k with
  | 0 => .array (.object "ScaleShop$Feature")
  | _ => .int
abbrev wsX80 : List Cond := u_ws RX8 TX8 2
theorem nmX8 : ∀ a, a < 2 → ∀ b, b < 2 → a ≠ b → (TX8 a).2.1 ≠ (TX8 b).2.1 := by decide +kernel
theorem tyX8_ok : ∀ k, k < 2 → parseFieldDescriptor (TX8 k).2.2.1 = some (tyX8 k) := by decide +kernel
def RX10 : String := "ScaleShop"
def TX10 : u_T := fun k => match k with
  | 0 => ("ScaleShop", "sheet", "LScaleShop$Sheet;", true)
  | 1 => ("ScaleShop", "law", "LScaleShop$Law;", true)
  | 2 => ("ScaleShop", "roads", "LScaleShop$Roads;", true)
  | 3 => ("ScaleShop", "box", "LScaleShop$Box;", true)
  | 4 => ("ScaleShop", "otherBox", "LScaleShop$Box;", true)
  | 5 => ("ScaleShop", "distance", "LScaleShop$Fraction;", true)
  | 6 => ("ScaleShop", "farthest", "LScaleShop$Fraction;", true)
  | 7 => ("ScaleShop", "leaves", "[Z", true)
  | 8 => ("ScaleShop", "steps", "Ljava/util/ArrayList;", true)
  | 9 => ("ScaleShop", "doneSteps", "I", false)
  | 10 => ("ScaleShop", "sealedSteps", "I", false)
  | 11 => ("ScaleShop", "unlawful", "I", false)
  | _ => ("ScaleShop", "status", "I", false)
def tyX10 : Nat → FieldType := fun k => match k with
  | 0 => .object "ScaleShop$Sheet"
  | 1 => .object "ScaleShop$Law"
  | 2 => .object "ScaleShop$Roads"
  | 3 => .object "ScaleShop$Box"
  | 4 => .object "ScaleShop$Box"
  | 5 => .object "ScaleShop$Fraction"
  | 6 => .object "ScaleShop$Fraction"
  | 7 => .array .boolean
  | 8 => .object "java/util/ArrayList"
  | 9 => .int
  | 10 => .int
  | 11 => .int
  | _ => .int
abbrev wsX100 : List Cond := u_ws RX10 TX10 13
theorem nmX10 : ∀ a, a < 13 → ∀ b, b < 13 → a ≠ b → (TX10 a).2.1 ≠ (TX10 b).2.1 := by decide +kernel
theorem tyX10_ok : ∀ k, k < 13 → parseFieldDescriptor (TX10 k).2.2.1 = some (tyX10 k) := by decide +kernel
def RX11 : String := "ScaleShopModel"
def TX11 : u_T := fun k => match k with
  | 0 => ("ScaleShopModel", "features", "I", false)
  | 1 => ("ScaleShopModel", "kind", "[I", true)
  | 2 => ("ScaleShopModel", "rank", "[I", true)
  | 3 => ("ScaleShopModel", "width", "[I", true)
  | 4 => ("ScaleShopModel", "town", "[I", true)
  | 5 => ("ScaleShopModel", "state", "[I", true)
  | 6 => ("ScaleShopModel", "torn", "[Z", true)
  | 7 => ("ScaleShopModel", "goneBy", "[I", true)
  | 8 => ("ScaleShopModel", "partA", "[I", true)
  | 9 => ("ScaleShopModel", "partB", "[I", true)
  | 10 => ("ScaleShopModel", "into", "[I", true)
  | 11 => ("ScaleShopModel", "many", "[I", true)
  | 12 => ("ScaleShopModel", "cx", "[I", true)
  | 13 => ("ScaleShopModel", "cy", "[I", true)
  | 14 => ("ScaleShopModel", "status", "I", false)
  | 15 => ("ScaleShopModel", "refused", "I", false)
  | 16 => ("ScaleShopModel", "which", "[I", true)
  | 17 => ("ScaleShopModel", "of", "[I", true)
  | 18 => ("ScaleShopModel", "went", "[I", true)
  | 19 => ("ScaleShopModel", "done", "I", false)
  | 20 => ("ScaleShopModel", "redoable", "I", false)
  | 21 => ("ScaleShopModel", "base", "I", false)
  | 22 => ("ScaleShopModel", "lostFeature", "[I", false)
  | 23 => ("ScaleShopModel", "lostX", "[I", false)
  | 24 => ("ScaleShopModel", "lostY", "[I", false)
  | 25 => ("ScaleShopModel", "lostStep", "[I", false)
  | 26 => ("ScaleShopModel", "lost", "I", false)
  | 27 => ("ScaleShopModel", "sheetAt", "[I", true)
  | 28 => ("ScaleShopModel", "sheets", "[I", false)
  | 29 => ("ScaleShopModel", "px", "[I", true)
  | 30 => ("ScaleShopModel", "py", "[I", true)
  | 31 => ("ScaleShopModel", "pn", "I", false)
  | 32 => ("ScaleShopModel", "s", "[I", true)
  | 33 => ("ScaleShopModel", "ox", "[I", true)
  | 34 => ("ScaleShopModel", "oy", "[I", true)
  | 35 => ("ScaleShopModel", "on", "I", false)
  | 36 => ("ScaleShopModel", "oldKind", "I", false)
  | 37 => ("ScaleShopModel", "met", "[Z", true)
  | 38 => ("ScaleShopModel", "within", "[Z", true)
  | 39 => ("ScaleShopModel", "inside", "[Z", true)
  | 40 => ("ScaleShopModel", "t", "[I", true)
  | 41 => ("ScaleShopModel", "writeAt", "I", false)
  | 42 => ("ScaleShopModel", "readAt", "I", false)
  | 43 => ("ScaleShopModel", "failed", "[Z", true)
  | 44 => ("ScaleShopModel", "lx", "I", false)
  | 45 => ("ScaleShopModel", "ly", "I", false)
  | 46 => ("ScaleShopModel", "hx", "I", false)
  | 47 => ("ScaleShopModel", "hy", "I", false)
  | 48 => ("ScaleShopModel", "up", "J", false)
  | 49 => ("ScaleShopModel", "down", "J", false)
  | 50 => ("ScaleShopModel", "marked", "[Z", true)
  | 51 => ("ScaleShopModel", "joinX", "[I", true)
  | 52 => ("ScaleShopModel", "joinY", "[I", true)
  | 53 => ("ScaleShopModel", "group", "[I", true)
  | _ => ("ScaleShopModel", "places", "I", false)
def tyX11 : Nat → FieldType := fun k => match k with
  | 0 => .int
  | 1 => .array .int
  | 2 => .array .int
  | 3 => .array .int
  | 4 => .array .int
  | 5 => .array .int
  | 6 => .array .boolean
  | 7 => .array .int
  | 8 => .array .int
  | 9 => .array .int
  | 10 => .array .int
  | 11 => .array .int
  | 12 => .array .int
  | 13 => .array .int
  | 14 => .int
  | 15 => .int
  | 16 => .array .int
  | 17 => .array .int
  | 18 => .array .int
  | 19 => .int
  | 20 => .int
  | 21 => .int
  | 22 => .array .int
  | 23 => .array .int
  | 24 => .array .int
  | 25 => .array .int
  | 26 => .int
  | 27 => .array .int
  | 28 => .array .int
  | 29 => .array .int
  | 30 => .array .int
  | 31 => .int
  | 32 => .array .int
  | 33 => .array .int
  | 34 => .array .int
  | 35 => .int
  | 36 => .int
  | 37 => .array .boolean
  | 38 => .array .boolean
  | 39 => .array .boolean
  | 40 => .array .int
  | 41 => .int
  | 42 => .int
  | 43 => .array .boolean
  | 44 => .int
  | 45 => .int
  | 46 => .int
  | 47 => .int
  | 48 => .long
  | 49 => .long
  | 50 => .array .boolean
  | 51 => .array .int
  | 52 => .array .int
  | 53 => .array .int
  | _ => .int
abbrev wsX110 : List Cond := u_ws RX11 TX11 55
theorem nmX11 : ∀ a, a < 55 → ∀ b, b < 55 → a ≠ b → (TX11 a).2.1 ≠ (TX11 b).2.1 := by decide +kernel
theorem tyX11_ok : ∀ k, k < 55 → parseFieldDescriptor (TX11 k).2.2.1 = some (tyX11 k) := by decide +kernel
def RJx4a65c : String := "java/util/ArrayList"
def TJx4a65c : u_T := fun k => match k with
  | 0 => ("java/util/AbstractList", "modCount", "I", false)
  | 1 => ("java/util/ArrayList", "elementData", "[Ljava/lang/Object;", false)
  | _ => ("java/util/ArrayList", "size", "I", false)
def tyJx4a65c : Nat → FieldType := fun k => match k with
  | 0 => .int
  | 1 => .array (.object "java/lang/Object")
  | _ => .int
abbrev wsJx4a65c0 : List Cond := u_ws RJx4a65c TJx4a65c 3
theorem nmJx4a65c : ∀ a, a < 3 → ∀ b, b < 3 → a ≠ b → (TJx4a65c a).2.1 ≠ (TJx4a65c b).2.1 := by decide +kernel
theorem tyJx4a65c_ok : ∀ k, k < 3 → parseFieldDescriptor (TJx4a65c k).2.2.1 = some (tyJx4a65c k) := by decide +kernel
abbrev classes : List vw_C := [(RX0, TX0, 4), (RX2, TX2, 8), (RX3, TX3, 2), (RX4, TX4, 6), (RX5, TX5, 6), (RX6, TX6, 6), (RX7, TX7, 4), (RX8, TX8, 2), (RX10, TX10, 13), (RX11, TX11, 55), (RJx4a65c, TJx4a65c, 3)]
abbrev zTy (cI cZ cF : ClassId) : List (ClassId × FieldType) := [(cI, .int), (cZ, .boolean), (cF, .object "ScaleShop$Feature")]
theorem dfX0 : ∀ j, j < 4 → defaultValue (tyX0 j) = vp_V [.int 0, .int 0, .int 0, .int 0] j := by decide +kernel
theorem inX0 : ∀ w ∈ u_ws RX0 TX0 4, w ∈ ws0 := zz_in _ [210, 212, 214, 216] (by decide +kernel) (by decide +kernel)
theorem dfX2 : ∀ j, j < 8 → defaultValue (tyX2 j) = vp_V [.int 0, .int 0, .int 0, .int 0, .int 0, .null, .null, .null] j := by decide +kernel
theorem inX2 : ∀ w ∈ u_ws RX2 TX2 8, w ∈ ws0 := zz_in _ [438, 440, 442, 444, 446, 448, 450, 452] (by decide +kernel) (by decide +kernel)
theorem dfX3 : ∀ j, j < 2 → defaultValue (tyX3 j) = vp_V [.long 0, .long 0] j := by decide +kernel
theorem inX3 : ∀ w ∈ u_ws RX3 TX3 2, w ∈ ws0 := zz_in _ [277, 279] (by decide +kernel) (by decide +kernel)
theorem dfX4 : ∀ j, j < 6 → defaultValue (tyX4 j) = vp_V [.null, .null, .null, .null, .null, .null] j := by decide +kernel
theorem inX4 : ∀ w ∈ u_ws RX4 TX4 6, w ∈ ws0 := zz_in _ [226, 228, 230, 232, 234, 236] (by decide +kernel) (by decide +kernel)
theorem dfX5 : ∀ j, j < 6 → defaultValue (tyX5 j) = vp_V [.int 0, .int 0, .null, .int 0, .int 0, .int 0] j := by decide +kernel
theorem inX5 : ∀ w ∈ u_ws RX5 TX5 6, w ∈ ws0 := zz_in _ [402, 404, 406, 408, 410, 412] (by decide +kernel) (by decide +kernel)
theorem dfX6 : ∀ j, j < 6 → defaultValue (tyX6 j) = vp_V [.null, .null, .null, .null, .null, .int 0] j := by decide +kernel
theorem inX6 : ∀ w ∈ u_ws RX6 TX6 6, w ∈ ws0 := zz_in _ [252, 254, 256, 258, 260, 262] (by decide +kernel) (by decide +kernel)
theorem dfX7 : ∀ j, j < 4 → defaultValue (tyX7 j) = vp_V [.null, .null, .int 0, .int 0] j := by decide +kernel
theorem inX7 : ∀ w ∈ u_ws RX7 TX7 4, w ∈ ws0 := zz_in _ [186, 188, 190, 192] (by decide +kernel) (by decide +kernel)
theorem dfX8 : ∀ j, j < 2 → defaultValue (tyX8 j) = vp_V [.null, .int 0] j := by decide +kernel
theorem inX8 : ∀ w ∈ u_ws RX8 TX8 2, w ∈ ws0 := zz_in _ [141, 143] (by decide +kernel) (by decide +kernel)
theorem dfX10 : ∀ j, j < 13 → defaultValue (tyX10 j) = vp_V [.null, .null, .null, .null, .null, .null, .null, .null, .null, .int 0, .int 0, .int 0, .int 0] j := by decide +kernel
theorem inX10 : ∀ w ∈ u_ws RX10 TX10 13, w ∈ ws0 := zz_in _ [322, 324, 326, 328, 330, 332, 334, 336, 338, 340, 342, 344, 346] (by decide +kernel) (by decide +kernel)
theorem dfX11 : ∀ j, j < 55 → defaultValue (tyX11 j) = vp_V [.int 0, .null, .null, .null, .null, .null, .null, .null, .null, .null, .null, .null, .null, .null, .int 0, .int 0, .null, .null, .null, .int 0, .int 0, .int 0, .null, .null, .null, .null, .int 0, .null, .null, .null, .null, .int 0, .null, .null, .null, .int 0, .int 0, .null, .null, .null, .null, .int 0, .int 0, .null, .int 0, .int 0, .int 0, .int 0, .long 0, .long 0, .null, .null, .null, .null, .int 0] j := by decide +kernel
theorem inX11 : ∀ w ∈ u_ws RX11 TX11 55, w ∈ ws0 := zz_in _ [1214, 1216, 1218, 1220, 1222, 1224, 1226, 1228, 1230, 1232, 1234, 1236, 1238, 1240, 1242, 1244, 1246, 1248, 1250, 1252, 1254, 1256, 1258, 1260, 1262, 1264, 1266, 1268, 1270, 1272, 1274, 1276, 1278, 1280, 1282, 1284, 1286, 1288, 1290, 1292, 1294, 1296, 1298, 1300, 1302, 1304, 1306, 1308, 1310, 1312, 1314, 1316, 1318, 1320, 1322] (by decide +kernel) (by decide +kernel)
theorem dfJx4a65c : ∀ j, j < 3 → defaultValue (tyJx4a65c j) = vp_V [.int 0, .null, .int 0] j := by decide +kernel
theorem inJx4a65c : ∀ w ∈ u_ws RJx4a65c TJx4a65c 3, w ∈ ws0 := zz_in _ [305, 301, 303] (by decide +kernel) (by decide +kernel)
/-! what the constructors want of the start: the class of arrays of features, the empty row that lists begin with -/
def zXA : State → Prop := va_AO "ScaleShop$Feature"
def zXZ (e0 : Nat) (A : Nat → Prop) : State → Prop := fun U => va_Z "java/util/ArrayList" "DEFAULTCAPACITY_EMPTY_ELEMENTDATA" "[Ljava/lang/Object;" (.ref e0) A U U.heap
theorem zXA_c (a : Array Value) (U : State) (g : JFrame) (mk : MethodId) (h : zXA U) : zXA (U.calling g mk a) := va_AO.moved (u := U) (U := U.calling g mk a) (Vm.Alike.refl U.vm) h
theorem zXZ_c {e0 : Nat} {A : Nat → Prop} (a : Array Value) (U : State) (g : JFrame) (mk : MethodId) (h : zXZ e0 A U) : zXZ e0 A (U.calling g mk a) := va_Z.moved (u := U) (U := U.calling g mk a) (Vm.Alike.refl U.vm) h
theorem zXZ_at {e0 : Nat} {A A1 : Nat → Prop} {s U : State} {H : Heap} {locs : List Loc} (hZ : zXZ e0 A s) (hS : va_S A s.heap H locs) (hF : ∀ q, A1 q → A q) (hU : U.heap = H) (hW : s.WarmedH U.vm) : zXZ e0 A1 U := by
  show va_Z _ _ _ _ A1 U U.heap
  rw [hU]
  exact ((va_Z.kept hZ hS.2.1).narrow hF).moved hW.alike
theorem zPSA {s : State} {H : Heap} {D : va_G} {cl : List vw_C} {tys : List (ClassId × FieldType)} {w : va_W} {A : Nat → Prop} {av : List Value} (hP : va_P D cl w H) (hD : va_D A w) (hK : va_K D cl tys s) (hAO : zXA s) : PreS s H (va_Pc av (zPre D cl tys w H.size zXA)) av :=
  ⟨zBlind zXA_c, zAt hP hD hK (fun _ _ hW => va_AO.moved hW.alike hAO)⟩
theorem zPSZ {s : State} {H : Heap} {D : va_G} {cl : List vw_C} {tys : List (ClassId × FieldType)} {w : va_W} {A A1 A2 : Nat → Prop} {av : List Value} {e0 : Nat} {locs : List Loc} (hP : va_P D cl w H) (hD : va_D A1 w) (hK : va_K D cl tys s) (hZ : zXZ e0 A s) (hS : va_S A s.heap H locs) (hF : ∀ q, A2 q → A q) : PreS s H (va_Pc av (zPre D cl tys w H.size (zXZ e0 A2))) av :=
  ⟨zBlind zXZ_c, zAt hP hD hK (fun _ hU hW => zXZ_at hZ hS hF hU hW)⟩
theorem zPSAZ {s : State} {H : Heap} {D : va_G} {cl : List vw_C} {tys : List (ClassId × FieldType)} {w : va_W} {A A1 A2 : Nat → Prop} {av : List Value} {e0 : Nat} {locs : List Loc} (hP : va_P D cl w H) (hD : va_D A1 w) (hK : va_K D cl tys s) (hAO : zXA s) (hZ : zXZ e0 A s) (hS : va_S A s.heap H locs) (hF : ∀ q, A2 q → A q) : PreS s H (va_Pc av (zPre D cl tys w H.size (fun U => zXA U ∧ zXZ e0 A2 U))) av :=
  ⟨zBlind (fun a U g mk h => ⟨zXA_c a U g mk h.1, zXZ_c a U g mk h.2⟩), zAt hP hD hK (fun _ hU hW => ⟨va_AO.moved hW.alike hAO, zXZ_at hZ hS hF hU hW⟩)⟩
theorem zz_cases8 (x : Int32) : x = 0 ∨ x = 1 ∨ x = 2 ∨ x = 3 ∨ x = 4 ∨ x = 5 ∨ x = 6 ∨ x = 7 ∨ (x.toInt < 0 ∨ 7 < x.toInt) := by
  have key : ∀ k : Int32, x.toInt = k.toInt → x = k := fun k h => Int32.toInt_inj.mp h
  have h : x.toInt = 0 ∨ x.toInt = 1 ∨ x.toInt = 2 ∨ x.toInt = 3 ∨ x.toInt = 4 ∨ x.toInt = 5 ∨ x.toInt = 6 ∨ x.toInt = 7 ∨ (x.toInt < 0 ∨ 7 < x.toInt) := by omega
  rcases h with h | h | h | h | h | h | h | h | h
  · exact Or.inl (key 0 h)
  · exact Or.inr (Or.inl (key 1 h))
  · exact Or.inr (Or.inr (Or.inl (key 2 h)))
  · exact Or.inr (Or.inr (Or.inr (Or.inl (key 3 h))))
  · exact Or.inr (Or.inr (Or.inr (Or.inr (Or.inl (key 4 h)))))
  · exact Or.inr (Or.inr (Or.inr (Or.inr (Or.inr (Or.inl (key 5 h))))))
  · exact Or.inr (Or.inr (Or.inr (Or.inr (Or.inr (Or.inr (Or.inl (key 6 h)))))))
  · exact Or.inr (Or.inr (Or.inr (Or.inr (Or.inr (Or.inr (Or.inr (Or.inl (key 7 h))))))))
  · exact Or.inr (Or.inr (Or.inr (Or.inr (Or.inr (Or.inr (Or.inr (Or.inr h)))))))

abbrev cX0_init : ByteArray := prog_2_method_1_code
def yX0_init : MethodName := ⟨RX0, "<init>", "()V"⟩
abbrev cX3_init : ByteArray := prog_5_method_1_code
def yX3_init : MethodName := ⟨RX3, "<init>", "()V"⟩
abbrev cX7_init : ByteArray := prog_9_method_1_code
def yX7_init : MethodName := ⟨RX7, "<init>", "(IZ)V"⟩
abbrev cX4_init : ByteArray := prog_6_method_1_code
def yX4_init : MethodName := ⟨RX4, "<init>", "()V"⟩
abbrev cX8_init : ByteArray := prog_10_method_1_code
def yX8_init : MethodName := ⟨RX8, "<init>", "()V"⟩
abbrev cX6_init : ByteArray := prog_8_method_1_code
def yX6_init : MethodName := ⟨RX6, "<init>", "()V"⟩
def RJxa1e45 : String := "java/util/AbstractCollection"
abbrev cJxa1e45_init_da8c8 : ByteArray := prog_19_method_1_code
def yJxa1e45_init_da8c8 : MethodName := ⟨RJxa1e45, "<init>", "()V"⟩
def RJxc12de : String := "java/util/AbstractList"
abbrev cJxc12de_init_da8c8 : ByteArray := prog_20_method_1_code
def yJxc12de_init_da8c8 : MethodName := ⟨RJxc12de, "<init>", "()V"⟩
abbrev cJx4a65c_init_da8c8 : ByteArray := prog_21_method_2_code
def yJx4a65c_init_da8c8 : MethodName := ⟨RJx4a65c, "<init>", "()V"⟩
abbrev cX10_init : ByteArray := prog_1_method_1_code
def yX10_init : MethodName := ⟨RX10, "<init>", "()V"⟩
end
section
theorem mw_objcode : (Cond.code Lib.objectInit ⟨#[0xb1]⟩ 1 none) ∈ ws0 := zz_m 127 (by decide +kernel) (by decide +kernel)
theorem mw_maxcode : (Cond.code Lib.Math.max.name Lib.Math.max.code 2 (some .int)) ∈ ws0 := zz_m 160 (by decide +kernel) (by decide +kernel)
theorem mw_100 : (Jvm.Cond.initialized "ScaleShop$Sheet") ∈ ws0 := zz_m 100 (by decide +kernel) (by decide +kernel)
theorem mw_101 : (Jvm.Cond.initialized "ScaleShop$Law") ∈ ws0 := zz_m 101 (by decide +kernel) (by decide +kernel)
theorem mw_102 : (Jvm.Cond.initialized "ScaleShop$Row") ∈ ws0 := zz_m 102 (by decide +kernel) (by decide +kernel)
theorem mw_103 : (Jvm.Cond.initialized "java/lang/Math") ∈ ws0 := zz_m 103 (by decide +kernel) (by decide +kernel)
theorem mw_104 : (Jvm.Cond.initialized "ScaleShop$Box") ∈ ws0 := zz_m 104 (by decide +kernel) (by decide +kernel)
theorem mw_105 : (Jvm.Cond.initialized "ScaleShop$Roads") ∈ ws0 := zz_m 105 (by decide +kernel) (by decide +kernel)
theorem mw_106 : (Jvm.Cond.initialized "ScaleShop$Fraction") ∈ ws0 := zz_m 106 (by decide +kernel) (by decide +kernel)
theorem mw_107 : (Jvm.Cond.initialized "java/util/AbstractCollection") ∈ ws0 := zz_m 107 (by decide +kernel) (by decide +kernel)
theorem mw_108 : (Jvm.Cond.initialized "java/util/AbstractList") ∈ ws0 := zz_m 108 (by decide +kernel) (by decide +kernel)
theorem mw_109 : (Jvm.Cond.initialized "java/util/ArrayList") ∈ ws0 := zz_m 109 (by decide +kernel) (by decide +kernel)
theorem mw_125 : (Jvm.Cond.methodLink "ScaleShop" (3 : Nat) ({ cls := "java/lang/Object", name := "<init>", desc := "()V" } : Jvm.MethodName)) ∈ ws0 := zz_m 125 (by decide +kernel) (by decide +kernel)
theorem mw_126 : (Jvm.Cond.instanceMethod ({ cls := "java/lang/Object", name := "<init>", desc := "()V" } : Jvm.MethodName)) ∈ ws0 := zz_m 126 (by decide +kernel) (by decide +kernel)
theorem mw_128 : (Jvm.Cond.classLink "ScaleShop" (9 : Nat) "ScaleShop$Sheet") ∈ ws0 := zz_m 128 (by decide +kernel) (by decide +kernel)
theorem mw_129 : (Jvm.Cond.instantiable "ScaleShop$Sheet" (2 : Nat)) ∈ ws0 := zz_m 129 (by decide +kernel) (by decide +kernel)
theorem mw_130 : (Jvm.Cond.methodLink "ScaleShop" (11 : Nat) ({ cls := "ScaleShop$Sheet", name := "<init>", desc := "()V" } : Jvm.MethodName)) ∈ ws0 := zz_m 130 (by decide +kernel) (by decide +kernel)
theorem mw_131 : (Jvm.Cond.instanceMethod ({ cls := "ScaleShop$Sheet", name := "<init>", desc := "()V" } : Jvm.MethodName)) ∈ ws0 := zz_m 131 (by decide +kernel) (by decide +kernel)
theorem mc_yX8_init : (Cond.code yX8_init cX8_init 1 none) ∈ ws0 := zz_m 132 (by decide +kernel) (by decide +kernel)
theorem mw_133 : (Jvm.Cond.methodLink "ScaleShop$Sheet" (3 : Nat) ({ cls := "java/lang/Object", name := "<init>", desc := "()V" } : Jvm.MethodName)) ∈ ws0 := zz_m 133 (by decide +kernel) (by decide +kernel)
theorem mw_134 : (Jvm.Cond.classLink "ScaleShop$Sheet" (9 : Nat) "ScaleShop$Feature") ∈ ws0 := zz_m 134 (by decide +kernel) (by decide +kernel)
theorem mw_136 : (Jvm.Cond.fieldLink "ScaleShop$Sheet" (11 : Nat) "ScaleShop$Sheet" "features" "[LScaleShop$Feature;") ∈ ws0 := zz_m 136 (by decide +kernel) (by decide +kernel)
theorem mw_137 : (Jvm.Cond.fieldLink "ScaleShop$Sheet" (17 : Nat) "ScaleShop$Sheet" "total" "I") ∈ ws0 := zz_m 137 (by decide +kernel) (by decide +kernel)
theorem mw_146 : (Jvm.Cond.classLink "ScaleShop" (16 : Nat) "ScaleShop$Law") ∈ ws0 := zz_m 146 (by decide +kernel) (by decide +kernel)
theorem mw_147 : (Jvm.Cond.instantiable "ScaleShop$Law" (6 : Nat)) ∈ ws0 := zz_m 147 (by decide +kernel) (by decide +kernel)
theorem mw_148 : (Jvm.Cond.methodLink "ScaleShop" (18 : Nat) ({ cls := "ScaleShop$Law", name := "<init>", desc := "()V" } : Jvm.MethodName)) ∈ ws0 := zz_m 148 (by decide +kernel) (by decide +kernel)
theorem mw_149 : (Jvm.Cond.instanceMethod ({ cls := "ScaleShop$Law", name := "<init>", desc := "()V" } : Jvm.MethodName)) ∈ ws0 := zz_m 149 (by decide +kernel) (by decide +kernel)
theorem mc_yX4_init : (Cond.code yX4_init cX4_init 1 none) ∈ ws0 := zz_m 150 (by decide +kernel) (by decide +kernel)
theorem mw_151 : (Jvm.Cond.methodLink "ScaleShop$Law" (3 : Nat) ({ cls := "java/lang/Object", name := "<init>", desc := "()V" } : Jvm.MethodName)) ∈ ws0 := zz_m 151 (by decide +kernel) (by decide +kernel)
theorem mw_152 : (Jvm.Cond.classLink "ScaleShop$Law" (9 : Nat) "ScaleShop$Row") ∈ ws0 := zz_m 152 (by decide +kernel) (by decide +kernel)
theorem mw_153 : (Jvm.Cond.instantiable "ScaleShop$Row" (4 : Nat)) ∈ ws0 := zz_m 153 (by decide +kernel) (by decide +kernel)
theorem mw_154 : (Jvm.Cond.methodLink "ScaleShop$Law" (11 : Nat) ({ cls := "ScaleShop$Row", name := "<init>", desc := "(IZ)V" } : Jvm.MethodName)) ∈ ws0 := zz_m 154 (by decide +kernel) (by decide +kernel)
theorem mw_155 : (Jvm.Cond.instanceMethod ({ cls := "ScaleShop$Row", name := "<init>", desc := "(IZ)V" } : Jvm.MethodName)) ∈ ws0 := zz_m 155 (by decide +kernel) (by decide +kernel)
theorem mc_yX7_init : (Cond.code yX7_init cX7_init 4 none) ∈ ws0 := zz_m 156 (by decide +kernel) (by decide +kernel)
theorem mw_157 : (Jvm.Cond.methodLink "ScaleShop$Row" (3 : Nat) ({ cls := "java/lang/Object", name := "<init>", desc := "()V" } : Jvm.MethodName)) ∈ ws0 := zz_m 157 (by decide +kernel) (by decide +kernel)
theorem mw_158 : (Jvm.Cond.methodLink "ScaleShop$Row" (15 : Nat) ({ cls := "java/lang/Math", name := "max", desc := "(II)I" } : Jvm.MethodName)) ∈ ws0 := zz_m 158 (by decide +kernel) (by decide +kernel)
theorem mw_159 : (Jvm.Cond.static ({ cls := "java/lang/Math", name := "max", desc := "(II)I" } : Jvm.MethodName)) ∈ ws0 := zz_m 159 (by decide +kernel) (by decide +kernel)
theorem mw_161 : (Jvm.Cond.fieldLink "ScaleShop$Row" (21 : Nat) "ScaleShop$Row" "x" "[I") ∈ ws0 := zz_m 161 (by decide +kernel) (by decide +kernel)
theorem mw_168 : (Jvm.Cond.fieldLink "ScaleShop$Row" (25 : Nat) "ScaleShop$Row" "y" "[I") ∈ ws0 := zz_m 168 (by decide +kernel) (by decide +kernel)
theorem mw_175 : (Jvm.Cond.fieldLink "ScaleShop$Row" (9 : Nat) "ScaleShop$Row" "n" "I") ∈ ws0 := zz_m 175 (by decide +kernel) (by decide +kernel)
theorem mw_183 : (Jvm.Cond.fieldLink "ScaleShop$Row" (28 : Nat) "ScaleShop$Row" "ring" "Z") ∈ ws0 := zz_m 183 (by decide +kernel) (by decide +kernel)
theorem mw_195 : (Jvm.Cond.arrayClass Jvm.ClassFile.FieldType.int) ∈ ws0 := zz_m 195 (by decide +kernel) (by decide +kernel)
theorem mw_196 : (Jvm.Cond.classLink "ScaleShop$Law" (26 : Nat) "ScaleShop$Box") ∈ ws0 := zz_m 196 (by decide +kernel) (by decide +kernel)
theorem mw_197 : (Jvm.Cond.instantiable "ScaleShop$Box" (4 : Nat)) ∈ ws0 := zz_m 197 (by decide +kernel) (by decide +kernel)
theorem mw_198 : (Jvm.Cond.methodLink "ScaleShop$Law" (28 : Nat) ({ cls := "ScaleShop$Box", name := "<init>", desc := "()V" } : Jvm.MethodName)) ∈ ws0 := zz_m 198 (by decide +kernel) (by decide +kernel)
theorem mw_199 : (Jvm.Cond.instanceMethod ({ cls := "ScaleShop$Box", name := "<init>", desc := "()V" } : Jvm.MethodName)) ∈ ws0 := zz_m 199 (by decide +kernel) (by decide +kernel)
theorem mc_yX0_init : (Cond.code yX0_init cX0_init 1 none) ∈ ws0 := zz_m 200 (by decide +kernel) (by decide +kernel)
theorem mw_201 : (Jvm.Cond.methodLink "ScaleShop$Box" (1 : Nat) ({ cls := "java/lang/Object", name := "<init>", desc := "()V" } : Jvm.MethodName)) ∈ ws0 := zz_m 201 (by decide +kernel) (by decide +kernel)
theorem mw_202 : (Jvm.Cond.fieldLink "ScaleShop$Box" (7 : Nat) "ScaleShop$Box" "left" "I") ∈ ws0 := zz_m 202 (by decide +kernel) (by decide +kernel)
theorem mw_204 : (Jvm.Cond.fieldLink "ScaleShop$Box" (13 : Nat) "ScaleShop$Box" "low" "I") ∈ ws0 := zz_m 204 (by decide +kernel) (by decide +kernel)
theorem mw_206 : (Jvm.Cond.fieldLink "ScaleShop$Box" (16 : Nat) "ScaleShop$Box" "right" "I") ∈ ws0 := zz_m 206 (by decide +kernel) (by decide +kernel)
theorem mw_208 : (Jvm.Cond.fieldLink "ScaleShop$Box" (19 : Nat) "ScaleShop$Box" "high" "I") ∈ ws0 := zz_m 208 (by decide +kernel) (by decide +kernel)
theorem mw_219 : (Jvm.Cond.fieldLink "ScaleShop$Law" (14 : Nat) "ScaleShop$Law" "draft" "LScaleShop$Row;") ∈ ws0 := zz_m 219 (by decide +kernel) (by decide +kernel)
theorem mw_221 : (Jvm.Cond.fieldLink "ScaleShop$Law" (20 : Nat) "ScaleShop$Law" "triangle" "LScaleShop$Row;") ∈ ws0 := zz_m 221 (by decide +kernel) (by decide +kernel)
theorem mw_222 : (Jvm.Cond.fieldLink "ScaleShop$Law" (23 : Nat) "ScaleShop$Law" "way" "LScaleShop$Row;") ∈ ws0 := zz_m 222 (by decide +kernel) (by decide +kernel)
theorem mw_223 : (Jvm.Cond.fieldLink "ScaleShop$Law" (29 : Nat) "ScaleShop$Law" "reach" "LScaleShop$Box;") ∈ ws0 := zz_m 223 (by decide +kernel) (by decide +kernel)
theorem mw_224 : (Jvm.Cond.fieldLink "ScaleShop$Law" (33 : Nat) "ScaleShop$Law" "otherBox" "LScaleShop$Box;") ∈ ws0 := zz_m 224 (by decide +kernel) (by decide +kernel)
theorem mw_225 : (Jvm.Cond.fieldLink "ScaleShop$Law" (36 : Nat) "ScaleShop$Law" "areas" "[I") ∈ ws0 := zz_m 225 (by decide +kernel) (by decide +kernel)
theorem mw_239 : (Jvm.Cond.classLink "ScaleShop" (23 : Nat) "ScaleShop$Roads") ∈ ws0 := zz_m 239 (by decide +kernel) (by decide +kernel)
theorem mw_240 : (Jvm.Cond.instantiable "ScaleShop$Roads" (6 : Nat)) ∈ ws0 := zz_m 240 (by decide +kernel) (by decide +kernel)
theorem mw_241 : (Jvm.Cond.methodLink "ScaleShop" (25 : Nat) ({ cls := "ScaleShop$Roads", name := "<init>", desc := "()V" } : Jvm.MethodName)) ∈ ws0 := zz_m 241 (by decide +kernel) (by decide +kernel)
theorem mw_242 : (Jvm.Cond.instanceMethod ({ cls := "ScaleShop$Roads", name := "<init>", desc := "()V" } : Jvm.MethodName)) ∈ ws0 := zz_m 242 (by decide +kernel) (by decide +kernel)
theorem mc_yX6_init : (Cond.code yX6_init cX6_init 1 none) ∈ ws0 := zz_m 243 (by decide +kernel) (by decide +kernel)
theorem mw_244 : (Jvm.Cond.methodLink "ScaleShop$Roads" (3 : Nat) ({ cls := "java/lang/Object", name := "<init>", desc := "()V" } : Jvm.MethodName)) ∈ ws0 := zz_m 244 (by decide +kernel) (by decide +kernel)
theorem mw_245 : (Jvm.Cond.classLink "ScaleShop$Roads" (9 : Nat) "ScaleShop$Feature") ∈ ws0 := zz_m 245 (by decide +kernel) (by decide +kernel)
theorem mw_246 : (Jvm.Cond.fieldLink "ScaleShop$Roads" (11 : Nat) "ScaleShop$Roads" "roads" "[LScaleShop$Feature;") ∈ ws0 := zz_m 246 (by decide +kernel) (by decide +kernel)
theorem mw_247 : (Jvm.Cond.fieldLink "ScaleShop$Roads" (17 : Nat) "ScaleShop$Roads" "weights" "[I") ∈ ws0 := zz_m 247 (by decide +kernel) (by decide +kernel)
theorem mw_248 : (Jvm.Cond.fieldLink "ScaleShop$Roads" (21 : Nat) "ScaleShop$Roads" "endX" "[I") ∈ ws0 := zz_m 248 (by decide +kernel) (by decide +kernel)
theorem mw_249 : (Jvm.Cond.fieldLink "ScaleShop$Roads" (24 : Nat) "ScaleShop$Roads" "endY" "[I") ∈ ws0 := zz_m 249 (by decide +kernel) (by decide +kernel)
theorem mw_250 : (Jvm.Cond.fieldLink "ScaleShop$Roads" (27 : Nat) "ScaleShop$Roads" "groups" "[I") ∈ ws0 := zz_m 250 (by decide +kernel) (by decide +kernel)
theorem mw_251 : (Jvm.Cond.fieldLink "ScaleShop$Roads" (30 : Nat) "ScaleShop$Roads" "n" "I") ∈ ws0 := zz_m 251 (by decide +kernel) (by decide +kernel)
theorem mw_265 : (Jvm.Cond.classLink "ScaleShop" (30 : Nat) "ScaleShop$Box") ∈ ws0 := zz_m 265 (by decide +kernel) (by decide +kernel)
theorem mw_266 : (Jvm.Cond.methodLink "ScaleShop" (32 : Nat) ({ cls := "ScaleShop$Box", name := "<init>", desc := "()V" } : Jvm.MethodName)) ∈ ws0 := zz_m 266 (by decide +kernel) (by decide +kernel)
theorem mw_267 : (Jvm.Cond.classLink "ScaleShop" (40 : Nat) "ScaleShop$Fraction") ∈ ws0 := zz_m 267 (by decide +kernel) (by decide +kernel)
theorem mw_268 : (Jvm.Cond.instantiable "ScaleShop$Fraction" (2 : Nat)) ∈ ws0 := zz_m 268 (by decide +kernel) (by decide +kernel)
theorem mw_269 : (Jvm.Cond.methodLink "ScaleShop" (42 : Nat) ({ cls := "ScaleShop$Fraction", name := "<init>", desc := "()V" } : Jvm.MethodName)) ∈ ws0 := zz_m 269 (by decide +kernel) (by decide +kernel)
theorem mw_270 : (Jvm.Cond.instanceMethod ({ cls := "ScaleShop$Fraction", name := "<init>", desc := "()V" } : Jvm.MethodName)) ∈ ws0 := zz_m 270 (by decide +kernel) (by decide +kernel)
theorem mc_yX3_init : (Cond.code yX3_init cX3_init 1 none) ∈ ws0 := zz_m 271 (by decide +kernel) (by decide +kernel)
theorem mw_272 : (Jvm.Cond.methodLink "ScaleShop$Fraction" (1 : Nat) ({ cls := "java/lang/Object", name := "<init>", desc := "()V" } : Jvm.MethodName)) ∈ ws0 := zz_m 272 (by decide +kernel) (by decide +kernel)
theorem mw_273 : (Jvm.Cond.fieldLink "ScaleShop$Fraction" (7 : Nat) "ScaleShop$Fraction" "over" "J") ∈ ws0 := zz_m 273 (by decide +kernel) (by decide +kernel)
theorem mw_275 : (Jvm.Cond.fieldLink "ScaleShop$Fraction" (13 : Nat) "ScaleShop$Fraction" "under" "J") ∈ ws0 := zz_m 275 (by decide +kernel) (by decide +kernel)
theorem mw_282 : (Jvm.Cond.classLink "ScaleShop" (54 : Nat) "java/util/ArrayList") ∈ ws0 := zz_m 282 (by decide +kernel) (by decide +kernel)
theorem mw_283 : (Jvm.Cond.instantiable "java/util/ArrayList" (3 : Nat)) ∈ ws0 := zz_m 283 (by decide +kernel) (by decide +kernel)
theorem mw_284 : (Jvm.Cond.methodLink "ScaleShop" (56 : Nat) ({ cls := "java/util/ArrayList", name := "<init>", desc := "()V" } : Jvm.MethodName)) ∈ ws0 := zz_m 284 (by decide +kernel) (by decide +kernel)
theorem mw_285 : (Jvm.Cond.instanceMethod ({ cls := "java/util/ArrayList", name := "<init>", desc := "()V" } : Jvm.MethodName)) ∈ ws0 := zz_m 285 (by decide +kernel) (by decide +kernel)
theorem mc_yJx4a65c_init_da8c8 : (Cond.code yJx4a65c_init_da8c8 cJx4a65c_init_da8c8 1 none) ∈ ws0 := zz_m 286 (by decide +kernel) (by decide +kernel)
theorem mw_287 : (Jvm.Cond.methodLink "java/util/ArrayList" (1 : Nat) ({ cls := "java/util/AbstractList", name := "<init>", desc := "()V" } : Jvm.MethodName)) ∈ ws0 := zz_m 287 (by decide +kernel) (by decide +kernel)
theorem mw_288 : (Jvm.Cond.instanceMethod ({ cls := "java/util/AbstractList", name := "<init>", desc := "()V" } : Jvm.MethodName)) ∈ ws0 := zz_m 288 (by decide +kernel) (by decide +kernel)
theorem mc_yJxc12de_init_da8c8 : (Cond.code yJxc12de_init_da8c8 cJxc12de_init_da8c8 1 none) ∈ ws0 := zz_m 289 (by decide +kernel) (by decide +kernel)
theorem mw_290 : (Jvm.Cond.methodLink "java/util/AbstractList" (1 : Nat) ({ cls := "java/util/AbstractCollection", name := "<init>", desc := "()V" } : Jvm.MethodName)) ∈ ws0 := zz_m 290 (by decide +kernel) (by decide +kernel)
theorem mw_291 : (Jvm.Cond.instanceMethod ({ cls := "java/util/AbstractCollection", name := "<init>", desc := "()V" } : Jvm.MethodName)) ∈ ws0 := zz_m 291 (by decide +kernel) (by decide +kernel)
theorem mc_yJxa1e45_init_da8c8 : (Cond.code yJxa1e45_init_da8c8 cJxa1e45_init_da8c8 1 none) ∈ ws0 := zz_m 292 (by decide +kernel) (by decide +kernel)
theorem mw_293 : (Jvm.Cond.methodLink "java/util/AbstractCollection" (1 : Nat) ({ cls := "java/lang/Object", name := "<init>", desc := "()V" } : Jvm.MethodName)) ∈ ws0 := zz_m 293 (by decide +kernel) (by decide +kernel)
theorem mw_294 : (Jvm.Cond.fieldLink "java/util/ArrayList" (39 : Nat) "java/util/ArrayList" "DEFAULTCAPACITY_EMPTY_ELEMENTDATA" "[Ljava/lang/Object;") ∈ ws0 := zz_m 294 (by decide +kernel) (by decide +kernel)
theorem mw_296 : (Jvm.Cond.fieldLink "java/util/ArrayList" (9 : Nat) "java/util/ArrayList" "elementData" "[Ljava/lang/Object;") ∈ ws0 := zz_m 296 (by decide +kernel) (by decide +kernel)
theorem mw_298 : (Jvm.Cond.fieldLink "java/util/AbstractList" (7 : Nat) "java/util/AbstractList" "modCount" "I") ∈ ws0 := zz_m 298 (by decide +kernel) (by decide +kernel)
theorem mw_308 : (Jvm.Cond.arrayClass Jvm.ClassFile.FieldType.boolean) ∈ ws0 := zz_m 308 (by decide +kernel) (by decide +kernel)
theorem mw_309 : (Jvm.Cond.fieldLink "ScaleShop" (12 : Nat) "ScaleShop" "sheet" "LScaleShop$Sheet;") ∈ ws0 := zz_m 309 (by decide +kernel) (by decide +kernel)
theorem mw_310 : (Jvm.Cond.fieldLink "ScaleShop" (19 : Nat) "ScaleShop" "law" "LScaleShop$Law;") ∈ ws0 := zz_m 310 (by decide +kernel) (by decide +kernel)
theorem mw_311 : (Jvm.Cond.fieldLink "ScaleShop" (26 : Nat) "ScaleShop" "roads" "LScaleShop$Roads;") ∈ ws0 := zz_m 311 (by decide +kernel) (by decide +kernel)
theorem mw_312 : (Jvm.Cond.fieldLink "ScaleShop" (33 : Nat) "ScaleShop" "box" "LScaleShop$Box;") ∈ ws0 := zz_m 312 (by decide +kernel) (by decide +kernel)
theorem mw_313 : (Jvm.Cond.fieldLink "ScaleShop" (37 : Nat) "ScaleShop" "otherBox" "LScaleShop$Box;") ∈ ws0 := zz_m 313 (by decide +kernel) (by decide +kernel)
theorem mw_314 : (Jvm.Cond.fieldLink "ScaleShop" (43 : Nat) "ScaleShop" "distance" "LScaleShop$Fraction;") ∈ ws0 := zz_m 314 (by decide +kernel) (by decide +kernel)
theorem mw_315 : (Jvm.Cond.fieldLink "ScaleShop" (47 : Nat) "ScaleShop" "farthest" "LScaleShop$Fraction;") ∈ ws0 := zz_m 315 (by decide +kernel) (by decide +kernel)
theorem mw_316 : (Jvm.Cond.fieldLink "ScaleShop" (50 : Nat) "ScaleShop" "leaves" "[Z") ∈ ws0 := zz_m 316 (by decide +kernel) (by decide +kernel)
theorem mw_317 : (Jvm.Cond.fieldLink "ScaleShop" (57 : Nat) "ScaleShop" "steps" "Ljava/util/ArrayList;") ∈ ws0 := zz_m 317 (by decide +kernel) (by decide +kernel)
theorem mw_318 : (Jvm.Cond.fieldLink "ScaleShop" (61 : Nat) "ScaleShop" "doneSteps" "I") ∈ ws0 := zz_m 318 (by decide +kernel) (by decide +kernel)
theorem mw_319 : (Jvm.Cond.fieldLink "ScaleShop" (65 : Nat) "ScaleShop" "sealedSteps" "I") ∈ ws0 := zz_m 319 (by decide +kernel) (by decide +kernel)
theorem mw_320 : (Jvm.Cond.fieldLink "ScaleShop" (68 : Nat) "ScaleShop" "unlawful" "I") ∈ ws0 := zz_m 320 (by decide +kernel) (by decide +kernel)
theorem mw_321 : (Jvm.Cond.fieldLink "ScaleShop" (71 : Nat) "ScaleShop" "status" "I") ∈ ws0 := zz_m 321 (by decide +kernel) (by decide +kernel)
end
section
theorem dX0_init_0 : decode cX0_init 0 = .ok (.aload_n 0, 1) := by decide +kernel
theorem dX0_init_1 : decode cX0_init 1 = .ok (.invokespecial 1, 3) := by decide +kernel
theorem dX0_init_4 : decode cX0_init 4 = .ok (.aload_n 0, 1) := by decide +kernel
theorem dX0_init_5 : decode cX0_init 5 = .ok (.iconst 0, 1) := by decide +kernel
theorem dX0_init_6 : decode cX0_init 6 = .ok (.putfield 7, 3) := by decide +kernel
theorem dX0_init_9 : decode cX0_init 9 = .ok (.aload_n 0, 1) := by decide +kernel
theorem dX0_init_10 : decode cX0_init 10 = .ok (.iconst 0, 1) := by decide +kernel
theorem dX0_init_11 : decode cX0_init 11 = .ok (.putfield 13, 3) := by decide +kernel
theorem dX0_init_14 : decode cX0_init 14 = .ok (.aload_n 0, 1) := by decide +kernel
theorem dX0_init_15 : decode cX0_init 15 = .ok (.iconst 0, 1) := by decide +kernel
theorem dX0_init_16 : decode cX0_init 16 = .ok (.putfield 16, 3) := by decide +kernel
theorem dX0_init_19 : decode cX0_init 19 = .ok (.aload_n 0, 1) := by decide +kernel
theorem dX0_init_20 : decode cX0_init 20 = .ok (.iconst 0, 1) := by decide +kernel
theorem dX0_init_21 : decode cX0_init 21 = .ok (.putfield 19, 3) := by decide +kernel
theorem dX0_init_24 : decode cX0_init 24 = .ok (.return_, 1) := by decide +kernel
theorem dX3_init_0 : decode cX3_init 0 = .ok (.aload_n 0, 1) := by decide +kernel
theorem dX3_init_1 : decode cX3_init 1 = .ok (.invokespecial 1, 3) := by decide +kernel
theorem dX3_init_4 : decode cX3_init 4 = .ok (.aload_n 0, 1) := by decide +kernel
theorem dX3_init_5 : decode cX3_init 5 = .ok (.lconst 0, 1) := by decide +kernel
theorem dX3_init_6 : decode cX3_init 6 = .ok (.putfield 7, 3) := by decide +kernel
theorem dX3_init_9 : decode cX3_init 9 = .ok (.aload_n 0, 1) := by decide +kernel
theorem dX3_init_10 : decode cX3_init 10 = .ok (.lconst 0, 1) := by decide +kernel
theorem dX3_init_11 : decode cX3_init 11 = .ok (.putfield 13, 3) := by decide +kernel
theorem dX3_init_14 : decode cX3_init 14 = .ok (.return_, 1) := by decide +kernel
theorem dX7_init_0 : decode cX7_init 0 = .ok (.aload_n 0, 1) := by decide +kernel
theorem dX7_init_1 : decode cX7_init 1 = .ok (.invokespecial 3, 3) := by decide +kernel
theorem dX7_init_4 : decode cX7_init 4 = .ok (.aload_n 0, 1) := by decide +kernel
theorem dX7_init_5 : decode cX7_init 5 = .ok (.iconst 0, 1) := by decide +kernel
theorem dX7_init_6 : decode cX7_init 6 = .ok (.putfield 9, 3) := by decide +kernel
theorem dX7_init_9 : decode cX7_init 9 = .ok (.iload_n 1, 1) := by decide +kernel
theorem dX7_init_10 : decode cX7_init 10 = .ok (.iconst 1, 1) := by decide +kernel
theorem dX7_init_11 : decode cX7_init 11 = .ok (.invokestatic 15, 3) := by decide +kernel
theorem dX7_init_14 : decode cX7_init 14 = .ok (.istore_n 3, 1) := by decide +kernel
theorem dX7_init_15 : decode cX7_init 15 = .ok (.aload_n 0, 1) := by decide +kernel
theorem dX7_init_16 : decode cX7_init 16 = .ok (.iload_n 3, 1) := by decide +kernel
theorem dX7_init_17 : decode cX7_init 17 = .ok (.newarray .int, 2) := by decide +kernel
theorem dX7_init_19 : decode cX7_init 19 = .ok (.putfield 21, 3) := by decide +kernel
theorem dX7_init_22 : decode cX7_init 22 = .ok (.aload_n 0, 1) := by decide +kernel
theorem dX7_init_23 : decode cX7_init 23 = .ok (.iload_n 3, 1) := by decide +kernel
theorem dX7_init_24 : decode cX7_init 24 = .ok (.newarray .int, 2) := by decide +kernel
theorem dX7_init_26 : decode cX7_init 26 = .ok (.putfield 25, 3) := by decide +kernel
theorem dX7_init_29 : decode cX7_init 29 = .ok (.aload_n 0, 1) := by decide +kernel
theorem dX7_init_30 : decode cX7_init 30 = .ok (.iload_n 2, 1) := by decide +kernel
theorem dX7_init_31 : decode cX7_init 31 = .ok (.putfield 28, 3) := by decide +kernel
theorem dX7_init_34 : decode cX7_init 34 = .ok (.return_, 1) := by decide +kernel
theorem dX4_init_0 : decode cX4_init 0 = .ok (.aload_n 0, 1) := by decide +kernel
theorem dX4_init_1 : decode cX4_init 1 = .ok (.invokespecial 3, 3) := by decide +kernel
theorem dX4_init_4 : decode cX4_init 4 = .ok (.aload_n 0, 1) := by decide +kernel
theorem dX4_init_5 : decode cX4_init 5 = .ok (.new 9, 3) := by decide +kernel
theorem dX4_init_8 : decode cX4_init 8 = .ok (.dup, 1) := by decide +kernel
theorem dX4_init_9 : decode cX4_init 9 = .ok (.bipush 40, 2) := by decide +kernel
theorem dX4_init_11 : decode cX4_init 11 = .ok (.iconst 0, 1) := by decide +kernel
theorem dX4_init_12 : decode cX4_init 12 = .ok (.invokespecial 11, 3) := by decide +kernel
theorem dX4_init_15 : decode cX4_init 15 = .ok (.putfield 14, 3) := by decide +kernel
theorem dX4_init_18 : decode cX4_init 18 = .ok (.aload_n 0, 1) := by decide +kernel
theorem dX4_init_19 : decode cX4_init 19 = .ok (.new 9, 3) := by decide +kernel
theorem dX4_init_22 : decode cX4_init 22 = .ok (.dup, 1) := by decide +kernel
theorem dX4_init_23 : decode cX4_init 23 = .ok (.iconst 3, 1) := by decide +kernel
theorem dX4_init_24 : decode cX4_init 24 = .ok (.iconst 1, 1) := by decide +kernel
theorem dX4_init_25 : decode cX4_init 25 = .ok (.invokespecial 11, 3) := by decide +kernel
theorem dX4_init_28 : decode cX4_init 28 = .ok (.putfield 20, 3) := by decide +kernel
theorem dX4_init_31 : decode cX4_init 31 = .ok (.aload_n 0, 1) := by decide +kernel
theorem dX4_init_32 : decode cX4_init 32 = .ok (.new 9, 3) := by decide +kernel
theorem dX4_init_35 : decode cX4_init 35 = .ok (.dup, 1) := by decide +kernel
theorem dX4_init_36 : decode cX4_init 36 = .ok (.iconst 2, 1) := by decide +kernel
theorem dX4_init_37 : decode cX4_init 37 = .ok (.iconst 0, 1) := by decide +kernel
theorem dX4_init_38 : decode cX4_init 38 = .ok (.invokespecial 11, 3) := by decide +kernel
theorem dX4_init_41 : decode cX4_init 41 = .ok (.putfield 23, 3) := by decide +kernel
theorem dX4_init_44 : decode cX4_init 44 = .ok (.aload_n 0, 1) := by decide +kernel
theorem dX4_init_45 : decode cX4_init 45 = .ok (.new 26, 3) := by decide +kernel
theorem dX4_init_48 : decode cX4_init 48 = .ok (.dup, 1) := by decide +kernel
theorem dX4_init_49 : decode cX4_init 49 = .ok (.invokespecial 28, 3) := by decide +kernel
theorem dX4_init_52 : decode cX4_init 52 = .ok (.putfield 29, 3) := by decide +kernel
theorem dX4_init_55 : decode cX4_init 55 = .ok (.aload_n 0, 1) := by decide +kernel
theorem dX4_init_56 : decode cX4_init 56 = .ok (.new 26, 3) := by decide +kernel
theorem dX4_init_59 : decode cX4_init 59 = .ok (.dup, 1) := by decide +kernel
theorem dX4_init_60 : decode cX4_init 60 = .ok (.invokespecial 28, 3) := by decide +kernel
theorem dX4_init_63 : decode cX4_init 63 = .ok (.putfield 33, 3) := by decide +kernel
theorem dX4_init_66 : decode cX4_init 66 = .ok (.aload_n 0, 1) := by decide +kernel
theorem dX4_init_67 : decode cX4_init 67 = .ok (.bipush 40, 2) := by decide +kernel
theorem dX4_init_69 : decode cX4_init 69 = .ok (.newarray .int, 2) := by decide +kernel
theorem dX4_init_71 : decode cX4_init 71 = .ok (.putfield 36, 3) := by decide +kernel
theorem dX4_init_74 : decode cX4_init 74 = .ok (.return_, 1) := by decide +kernel
theorem dX8_init_0 : decode cX8_init 0 = .ok (.aload_n 0, 1) := by decide +kernel
theorem dX8_init_1 : decode cX8_init 1 = .ok (.invokespecial 3, 3) := by decide +kernel
theorem dX8_init_4 : decode cX8_init 4 = .ok (.aload_n 0, 1) := by decide +kernel
theorem dX8_init_5 : decode cX8_init 5 = .ok (.sipush 200, 3) := by decide +kernel
theorem dX8_init_8 : decode cX8_init 8 = .ok (.anewarray 9, 3) := by decide +kernel
theorem dX8_init_11 : decode cX8_init 11 = .ok (.putfield 11, 3) := by decide +kernel
theorem dX8_init_14 : decode cX8_init 14 = .ok (.aload_n 0, 1) := by decide +kernel
theorem dX8_init_15 : decode cX8_init 15 = .ok (.iconst 0, 1) := by decide +kernel
theorem dX8_init_16 : decode cX8_init 16 = .ok (.putfield 17, 3) := by decide +kernel
theorem dX8_init_19 : decode cX8_init 19 = .ok (.return_, 1) := by decide +kernel
theorem dX6_init_0 : decode cX6_init 0 = .ok (.aload_n 0, 1) := by decide +kernel
theorem dX6_init_1 : decode cX6_init 1 = .ok (.invokespecial 3, 3) := by decide +kernel
theorem dX6_init_4 : decode cX6_init 4 = .ok (.aload_n 0, 1) := by decide +kernel
theorem dX6_init_5 : decode cX6_init 5 = .ok (.sipush 200, 3) := by decide +kernel
theorem dX6_init_8 : decode cX6_init 8 = .ok (.anewarray 9, 3) := by decide +kernel
theorem dX6_init_11 : decode cX6_init 11 = .ok (.putfield 11, 3) := by decide +kernel
theorem dX6_init_14 : decode cX6_init 14 = .ok (.aload_n 0, 1) := by decide +kernel
theorem dX6_init_15 : decode cX6_init 15 = .ok (.sipush 200, 3) := by decide +kernel
theorem dX6_init_18 : decode cX6_init 18 = .ok (.newarray .int, 2) := by decide +kernel
theorem dX6_init_20 : decode cX6_init 20 = .ok (.putfield 17, 3) := by decide +kernel
theorem dX6_init_23 : decode cX6_init 23 = .ok (.aload_n 0, 1) := by decide +kernel
theorem dX6_init_24 : decode cX6_init 24 = .ok (.sipush 400, 3) := by decide +kernel
theorem dX6_init_27 : decode cX6_init 27 = .ok (.newarray .int, 2) := by decide +kernel
theorem dX6_init_29 : decode cX6_init 29 = .ok (.putfield 21, 3) := by decide +kernel
theorem dX6_init_32 : decode cX6_init 32 = .ok (.aload_n 0, 1) := by decide +kernel
theorem dX6_init_33 : decode cX6_init 33 = .ok (.sipush 400, 3) := by decide +kernel
theorem dX6_init_36 : decode cX6_init 36 = .ok (.newarray .int, 2) := by decide +kernel
theorem dX6_init_38 : decode cX6_init 38 = .ok (.putfield 24, 3) := by decide +kernel
theorem dX6_init_41 : decode cX6_init 41 = .ok (.aload_n 0, 1) := by decide +kernel
theorem dX6_init_42 : decode cX6_init 42 = .ok (.sipush 400, 3) := by decide +kernel
theorem dX6_init_45 : decode cX6_init 45 = .ok (.newarray .int, 2) := by decide +kernel
theorem dX6_init_47 : decode cX6_init 47 = .ok (.putfield 27, 3) := by decide +kernel
theorem dX6_init_50 : decode cX6_init 50 = .ok (.aload_n 0, 1) := by decide +kernel
theorem dX6_init_51 : decode cX6_init 51 = .ok (.iconst 0, 1) := by decide +kernel
theorem dX6_init_52 : decode cX6_init 52 = .ok (.putfield 30, 3) := by decide +kernel
theorem dX6_init_55 : decode cX6_init 55 = .ok (.return_, 1) := by decide +kernel
theorem dJxa1e45_init_da8c8_0 : decode cJxa1e45_init_da8c8 0 = .ok (.aload_n 0, 1) := by decide +kernel
theorem dJxa1e45_init_da8c8_1 : decode cJxa1e45_init_da8c8 1 = .ok (.invokespecial 1, 3) := by decide +kernel
theorem dJxa1e45_init_da8c8_4 : decode cJxa1e45_init_da8c8 4 = .ok (.return_, 1) := by decide +kernel
theorem dJxc12de_init_da8c8_0 : decode cJxc12de_init_da8c8 0 = .ok (.aload_n 0, 1) := by decide +kernel
theorem dJxc12de_init_da8c8_1 : decode cJxc12de_init_da8c8 1 = .ok (.invokespecial 1, 3) := by decide +kernel
theorem dJxc12de_init_da8c8_4 : decode cJxc12de_init_da8c8 4 = .ok (.aload_n 0, 1) := by decide +kernel
theorem dJxc12de_init_da8c8_5 : decode cJxc12de_init_da8c8 5 = .ok (.iconst 0, 1) := by decide +kernel
theorem dJxc12de_init_da8c8_6 : decode cJxc12de_init_da8c8 6 = .ok (.putfield 7, 3) := by decide +kernel
theorem dJxc12de_init_da8c8_9 : decode cJxc12de_init_da8c8 9 = .ok (.return_, 1) := by decide +kernel
theorem dJx4a65c_init_da8c8_0 : decode cJx4a65c_init_da8c8 0 = .ok (.aload_n 0, 1) := by decide +kernel
theorem dJx4a65c_init_da8c8_1 : decode cJx4a65c_init_da8c8 1 = .ok (.invokespecial 1, 3) := by decide +kernel
theorem dJx4a65c_init_da8c8_4 : decode cJx4a65c_init_da8c8 4 = .ok (.aload_n 0, 1) := by decide +kernel
theorem dJx4a65c_init_da8c8_5 : decode cJx4a65c_init_da8c8 5 = .ok (.getstatic 39, 3) := by decide +kernel
theorem dJx4a65c_init_da8c8_8 : decode cJx4a65c_init_da8c8 8 = .ok (.putfield 9, 3) := by decide +kernel
theorem dJx4a65c_init_da8c8_11 : decode cJx4a65c_init_da8c8 11 = .ok (.return_, 1) := by decide +kernel
theorem dX10_init_0 : decode cX10_init 0 = .ok (.aload_n 0, 1) := by decide +kernel
theorem dX10_init_1 : decode cX10_init 1 = .ok (.invokespecial 3, 3) := by decide +kernel
theorem dX10_init_4 : decode cX10_init 4 = .ok (.aload_n 0, 1) := by decide +kernel
theorem dX10_init_5 : decode cX10_init 5 = .ok (.new 9, 3) := by decide +kernel
theorem dX10_init_8 : decode cX10_init 8 = .ok (.dup, 1) := by decide +kernel
theorem dX10_init_9 : decode cX10_init 9 = .ok (.invokespecial 11, 3) := by decide +kernel
theorem dX10_init_12 : decode cX10_init 12 = .ok (.putfield 12, 3) := by decide +kernel
theorem dX10_init_15 : decode cX10_init 15 = .ok (.aload_n 0, 1) := by decide +kernel
theorem dX10_init_16 : decode cX10_init 16 = .ok (.new 16, 3) := by decide +kernel
theorem dX10_init_19 : decode cX10_init 19 = .ok (.dup, 1) := by decide +kernel
theorem dX10_init_20 : decode cX10_init 20 = .ok (.invokespecial 18, 3) := by decide +kernel
theorem dX10_init_23 : decode cX10_init 23 = .ok (.putfield 19, 3) := by decide +kernel
theorem dX10_init_26 : decode cX10_init 26 = .ok (.aload_n 0, 1) := by decide +kernel
theorem dX10_init_27 : decode cX10_init 27 = .ok (.new 23, 3) := by decide +kernel
theorem dX10_init_30 : decode cX10_init 30 = .ok (.dup, 1) := by decide +kernel
theorem dX10_init_31 : decode cX10_init 31 = .ok (.invokespecial 25, 3) := by decide +kernel
theorem dX10_init_34 : decode cX10_init 34 = .ok (.putfield 26, 3) := by decide +kernel
theorem dX10_init_37 : decode cX10_init 37 = .ok (.aload_n 0, 1) := by decide +kernel
theorem dX10_init_38 : decode cX10_init 38 = .ok (.new 30, 3) := by decide +kernel
theorem dX10_init_41 : decode cX10_init 41 = .ok (.dup, 1) := by decide +kernel
theorem dX10_init_42 : decode cX10_init 42 = .ok (.invokespecial 32, 3) := by decide +kernel
theorem dX10_init_45 : decode cX10_init 45 = .ok (.putfield 33, 3) := by decide +kernel
theorem dX10_init_48 : decode cX10_init 48 = .ok (.aload_n 0, 1) := by decide +kernel
theorem dX10_init_49 : decode cX10_init 49 = .ok (.new 30, 3) := by decide +kernel
theorem dX10_init_52 : decode cX10_init 52 = .ok (.dup, 1) := by decide +kernel
theorem dX10_init_53 : decode cX10_init 53 = .ok (.invokespecial 32, 3) := by decide +kernel
theorem dX10_init_56 : decode cX10_init 56 = .ok (.putfield 37, 3) := by decide +kernel
theorem dX10_init_59 : decode cX10_init 59 = .ok (.aload_n 0, 1) := by decide +kernel
theorem dX10_init_60 : decode cX10_init 60 = .ok (.new 40, 3) := by decide +kernel
theorem dX10_init_63 : decode cX10_init 63 = .ok (.dup, 1) := by decide +kernel
theorem dX10_init_64 : decode cX10_init 64 = .ok (.invokespecial 42, 3) := by decide +kernel
theorem dX10_init_67 : decode cX10_init 67 = .ok (.putfield 43, 3) := by decide +kernel
theorem dX10_init_70 : decode cX10_init 70 = .ok (.aload_n 0, 1) := by decide +kernel
theorem dX10_init_71 : decode cX10_init 71 = .ok (.new 40, 3) := by decide +kernel
theorem dX10_init_74 : decode cX10_init 74 = .ok (.dup, 1) := by decide +kernel
theorem dX10_init_75 : decode cX10_init 75 = .ok (.invokespecial 42, 3) := by decide +kernel
theorem dX10_init_78 : decode cX10_init 78 = .ok (.putfield 47, 3) := by decide +kernel
theorem dX10_init_81 : decode cX10_init 81 = .ok (.aload_n 0, 1) := by decide +kernel
theorem dX10_init_82 : decode cX10_init 82 = .ok (.sipush 200, 3) := by decide +kernel
theorem dX10_init_85 : decode cX10_init 85 = .ok (.newarray .boolean, 2) := by decide +kernel
theorem dX10_init_87 : decode cX10_init 87 = .ok (.putfield 50, 3) := by decide +kernel
theorem dX10_init_90 : decode cX10_init 90 = .ok (.aload_n 0, 1) := by decide +kernel
theorem dX10_init_91 : decode cX10_init 91 = .ok (.new 54, 3) := by decide +kernel
theorem dX10_init_94 : decode cX10_init 94 = .ok (.dup, 1) := by decide +kernel
theorem dX10_init_95 : decode cX10_init 95 = .ok (.invokespecial 56, 3) := by decide +kernel
theorem dX10_init_98 : decode cX10_init 98 = .ok (.putfield 57, 3) := by decide +kernel
theorem dX10_init_101 : decode cX10_init 101 = .ok (.aload_n 0, 1) := by decide +kernel
theorem dX10_init_102 : decode cX10_init 102 = .ok (.iconst 0, 1) := by decide +kernel
theorem dX10_init_103 : decode cX10_init 103 = .ok (.putfield 61, 3) := by decide +kernel
theorem dX10_init_106 : decode cX10_init 106 = .ok (.aload_n 0, 1) := by decide +kernel
theorem dX10_init_107 : decode cX10_init 107 = .ok (.iconst 0, 1) := by decide +kernel
theorem dX10_init_108 : decode cX10_init 108 = .ok (.putfield 65, 3) := by decide +kernel
theorem dX10_init_111 : decode cX10_init 111 = .ok (.aload_n 0, 1) := by decide +kernel
theorem dX10_init_112 : decode cX10_init 112 = .ok (.iconst 0, 1) := by decide +kernel
theorem dX10_init_113 : decode cX10_init 113 = .ok (.putfield 68, 3) := by decide +kernel
theorem dX10_init_116 : decode cX10_init 116 = .ok (.aload_n 0, 1) := by decide +kernel
theorem dX10_init_117 : decode cX10_init 117 = .ok (.iconst 0, 1) := by decide +kernel
theorem dX10_init_118 : decode cX10_init 118 = .ok (.putfield 71, 3) := by decide +kernel
theorem dX10_init_121 : decode cX10_init 121 = .ok (.return_, 1) := by decide +kernel
end
section
set_option maxHeartbeats 4000000 in
set_option maxRecDepth 100000 in
theorem k_Box_init (l : Launch) (dC : Nat → ClassId) (dI : Nat → Nat → Nat) (cI cZ cF : ClassId) (sz : Nat) (h0 : Nat) : Met l yX0_init (.code yX0_init cX0_init 1 none :: ws0) ({ frames := 1, cells := 0, slots := 0, locals := 12 }) (va_Pc [.ref h0] (zPre (dC, dI) classes (zTy cI cZ cF) [(h0, .inr (0, [.int 0, .int 0, .int 0, .int 0]))] sz zTrue)) (zQ none (fun t => va_P (dC, dI) classes [] t.heap ∧ va_D (va_A [(h0, .inr (0, [.int 0, .int 0, .int 0, .int 0]))] sz) []) (va_A [(h0, .inr (0, [.int 0, .int 0, .int 0, .int 0]))] sz)) 0 0 (va_A [(h0, .inr (0, [.int 0, .int 0, .int 0, .int 0]))] sz) := by
  refine Met.ofW (cc := cX0_init) (maxL := 1) (ret := none) (by decide) rfl ?_
  intro p e s m args below meth c s₁ B hml hv
  obtain ⟨rfl, hsz, hP, hK, hD0, hXX⟩ := hv
  have hx := B.exec
  have hb := B.bytes
  have hr := B.returns
  have hts0 := atoms_spec (ws := .code yX0_init cX0_init 1 none :: ws0) B.pre
  have hts : ∀ w ∈ ws0, w.before ([.ref h0] : List Value).toArray s = true := fun w h => hts0 w (List.mem_cons_of_mem _ h)
  have hown : s.vm.findClass "ScaleShop$Box" = some m.cls := findClass_of_methodNamed B.named
  have hlocks := B.notSynchronized
  have hin : meth.name = "<init>" := (name_of_methodNamed B.named B.method).1
  subst hsz
  have hD := hD0.self (sz := s.heap.size)
  generalize hAe : va_A [(h0, .inr (0, [.int 0, .int 0, .int 0, .int 0]))] s.heap.size = A at hD ⊢
  have hA : ∀ q : Nat, s.heap.size ≤ q → A q := fun q h => by rw [← hAe]; exact Or.inr h
  have hS : va_S A s.heap s.heap [] := va_S.rf
  have hP : va_P (dC, dI) classes [(h0, .inr (0, [.int 0, .int 0, .int 0, .int 0]))] s.heap := hP
  have hl := lv_entry ([.ref h0]) (n := 1) (Nat.le_of_ble_eq_true rfl)
  rw [lg_entry_eq]
  generalize (lg_sl ([.ref h0]) ++ List.replicate (1 - (lg_sl ([.ref h0])).length) Slot.unset).toArray = ls at hl ⊢
  have hl : lv_has ls 1 [(0, .ref h0)] := hl
  refine lv_aload_n hx hb dX0_init_0 rfl (lv_at hl 0 rfl) ?_
  refine W.objInit hx hb hown (hts _ mw_201) (hts _ mw_126) (hts _ mw_objcode) rfl (by rw [hml]; exact hl.1) rfl dX0_init_1 (Nat.le_of_ble_eq_true rfl) (Nat.le_of_ble_eq_true rfl) ?_
  refine W.eq (g2 := F0 m 4 ls []) rfl ?_
  refine lv_aload_n hx hb dX0_init_4 rfl (lv_at hl 0 rfl) ?_
  refine lv_iconst (v := 0) hx hb dX0_init_5 (by decide) ?_
  refine va_put (D := (dC, dI)) (ci := 0) (v := .int 0) (ty := .int) (C := RX0) (T := TX0) (N := 4) hx hb hts inX0 tyX0 tyX0_ok nmX0 hown hK hP hD hS 0 rfl rfl 0 (by decide) (hts _ mw_202) (fun _ h9 => h9) rfl (by decide +kernel) rfl rfl (Nat.le_of_ble_eq_true rfl) dX0_init_6 (fun H locs hP hD hS => ?_)
  have hP : va_P (dC, dI) classes [(h0, .inr (0, [.int 0, .int 0, .int 0, .int 0]))] H := hP
  have hD : va_D A [(h0, .inr (0, [.int 0, .int 0, .int 0, .int 0]))] := hD
  refine lv_aload_n hx hb dX0_init_9 rfl (lv_at hl 0 rfl) ?_
  refine lv_iconst (v := 0) hx hb dX0_init_10 (by decide) ?_
  refine va_put (D := (dC, dI)) (ci := 0) (v := .int 0) (ty := .int) (C := RX0) (T := TX0) (N := 4) hx hb hts inX0 tyX0 tyX0_ok nmX0 hown hK hP hD hS 0 rfl rfl 1 (by decide) (hts _ mw_204) (fun _ h9 => h9) rfl (by decide +kernel) rfl rfl (Nat.le_of_ble_eq_true rfl) dX0_init_11 (fun H locs hP hD hS => ?_)
  have hP : va_P (dC, dI) classes [(h0, .inr (0, [.int 0, .int 0, .int 0, .int 0]))] H := hP
  have hD : va_D A [(h0, .inr (0, [.int 0, .int 0, .int 0, .int 0]))] := hD
  refine lv_aload_n hx hb dX0_init_14 rfl (lv_at hl 0 rfl) ?_
  refine lv_iconst (v := 0) hx hb dX0_init_15 (by decide) ?_
  refine va_put (D := (dC, dI)) (ci := 0) (v := .int 0) (ty := .int) (C := RX0) (T := TX0) (N := 4) hx hb hts inX0 tyX0 tyX0_ok nmX0 hown hK hP hD hS 0 rfl rfl 2 (by decide) (hts _ mw_206) (fun _ h9 => h9) rfl (by decide +kernel) rfl rfl (Nat.le_of_ble_eq_true rfl) dX0_init_16 (fun H locs hP hD hS => ?_)
  have hP : va_P (dC, dI) classes [(h0, .inr (0, [.int 0, .int 0, .int 0, .int 0]))] H := hP
  have hD : va_D A [(h0, .inr (0, [.int 0, .int 0, .int 0, .int 0]))] := hD
  refine lv_aload_n hx hb dX0_init_19 rfl (lv_at hl 0 rfl) ?_
  refine lv_iconst (v := 0) hx hb dX0_init_20 (by decide) ?_
  refine va_put (D := (dC, dI)) (ci := 0) (v := .int 0) (ty := .int) (C := RX0) (T := TX0) (N := 4) hx hb hts inX0 tyX0 tyX0_ok nmX0 hown hK hP hD hS 0 rfl rfl 3 (by decide) (hts _ mw_208) (fun _ h9 => h9) rfl (by decide +kernel) rfl rfl (Nat.le_of_ble_eq_true rfl) dX0_init_21 (fun H locs hP hD hS => ?_)
  have hP : va_P (dC, dI) classes [(h0, .inr (0, [.int 0, .int 0, .int 0, .int 0]))] H := hP
  have hD : va_D A [(h0, .inr (0, [.int 0, .int 0, .int 0, .int 0]))] := hD
  refine W.widen (k := 0) (n := 0) (by decide) (by decide) ?_
  have hP9 := hP.sub (ws' := []) [] rfl
  have hD9 := hD.sub (ws' := []) [] (by decide) rfl
  exact W.vret hx hb hr (fun t ht hW => ⟨⟨rfl, by rw [ht]; exact hP9, hD9⟩, hS.F ht⟩) hS.2.2 dX0_init_24
set_option maxHeartbeats 4000000 in
set_option maxRecDepth 100000 in
theorem k_Fraction_init (l : Launch) (dC : Nat → ClassId) (dI : Nat → Nat → Nat) (cI cZ cF : ClassId) (sz : Nat) (h0 : Nat) : Met l yX3_init (.code yX3_init cX3_init 1 none :: ws0) ({ frames := 1, cells := 0, slots := 0, locals := 12 }) (va_Pc [.ref h0] (zPre (dC, dI) classes (zTy cI cZ cF) [(h0, .inr (2, [.long 0, .long 0]))] sz zTrue)) (zQ none (fun t => va_P (dC, dI) classes [] t.heap ∧ va_D (va_A [(h0, .inr (2, [.long 0, .long 0]))] sz) []) (va_A [(h0, .inr (2, [.long 0, .long 0]))] sz)) 0 0 (va_A [(h0, .inr (2, [.long 0, .long 0]))] sz) := by
  refine Met.ofW (cc := cX3_init) (maxL := 1) (ret := none) (by decide) rfl ?_
  intro p e s m args below meth c s₁ B hml hv
  obtain ⟨rfl, hsz, hP, hK, hD0, hXX⟩ := hv
  have hx := B.exec
  have hb := B.bytes
  have hr := B.returns
  have hts0 := atoms_spec (ws := .code yX3_init cX3_init 1 none :: ws0) B.pre
  have hts : ∀ w ∈ ws0, w.before ([.ref h0] : List Value).toArray s = true := fun w h => hts0 w (List.mem_cons_of_mem _ h)
  have hown : s.vm.findClass "ScaleShop$Fraction" = some m.cls := findClass_of_methodNamed B.named
  have hlocks := B.notSynchronized
  have hin : meth.name = "<init>" := (name_of_methodNamed B.named B.method).1
  subst hsz
  have hD := hD0.self (sz := s.heap.size)
  generalize hAe : va_A [(h0, .inr (2, [.long 0, .long 0]))] s.heap.size = A at hD ⊢
  have hA : ∀ q : Nat, s.heap.size ≤ q → A q := fun q h => by rw [← hAe]; exact Or.inr h
  have hS : va_S A s.heap s.heap [] := va_S.rf
  have hP : va_P (dC, dI) classes [(h0, .inr (2, [.long 0, .long 0]))] s.heap := hP
  have hl := lv_entry ([.ref h0]) (n := 1) (Nat.le_of_ble_eq_true rfl)
  rw [lg_entry_eq]
  generalize (lg_sl ([.ref h0]) ++ List.replicate (1 - (lg_sl ([.ref h0])).length) Slot.unset).toArray = ls at hl ⊢
  have hl : lv_has ls 1 [(0, .ref h0)] := hl
  refine lv_aload_n hx hb dX3_init_0 rfl (lv_at hl 0 rfl) ?_
  refine W.objInit hx hb hown (hts _ mw_272) (hts _ mw_126) (hts _ mw_objcode) rfl (by rw [hml]; exact hl.1) rfl dX3_init_1 (Nat.le_of_ble_eq_true rfl) (Nat.le_of_ble_eq_true rfl) ?_
  refine W.eq (g2 := F0 m 4 ls []) rfl ?_
  refine lv_aload_n hx hb dX3_init_4 rfl (lv_at hl 0 rfl) ?_
  refine lv_lconst (v := 0) hx hb dX3_init_5 (by decide) ?_
  refine va_put (D := (dC, dI)) (ci := 2) (v := .long 0) (ty := .long) (C := RX3) (T := TX3) (N := 2) hx hb hts inX3 tyX3 tyX3_ok nmX3 hown hK hP hD hS 0 rfl rfl 0 (by decide) (hts _ mw_273) (fun _ h9 => h9) rfl (by decide +kernel) rfl rfl (Nat.le_of_ble_eq_true rfl) dX3_init_6 (fun H locs hP hD hS => ?_)
  have hP : va_P (dC, dI) classes [(h0, .inr (2, [.long 0, .long 0]))] H := hP
  have hD : va_D A [(h0, .inr (2, [.long 0, .long 0]))] := hD
  refine lv_aload_n hx hb dX3_init_9 rfl (lv_at hl 0 rfl) ?_
  refine lv_lconst (v := 0) hx hb dX3_init_10 (by decide) ?_
  refine va_put (D := (dC, dI)) (ci := 2) (v := .long 0) (ty := .long) (C := RX3) (T := TX3) (N := 2) hx hb hts inX3 tyX3 tyX3_ok nmX3 hown hK hP hD hS 0 rfl rfl 1 (by decide) (hts _ mw_275) (fun _ h9 => h9) rfl (by decide +kernel) rfl rfl (Nat.le_of_ble_eq_true rfl) dX3_init_11 (fun H locs hP hD hS => ?_)
  have hP : va_P (dC, dI) classes [(h0, .inr (2, [.long 0, .long 0]))] H := hP
  have hD : va_D A [(h0, .inr (2, [.long 0, .long 0]))] := hD
  refine W.widen (k := 0) (n := 0) (by decide) (by decide) ?_
  have hP9 := hP.sub (ws' := []) [] rfl
  have hD9 := hD.sub (ws' := []) [] (by decide) rfl
  exact W.vret hx hb hr (fun t ht hW => ⟨⟨rfl, by rw [ht]; exact hP9, hD9⟩, hS.F ht⟩) hS.2.2 dX3_init_14
set_option maxHeartbeats 4000000 in
set_option maxRecDepth 100000 in
theorem k_Row_init_40_0 (l : Launch) (dC : Nat → ClassId) (dI : Nat → Nat → Nat) (cI cZ cF : ClassId) (sz : Nat) (h0 : Nat) : Met l yX7_init (.code yX7_init cX7_init 4 none :: ws0) ({ frames := 1, cells := 2, slots := 80, locals := 13 }) (va_Pc [.ref h0, .int 40, .int 0] (zPre (dC, dI) classes (zTy cI cZ cF) [(h0, .inr (6, [.null, .null, .int 0, .int 0]))] sz zTrue)) (zQ none (fun t => va_P (dC, dI) classes [] t.heap ∧ va_D (va_A [(h0, .inr (6, [.null, .null, .int 0, .int 0]))] sz) []) (va_A [(h0, .inr (6, [.null, .null, .int 0, .int 0]))] sz)) 2 80 (va_A [(h0, .inr (6, [.null, .null, .int 0, .int 0]))] sz) := by
  refine Met.ofW (cc := cX7_init) (maxL := 4) (ret := none) (by decide) rfl ?_
  intro p e s m args below meth c s₁ B hml hv
  obtain ⟨rfl, hsz, hP, hK, hD0, hXX⟩ := hv
  have hx := B.exec
  have hb := B.bytes
  have hr := B.returns
  have hts0 := atoms_spec (ws := .code yX7_init cX7_init 4 none :: ws0) B.pre
  have hts : ∀ w ∈ ws0, w.before ([.ref h0, .int 40, .int 0] : List Value).toArray s = true := fun w h => hts0 w (List.mem_cons_of_mem _ h)
  have hown : s.vm.findClass "ScaleShop$Row" = some m.cls := findClass_of_methodNamed B.named
  have hlocks := B.notSynchronized
  have hin : meth.name = "<init>" := (name_of_methodNamed B.named B.method).1
  subst hsz
  have hD := hD0.self (sz := s.heap.size)
  generalize hAe : va_A [(h0, .inr (6, [.null, .null, .int 0, .int 0]))] s.heap.size = A at hD ⊢
  have hA : ∀ q : Nat, s.heap.size ≤ q → A q := fun q h => by rw [← hAe]; exact Or.inr h
  have hS : va_S A s.heap s.heap [] := va_S.rf
  have hP : va_P (dC, dI) classes [(h0, .inr (6, [.null, .null, .int 0, .int 0]))] s.heap := hP
  have hl := lv_entry ([.ref h0, .int 40, .int 0]) (n := 4) (Nat.le_of_ble_eq_true rfl)
  rw [lg_entry_eq]
  generalize (lg_sl ([.ref h0, .int 40, .int 0]) ++ List.replicate (4 - (lg_sl ([.ref h0, .int 40, .int 0])).length) Slot.unset).toArray = ls at hl ⊢
  have hl : lv_has ls 4 [(0, .ref h0), (1, .int 40), (2, .int 0)] := hl
  refine lv_aload_n hx hb dX7_init_0 rfl (lv_at hl 0 rfl) ?_
  refine W.objInit hx hb hown (hts _ mw_157) (hts _ mw_126) (hts _ mw_objcode) rfl (by rw [hml]; exact hl.1) rfl dX7_init_1 (Nat.le_of_ble_eq_true rfl) (Nat.le_of_ble_eq_true rfl) ?_
  refine W.eq (g2 := F0 m 4 ls []) rfl ?_
  refine lv_aload_n hx hb dX7_init_4 rfl (lv_at hl 0 rfl) ?_
  refine lv_iconst (v := 0) hx hb dX7_init_5 (by decide) ?_
  refine va_put (D := (dC, dI)) (ci := 6) (v := .int 0) (ty := .int) (C := RX7) (T := TX7) (N := 4) hx hb hts inX7 tyX7 tyX7_ok nmX7 hown hK hP hD hS 0 rfl rfl 2 (by decide) (hts _ mw_175) (fun _ h9 => h9) rfl (by decide +kernel) rfl rfl (Nat.le_of_ble_eq_true rfl) dX7_init_6 (fun H locs hP hD hS => ?_)
  have hP : va_P (dC, dI) classes [(h0, .inr (6, [.null, .null, .int 0, .int 0]))] H := hP
  have hD : va_D A [(h0, .inr (6, [.null, .null, .int 0, .int 0]))] := hD
  refine lv_iload_n hx hb dX7_init_9 rfl (lv_at hl 1 rfl) ?_
  refine lv_iconst (v := 1) hx hb dX7_init_10 (by decide) ?_
  refine va_mmax hx hb (by rw [hml]; exact hl.1.symm) hown (hts _ mw_158) (hts _ mw_159) (hts _ mw_103) (hts _ mw_maxcode) (Nat.le_of_ble_eq_true rfl) (Nat.le_of_ble_eq_true rfl) (Nat.le_of_ble_eq_true rfl) (Nat.le_of_ble_eq_true rfl) dX7_init_11 ?_
  refine zz_i (v := 40) (by decide) ?_
  refine lv_istore_n (lv' := [(3, .int 40), (0, .ref h0), (1, .int 40), (2, .int 0)]) hx hb dX7_init_14 rfl hl (by decide) rfl (fun ls hl => ?_)
  refine lv_aload_n hx hb dX7_init_15 rfl (lv_at hl 1 rfl) ?_
  refine lv_iload_n hx hb dX7_init_16 rfl (lv_at hl 0 rfl) ?_
  refine zz_newa (atype := .int) (a0 := (40, .inl (fun _ => 0))) hx hb (hts _ mw_195) (ty := .int) rfl hK hP hD hS hA (n := 40) (N' := 40) (cA := cI) 0 rfl (fun _ => rfl) (by decide) (by decide) (by decide) (Nat.le_of_ble_eq_true rfl) (Nat.le_of_ble_eq_true rfl) dX7_init_17 (fun q_1 H hP hD hS => ?_)
  have hP : va_P (dC, dI) classes [(h0, .inr (6, [.null, .null, .int 0, .int 0])), (q_1, .inl (cI, 40, .inl (fun _ => 0)))] H := hP
  have hD : va_D A [(h0, .inr (6, [.null, .null, .int 0, .int 0])), (q_1, .inl (cI, 40, .inl (fun _ => 0)))] := hD
  have hP := hP.sub (ws' := [(h0, .inr (6, [.null, .null, .int 0, .int 0]))]) [0] rfl
  have hD := hD.sub (ws' := [(h0, .inr (6, [.null, .null, .int 0, .int 0]))]) [0] (by decide) rfl
  refine va_putF (D := (dC, dI)) (ci := 6) (v := .ref q_1) (ty := .array .int) (C := RX7) (T := TX7) (N := 4) hx hb hts inX7 tyX7 tyX7_ok nmX7 hown hK hP hD hS 0 rfl rfl 0 (by decide) (hts _ mw_161) (fun _ h9 => h9) rfl hin rfl (by decide +kernel) rfl rfl (Nat.le_of_ble_eq_true rfl) dX7_init_19 (fun H locs hP hD hS => ?_)
  have hP : va_P (dC, dI) classes [(h0, .inr (6, [.ref q_1, .null, .int 0, .int 0]))] H := hP
  have hD : va_D A [(h0, .inr (6, [.ref q_1, .null, .int 0, .int 0]))] := hD
  refine lv_aload_n hx hb dX7_init_22 rfl (lv_at hl 1 rfl) ?_
  refine lv_iload_n hx hb dX7_init_23 rfl (lv_at hl 0 rfl) ?_
  refine zz_newa (atype := .int) (a0 := (40, .inl (fun _ => 0))) hx hb (hts _ mw_195) (ty := .int) rfl hK hP hD hS hA (n := 40) (N' := 40) (cA := cI) 0 rfl (fun _ => rfl) (by decide) (by decide) (by decide) (Nat.le_of_ble_eq_true rfl) (Nat.le_of_ble_eq_true rfl) dX7_init_24 (fun q_2 H hP hD hS => ?_)
  have hP : va_P (dC, dI) classes [(h0, .inr (6, [.ref q_1, .null, .int 0, .int 0])), (q_2, .inl (cI, 40, .inl (fun _ => 0)))] H := hP
  have hD : va_D A [(h0, .inr (6, [.ref q_1, .null, .int 0, .int 0])), (q_2, .inl (cI, 40, .inl (fun _ => 0)))] := hD
  have hP := hP.sub (ws' := [(h0, .inr (6, [.ref q_1, .null, .int 0, .int 0]))]) [0] rfl
  have hD := hD.sub (ws' := [(h0, .inr (6, [.ref q_1, .null, .int 0, .int 0]))]) [0] (by decide) rfl
  refine va_putF (D := (dC, dI)) (ci := 6) (v := .ref q_2) (ty := .array .int) (C := RX7) (T := TX7) (N := 4) hx hb hts inX7 tyX7 tyX7_ok nmX7 hown hK hP hD hS 0 rfl rfl 1 (by decide) (hts _ mw_168) (fun _ h9 => h9) rfl hin rfl (by decide +kernel) rfl rfl (Nat.le_of_ble_eq_true rfl) dX7_init_26 (fun H locs hP hD hS => ?_)
  have hP : va_P (dC, dI) classes [(h0, .inr (6, [.ref q_1, .ref q_2, .int 0, .int 0]))] H := hP
  have hD : va_D A [(h0, .inr (6, [.ref q_1, .ref q_2, .int 0, .int 0]))] := hD
  refine lv_aload_n hx hb dX7_init_29 rfl (lv_at hl 1 rfl) ?_
  refine lv_iload_n hx hb dX7_init_30 rfl (lv_at hl 3 rfl) ?_
  refine va_put (D := (dC, dI)) (ci := 6) (v := .int 0) (ty := .boolean) (C := RX7) (T := TX7) (N := 4) hx hb hts inX7 tyX7 tyX7_ok nmX7 hown hK hP hD hS 0 rfl rfl 3 (by decide) (hts _ mw_183) (fun _ h9 => h9) rfl (by decide +kernel) rfl rfl (Nat.le_of_ble_eq_true rfl) dX7_init_31 (fun H locs hP hD hS => ?_)
  have hP : va_P (dC, dI) classes [(h0, .inr (6, [.ref q_1, .ref q_2, .int 0, .int 0]))] H := hP
  have hD : va_D A [(h0, .inr (6, [.ref q_1, .ref q_2, .int 0, .int 0]))] := hD
  refine W.widen (k := 2) (n := 80) (by decide) (by decide) ?_
  have hP9 := hP.sub (ws' := []) [] rfl
  have hD9 := hD.sub (ws' := []) [] (by decide) rfl
  exact W.vret hx hb hr (fun t ht hW => ⟨⟨rfl, by rw [ht]; exact hP9, hD9⟩, hS.F ht⟩) hS.2.2 dX7_init_34
set_option maxHeartbeats 4000000 in
set_option maxRecDepth 100000 in
theorem k_Row_init_3_1 (l : Launch) (dC : Nat → ClassId) (dI : Nat → Nat → Nat) (cI cZ cF : ClassId) (sz : Nat) (h0 : Nat) : Met l yX7_init (.code yX7_init cX7_init 4 none :: ws0) ({ frames := 1, cells := 2, slots := 6, locals := 13 }) (va_Pc [.ref h0, .int 3, .int 1] (zPre (dC, dI) classes (zTy cI cZ cF) [(h0, .inr (6, [.null, .null, .int 0, .int 0]))] sz zTrue)) (zQ none (fun t => va_P (dC, dI) classes [] t.heap ∧ va_D (va_A [(h0, .inr (6, [.null, .null, .int 0, .int 0]))] sz) []) (va_A [(h0, .inr (6, [.null, .null, .int 0, .int 0]))] sz)) 2 6 (va_A [(h0, .inr (6, [.null, .null, .int 0, .int 0]))] sz) := by
  refine Met.ofW (cc := cX7_init) (maxL := 4) (ret := none) (by decide) rfl ?_
  intro p e s m args below meth c s₁ B hml hv
  obtain ⟨rfl, hsz, hP, hK, hD0, hXX⟩ := hv
  have hx := B.exec
  have hb := B.bytes
  have hr := B.returns
  have hts0 := atoms_spec (ws := .code yX7_init cX7_init 4 none :: ws0) B.pre
  have hts : ∀ w ∈ ws0, w.before ([.ref h0, .int 3, .int 1] : List Value).toArray s = true := fun w h => hts0 w (List.mem_cons_of_mem _ h)
  have hown : s.vm.findClass "ScaleShop$Row" = some m.cls := findClass_of_methodNamed B.named
  have hlocks := B.notSynchronized
  have hin : meth.name = "<init>" := (name_of_methodNamed B.named B.method).1
  subst hsz
  have hD := hD0.self (sz := s.heap.size)
  generalize hAe : va_A [(h0, .inr (6, [.null, .null, .int 0, .int 0]))] s.heap.size = A at hD ⊢
  have hA : ∀ q : Nat, s.heap.size ≤ q → A q := fun q h => by rw [← hAe]; exact Or.inr h
  have hS : va_S A s.heap s.heap [] := va_S.rf
  have hP : va_P (dC, dI) classes [(h0, .inr (6, [.null, .null, .int 0, .int 0]))] s.heap := hP
  have hl := lv_entry ([.ref h0, .int 3, .int 1]) (n := 4) (Nat.le_of_ble_eq_true rfl)
  rw [lg_entry_eq]
  generalize (lg_sl ([.ref h0, .int 3, .int 1]) ++ List.replicate (4 - (lg_sl ([.ref h0, .int 3, .int 1])).length) Slot.unset).toArray = ls at hl ⊢
  have hl : lv_has ls 4 [(0, .ref h0), (1, .int 3), (2, .int 1)] := hl
  refine lv_aload_n hx hb dX7_init_0 rfl (lv_at hl 0 rfl) ?_
  refine W.objInit hx hb hown (hts _ mw_157) (hts _ mw_126) (hts _ mw_objcode) rfl (by rw [hml]; exact hl.1) rfl dX7_init_1 (Nat.le_of_ble_eq_true rfl) (Nat.le_of_ble_eq_true rfl) ?_
  refine W.eq (g2 := F0 m 4 ls []) rfl ?_
  refine lv_aload_n hx hb dX7_init_4 rfl (lv_at hl 0 rfl) ?_
  refine lv_iconst (v := 0) hx hb dX7_init_5 (by decide) ?_
  refine va_put (D := (dC, dI)) (ci := 6) (v := .int 0) (ty := .int) (C := RX7) (T := TX7) (N := 4) hx hb hts inX7 tyX7 tyX7_ok nmX7 hown hK hP hD hS 0 rfl rfl 2 (by decide) (hts _ mw_175) (fun _ h9 => h9) rfl (by decide +kernel) rfl rfl (Nat.le_of_ble_eq_true rfl) dX7_init_6 (fun H locs hP hD hS => ?_)
  have hP : va_P (dC, dI) classes [(h0, .inr (6, [.null, .null, .int 0, .int 0]))] H := hP
  have hD : va_D A [(h0, .inr (6, [.null, .null, .int 0, .int 0]))] := hD
  refine lv_iload_n hx hb dX7_init_9 rfl (lv_at hl 1 rfl) ?_
  refine lv_iconst (v := 1) hx hb dX7_init_10 (by decide) ?_
  refine va_mmax hx hb (by rw [hml]; exact hl.1.symm) hown (hts _ mw_158) (hts _ mw_159) (hts _ mw_103) (hts _ mw_maxcode) (Nat.le_of_ble_eq_true rfl) (Nat.le_of_ble_eq_true rfl) (Nat.le_of_ble_eq_true rfl) (Nat.le_of_ble_eq_true rfl) dX7_init_11 ?_
  refine zz_i (v := 3) (by decide) ?_
  refine lv_istore_n (lv' := [(3, .int 3), (0, .ref h0), (1, .int 3), (2, .int 1)]) hx hb dX7_init_14 rfl hl (by decide) rfl (fun ls hl => ?_)
  refine lv_aload_n hx hb dX7_init_15 rfl (lv_at hl 1 rfl) ?_
  refine lv_iload_n hx hb dX7_init_16 rfl (lv_at hl 0 rfl) ?_
  refine zz_newa (atype := .int) (a0 := (3, .inl (fun _ => 0))) hx hb (hts _ mw_195) (ty := .int) rfl hK hP hD hS hA (n := 3) (N' := 3) (cA := cI) 0 rfl (fun _ => rfl) (by decide) (by decide) (by decide) (Nat.le_of_ble_eq_true rfl) (Nat.le_of_ble_eq_true rfl) dX7_init_17 (fun q_1 H hP hD hS => ?_)
  have hP : va_P (dC, dI) classes [(h0, .inr (6, [.null, .null, .int 0, .int 0])), (q_1, .inl (cI, 3, .inl (fun _ => 0)))] H := hP
  have hD : va_D A [(h0, .inr (6, [.null, .null, .int 0, .int 0])), (q_1, .inl (cI, 3, .inl (fun _ => 0)))] := hD
  have hP := hP.sub (ws' := [(h0, .inr (6, [.null, .null, .int 0, .int 0]))]) [0] rfl
  have hD := hD.sub (ws' := [(h0, .inr (6, [.null, .null, .int 0, .int 0]))]) [0] (by decide) rfl
  refine va_putF (D := (dC, dI)) (ci := 6) (v := .ref q_1) (ty := .array .int) (C := RX7) (T := TX7) (N := 4) hx hb hts inX7 tyX7 tyX7_ok nmX7 hown hK hP hD hS 0 rfl rfl 0 (by decide) (hts _ mw_161) (fun _ h9 => h9) rfl hin rfl (by decide +kernel) rfl rfl (Nat.le_of_ble_eq_true rfl) dX7_init_19 (fun H locs hP hD hS => ?_)
  have hP : va_P (dC, dI) classes [(h0, .inr (6, [.ref q_1, .null, .int 0, .int 0]))] H := hP
  have hD : va_D A [(h0, .inr (6, [.ref q_1, .null, .int 0, .int 0]))] := hD
  refine lv_aload_n hx hb dX7_init_22 rfl (lv_at hl 1 rfl) ?_
  refine lv_iload_n hx hb dX7_init_23 rfl (lv_at hl 0 rfl) ?_
  refine zz_newa (atype := .int) (a0 := (3, .inl (fun _ => 0))) hx hb (hts _ mw_195) (ty := .int) rfl hK hP hD hS hA (n := 3) (N' := 3) (cA := cI) 0 rfl (fun _ => rfl) (by decide) (by decide) (by decide) (Nat.le_of_ble_eq_true rfl) (Nat.le_of_ble_eq_true rfl) dX7_init_24 (fun q_2 H hP hD hS => ?_)
  have hP : va_P (dC, dI) classes [(h0, .inr (6, [.ref q_1, .null, .int 0, .int 0])), (q_2, .inl (cI, 3, .inl (fun _ => 0)))] H := hP
  have hD : va_D A [(h0, .inr (6, [.ref q_1, .null, .int 0, .int 0])), (q_2, .inl (cI, 3, .inl (fun _ => 0)))] := hD
  have hP := hP.sub (ws' := [(h0, .inr (6, [.ref q_1, .null, .int 0, .int 0]))]) [0] rfl
  have hD := hD.sub (ws' := [(h0, .inr (6, [.ref q_1, .null, .int 0, .int 0]))]) [0] (by decide) rfl
  refine va_putF (D := (dC, dI)) (ci := 6) (v := .ref q_2) (ty := .array .int) (C := RX7) (T := TX7) (N := 4) hx hb hts inX7 tyX7 tyX7_ok nmX7 hown hK hP hD hS 0 rfl rfl 1 (by decide) (hts _ mw_168) (fun _ h9 => h9) rfl hin rfl (by decide +kernel) rfl rfl (Nat.le_of_ble_eq_true rfl) dX7_init_26 (fun H locs hP hD hS => ?_)
  have hP : va_P (dC, dI) classes [(h0, .inr (6, [.ref q_1, .ref q_2, .int 0, .int 0]))] H := hP
  have hD : va_D A [(h0, .inr (6, [.ref q_1, .ref q_2, .int 0, .int 0]))] := hD
  refine lv_aload_n hx hb dX7_init_29 rfl (lv_at hl 1 rfl) ?_
  refine lv_iload_n hx hb dX7_init_30 rfl (lv_at hl 3 rfl) ?_
  refine va_put (D := (dC, dI)) (ci := 6) (v := .int 1) (ty := .boolean) (C := RX7) (T := TX7) (N := 4) hx hb hts inX7 tyX7 tyX7_ok nmX7 hown hK hP hD hS 0 rfl rfl 3 (by decide) (hts _ mw_183) (fun _ h9 => h9) rfl (by decide +kernel) rfl rfl (Nat.le_of_ble_eq_true rfl) dX7_init_31 (fun H locs hP hD hS => ?_)
  have hP : va_P (dC, dI) classes [(h0, .inr (6, [.ref q_1, .ref q_2, .int 0, .int 1]))] H := hP
  have hD : va_D A [(h0, .inr (6, [.ref q_1, .ref q_2, .int 0, .int 1]))] := hD
  refine W.widen (k := 2) (n := 6) (by decide) (by decide) ?_
  have hP9 := hP.sub (ws' := []) [] rfl
  have hD9 := hD.sub (ws' := []) [] (by decide) rfl
  exact W.vret hx hb hr (fun t ht hW => ⟨⟨rfl, by rw [ht]; exact hP9, hD9⟩, hS.F ht⟩) hS.2.2 dX7_init_34
set_option maxHeartbeats 4000000 in
set_option maxRecDepth 100000 in
theorem k_Row_init_2_0 (l : Launch) (dC : Nat → ClassId) (dI : Nat → Nat → Nat) (cI cZ cF : ClassId) (sz : Nat) (h0 : Nat) : Met l yX7_init (.code yX7_init cX7_init 4 none :: ws0) ({ frames := 1, cells := 2, slots := 4, locals := 13 }) (va_Pc [.ref h0, .int 2, .int 0] (zPre (dC, dI) classes (zTy cI cZ cF) [(h0, .inr (6, [.null, .null, .int 0, .int 0]))] sz zTrue)) (zQ none (fun t => va_P (dC, dI) classes [] t.heap ∧ va_D (va_A [(h0, .inr (6, [.null, .null, .int 0, .int 0]))] sz) []) (va_A [(h0, .inr (6, [.null, .null, .int 0, .int 0]))] sz)) 2 4 (va_A [(h0, .inr (6, [.null, .null, .int 0, .int 0]))] sz) := by
  refine Met.ofW (cc := cX7_init) (maxL := 4) (ret := none) (by decide) rfl ?_
  intro p e s m args below meth c s₁ B hml hv
  obtain ⟨rfl, hsz, hP, hK, hD0, hXX⟩ := hv
  have hx := B.exec
  have hb := B.bytes
  have hr := B.returns
  have hts0 := atoms_spec (ws := .code yX7_init cX7_init 4 none :: ws0) B.pre
  have hts : ∀ w ∈ ws0, w.before ([.ref h0, .int 2, .int 0] : List Value).toArray s = true := fun w h => hts0 w (List.mem_cons_of_mem _ h)
  have hown : s.vm.findClass "ScaleShop$Row" = some m.cls := findClass_of_methodNamed B.named
  have hlocks := B.notSynchronized
  have hin : meth.name = "<init>" := (name_of_methodNamed B.named B.method).1
  subst hsz
  have hD := hD0.self (sz := s.heap.size)
  generalize hAe : va_A [(h0, .inr (6, [.null, .null, .int 0, .int 0]))] s.heap.size = A at hD ⊢
  have hA : ∀ q : Nat, s.heap.size ≤ q → A q := fun q h => by rw [← hAe]; exact Or.inr h
  have hS : va_S A s.heap s.heap [] := va_S.rf
  have hP : va_P (dC, dI) classes [(h0, .inr (6, [.null, .null, .int 0, .int 0]))] s.heap := hP
  have hl := lv_entry ([.ref h0, .int 2, .int 0]) (n := 4) (Nat.le_of_ble_eq_true rfl)
  rw [lg_entry_eq]
  generalize (lg_sl ([.ref h0, .int 2, .int 0]) ++ List.replicate (4 - (lg_sl ([.ref h0, .int 2, .int 0])).length) Slot.unset).toArray = ls at hl ⊢
  have hl : lv_has ls 4 [(0, .ref h0), (1, .int 2), (2, .int 0)] := hl
  refine lv_aload_n hx hb dX7_init_0 rfl (lv_at hl 0 rfl) ?_
  refine W.objInit hx hb hown (hts _ mw_157) (hts _ mw_126) (hts _ mw_objcode) rfl (by rw [hml]; exact hl.1) rfl dX7_init_1 (Nat.le_of_ble_eq_true rfl) (Nat.le_of_ble_eq_true rfl) ?_
  refine W.eq (g2 := F0 m 4 ls []) rfl ?_
  refine lv_aload_n hx hb dX7_init_4 rfl (lv_at hl 0 rfl) ?_
  refine lv_iconst (v := 0) hx hb dX7_init_5 (by decide) ?_
  refine va_put (D := (dC, dI)) (ci := 6) (v := .int 0) (ty := .int) (C := RX7) (T := TX7) (N := 4) hx hb hts inX7 tyX7 tyX7_ok nmX7 hown hK hP hD hS 0 rfl rfl 2 (by decide) (hts _ mw_175) (fun _ h9 => h9) rfl (by decide +kernel) rfl rfl (Nat.le_of_ble_eq_true rfl) dX7_init_6 (fun H locs hP hD hS => ?_)
  have hP : va_P (dC, dI) classes [(h0, .inr (6, [.null, .null, .int 0, .int 0]))] H := hP
  have hD : va_D A [(h0, .inr (6, [.null, .null, .int 0, .int 0]))] := hD
  refine lv_iload_n hx hb dX7_init_9 rfl (lv_at hl 1 rfl) ?_
  refine lv_iconst (v := 1) hx hb dX7_init_10 (by decide) ?_
  refine va_mmax hx hb (by rw [hml]; exact hl.1.symm) hown (hts _ mw_158) (hts _ mw_159) (hts _ mw_103) (hts _ mw_maxcode) (Nat.le_of_ble_eq_true rfl) (Nat.le_of_ble_eq_true rfl) (Nat.le_of_ble_eq_true rfl) (Nat.le_of_ble_eq_true rfl) dX7_init_11 ?_
  refine zz_i (v := 2) (by decide) ?_
  refine lv_istore_n (lv' := [(3, .int 2), (0, .ref h0), (1, .int 2), (2, .int 0)]) hx hb dX7_init_14 rfl hl (by decide) rfl (fun ls hl => ?_)
  refine lv_aload_n hx hb dX7_init_15 rfl (lv_at hl 1 rfl) ?_
  refine lv_iload_n hx hb dX7_init_16 rfl (lv_at hl 0 rfl) ?_
  refine zz_newa (atype := .int) (a0 := (2, .inl (fun _ => 0))) hx hb (hts _ mw_195) (ty := .int) rfl hK hP hD hS hA (n := 2) (N' := 2) (cA := cI) 0 rfl (fun _ => rfl) (by decide) (by decide) (by decide) (Nat.le_of_ble_eq_true rfl) (Nat.le_of_ble_eq_true rfl) dX7_init_17 (fun q_1 H hP hD hS => ?_)
  have hP : va_P (dC, dI) classes [(h0, .inr (6, [.null, .null, .int 0, .int 0])), (q_1, .inl (cI, 2, .inl (fun _ => 0)))] H := hP
  have hD : va_D A [(h0, .inr (6, [.null, .null, .int 0, .int 0])), (q_1, .inl (cI, 2, .inl (fun _ => 0)))] := hD
  have hP := hP.sub (ws' := [(h0, .inr (6, [.null, .null, .int 0, .int 0]))]) [0] rfl
  have hD := hD.sub (ws' := [(h0, .inr (6, [.null, .null, .int 0, .int 0]))]) [0] (by decide) rfl
  refine va_putF (D := (dC, dI)) (ci := 6) (v := .ref q_1) (ty := .array .int) (C := RX7) (T := TX7) (N := 4) hx hb hts inX7 tyX7 tyX7_ok nmX7 hown hK hP hD hS 0 rfl rfl 0 (by decide) (hts _ mw_161) (fun _ h9 => h9) rfl hin rfl (by decide +kernel) rfl rfl (Nat.le_of_ble_eq_true rfl) dX7_init_19 (fun H locs hP hD hS => ?_)
  have hP : va_P (dC, dI) classes [(h0, .inr (6, [.ref q_1, .null, .int 0, .int 0]))] H := hP
  have hD : va_D A [(h0, .inr (6, [.ref q_1, .null, .int 0, .int 0]))] := hD
  refine lv_aload_n hx hb dX7_init_22 rfl (lv_at hl 1 rfl) ?_
  refine lv_iload_n hx hb dX7_init_23 rfl (lv_at hl 0 rfl) ?_
  refine zz_newa (atype := .int) (a0 := (2, .inl (fun _ => 0))) hx hb (hts _ mw_195) (ty := .int) rfl hK hP hD hS hA (n := 2) (N' := 2) (cA := cI) 0 rfl (fun _ => rfl) (by decide) (by decide) (by decide) (Nat.le_of_ble_eq_true rfl) (Nat.le_of_ble_eq_true rfl) dX7_init_24 (fun q_2 H hP hD hS => ?_)
  have hP : va_P (dC, dI) classes [(h0, .inr (6, [.ref q_1, .null, .int 0, .int 0])), (q_2, .inl (cI, 2, .inl (fun _ => 0)))] H := hP
  have hD : va_D A [(h0, .inr (6, [.ref q_1, .null, .int 0, .int 0])), (q_2, .inl (cI, 2, .inl (fun _ => 0)))] := hD
  have hP := hP.sub (ws' := [(h0, .inr (6, [.ref q_1, .null, .int 0, .int 0]))]) [0] rfl
  have hD := hD.sub (ws' := [(h0, .inr (6, [.ref q_1, .null, .int 0, .int 0]))]) [0] (by decide) rfl
  refine va_putF (D := (dC, dI)) (ci := 6) (v := .ref q_2) (ty := .array .int) (C := RX7) (T := TX7) (N := 4) hx hb hts inX7 tyX7 tyX7_ok nmX7 hown hK hP hD hS 0 rfl rfl 1 (by decide) (hts _ mw_168) (fun _ h9 => h9) rfl hin rfl (by decide +kernel) rfl rfl (Nat.le_of_ble_eq_true rfl) dX7_init_26 (fun H locs hP hD hS => ?_)
  have hP : va_P (dC, dI) classes [(h0, .inr (6, [.ref q_1, .ref q_2, .int 0, .int 0]))] H := hP
  have hD : va_D A [(h0, .inr (6, [.ref q_1, .ref q_2, .int 0, .int 0]))] := hD
  refine lv_aload_n hx hb dX7_init_29 rfl (lv_at hl 1 rfl) ?_
  refine lv_iload_n hx hb dX7_init_30 rfl (lv_at hl 3 rfl) ?_
  refine va_put (D := (dC, dI)) (ci := 6) (v := .int 0) (ty := .boolean) (C := RX7) (T := TX7) (N := 4) hx hb hts inX7 tyX7 tyX7_ok nmX7 hown hK hP hD hS 0 rfl rfl 3 (by decide) (hts _ mw_183) (fun _ h9 => h9) rfl (by decide +kernel) rfl rfl (Nat.le_of_ble_eq_true rfl) dX7_init_31 (fun H locs hP hD hS => ?_)
  have hP : va_P (dC, dI) classes [(h0, .inr (6, [.ref q_1, .ref q_2, .int 0, .int 0]))] H := hP
  have hD : va_D A [(h0, .inr (6, [.ref q_1, .ref q_2, .int 0, .int 0]))] := hD
  refine W.widen (k := 2) (n := 4) (by decide) (by decide) ?_
  have hP9 := hP.sub (ws' := []) [] rfl
  have hD9 := hD.sub (ws' := []) [] (by decide) rfl
  exact W.vret hx hb hr (fun t ht hW => ⟨⟨rfl, by rw [ht]; exact hP9, hD9⟩, hS.F ht⟩) hS.2.2 dX7_init_34
set_option maxHeartbeats 4000000 in
set_option maxRecDepth 100000 in
theorem k_Row_init_1_0 (l : Launch) (dC : Nat → ClassId) (dI : Nat → Nat → Nat) (cI cZ cF : ClassId) (sz : Nat) (h0 : Nat) : Met l yX7_init (.code yX7_init cX7_init 4 none :: ws0) ({ frames := 1, cells := 2, slots := 2, locals := 13 }) (va_Pc [.ref h0, .int 1, .int 0] (zPre (dC, dI) classes (zTy cI cZ cF) [(h0, .inr (6, [.null, .null, .int 0, .int 0]))] sz zTrue)) (zQ none (fun t => va_P (dC, dI) classes [] t.heap ∧ va_D (va_A [(h0, .inr (6, [.null, .null, .int 0, .int 0]))] sz) []) (va_A [(h0, .inr (6, [.null, .null, .int 0, .int 0]))] sz)) 2 2 (va_A [(h0, .inr (6, [.null, .null, .int 0, .int 0]))] sz) := by
  refine Met.ofW (cc := cX7_init) (maxL := 4) (ret := none) (by decide) rfl ?_
  intro p e s m args below meth c s₁ B hml hv
  obtain ⟨rfl, hsz, hP, hK, hD0, hXX⟩ := hv
  have hx := B.exec
  have hb := B.bytes
  have hr := B.returns
  have hts0 := atoms_spec (ws := .code yX7_init cX7_init 4 none :: ws0) B.pre
  have hts : ∀ w ∈ ws0, w.before ([.ref h0, .int 1, .int 0] : List Value).toArray s = true := fun w h => hts0 w (List.mem_cons_of_mem _ h)
  have hown : s.vm.findClass "ScaleShop$Row" = some m.cls := findClass_of_methodNamed B.named
  have hlocks := B.notSynchronized
  have hin : meth.name = "<init>" := (name_of_methodNamed B.named B.method).1
  subst hsz
  have hD := hD0.self (sz := s.heap.size)
  generalize hAe : va_A [(h0, .inr (6, [.null, .null, .int 0, .int 0]))] s.heap.size = A at hD ⊢
  have hA : ∀ q : Nat, s.heap.size ≤ q → A q := fun q h => by rw [← hAe]; exact Or.inr h
  have hS : va_S A s.heap s.heap [] := va_S.rf
  have hP : va_P (dC, dI) classes [(h0, .inr (6, [.null, .null, .int 0, .int 0]))] s.heap := hP
  have hl := lv_entry ([.ref h0, .int 1, .int 0]) (n := 4) (Nat.le_of_ble_eq_true rfl)
  rw [lg_entry_eq]
  generalize (lg_sl ([.ref h0, .int 1, .int 0]) ++ List.replicate (4 - (lg_sl ([.ref h0, .int 1, .int 0])).length) Slot.unset).toArray = ls at hl ⊢
  have hl : lv_has ls 4 [(0, .ref h0), (1, .int 1), (2, .int 0)] := hl
  refine lv_aload_n hx hb dX7_init_0 rfl (lv_at hl 0 rfl) ?_
  refine W.objInit hx hb hown (hts _ mw_157) (hts _ mw_126) (hts _ mw_objcode) rfl (by rw [hml]; exact hl.1) rfl dX7_init_1 (Nat.le_of_ble_eq_true rfl) (Nat.le_of_ble_eq_true rfl) ?_
  refine W.eq (g2 := F0 m 4 ls []) rfl ?_
  refine lv_aload_n hx hb dX7_init_4 rfl (lv_at hl 0 rfl) ?_
  refine lv_iconst (v := 0) hx hb dX7_init_5 (by decide) ?_
  refine va_put (D := (dC, dI)) (ci := 6) (v := .int 0) (ty := .int) (C := RX7) (T := TX7) (N := 4) hx hb hts inX7 tyX7 tyX7_ok nmX7 hown hK hP hD hS 0 rfl rfl 2 (by decide) (hts _ mw_175) (fun _ h9 => h9) rfl (by decide +kernel) rfl rfl (Nat.le_of_ble_eq_true rfl) dX7_init_6 (fun H locs hP hD hS => ?_)
  have hP : va_P (dC, dI) classes [(h0, .inr (6, [.null, .null, .int 0, .int 0]))] H := hP
  have hD : va_D A [(h0, .inr (6, [.null, .null, .int 0, .int 0]))] := hD
  refine lv_iload_n hx hb dX7_init_9 rfl (lv_at hl 1 rfl) ?_
  refine lv_iconst (v := 1) hx hb dX7_init_10 (by decide) ?_
  refine va_mmax hx hb (by rw [hml]; exact hl.1.symm) hown (hts _ mw_158) (hts _ mw_159) (hts _ mw_103) (hts _ mw_maxcode) (Nat.le_of_ble_eq_true rfl) (Nat.le_of_ble_eq_true rfl) (Nat.le_of_ble_eq_true rfl) (Nat.le_of_ble_eq_true rfl) dX7_init_11 ?_
  refine zz_i (v := 1) (by decide) ?_
  refine lv_istore_n (lv' := [(3, .int 1), (0, .ref h0), (1, .int 1), (2, .int 0)]) hx hb dX7_init_14 rfl hl (by decide) rfl (fun ls hl => ?_)
  refine lv_aload_n hx hb dX7_init_15 rfl (lv_at hl 1 rfl) ?_
  refine lv_iload_n hx hb dX7_init_16 rfl (lv_at hl 0 rfl) ?_
  refine zz_newa (atype := .int) (a0 := (1, .inl (fun _ => 0))) hx hb (hts _ mw_195) (ty := .int) rfl hK hP hD hS hA (n := 1) (N' := 1) (cA := cI) 0 rfl (fun _ => rfl) (by decide) (by decide) (by decide) (Nat.le_of_ble_eq_true rfl) (Nat.le_of_ble_eq_true rfl) dX7_init_17 (fun q_1 H hP hD hS => ?_)
  have hP : va_P (dC, dI) classes [(h0, .inr (6, [.null, .null, .int 0, .int 0])), (q_1, .inl (cI, 1, .inl (fun _ => 0)))] H := hP
  have hD : va_D A [(h0, .inr (6, [.null, .null, .int 0, .int 0])), (q_1, .inl (cI, 1, .inl (fun _ => 0)))] := hD
  have hP := hP.sub (ws' := [(h0, .inr (6, [.null, .null, .int 0, .int 0]))]) [0] rfl
  have hD := hD.sub (ws' := [(h0, .inr (6, [.null, .null, .int 0, .int 0]))]) [0] (by decide) rfl
  refine va_putF (D := (dC, dI)) (ci := 6) (v := .ref q_1) (ty := .array .int) (C := RX7) (T := TX7) (N := 4) hx hb hts inX7 tyX7 tyX7_ok nmX7 hown hK hP hD hS 0 rfl rfl 0 (by decide) (hts _ mw_161) (fun _ h9 => h9) rfl hin rfl (by decide +kernel) rfl rfl (Nat.le_of_ble_eq_true rfl) dX7_init_19 (fun H locs hP hD hS => ?_)
  have hP : va_P (dC, dI) classes [(h0, .inr (6, [.ref q_1, .null, .int 0, .int 0]))] H := hP
  have hD : va_D A [(h0, .inr (6, [.ref q_1, .null, .int 0, .int 0]))] := hD
  refine lv_aload_n hx hb dX7_init_22 rfl (lv_at hl 1 rfl) ?_
  refine lv_iload_n hx hb dX7_init_23 rfl (lv_at hl 0 rfl) ?_
  refine zz_newa (atype := .int) (a0 := (1, .inl (fun _ => 0))) hx hb (hts _ mw_195) (ty := .int) rfl hK hP hD hS hA (n := 1) (N' := 1) (cA := cI) 0 rfl (fun _ => rfl) (by decide) (by decide) (by decide) (Nat.le_of_ble_eq_true rfl) (Nat.le_of_ble_eq_true rfl) dX7_init_24 (fun q_2 H hP hD hS => ?_)
  have hP : va_P (dC, dI) classes [(h0, .inr (6, [.ref q_1, .null, .int 0, .int 0])), (q_2, .inl (cI, 1, .inl (fun _ => 0)))] H := hP
  have hD : va_D A [(h0, .inr (6, [.ref q_1, .null, .int 0, .int 0])), (q_2, .inl (cI, 1, .inl (fun _ => 0)))] := hD
  have hP := hP.sub (ws' := [(h0, .inr (6, [.ref q_1, .null, .int 0, .int 0]))]) [0] rfl
  have hD := hD.sub (ws' := [(h0, .inr (6, [.ref q_1, .null, .int 0, .int 0]))]) [0] (by decide) rfl
  refine va_putF (D := (dC, dI)) (ci := 6) (v := .ref q_2) (ty := .array .int) (C := RX7) (T := TX7) (N := 4) hx hb hts inX7 tyX7 tyX7_ok nmX7 hown hK hP hD hS 0 rfl rfl 1 (by decide) (hts _ mw_168) (fun _ h9 => h9) rfl hin rfl (by decide +kernel) rfl rfl (Nat.le_of_ble_eq_true rfl) dX7_init_26 (fun H locs hP hD hS => ?_)
  have hP : va_P (dC, dI) classes [(h0, .inr (6, [.ref q_1, .ref q_2, .int 0, .int 0]))] H := hP
  have hD : va_D A [(h0, .inr (6, [.ref q_1, .ref q_2, .int 0, .int 0]))] := hD
  refine lv_aload_n hx hb dX7_init_29 rfl (lv_at hl 1 rfl) ?_
  refine lv_iload_n hx hb dX7_init_30 rfl (lv_at hl 3 rfl) ?_
  refine va_put (D := (dC, dI)) (ci := 6) (v := .int 0) (ty := .boolean) (C := RX7) (T := TX7) (N := 4) hx hb hts inX7 tyX7 tyX7_ok nmX7 hown hK hP hD hS 0 rfl rfl 3 (by decide) (hts _ mw_183) (fun _ h9 => h9) rfl (by decide +kernel) rfl rfl (Nat.le_of_ble_eq_true rfl) dX7_init_31 (fun H locs hP hD hS => ?_)
  have hP : va_P (dC, dI) classes [(h0, .inr (6, [.ref q_1, .ref q_2, .int 0, .int 0]))] H := hP
  have hD : va_D A [(h0, .inr (6, [.ref q_1, .ref q_2, .int 0, .int 0]))] := hD
  refine W.widen (k := 2) (n := 2) (by decide) (by decide) ?_
  have hP9 := hP.sub (ws' := []) [] rfl
  have hD9 := hD.sub (ws' := []) [] (by decide) rfl
  exact W.vret hx hb hr (fun t ht hW => ⟨⟨rfl, by rw [ht]; exact hP9, hD9⟩, hS.F ht⟩) hS.2.2 dX7_init_34
set_option maxHeartbeats 4000000 in
set_option maxRecDepth 100000 in
theorem k_Row_init_1_1 (l : Launch) (dC : Nat → ClassId) (dI : Nat → Nat → Nat) (cI cZ cF : ClassId) (sz : Nat) (h0 : Nat) : Met l yX7_init (.code yX7_init cX7_init 4 none :: ws0) ({ frames := 1, cells := 2, slots := 2, locals := 13 }) (va_Pc [.ref h0, .int 1, .int 1] (zPre (dC, dI) classes (zTy cI cZ cF) [(h0, .inr (6, [.null, .null, .int 0, .int 0]))] sz zTrue)) (zQ none (fun t => va_P (dC, dI) classes [] t.heap ∧ va_D (va_A [(h0, .inr (6, [.null, .null, .int 0, .int 0]))] sz) []) (va_A [(h0, .inr (6, [.null, .null, .int 0, .int 0]))] sz)) 2 2 (va_A [(h0, .inr (6, [.null, .null, .int 0, .int 0]))] sz) := by
  refine Met.ofW (cc := cX7_init) (maxL := 4) (ret := none) (by decide) rfl ?_
  intro p e s m args below meth c s₁ B hml hv
  obtain ⟨rfl, hsz, hP, hK, hD0, hXX⟩ := hv
  have hx := B.exec
  have hb := B.bytes
  have hr := B.returns
  have hts0 := atoms_spec (ws := .code yX7_init cX7_init 4 none :: ws0) B.pre
  have hts : ∀ w ∈ ws0, w.before ([.ref h0, .int 1, .int 1] : List Value).toArray s = true := fun w h => hts0 w (List.mem_cons_of_mem _ h)
  have hown : s.vm.findClass "ScaleShop$Row" = some m.cls := findClass_of_methodNamed B.named
  have hlocks := B.notSynchronized
  have hin : meth.name = "<init>" := (name_of_methodNamed B.named B.method).1
  subst hsz
  have hD := hD0.self (sz := s.heap.size)
  generalize hAe : va_A [(h0, .inr (6, [.null, .null, .int 0, .int 0]))] s.heap.size = A at hD ⊢
  have hA : ∀ q : Nat, s.heap.size ≤ q → A q := fun q h => by rw [← hAe]; exact Or.inr h
  have hS : va_S A s.heap s.heap [] := va_S.rf
  have hP : va_P (dC, dI) classes [(h0, .inr (6, [.null, .null, .int 0, .int 0]))] s.heap := hP
  have hl := lv_entry ([.ref h0, .int 1, .int 1]) (n := 4) (Nat.le_of_ble_eq_true rfl)
  rw [lg_entry_eq]
  generalize (lg_sl ([.ref h0, .int 1, .int 1]) ++ List.replicate (4 - (lg_sl ([.ref h0, .int 1, .int 1])).length) Slot.unset).toArray = ls at hl ⊢
  have hl : lv_has ls 4 [(0, .ref h0), (1, .int 1), (2, .int 1)] := hl
  refine lv_aload_n hx hb dX7_init_0 rfl (lv_at hl 0 rfl) ?_
  refine W.objInit hx hb hown (hts _ mw_157) (hts _ mw_126) (hts _ mw_objcode) rfl (by rw [hml]; exact hl.1) rfl dX7_init_1 (Nat.le_of_ble_eq_true rfl) (Nat.le_of_ble_eq_true rfl) ?_
  refine W.eq (g2 := F0 m 4 ls []) rfl ?_
  refine lv_aload_n hx hb dX7_init_4 rfl (lv_at hl 0 rfl) ?_
  refine lv_iconst (v := 0) hx hb dX7_init_5 (by decide) ?_
  refine va_put (D := (dC, dI)) (ci := 6) (v := .int 0) (ty := .int) (C := RX7) (T := TX7) (N := 4) hx hb hts inX7 tyX7 tyX7_ok nmX7 hown hK hP hD hS 0 rfl rfl 2 (by decide) (hts _ mw_175) (fun _ h9 => h9) rfl (by decide +kernel) rfl rfl (Nat.le_of_ble_eq_true rfl) dX7_init_6 (fun H locs hP hD hS => ?_)
  have hP : va_P (dC, dI) classes [(h0, .inr (6, [.null, .null, .int 0, .int 0]))] H := hP
  have hD : va_D A [(h0, .inr (6, [.null, .null, .int 0, .int 0]))] := hD
  refine lv_iload_n hx hb dX7_init_9 rfl (lv_at hl 1 rfl) ?_
  refine lv_iconst (v := 1) hx hb dX7_init_10 (by decide) ?_
  refine va_mmax hx hb (by rw [hml]; exact hl.1.symm) hown (hts _ mw_158) (hts _ mw_159) (hts _ mw_103) (hts _ mw_maxcode) (Nat.le_of_ble_eq_true rfl) (Nat.le_of_ble_eq_true rfl) (Nat.le_of_ble_eq_true rfl) (Nat.le_of_ble_eq_true rfl) dX7_init_11 ?_
  refine zz_i (v := 1) (by decide) ?_
  refine lv_istore_n (lv' := [(3, .int 1), (0, .ref h0), (1, .int 1), (2, .int 1)]) hx hb dX7_init_14 rfl hl (by decide) rfl (fun ls hl => ?_)
  refine lv_aload_n hx hb dX7_init_15 rfl (lv_at hl 1 rfl) ?_
  refine lv_iload_n hx hb dX7_init_16 rfl (lv_at hl 0 rfl) ?_
  refine zz_newa (atype := .int) (a0 := (1, .inl (fun _ => 0))) hx hb (hts _ mw_195) (ty := .int) rfl hK hP hD hS hA (n := 1) (N' := 1) (cA := cI) 0 rfl (fun _ => rfl) (by decide) (by decide) (by decide) (Nat.le_of_ble_eq_true rfl) (Nat.le_of_ble_eq_true rfl) dX7_init_17 (fun q_1 H hP hD hS => ?_)
  have hP : va_P (dC, dI) classes [(h0, .inr (6, [.null, .null, .int 0, .int 0])), (q_1, .inl (cI, 1, .inl (fun _ => 0)))] H := hP
  have hD : va_D A [(h0, .inr (6, [.null, .null, .int 0, .int 0])), (q_1, .inl (cI, 1, .inl (fun _ => 0)))] := hD
  have hP := hP.sub (ws' := [(h0, .inr (6, [.null, .null, .int 0, .int 0]))]) [0] rfl
  have hD := hD.sub (ws' := [(h0, .inr (6, [.null, .null, .int 0, .int 0]))]) [0] (by decide) rfl
  refine va_putF (D := (dC, dI)) (ci := 6) (v := .ref q_1) (ty := .array .int) (C := RX7) (T := TX7) (N := 4) hx hb hts inX7 tyX7 tyX7_ok nmX7 hown hK hP hD hS 0 rfl rfl 0 (by decide) (hts _ mw_161) (fun _ h9 => h9) rfl hin rfl (by decide +kernel) rfl rfl (Nat.le_of_ble_eq_true rfl) dX7_init_19 (fun H locs hP hD hS => ?_)
  have hP : va_P (dC, dI) classes [(h0, .inr (6, [.ref q_1, .null, .int 0, .int 0]))] H := hP
  have hD : va_D A [(h0, .inr (6, [.ref q_1, .null, .int 0, .int 0]))] := hD
  refine lv_aload_n hx hb dX7_init_22 rfl (lv_at hl 1 rfl) ?_
  refine lv_iload_n hx hb dX7_init_23 rfl (lv_at hl 0 rfl) ?_
  refine zz_newa (atype := .int) (a0 := (1, .inl (fun _ => 0))) hx hb (hts _ mw_195) (ty := .int) rfl hK hP hD hS hA (n := 1) (N' := 1) (cA := cI) 0 rfl (fun _ => rfl) (by decide) (by decide) (by decide) (Nat.le_of_ble_eq_true rfl) (Nat.le_of_ble_eq_true rfl) dX7_init_24 (fun q_2 H hP hD hS => ?_)
  have hP : va_P (dC, dI) classes [(h0, .inr (6, [.ref q_1, .null, .int 0, .int 0])), (q_2, .inl (cI, 1, .inl (fun _ => 0)))] H := hP
  have hD : va_D A [(h0, .inr (6, [.ref q_1, .null, .int 0, .int 0])), (q_2, .inl (cI, 1, .inl (fun _ => 0)))] := hD
  have hP := hP.sub (ws' := [(h0, .inr (6, [.ref q_1, .null, .int 0, .int 0]))]) [0] rfl
  have hD := hD.sub (ws' := [(h0, .inr (6, [.ref q_1, .null, .int 0, .int 0]))]) [0] (by decide) rfl
  refine va_putF (D := (dC, dI)) (ci := 6) (v := .ref q_2) (ty := .array .int) (C := RX7) (T := TX7) (N := 4) hx hb hts inX7 tyX7 tyX7_ok nmX7 hown hK hP hD hS 0 rfl rfl 1 (by decide) (hts _ mw_168) (fun _ h9 => h9) rfl hin rfl (by decide +kernel) rfl rfl (Nat.le_of_ble_eq_true rfl) dX7_init_26 (fun H locs hP hD hS => ?_)
  have hP : va_P (dC, dI) classes [(h0, .inr (6, [.ref q_1, .ref q_2, .int 0, .int 0]))] H := hP
  have hD : va_D A [(h0, .inr (6, [.ref q_1, .ref q_2, .int 0, .int 0]))] := hD
  refine lv_aload_n hx hb dX7_init_29 rfl (lv_at hl 1 rfl) ?_
  refine lv_iload_n hx hb dX7_init_30 rfl (lv_at hl 3 rfl) ?_
  refine va_put (D := (dC, dI)) (ci := 6) (v := .int 1) (ty := .boolean) (C := RX7) (T := TX7) (N := 4) hx hb hts inX7 tyX7 tyX7_ok nmX7 hown hK hP hD hS 0 rfl rfl 3 (by decide) (hts _ mw_183) (fun _ h9 => h9) rfl (by decide +kernel) rfl rfl (Nat.le_of_ble_eq_true rfl) dX7_init_31 (fun H locs hP hD hS => ?_)
  have hP : va_P (dC, dI) classes [(h0, .inr (6, [.ref q_1, .ref q_2, .int 0, .int 1]))] H := hP
  have hD : va_D A [(h0, .inr (6, [.ref q_1, .ref q_2, .int 0, .int 1]))] := hD
  refine W.widen (k := 2) (n := 2) (by decide) (by decide) ?_
  have hP9 := hP.sub (ws' := []) [] rfl
  have hD9 := hD.sub (ws' := []) [] (by decide) rfl
  exact W.vret hx hb hr (fun t ht hW => ⟨⟨rfl, by rw [ht]; exact hP9, hD9⟩, hS.F ht⟩) hS.2.2 dX7_init_34
set_option maxHeartbeats 4000000 in
set_option maxRecDepth 100000 in
theorem k_Row_init_40_1 (l : Launch) (dC : Nat → ClassId) (dI : Nat → Nat → Nat) (cI cZ cF : ClassId) (sz : Nat) (h0 : Nat) : Met l yX7_init (.code yX7_init cX7_init 4 none :: ws0) ({ frames := 1, cells := 2, slots := 80, locals := 13 }) (va_Pc [.ref h0, .int 40, .int 1] (zPre (dC, dI) classes (zTy cI cZ cF) [(h0, .inr (6, [.null, .null, .int 0, .int 0]))] sz zTrue)) (zQ none (fun t => va_P (dC, dI) classes [] t.heap ∧ va_D (va_A [(h0, .inr (6, [.null, .null, .int 0, .int 0]))] sz) []) (va_A [(h0, .inr (6, [.null, .null, .int 0, .int 0]))] sz)) 2 80 (va_A [(h0, .inr (6, [.null, .null, .int 0, .int 0]))] sz) := by
  refine Met.ofW (cc := cX7_init) (maxL := 4) (ret := none) (by decide) rfl ?_
  intro p e s m args below meth c s₁ B hml hv
  obtain ⟨rfl, hsz, hP, hK, hD0, hXX⟩ := hv
  have hx := B.exec
  have hb := B.bytes
  have hr := B.returns
  have hts0 := atoms_spec (ws := .code yX7_init cX7_init 4 none :: ws0) B.pre
  have hts : ∀ w ∈ ws0, w.before ([.ref h0, .int 40, .int 1] : List Value).toArray s = true := fun w h => hts0 w (List.mem_cons_of_mem _ h)
  have hown : s.vm.findClass "ScaleShop$Row" = some m.cls := findClass_of_methodNamed B.named
  have hlocks := B.notSynchronized
  have hin : meth.name = "<init>" := (name_of_methodNamed B.named B.method).1
  subst hsz
  have hD := hD0.self (sz := s.heap.size)
  generalize hAe : va_A [(h0, .inr (6, [.null, .null, .int 0, .int 0]))] s.heap.size = A at hD ⊢
  have hA : ∀ q : Nat, s.heap.size ≤ q → A q := fun q h => by rw [← hAe]; exact Or.inr h
  have hS : va_S A s.heap s.heap [] := va_S.rf
  have hP : va_P (dC, dI) classes [(h0, .inr (6, [.null, .null, .int 0, .int 0]))] s.heap := hP
  have hl := lv_entry ([.ref h0, .int 40, .int 1]) (n := 4) (Nat.le_of_ble_eq_true rfl)
  rw [lg_entry_eq]
  generalize (lg_sl ([.ref h0, .int 40, .int 1]) ++ List.replicate (4 - (lg_sl ([.ref h0, .int 40, .int 1])).length) Slot.unset).toArray = ls at hl ⊢
  have hl : lv_has ls 4 [(0, .ref h0), (1, .int 40), (2, .int 1)] := hl
  refine lv_aload_n hx hb dX7_init_0 rfl (lv_at hl 0 rfl) ?_
  refine W.objInit hx hb hown (hts _ mw_157) (hts _ mw_126) (hts _ mw_objcode) rfl (by rw [hml]; exact hl.1) rfl dX7_init_1 (Nat.le_of_ble_eq_true rfl) (Nat.le_of_ble_eq_true rfl) ?_
  refine W.eq (g2 := F0 m 4 ls []) rfl ?_
  refine lv_aload_n hx hb dX7_init_4 rfl (lv_at hl 0 rfl) ?_
  refine lv_iconst (v := 0) hx hb dX7_init_5 (by decide) ?_
  refine va_put (D := (dC, dI)) (ci := 6) (v := .int 0) (ty := .int) (C := RX7) (T := TX7) (N := 4) hx hb hts inX7 tyX7 tyX7_ok nmX7 hown hK hP hD hS 0 rfl rfl 2 (by decide) (hts _ mw_175) (fun _ h9 => h9) rfl (by decide +kernel) rfl rfl (Nat.le_of_ble_eq_true rfl) dX7_init_6 (fun H locs hP hD hS => ?_)
  have hP : va_P (dC, dI) classes [(h0, .inr (6, [.null, .null, .int 0, .int 0]))] H := hP
  have hD : va_D A [(h0, .inr (6, [.null, .null, .int 0, .int 0]))] := hD
  refine lv_iload_n hx hb dX7_init_9 rfl (lv_at hl 1 rfl) ?_
  refine lv_iconst (v := 1) hx hb dX7_init_10 (by decide) ?_
  refine va_mmax hx hb (by rw [hml]; exact hl.1.symm) hown (hts _ mw_158) (hts _ mw_159) (hts _ mw_103) (hts _ mw_maxcode) (Nat.le_of_ble_eq_true rfl) (Nat.le_of_ble_eq_true rfl) (Nat.le_of_ble_eq_true rfl) (Nat.le_of_ble_eq_true rfl) dX7_init_11 ?_
  refine zz_i (v := 40) (by decide) ?_
  refine lv_istore_n (lv' := [(3, .int 40), (0, .ref h0), (1, .int 40), (2, .int 1)]) hx hb dX7_init_14 rfl hl (by decide) rfl (fun ls hl => ?_)
  refine lv_aload_n hx hb dX7_init_15 rfl (lv_at hl 1 rfl) ?_
  refine lv_iload_n hx hb dX7_init_16 rfl (lv_at hl 0 rfl) ?_
  refine zz_newa (atype := .int) (a0 := (40, .inl (fun _ => 0))) hx hb (hts _ mw_195) (ty := .int) rfl hK hP hD hS hA (n := 40) (N' := 40) (cA := cI) 0 rfl (fun _ => rfl) (by decide) (by decide) (by decide) (Nat.le_of_ble_eq_true rfl) (Nat.le_of_ble_eq_true rfl) dX7_init_17 (fun q_1 H hP hD hS => ?_)
  have hP : va_P (dC, dI) classes [(h0, .inr (6, [.null, .null, .int 0, .int 0])), (q_1, .inl (cI, 40, .inl (fun _ => 0)))] H := hP
  have hD : va_D A [(h0, .inr (6, [.null, .null, .int 0, .int 0])), (q_1, .inl (cI, 40, .inl (fun _ => 0)))] := hD
  have hP := hP.sub (ws' := [(h0, .inr (6, [.null, .null, .int 0, .int 0]))]) [0] rfl
  have hD := hD.sub (ws' := [(h0, .inr (6, [.null, .null, .int 0, .int 0]))]) [0] (by decide) rfl
  refine va_putF (D := (dC, dI)) (ci := 6) (v := .ref q_1) (ty := .array .int) (C := RX7) (T := TX7) (N := 4) hx hb hts inX7 tyX7 tyX7_ok nmX7 hown hK hP hD hS 0 rfl rfl 0 (by decide) (hts _ mw_161) (fun _ h9 => h9) rfl hin rfl (by decide +kernel) rfl rfl (Nat.le_of_ble_eq_true rfl) dX7_init_19 (fun H locs hP hD hS => ?_)
  have hP : va_P (dC, dI) classes [(h0, .inr (6, [.ref q_1, .null, .int 0, .int 0]))] H := hP
  have hD : va_D A [(h0, .inr (6, [.ref q_1, .null, .int 0, .int 0]))] := hD
  refine lv_aload_n hx hb dX7_init_22 rfl (lv_at hl 1 rfl) ?_
  refine lv_iload_n hx hb dX7_init_23 rfl (lv_at hl 0 rfl) ?_
  refine zz_newa (atype := .int) (a0 := (40, .inl (fun _ => 0))) hx hb (hts _ mw_195) (ty := .int) rfl hK hP hD hS hA (n := 40) (N' := 40) (cA := cI) 0 rfl (fun _ => rfl) (by decide) (by decide) (by decide) (Nat.le_of_ble_eq_true rfl) (Nat.le_of_ble_eq_true rfl) dX7_init_24 (fun q_2 H hP hD hS => ?_)
  have hP : va_P (dC, dI) classes [(h0, .inr (6, [.ref q_1, .null, .int 0, .int 0])), (q_2, .inl (cI, 40, .inl (fun _ => 0)))] H := hP
  have hD : va_D A [(h0, .inr (6, [.ref q_1, .null, .int 0, .int 0])), (q_2, .inl (cI, 40, .inl (fun _ => 0)))] := hD
  have hP := hP.sub (ws' := [(h0, .inr (6, [.ref q_1, .null, .int 0, .int 0]))]) [0] rfl
  have hD := hD.sub (ws' := [(h0, .inr (6, [.ref q_1, .null, .int 0, .int 0]))]) [0] (by decide) rfl
  refine va_putF (D := (dC, dI)) (ci := 6) (v := .ref q_2) (ty := .array .int) (C := RX7) (T := TX7) (N := 4) hx hb hts inX7 tyX7 tyX7_ok nmX7 hown hK hP hD hS 0 rfl rfl 1 (by decide) (hts _ mw_168) (fun _ h9 => h9) rfl hin rfl (by decide +kernel) rfl rfl (Nat.le_of_ble_eq_true rfl) dX7_init_26 (fun H locs hP hD hS => ?_)
  have hP : va_P (dC, dI) classes [(h0, .inr (6, [.ref q_1, .ref q_2, .int 0, .int 0]))] H := hP
  have hD : va_D A [(h0, .inr (6, [.ref q_1, .ref q_2, .int 0, .int 0]))] := hD
  refine lv_aload_n hx hb dX7_init_29 rfl (lv_at hl 1 rfl) ?_
  refine lv_iload_n hx hb dX7_init_30 rfl (lv_at hl 3 rfl) ?_
  refine va_put (D := (dC, dI)) (ci := 6) (v := .int 1) (ty := .boolean) (C := RX7) (T := TX7) (N := 4) hx hb hts inX7 tyX7 tyX7_ok nmX7 hown hK hP hD hS 0 rfl rfl 3 (by decide) (hts _ mw_183) (fun _ h9 => h9) rfl (by decide +kernel) rfl rfl (Nat.le_of_ble_eq_true rfl) dX7_init_31 (fun H locs hP hD hS => ?_)
  have hP : va_P (dC, dI) classes [(h0, .inr (6, [.ref q_1, .ref q_2, .int 0, .int 1]))] H := hP
  have hD : va_D A [(h0, .inr (6, [.ref q_1, .ref q_2, .int 0, .int 1]))] := hD
  refine W.widen (k := 2) (n := 80) (by decide) (by decide) ?_
  have hP9 := hP.sub (ws' := []) [] rfl
  have hD9 := hD.sub (ws' := []) [] (by decide) rfl
  exact W.vret hx hb hr (fun t ht hW => ⟨⟨rfl, by rw [ht]; exact hP9, hD9⟩, hS.F ht⟩) hS.2.2 dX7_init_34
set_option maxHeartbeats 4000000 in
set_option maxRecDepth 100000 in
theorem k_Law_init (l : Launch) (dC : Nat → ClassId) (dI : Nat → Nat → Nat) (cI cZ cF : ClassId) (sz : Nat) (h0 : Nat) : Met l yX4_init (.code yX4_init cX4_init 1 none :: ws0) ({ frames := 2, cells := 12, slots := 150, locals := 36 }) (va_Pc [.ref h0] (zPre (dC, dI) classes (zTy cI cZ cF) [(h0, .inr (3, [.null, .null, .null, .null, .null, .null]))] sz zTrue)) (zQ none (fun t => va_P (dC, dI) classes [] t.heap ∧ va_D (va_A [(h0, .inr (3, [.null, .null, .null, .null, .null, .null]))] sz) []) (va_A [(h0, .inr (3, [.null, .null, .null, .null, .null, .null]))] sz)) 12 150 (va_A [(h0, .inr (3, [.null, .null, .null, .null, .null, .null]))] sz) := by
  refine Met.ofW (cc := cX4_init) (maxL := 1) (ret := none) (by decide) rfl ?_
  intro p e s m args below meth c s₁ B hml hv
  obtain ⟨rfl, hsz, hP, hK, hD0, hXX⟩ := hv
  have hx := B.exec
  have hb := B.bytes
  have hr := B.returns
  have hts0 := atoms_spec (ws := .code yX4_init cX4_init 1 none :: ws0) B.pre
  have hts : ∀ w ∈ ws0, w.before ([.ref h0] : List Value).toArray s = true := fun w h => hts0 w (List.mem_cons_of_mem _ h)
  have hown : s.vm.findClass "ScaleShop$Law" = some m.cls := findClass_of_methodNamed B.named
  have hlocks := B.notSynchronized
  have hin : meth.name = "<init>" := (name_of_methodNamed B.named B.method).1
  subst hsz
  have hD := hD0.self (sz := s.heap.size)
  generalize hAe : va_A [(h0, .inr (3, [.null, .null, .null, .null, .null, .null]))] s.heap.size = A at hD ⊢
  have hA : ∀ q : Nat, s.heap.size ≤ q → A q := fun q h => by rw [← hAe]; exact Or.inr h
  have hS : va_S A s.heap s.heap [] := va_S.rf
  have hP : va_P (dC, dI) classes [(h0, .inr (3, [.null, .null, .null, .null, .null, .null]))] s.heap := hP
  have hl := lv_entry ([.ref h0]) (n := 1) (Nat.le_of_ble_eq_true rfl)
  rw [lg_entry_eq]
  generalize (lg_sl ([.ref h0]) ++ List.replicate (1 - (lg_sl ([.ref h0])).length) Slot.unset).toArray = ls at hl ⊢
  have hl : lv_has ls 1 [(0, .ref h0)] := hl
  refine lv_aload_n hx hb dX4_init_0 rfl (lv_at hl 0 rfl) ?_
  refine W.objInit hx hb hown (hts _ mw_151) (hts _ mw_126) (hts _ mw_objcode) rfl (by rw [hml]; exact hl.1) rfl dX4_init_1 (Nat.le_of_ble_eq_true rfl) (Nat.le_of_ble_eq_true rfl) ?_
  refine W.eq (g2 := F0 m 4 ls []) rfl ?_
  refine lv_aload_n hx hb dX4_init_4 rfl (lv_at hl 0 rfl) ?_
  refine va_new (ci := 6) (fs := [.null, .null, .int 0, .int 0]) (C := RX7) (T := TX7) (N := 4) hx hb hts inX7 tyX7 tyX7_ok hown (hts _ mw_152) (hts _ mw_153) (hts _ mw_102) hK hP hD hS hA rfl dfX7 (Nat.le_of_ble_eq_true rfl) (Nat.le_of_ble_eq_true rfl) dX4_init_5 (fun q_1 H hP hD hS => ?_)
  have hP : va_P (dC, dI) classes [(h0, .inr (3, [.null, .null, .null, .null, .null, .null])), (q_1, .inr (6, [.null, .null, .int 0, .int 0]))] H := hP
  have hD : va_D A [(h0, .inr (3, [.null, .null, .null, .null, .null, .null])), (q_1, .inr (6, [.null, .null, .int 0, .int 0]))] := hD
  refine lv_dup hx hb dX4_init_8 rfl ?_
  refine lv_bipush (v := 40) hx hb dX4_init_9 (by decide) ?_
  refine lv_iconst (v := 0) hx hb dX4_init_11 (by decide) ?_
  have hPc := hP.sub (ws' := [(q_1, .inr (6, [.null, .null, .int 0, .int 0]))]) [1] rfl
  have hDc := hD.sub (ws' := [(q_1, .inr (6, [.null, .null, .int 0, .int 0]))]) [1] (by decide) rfl
  have hFc := va_free (wc := [(q_1, .inr (6, [.null, .null, .int 0, .int 0]))]) hD hS hA [1] rfl
  refine zcall (st1 := [.ref q_1, .ref h0]) (va_runI (As := [.int 40, .int 0]) (rest := [.ref q_1, .ref h0]) ⟨hx, hb, hml, hown, hts⟩ (k_Row_init_40_0 l dC dI cI cZ cF H.size q_1 ) (cwI 2 hts (zz_gC mc_yX7_init) rfl rfl rfl (hts _ mw_102) (hts _ mw_154) (hts _ mw_155) rfl (by decide +kernel) ⟨Nat.le_of_ble_eq_true rfl, Nat.le_of_ble_eq_true rfl⟩) (zPS hPc hDc hK) rfl rfl hl.1 rfl (lv_room (Nat.le_of_ble_eq_true rfl)) dX4_init_12 ⟨Nat.le_of_ble_eq_true rfl, Nat.le_of_ble_eq_true rfl⟩) hS hFc hFc rfl (fun t H1 locs ht hB hk1 hS => ?_)
  obtain ⟨hP1, hD1⟩ := hB
  rw [ht] at hP1
  obtain ⟨hP, hD⟩ := va_join (wr := [(h0, .inr (3, [.null, .null, .null, .null, .null, .null]))]) (w1 := []) hP hD [1] [0] rfl rfl (by decide) (by decide) hk1 hFc hP1 hD1
  clear hk1 hPc hDc hFc hP1 hD1 ht
  generalize H1 = H at hP hS ⊢
  have hP : va_P (dC, dI) classes [(h0, .inr (3, [.null, .null, .null, .null, .null, .null]))] H := hP
  have hD : va_D A [(h0, .inr (3, [.null, .null, .null, .null, .null, .null]))] := hD
  refine va_putF (D := (dC, dI)) (ci := 3) (v := .ref q_1) (ty := .object "ScaleShop$Row") (C := RX4) (T := TX4) (N := 6) hx hb hts inX4 tyX4 tyX4_ok nmX4 hown hK hP hD hS 0 rfl rfl 0 (by decide) (hts _ mw_219) (fun _ h9 => h9) rfl hin rfl (by decide +kernel) rfl rfl (Nat.le_of_ble_eq_true rfl) dX4_init_15 (fun H locs hP hD hS => ?_)
  have hP : va_P (dC, dI) classes [(h0, .inr (3, [.ref q_1, .null, .null, .null, .null, .null]))] H := hP
  have hD : va_D A [(h0, .inr (3, [.ref q_1, .null, .null, .null, .null, .null]))] := hD
  refine lv_aload_n hx hb dX4_init_18 rfl (lv_at hl 0 rfl) ?_
  refine va_new (ci := 6) (fs := [.null, .null, .int 0, .int 0]) (C := RX7) (T := TX7) (N := 4) hx hb hts inX7 tyX7 tyX7_ok hown (hts _ mw_152) (hts _ mw_153) (hts _ mw_102) hK hP hD hS hA rfl dfX7 (Nat.le_of_ble_eq_true rfl) (Nat.le_of_ble_eq_true rfl) dX4_init_19 (fun q_2 H hP hD hS => ?_)
  have hP : va_P (dC, dI) classes [(h0, .inr (3, [.ref q_1, .null, .null, .null, .null, .null])), (q_2, .inr (6, [.null, .null, .int 0, .int 0]))] H := hP
  have hD : va_D A [(h0, .inr (3, [.ref q_1, .null, .null, .null, .null, .null])), (q_2, .inr (6, [.null, .null, .int 0, .int 0]))] := hD
  refine lv_dup hx hb dX4_init_22 rfl ?_
  refine lv_iconst (v := 3) hx hb dX4_init_23 (by decide) ?_
  refine lv_iconst (v := 1) hx hb dX4_init_24 (by decide) ?_
  have hPc := hP.sub (ws' := [(q_2, .inr (6, [.null, .null, .int 0, .int 0]))]) [1] rfl
  have hDc := hD.sub (ws' := [(q_2, .inr (6, [.null, .null, .int 0, .int 0]))]) [1] (by decide) rfl
  have hFc := va_free (wc := [(q_2, .inr (6, [.null, .null, .int 0, .int 0]))]) hD hS hA [1] rfl
  refine zcall (st1 := [.ref q_2, .ref h0]) (va_runI (As := [.int 3, .int 1]) (rest := [.ref q_2, .ref h0]) ⟨hx, hb, hml, hown, hts⟩ (k_Row_init_3_1 l dC dI cI cZ cF H.size q_2 ) (cwI 2 hts (zz_gC mc_yX7_init) rfl rfl rfl (hts _ mw_102) (hts _ mw_154) (hts _ mw_155) rfl (by decide +kernel) ⟨Nat.le_of_ble_eq_true rfl, Nat.le_of_ble_eq_true rfl⟩) (zPS hPc hDc hK) rfl rfl hl.1 rfl (lv_room (Nat.le_of_ble_eq_true rfl)) dX4_init_25 ⟨Nat.le_of_ble_eq_true rfl, Nat.le_of_ble_eq_true rfl⟩) hS hFc hFc rfl (fun t H1 locs ht hB hk1 hS => ?_)
  obtain ⟨hP1, hD1⟩ := hB
  rw [ht] at hP1
  obtain ⟨hP, hD⟩ := va_join (wr := [(h0, .inr (3, [.ref q_1, .null, .null, .null, .null, .null]))]) (w1 := []) hP hD [1] [0] rfl rfl (by decide) (by decide) hk1 hFc hP1 hD1
  clear hk1 hPc hDc hFc hP1 hD1 ht
  generalize H1 = H at hP hS ⊢
  have hP : va_P (dC, dI) classes [(h0, .inr (3, [.ref q_1, .null, .null, .null, .null, .null]))] H := hP
  have hD : va_D A [(h0, .inr (3, [.ref q_1, .null, .null, .null, .null, .null]))] := hD
  refine va_putF (D := (dC, dI)) (ci := 3) (v := .ref q_2) (ty := .object "ScaleShop$Row") (C := RX4) (T := TX4) (N := 6) hx hb hts inX4 tyX4 tyX4_ok nmX4 hown hK hP hD hS 0 rfl rfl 1 (by decide) (hts _ mw_221) (fun _ h9 => h9) rfl hin rfl (by decide +kernel) rfl rfl (Nat.le_of_ble_eq_true rfl) dX4_init_28 (fun H locs hP hD hS => ?_)
  have hP : va_P (dC, dI) classes [(h0, .inr (3, [.ref q_1, .ref q_2, .null, .null, .null, .null]))] H := hP
  have hD : va_D A [(h0, .inr (3, [.ref q_1, .ref q_2, .null, .null, .null, .null]))] := hD
  refine lv_aload_n hx hb dX4_init_31 rfl (lv_at hl 0 rfl) ?_
  refine va_new (ci := 6) (fs := [.null, .null, .int 0, .int 0]) (C := RX7) (T := TX7) (N := 4) hx hb hts inX7 tyX7 tyX7_ok hown (hts _ mw_152) (hts _ mw_153) (hts _ mw_102) hK hP hD hS hA rfl dfX7 (Nat.le_of_ble_eq_true rfl) (Nat.le_of_ble_eq_true rfl) dX4_init_32 (fun q_3 H hP hD hS => ?_)
  have hP : va_P (dC, dI) classes [(h0, .inr (3, [.ref q_1, .ref q_2, .null, .null, .null, .null])), (q_3, .inr (6, [.null, .null, .int 0, .int 0]))] H := hP
  have hD : va_D A [(h0, .inr (3, [.ref q_1, .ref q_2, .null, .null, .null, .null])), (q_3, .inr (6, [.null, .null, .int 0, .int 0]))] := hD
  refine lv_dup hx hb dX4_init_35 rfl ?_
  refine lv_iconst (v := 2) hx hb dX4_init_36 (by decide) ?_
  refine lv_iconst (v := 0) hx hb dX4_init_37 (by decide) ?_
  have hPc := hP.sub (ws' := [(q_3, .inr (6, [.null, .null, .int 0, .int 0]))]) [1] rfl
  have hDc := hD.sub (ws' := [(q_3, .inr (6, [.null, .null, .int 0, .int 0]))]) [1] (by decide) rfl
  have hFc := va_free (wc := [(q_3, .inr (6, [.null, .null, .int 0, .int 0]))]) hD hS hA [1] rfl
  refine zcall (st1 := [.ref q_3, .ref h0]) (va_runI (As := [.int 2, .int 0]) (rest := [.ref q_3, .ref h0]) ⟨hx, hb, hml, hown, hts⟩ (k_Row_init_2_0 l dC dI cI cZ cF H.size q_3 ) (cwI 2 hts (zz_gC mc_yX7_init) rfl rfl rfl (hts _ mw_102) (hts _ mw_154) (hts _ mw_155) rfl (by decide +kernel) ⟨Nat.le_of_ble_eq_true rfl, Nat.le_of_ble_eq_true rfl⟩) (zPS hPc hDc hK) rfl rfl hl.1 rfl (lv_room (Nat.le_of_ble_eq_true rfl)) dX4_init_38 ⟨Nat.le_of_ble_eq_true rfl, Nat.le_of_ble_eq_true rfl⟩) hS hFc hFc rfl (fun t H1 locs ht hB hk1 hS => ?_)
  obtain ⟨hP1, hD1⟩ := hB
  rw [ht] at hP1
  obtain ⟨hP, hD⟩ := va_join (wr := [(h0, .inr (3, [.ref q_1, .ref q_2, .null, .null, .null, .null]))]) (w1 := []) hP hD [1] [0] rfl rfl (by decide) (by decide) hk1 hFc hP1 hD1
  clear hk1 hPc hDc hFc hP1 hD1 ht
  generalize H1 = H at hP hS ⊢
  have hP : va_P (dC, dI) classes [(h0, .inr (3, [.ref q_1, .ref q_2, .null, .null, .null, .null]))] H := hP
  have hD : va_D A [(h0, .inr (3, [.ref q_1, .ref q_2, .null, .null, .null, .null]))] := hD
  refine va_putF (D := (dC, dI)) (ci := 3) (v := .ref q_3) (ty := .object "ScaleShop$Row") (C := RX4) (T := TX4) (N := 6) hx hb hts inX4 tyX4 tyX4_ok nmX4 hown hK hP hD hS 0 rfl rfl 2 (by decide) (hts _ mw_222) (fun _ h9 => h9) rfl hin rfl (by decide +kernel) rfl rfl (Nat.le_of_ble_eq_true rfl) dX4_init_41 (fun H locs hP hD hS => ?_)
  have hP : va_P (dC, dI) classes [(h0, .inr (3, [.ref q_1, .ref q_2, .ref q_3, .null, .null, .null]))] H := hP
  have hD : va_D A [(h0, .inr (3, [.ref q_1, .ref q_2, .ref q_3, .null, .null, .null]))] := hD
  refine lv_aload_n hx hb dX4_init_44 rfl (lv_at hl 0 rfl) ?_
  refine va_new (ci := 0) (fs := [.int 0, .int 0, .int 0, .int 0]) (C := RX0) (T := TX0) (N := 4) hx hb hts inX0 tyX0 tyX0_ok hown (hts _ mw_196) (hts _ mw_197) (hts _ mw_104) hK hP hD hS hA rfl dfX0 (Nat.le_of_ble_eq_true rfl) (Nat.le_of_ble_eq_true rfl) dX4_init_45 (fun q_4 H hP hD hS => ?_)
  have hP : va_P (dC, dI) classes [(h0, .inr (3, [.ref q_1, .ref q_2, .ref q_3, .null, .null, .null])), (q_4, .inr (0, [.int 0, .int 0, .int 0, .int 0]))] H := hP
  have hD : va_D A [(h0, .inr (3, [.ref q_1, .ref q_2, .ref q_3, .null, .null, .null])), (q_4, .inr (0, [.int 0, .int 0, .int 0, .int 0]))] := hD
  refine lv_dup hx hb dX4_init_48 rfl ?_
  have hPc := hP.sub (ws' := [(q_4, .inr (0, [.int 0, .int 0, .int 0, .int 0]))]) [1] rfl
  have hDc := hD.sub (ws' := [(q_4, .inr (0, [.int 0, .int 0, .int 0, .int 0]))]) [1] (by decide) rfl
  have hFc := va_free (wc := [(q_4, .inr (0, [.int 0, .int 0, .int 0, .int 0]))]) hD hS hA [1] rfl
  refine zcall (st1 := [.ref q_4, .ref h0]) (va_runI (As := []) (rest := [.ref q_4, .ref h0]) ⟨hx, hb, hml, hown, hts⟩ (k_Box_init l dC dI cI cZ cF H.size q_4 ) (cwI 0 hts (zz_gC mc_yX0_init) rfl rfl rfl (hts _ mw_104) (hts _ mw_198) (hts _ mw_199) rfl (by decide +kernel) ⟨Nat.le_of_ble_eq_true rfl, Nat.le_of_ble_eq_true rfl⟩) (zPS hPc hDc hK) rfl rfl hl.1 rfl (lv_room (Nat.le_of_ble_eq_true rfl)) dX4_init_49 ⟨Nat.le_of_ble_eq_true rfl, Nat.le_of_ble_eq_true rfl⟩) hS hFc hFc rfl (fun t H1 locs ht hB hk1 hS => ?_)
  obtain ⟨hP1, hD1⟩ := hB
  rw [ht] at hP1
  obtain ⟨hP, hD⟩ := va_join (wr := [(h0, .inr (3, [.ref q_1, .ref q_2, .ref q_3, .null, .null, .null]))]) (w1 := []) hP hD [1] [0] rfl rfl (by decide) (by decide) hk1 hFc hP1 hD1
  clear hk1 hPc hDc hFc hP1 hD1 ht
  generalize H1 = H at hP hS ⊢
  have hP : va_P (dC, dI) classes [(h0, .inr (3, [.ref q_1, .ref q_2, .ref q_3, .null, .null, .null]))] H := hP
  have hD : va_D A [(h0, .inr (3, [.ref q_1, .ref q_2, .ref q_3, .null, .null, .null]))] := hD
  refine va_putF (D := (dC, dI)) (ci := 3) (v := .ref q_4) (ty := .object "ScaleShop$Box") (C := RX4) (T := TX4) (N := 6) hx hb hts inX4 tyX4 tyX4_ok nmX4 hown hK hP hD hS 0 rfl rfl 3 (by decide) (hts _ mw_223) (fun _ h9 => h9) rfl hin rfl (by decide +kernel) rfl rfl (Nat.le_of_ble_eq_true rfl) dX4_init_52 (fun H locs hP hD hS => ?_)
  have hP : va_P (dC, dI) classes [(h0, .inr (3, [.ref q_1, .ref q_2, .ref q_3, .ref q_4, .null, .null]))] H := hP
  have hD : va_D A [(h0, .inr (3, [.ref q_1, .ref q_2, .ref q_3, .ref q_4, .null, .null]))] := hD
  refine lv_aload_n hx hb dX4_init_55 rfl (lv_at hl 0 rfl) ?_
  refine va_new (ci := 0) (fs := [.int 0, .int 0, .int 0, .int 0]) (C := RX0) (T := TX0) (N := 4) hx hb hts inX0 tyX0 tyX0_ok hown (hts _ mw_196) (hts _ mw_197) (hts _ mw_104) hK hP hD hS hA rfl dfX0 (Nat.le_of_ble_eq_true rfl) (Nat.le_of_ble_eq_true rfl) dX4_init_56 (fun q_5 H hP hD hS => ?_)
  have hP : va_P (dC, dI) classes [(h0, .inr (3, [.ref q_1, .ref q_2, .ref q_3, .ref q_4, .null, .null])), (q_5, .inr (0, [.int 0, .int 0, .int 0, .int 0]))] H := hP
  have hD : va_D A [(h0, .inr (3, [.ref q_1, .ref q_2, .ref q_3, .ref q_4, .null, .null])), (q_5, .inr (0, [.int 0, .int 0, .int 0, .int 0]))] := hD
  refine lv_dup hx hb dX4_init_59 rfl ?_
  have hPc := hP.sub (ws' := [(q_5, .inr (0, [.int 0, .int 0, .int 0, .int 0]))]) [1] rfl
  have hDc := hD.sub (ws' := [(q_5, .inr (0, [.int 0, .int 0, .int 0, .int 0]))]) [1] (by decide) rfl
  have hFc := va_free (wc := [(q_5, .inr (0, [.int 0, .int 0, .int 0, .int 0]))]) hD hS hA [1] rfl
  refine zcall (st1 := [.ref q_5, .ref h0]) (va_runI (As := []) (rest := [.ref q_5, .ref h0]) ⟨hx, hb, hml, hown, hts⟩ (k_Box_init l dC dI cI cZ cF H.size q_5 ) (cwI 0 hts (zz_gC mc_yX0_init) rfl rfl rfl (hts _ mw_104) (hts _ mw_198) (hts _ mw_199) rfl (by decide +kernel) ⟨Nat.le_of_ble_eq_true rfl, Nat.le_of_ble_eq_true rfl⟩) (zPS hPc hDc hK) rfl rfl hl.1 rfl (lv_room (Nat.le_of_ble_eq_true rfl)) dX4_init_60 ⟨Nat.le_of_ble_eq_true rfl, Nat.le_of_ble_eq_true rfl⟩) hS hFc hFc rfl (fun t H1 locs ht hB hk1 hS => ?_)
  obtain ⟨hP1, hD1⟩ := hB
  rw [ht] at hP1
  obtain ⟨hP, hD⟩ := va_join (wr := [(h0, .inr (3, [.ref q_1, .ref q_2, .ref q_3, .ref q_4, .null, .null]))]) (w1 := []) hP hD [1] [0] rfl rfl (by decide) (by decide) hk1 hFc hP1 hD1
  clear hk1 hPc hDc hFc hP1 hD1 ht
  generalize H1 = H at hP hS ⊢
  have hP : va_P (dC, dI) classes [(h0, .inr (3, [.ref q_1, .ref q_2, .ref q_3, .ref q_4, .null, .null]))] H := hP
  have hD : va_D A [(h0, .inr (3, [.ref q_1, .ref q_2, .ref q_3, .ref q_4, .null, .null]))] := hD
  refine va_putF (D := (dC, dI)) (ci := 3) (v := .ref q_5) (ty := .object "ScaleShop$Box") (C := RX4) (T := TX4) (N := 6) hx hb hts inX4 tyX4 tyX4_ok nmX4 hown hK hP hD hS 0 rfl rfl 4 (by decide) (hts _ mw_224) (fun _ h9 => h9) rfl hin rfl (by decide +kernel) rfl rfl (Nat.le_of_ble_eq_true rfl) dX4_init_63 (fun H locs hP hD hS => ?_)
  have hP : va_P (dC, dI) classes [(h0, .inr (3, [.ref q_1, .ref q_2, .ref q_3, .ref q_4, .ref q_5, .null]))] H := hP
  have hD : va_D A [(h0, .inr (3, [.ref q_1, .ref q_2, .ref q_3, .ref q_4, .ref q_5, .null]))] := hD
  refine lv_aload_n hx hb dX4_init_66 rfl (lv_at hl 0 rfl) ?_
  refine lv_bipush (v := 40) hx hb dX4_init_67 (by decide) ?_
  refine zz_newa (atype := .int) (a0 := (40, .inl (fun _ => 0))) hx hb (hts _ mw_195) (ty := .int) rfl hK hP hD hS hA (n := 40) (N' := 40) (cA := cI) 0 rfl (fun _ => rfl) (by decide) (by decide) (by decide) (Nat.le_of_ble_eq_true rfl) (Nat.le_of_ble_eq_true rfl) dX4_init_69 (fun q_6 H hP hD hS => ?_)
  have hP : va_P (dC, dI) classes [(h0, .inr (3, [.ref q_1, .ref q_2, .ref q_3, .ref q_4, .ref q_5, .null])), (q_6, .inl (cI, 40, .inl (fun _ => 0)))] H := hP
  have hD : va_D A [(h0, .inr (3, [.ref q_1, .ref q_2, .ref q_3, .ref q_4, .ref q_5, .null])), (q_6, .inl (cI, 40, .inl (fun _ => 0)))] := hD
  have hP := hP.sub (ws' := [(h0, .inr (3, [.ref q_1, .ref q_2, .ref q_3, .ref q_4, .ref q_5, .null]))]) [0] rfl
  have hD := hD.sub (ws' := [(h0, .inr (3, [.ref q_1, .ref q_2, .ref q_3, .ref q_4, .ref q_5, .null]))]) [0] (by decide) rfl
  refine va_putF (D := (dC, dI)) (ci := 3) (v := .ref q_6) (ty := .array .int) (C := RX4) (T := TX4) (N := 6) hx hb hts inX4 tyX4 tyX4_ok nmX4 hown hK hP hD hS 0 rfl rfl 5 (by decide) (hts _ mw_225) (fun _ h9 => h9) rfl hin rfl (by decide +kernel) rfl rfl (Nat.le_of_ble_eq_true rfl) dX4_init_71 (fun H locs hP hD hS => ?_)
  have hP : va_P (dC, dI) classes [(h0, .inr (3, [.ref q_1, .ref q_2, .ref q_3, .ref q_4, .ref q_5, .ref q_6]))] H := hP
  have hD : va_D A [(h0, .inr (3, [.ref q_1, .ref q_2, .ref q_3, .ref q_4, .ref q_5, .ref q_6]))] := hD
  refine W.widen (k := 12) (n := 150) (by decide) (by decide) ?_
  have hP9 := hP.sub (ws' := []) [] rfl
  have hD9 := hD.sub (ws' := []) [] (by decide) rfl
  exact W.vret hx hb hr (fun t ht hW => ⟨⟨rfl, by rw [ht]; exact hP9, hD9⟩, hS.F ht⟩) hS.2.2 dX4_init_74
set_option maxHeartbeats 4000000 in
set_option maxRecDepth 100000 in
theorem k_Sheet_init (l : Launch) (dC : Nat → ClassId) (dI : Nat → Nat → Nat) (cI cZ cF : ClassId) (sz : Nat) (h0 : Nat) : Met l yX8_init (.code yX8_init cX8_init 1 none :: ws0) ({ frames := 1, cells := 1, slots := 200, locals := 12 }) (va_Pc [.ref h0] (zPre (dC, dI) classes (zTy cI cZ cF) [(h0, .inr (7, [.null, .int 0]))] sz zXA)) (zQ none (fun t => ∃ (n1 : Nat), va_P (dC, dI) classes [(h0, .inr (7, [.ref n1, .int 0])), (n1, .inl (cF, 200, .inr (.inr (.inr (.inr (fun _ => none))))))] t.heap ∧ va_D (va_A [(h0, .inr (7, [.null, .int 0]))] sz) [(h0, .inr (7, [.ref n1, .int 0])), (n1, .inl (cF, 200, .inr (.inr (.inr (.inr (fun _ => none))))))]) (va_A [(h0, .inr (7, [.null, .int 0]))] sz)) 1 200 (va_A [(h0, .inr (7, [.null, .int 0]))] sz) := by
  refine Met.ofW (cc := cX8_init) (maxL := 1) (ret := none) (by decide) rfl ?_
  intro p e s m args below meth c s₁ B hml hv
  obtain ⟨rfl, hsz, hP, hK, hD0, hXX⟩ := hv
  have hx := B.exec
  have hb := B.bytes
  have hr := B.returns
  have hts0 := atoms_spec (ws := .code yX8_init cX8_init 1 none :: ws0) B.pre
  have hts : ∀ w ∈ ws0, w.before ([.ref h0] : List Value).toArray s = true := fun w h => hts0 w (List.mem_cons_of_mem _ h)
  have hown : s.vm.findClass "ScaleShop$Sheet" = some m.cls := findClass_of_methodNamed B.named
  have hlocks := B.notSynchronized
  have hin : meth.name = "<init>" := (name_of_methodNamed B.named B.method).1
  subst hsz
  have hD := hD0.self (sz := s.heap.size)
  generalize hAe : va_A [(h0, .inr (7, [.null, .int 0]))] s.heap.size = A at hD ⊢
  have hA : ∀ q : Nat, s.heap.size ≤ q → A q := fun q h => by rw [← hAe]; exact Or.inr h
  have hS : va_S A s.heap s.heap [] := va_S.rf
  have hP : va_P (dC, dI) classes [(h0, .inr (7, [.null, .int 0]))] s.heap := hP
  have hAO := hXX
  have hl := lv_entry ([.ref h0]) (n := 1) (Nat.le_of_ble_eq_true rfl)
  rw [lg_entry_eq]
  generalize (lg_sl ([.ref h0]) ++ List.replicate (1 - (lg_sl ([.ref h0])).length) Slot.unset).toArray = ls at hl ⊢
  have hl : lv_has ls 1 [(0, .ref h0)] := hl
  refine lv_aload_n hx hb dX8_init_0 rfl (lv_at hl 0 rfl) ?_
  refine W.objInit hx hb hown (hts _ mw_133) (hts _ mw_126) (hts _ mw_objcode) rfl (by rw [hml]; exact hl.1) rfl dX8_init_1 (Nat.le_of_ble_eq_true rfl) (Nat.le_of_ble_eq_true rfl) ?_
  refine W.eq (g2 := F0 m 4 ls []) rfl ?_
  refine lv_aload_n hx hb dX8_init_4 rfl (lv_at hl 0 rfl) ?_
  refine lv_sipush (v := 200) hx hb dX8_init_5 (by decide) ?_
  refine zz_newq hx hb hown (hts _ mw_134) (va_AO.use hAO) hK hP hD hS hA (n := 200) (N' := 200) (cA := cF) 2 rfl (by decide) (by decide) (by decide) (Nat.le_of_ble_eq_true rfl) (Nat.le_of_ble_eq_true rfl) dX8_init_8 (fun q_1 H hP hD hS => ?_)
  have hP : va_P (dC, dI) classes [(h0, .inr (7, [.null, .int 0])), (q_1, .inl (cF, 200, .inr (.inr (.inr (.inr (fun _ => none))))))] H := hP
  have hD : va_D A [(h0, .inr (7, [.null, .int 0])), (q_1, .inl (cF, 200, .inr (.inr (.inr (.inr (fun _ => none))))))] := hD
  refine va_putF (D := (dC, dI)) (ci := 7) (v := .ref q_1) (ty := .array (.object "ScaleShop$Feature")) (C := RX8) (T := TX8) (N := 2) hx hb hts inX8 tyX8 tyX8_ok nmX8 hown hK hP hD hS 0 rfl rfl 0 (by decide) (hts _ mw_136) (fun _ h9 => h9) rfl hin rfl (by decide +kernel) rfl rfl (Nat.le_of_ble_eq_true rfl) dX8_init_11 (fun H locs hP hD hS => ?_)
  have hP : va_P (dC, dI) classes [(h0, .inr (7, [.ref q_1, .int 0])), (q_1, .inl (cF, 200, .inr (.inr (.inr (.inr (fun _ => none))))))] H := hP
  have hD : va_D A [(h0, .inr (7, [.ref q_1, .int 0])), (q_1, .inl (cF, 200, .inr (.inr (.inr (.inr (fun _ => none))))))] := hD
  refine lv_aload_n hx hb dX8_init_14 rfl (lv_at hl 0 rfl) ?_
  refine lv_iconst (v := 0) hx hb dX8_init_15 (by decide) ?_
  refine va_put (D := (dC, dI)) (ci := 7) (v := .int 0) (ty := .int) (C := RX8) (T := TX8) (N := 2) hx hb hts inX8 tyX8 tyX8_ok nmX8 hown hK hP hD hS 0 rfl rfl 1 (by decide) (hts _ mw_137) (fun _ h9 => h9) rfl (by decide +kernel) rfl rfl (Nat.le_of_ble_eq_true rfl) dX8_init_16 (fun H locs hP hD hS => ?_)
  have hP : va_P (dC, dI) classes [(h0, .inr (7, [.ref q_1, .int 0])), (q_1, .inl (cF, 200, .inr (.inr (.inr (.inr (fun _ => none))))))] H := hP
  have hD : va_D A [(h0, .inr (7, [.ref q_1, .int 0])), (q_1, .inl (cF, 200, .inr (.inr (.inr (.inr (fun _ => none))))))] := hD
  refine W.widen (k := 1) (n := 200) (by decide) (by decide) ?_
  have hP9 := hP.sub (ws' := [(h0, .inr (7, [.ref q_1, .int 0])), (q_1, .inl (cF, 200, .inr (.inr (.inr (.inr (fun _ => none))))))]) [0, 1] rfl
  have hD9 := hD.sub (ws' := [(h0, .inr (7, [.ref q_1, .int 0])), (q_1, .inl (cF, 200, .inr (.inr (.inr (.inr (fun _ => none))))))]) [0, 1] (by decide) rfl
  exact W.vret hx hb hr (fun t ht hW => ⟨⟨rfl, q_1, by rw [ht]; exact hP9, hD9⟩, hS.F ht⟩) hS.2.2 dX8_init_19
set_option maxHeartbeats 4000000 in
set_option maxRecDepth 100000 in
theorem k_Roads_init (l : Launch) (dC : Nat → ClassId) (dI : Nat → Nat → Nat) (cI cZ cF : ClassId) (sz : Nat) (h0 : Nat) : Met l yX6_init (.code yX6_init cX6_init 1 none :: ws0) ({ frames := 1, cells := 5, slots := 1600, locals := 12 }) (va_Pc [.ref h0] (zPre (dC, dI) classes (zTy cI cZ cF) [(h0, .inr (5, [.null, .null, .null, .null, .null, .int 0]))] sz zXA)) (zQ none (fun t => ∃ (n1 n2 n3 n4 n5 : Nat), va_P (dC, dI) classes [(h0, .inr (5, [.ref n1, .ref n2, .ref n3, .ref n4, .ref n5, .int 0]))] t.heap ∧ va_D (va_A [(h0, .inr (5, [.null, .null, .null, .null, .null, .int 0]))] sz) [(h0, .inr (5, [.ref n1, .ref n2, .ref n3, .ref n4, .ref n5, .int 0]))]) (va_A [(h0, .inr (5, [.null, .null, .null, .null, .null, .int 0]))] sz)) 5 1600 (va_A [(h0, .inr (5, [.null, .null, .null, .null, .null, .int 0]))] sz) := by
  refine Met.ofW (cc := cX6_init) (maxL := 1) (ret := none) (by decide) rfl ?_
  intro p e s m args below meth c s₁ B hml hv
  obtain ⟨rfl, hsz, hP, hK, hD0, hXX⟩ := hv
  have hx := B.exec
  have hb := B.bytes
  have hr := B.returns
  have hts0 := atoms_spec (ws := .code yX6_init cX6_init 1 none :: ws0) B.pre
  have hts : ∀ w ∈ ws0, w.before ([.ref h0] : List Value).toArray s = true := fun w h => hts0 w (List.mem_cons_of_mem _ h)
  have hown : s.vm.findClass "ScaleShop$Roads" = some m.cls := findClass_of_methodNamed B.named
  have hlocks := B.notSynchronized
  have hin : meth.name = "<init>" := (name_of_methodNamed B.named B.method).1
  subst hsz
  have hD := hD0.self (sz := s.heap.size)
  generalize hAe : va_A [(h0, .inr (5, [.null, .null, .null, .null, .null, .int 0]))] s.heap.size = A at hD ⊢
  have hA : ∀ q : Nat, s.heap.size ≤ q → A q := fun q h => by rw [← hAe]; exact Or.inr h
  have hS : va_S A s.heap s.heap [] := va_S.rf
  have hP : va_P (dC, dI) classes [(h0, .inr (5, [.null, .null, .null, .null, .null, .int 0]))] s.heap := hP
  have hAO := hXX
  have hl := lv_entry ([.ref h0]) (n := 1) (Nat.le_of_ble_eq_true rfl)
  rw [lg_entry_eq]
  generalize (lg_sl ([.ref h0]) ++ List.replicate (1 - (lg_sl ([.ref h0])).length) Slot.unset).toArray = ls at hl ⊢
  have hl : lv_has ls 1 [(0, .ref h0)] := hl
  refine lv_aload_n hx hb dX6_init_0 rfl (lv_at hl 0 rfl) ?_
  refine W.objInit hx hb hown (hts _ mw_244) (hts _ mw_126) (hts _ mw_objcode) rfl (by rw [hml]; exact hl.1) rfl dX6_init_1 (Nat.le_of_ble_eq_true rfl) (Nat.le_of_ble_eq_true rfl) ?_
  refine W.eq (g2 := F0 m 4 ls []) rfl ?_
  refine lv_aload_n hx hb dX6_init_4 rfl (lv_at hl 0 rfl) ?_
  refine lv_sipush (v := 200) hx hb dX6_init_5 (by decide) ?_
  refine zz_newq hx hb hown (hts _ mw_245) (va_AO.use hAO) hK hP hD hS hA (n := 200) (N' := 200) (cA := cF) 2 rfl (by decide) (by decide) (by decide) (Nat.le_of_ble_eq_true rfl) (Nat.le_of_ble_eq_true rfl) dX6_init_8 (fun q_1 H hP hD hS => ?_)
  have hP : va_P (dC, dI) classes [(h0, .inr (5, [.null, .null, .null, .null, .null, .int 0])), (q_1, .inl (cF, 200, .inr (.inr (.inr (.inr (fun _ => none))))))] H := hP
  have hD : va_D A [(h0, .inr (5, [.null, .null, .null, .null, .null, .int 0])), (q_1, .inl (cF, 200, .inr (.inr (.inr (.inr (fun _ => none))))))] := hD
  have hP := hP.sub (ws' := [(h0, .inr (5, [.null, .null, .null, .null, .null, .int 0]))]) [0] rfl
  have hD := hD.sub (ws' := [(h0, .inr (5, [.null, .null, .null, .null, .null, .int 0]))]) [0] (by decide) rfl
  refine va_putF (D := (dC, dI)) (ci := 5) (v := .ref q_1) (ty := .array (.object "ScaleShop$Feature")) (C := RX6) (T := TX6) (N := 6) hx hb hts inX6 tyX6 tyX6_ok nmX6 hown hK hP hD hS 0 rfl rfl 0 (by decide) (hts _ mw_246) (fun _ h9 => h9) rfl hin rfl (by decide +kernel) rfl rfl (Nat.le_of_ble_eq_true rfl) dX6_init_11 (fun H locs hP hD hS => ?_)
  have hP : va_P (dC, dI) classes [(h0, .inr (5, [.ref q_1, .null, .null, .null, .null, .int 0]))] H := hP
  have hD : va_D A [(h0, .inr (5, [.ref q_1, .null, .null, .null, .null, .int 0]))] := hD
  refine lv_aload_n hx hb dX6_init_14 rfl (lv_at hl 0 rfl) ?_
  refine lv_sipush (v := 200) hx hb dX6_init_15 (by decide) ?_
  refine zz_newa (atype := .int) (a0 := (200, .inl (fun _ => 0))) hx hb (hts _ mw_195) (ty := .int) rfl hK hP hD hS hA (n := 200) (N' := 200) (cA := cI) 0 rfl (fun _ => rfl) (by decide) (by decide) (by decide) (Nat.le_of_ble_eq_true rfl) (Nat.le_of_ble_eq_true rfl) dX6_init_18 (fun q_2 H hP hD hS => ?_)
  have hP : va_P (dC, dI) classes [(h0, .inr (5, [.ref q_1, .null, .null, .null, .null, .int 0])), (q_2, .inl (cI, 200, .inl (fun _ => 0)))] H := hP
  have hD : va_D A [(h0, .inr (5, [.ref q_1, .null, .null, .null, .null, .int 0])), (q_2, .inl (cI, 200, .inl (fun _ => 0)))] := hD
  have hP := hP.sub (ws' := [(h0, .inr (5, [.ref q_1, .null, .null, .null, .null, .int 0]))]) [0] rfl
  have hD := hD.sub (ws' := [(h0, .inr (5, [.ref q_1, .null, .null, .null, .null, .int 0]))]) [0] (by decide) rfl
  refine va_putF (D := (dC, dI)) (ci := 5) (v := .ref q_2) (ty := .array .int) (C := RX6) (T := TX6) (N := 6) hx hb hts inX6 tyX6 tyX6_ok nmX6 hown hK hP hD hS 0 rfl rfl 1 (by decide) (hts _ mw_247) (fun _ h9 => h9) rfl hin rfl (by decide +kernel) rfl rfl (Nat.le_of_ble_eq_true rfl) dX6_init_20 (fun H locs hP hD hS => ?_)
  have hP : va_P (dC, dI) classes [(h0, .inr (5, [.ref q_1, .ref q_2, .null, .null, .null, .int 0]))] H := hP
  have hD : va_D A [(h0, .inr (5, [.ref q_1, .ref q_2, .null, .null, .null, .int 0]))] := hD
  refine lv_aload_n hx hb dX6_init_23 rfl (lv_at hl 0 rfl) ?_
  refine lv_sipush (v := 400) hx hb dX6_init_24 (by decide) ?_
  refine zz_newa (atype := .int) (a0 := (400, .inl (fun _ => 0))) hx hb (hts _ mw_195) (ty := .int) rfl hK hP hD hS hA (n := 400) (N' := 400) (cA := cI) 0 rfl (fun _ => rfl) (by decide) (by decide) (by decide) (Nat.le_of_ble_eq_true rfl) (Nat.le_of_ble_eq_true rfl) dX6_init_27 (fun q_3 H hP hD hS => ?_)
  have hP : va_P (dC, dI) classes [(h0, .inr (5, [.ref q_1, .ref q_2, .null, .null, .null, .int 0])), (q_3, .inl (cI, 400, .inl (fun _ => 0)))] H := hP
  have hD : va_D A [(h0, .inr (5, [.ref q_1, .ref q_2, .null, .null, .null, .int 0])), (q_3, .inl (cI, 400, .inl (fun _ => 0)))] := hD
  have hP := hP.sub (ws' := [(h0, .inr (5, [.ref q_1, .ref q_2, .null, .null, .null, .int 0]))]) [0] rfl
  have hD := hD.sub (ws' := [(h0, .inr (5, [.ref q_1, .ref q_2, .null, .null, .null, .int 0]))]) [0] (by decide) rfl
  refine va_putF (D := (dC, dI)) (ci := 5) (v := .ref q_3) (ty := .array .int) (C := RX6) (T := TX6) (N := 6) hx hb hts inX6 tyX6 tyX6_ok nmX6 hown hK hP hD hS 0 rfl rfl 2 (by decide) (hts _ mw_248) (fun _ h9 => h9) rfl hin rfl (by decide +kernel) rfl rfl (Nat.le_of_ble_eq_true rfl) dX6_init_29 (fun H locs hP hD hS => ?_)
  have hP : va_P (dC, dI) classes [(h0, .inr (5, [.ref q_1, .ref q_2, .ref q_3, .null, .null, .int 0]))] H := hP
  have hD : va_D A [(h0, .inr (5, [.ref q_1, .ref q_2, .ref q_3, .null, .null, .int 0]))] := hD
  refine lv_aload_n hx hb dX6_init_32 rfl (lv_at hl 0 rfl) ?_
  refine lv_sipush (v := 400) hx hb dX6_init_33 (by decide) ?_
  refine zz_newa (atype := .int) (a0 := (400, .inl (fun _ => 0))) hx hb (hts _ mw_195) (ty := .int) rfl hK hP hD hS hA (n := 400) (N' := 400) (cA := cI) 0 rfl (fun _ => rfl) (by decide) (by decide) (by decide) (Nat.le_of_ble_eq_true rfl) (Nat.le_of_ble_eq_true rfl) dX6_init_36 (fun q_4 H hP hD hS => ?_)
  have hP : va_P (dC, dI) classes [(h0, .inr (5, [.ref q_1, .ref q_2, .ref q_3, .null, .null, .int 0])), (q_4, .inl (cI, 400, .inl (fun _ => 0)))] H := hP
  have hD : va_D A [(h0, .inr (5, [.ref q_1, .ref q_2, .ref q_3, .null, .null, .int 0])), (q_4, .inl (cI, 400, .inl (fun _ => 0)))] := hD
  have hP := hP.sub (ws' := [(h0, .inr (5, [.ref q_1, .ref q_2, .ref q_3, .null, .null, .int 0]))]) [0] rfl
  have hD := hD.sub (ws' := [(h0, .inr (5, [.ref q_1, .ref q_2, .ref q_3, .null, .null, .int 0]))]) [0] (by decide) rfl
  refine va_putF (D := (dC, dI)) (ci := 5) (v := .ref q_4) (ty := .array .int) (C := RX6) (T := TX6) (N := 6) hx hb hts inX6 tyX6 tyX6_ok nmX6 hown hK hP hD hS 0 rfl rfl 3 (by decide) (hts _ mw_249) (fun _ h9 => h9) rfl hin rfl (by decide +kernel) rfl rfl (Nat.le_of_ble_eq_true rfl) dX6_init_38 (fun H locs hP hD hS => ?_)
  have hP : va_P (dC, dI) classes [(h0, .inr (5, [.ref q_1, .ref q_2, .ref q_3, .ref q_4, .null, .int 0]))] H := hP
  have hD : va_D A [(h0, .inr (5, [.ref q_1, .ref q_2, .ref q_3, .ref q_4, .null, .int 0]))] := hD
  refine lv_aload_n hx hb dX6_init_41 rfl (lv_at hl 0 rfl) ?_
  refine lv_sipush (v := 400) hx hb dX6_init_42 (by decide) ?_
  refine zz_newa (atype := .int) (a0 := (400, .inl (fun _ => 0))) hx hb (hts _ mw_195) (ty := .int) rfl hK hP hD hS hA (n := 400) (N' := 400) (cA := cI) 0 rfl (fun _ => rfl) (by decide) (by decide) (by decide) (Nat.le_of_ble_eq_true rfl) (Nat.le_of_ble_eq_true rfl) dX6_init_45 (fun q_5 H hP hD hS => ?_)
  have hP : va_P (dC, dI) classes [(h0, .inr (5, [.ref q_1, .ref q_2, .ref q_3, .ref q_4, .null, .int 0])), (q_5, .inl (cI, 400, .inl (fun _ => 0)))] H := hP
  have hD : va_D A [(h0, .inr (5, [.ref q_1, .ref q_2, .ref q_3, .ref q_4, .null, .int 0])), (q_5, .inl (cI, 400, .inl (fun _ => 0)))] := hD
  have hP := hP.sub (ws' := [(h0, .inr (5, [.ref q_1, .ref q_2, .ref q_3, .ref q_4, .null, .int 0]))]) [0] rfl
  have hD := hD.sub (ws' := [(h0, .inr (5, [.ref q_1, .ref q_2, .ref q_3, .ref q_4, .null, .int 0]))]) [0] (by decide) rfl
  refine va_putF (D := (dC, dI)) (ci := 5) (v := .ref q_5) (ty := .array .int) (C := RX6) (T := TX6) (N := 6) hx hb hts inX6 tyX6 tyX6_ok nmX6 hown hK hP hD hS 0 rfl rfl 4 (by decide) (hts _ mw_250) (fun _ h9 => h9) rfl hin rfl (by decide +kernel) rfl rfl (Nat.le_of_ble_eq_true rfl) dX6_init_47 (fun H locs hP hD hS => ?_)
  have hP : va_P (dC, dI) classes [(h0, .inr (5, [.ref q_1, .ref q_2, .ref q_3, .ref q_4, .ref q_5, .int 0]))] H := hP
  have hD : va_D A [(h0, .inr (5, [.ref q_1, .ref q_2, .ref q_3, .ref q_4, .ref q_5, .int 0]))] := hD
  refine lv_aload_n hx hb dX6_init_50 rfl (lv_at hl 0 rfl) ?_
  refine lv_iconst (v := 0) hx hb dX6_init_51 (by decide) ?_
  refine va_put (D := (dC, dI)) (ci := 5) (v := .int 0) (ty := .int) (C := RX6) (T := TX6) (N := 6) hx hb hts inX6 tyX6 tyX6_ok nmX6 hown hK hP hD hS 0 rfl rfl 5 (by decide) (hts _ mw_251) (fun _ h9 => h9) rfl (by decide +kernel) rfl rfl (Nat.le_of_ble_eq_true rfl) dX6_init_52 (fun H locs hP hD hS => ?_)
  have hP : va_P (dC, dI) classes [(h0, .inr (5, [.ref q_1, .ref q_2, .ref q_3, .ref q_4, .ref q_5, .int 0]))] H := hP
  have hD : va_D A [(h0, .inr (5, [.ref q_1, .ref q_2, .ref q_3, .ref q_4, .ref q_5, .int 0]))] := hD
  refine W.widen (k := 5) (n := 1600) (by decide) (by decide) ?_
  have hP9 := hP.sub (ws' := [(h0, .inr (5, [.ref q_1, .ref q_2, .ref q_3, .ref q_4, .ref q_5, .int 0]))]) [0] rfl
  have hD9 := hD.sub (ws' := [(h0, .inr (5, [.ref q_1, .ref q_2, .ref q_3, .ref q_4, .ref q_5, .int 0]))]) [0] (by decide) rfl
  exact W.vret hx hb hr (fun t ht hW => ⟨⟨rfl, q_1, q_2, q_3, q_4, q_5, by rw [ht]; exact hP9, hD9⟩, hS.F ht⟩) hS.2.2 dX6_init_55
set_option maxHeartbeats 4000000 in
set_option maxRecDepth 100000 in
theorem k_AC_init (l : Launch) (dC : Nat → ClassId) (dI : Nat → Nat → Nat) (cI cZ cF : ClassId) (sz : Nat) (h0 : Nat) : Met l yJxa1e45_init_da8c8 (.code yJxa1e45_init_da8c8 cJxa1e45_init_da8c8 1 none :: ws0) ({ frames := 1, cells := 0, slots := 0, locals := 12 }) (va_Pc [.ref h0] (zPre (dC, dI) classes (zTy cI cZ cF) [] sz zTrue)) (zQ none (fun t => va_P (dC, dI) classes [] t.heap ∧ va_D (va_A [] sz) []) (va_A [] sz)) 0 0 (va_A [] sz) := by
  refine Met.ofW (cc := cJxa1e45_init_da8c8) (maxL := 1) (ret := none) (by decide) rfl ?_
  intro p e s m args below meth c s₁ B hml hv
  obtain ⟨rfl, hsz, hP, hK, hD0, hXX⟩ := hv
  have hx := B.exec
  have hb := B.bytes
  have hr := B.returns
  have hts0 := atoms_spec (ws := .code yJxa1e45_init_da8c8 cJxa1e45_init_da8c8 1 none :: ws0) B.pre
  have hts : ∀ w ∈ ws0, w.before ([.ref h0] : List Value).toArray s = true := fun w h => hts0 w (List.mem_cons_of_mem _ h)
  have hown : s.vm.findClass "java/util/AbstractCollection" = some m.cls := findClass_of_methodNamed B.named
  have hlocks := B.notSynchronized
  have hin : meth.name = "<init>" := (name_of_methodNamed B.named B.method).1
  subst hsz
  have hD := hD0.self (sz := s.heap.size)
  generalize hAe : va_A [] s.heap.size = A at hD ⊢
  have hA : ∀ q : Nat, s.heap.size ≤ q → A q := fun q h => by rw [← hAe]; exact Or.inr h
  have hS : va_S A s.heap s.heap [] := va_S.rf
  have hP : va_P (dC, dI) classes [] s.heap := hP
  have hl := lv_entry ([.ref h0]) (n := 1) (Nat.le_of_ble_eq_true rfl)
  rw [lg_entry_eq]
  generalize (lg_sl ([.ref h0]) ++ List.replicate (1 - (lg_sl ([.ref h0])).length) Slot.unset).toArray = ls at hl ⊢
  have hl : lv_has ls 1 [(0, .ref h0)] := hl
  refine lv_aload_n hx hb dJxa1e45_init_da8c8_0 rfl (lv_at hl 0 rfl) ?_
  refine W.objInit hx hb hown (hts _ mw_293) (hts _ mw_126) (hts _ mw_objcode) rfl (by rw [hml]; exact hl.1) rfl dJxa1e45_init_da8c8_1 (Nat.le_of_ble_eq_true rfl) (Nat.le_of_ble_eq_true rfl) ?_
  refine W.eq (g2 := F0 m 4 ls []) rfl ?_
  refine W.widen (k := 0) (n := 0) (by decide) (by decide) ?_
  have hP9 := hP.sub (ws' := []) [] rfl
  have hD9 := hD.sub (ws' := []) [] (by decide) rfl
  exact W.vret hx hb hr (fun t ht hW => ⟨⟨rfl, by rw [ht]; exact hP9, hD9⟩, hS.F ht⟩) hS.2.2 dJxa1e45_init_da8c8_4
set_option maxHeartbeats 4000000 in
set_option maxRecDepth 100000 in
theorem k_ABL_init (l : Launch) (dC : Nat → ClassId) (dI : Nat → Nat → Nat) (cI cZ cF : ClassId) (sz : Nat) (h0 : Nat) : Met l yJxc12de_init_da8c8 (.code yJxc12de_init_da8c8 cJxc12de_init_da8c8 1 none :: ws0) ({ frames := 2, cells := 0, slots := 0, locals := 32 }) (va_Pc [.ref h0] (zPre (dC, dI) classes (zTy cI cZ cF) [(h0, .inr (10, [.int 0, .null, .int 0]))] sz zTrue)) (zQ none (fun t => va_P (dC, dI) classes [(h0, .inr (10, [.int 0, .null, .int 0]))] t.heap ∧ va_D (va_A [(h0, .inr (10, [.int 0, .null, .int 0]))] sz) [(h0, .inr (10, [.int 0, .null, .int 0]))]) (va_A [(h0, .inr (10, [.int 0, .null, .int 0]))] sz)) 0 0 (va_A [(h0, .inr (10, [.int 0, .null, .int 0]))] sz) := by
  refine Met.ofW (cc := cJxc12de_init_da8c8) (maxL := 1) (ret := none) (by decide) rfl ?_
  intro p e s m args below meth c s₁ B hml hv
  obtain ⟨rfl, hsz, hP, hK, hD0, hXX⟩ := hv
  have hx := B.exec
  have hb := B.bytes
  have hr := B.returns
  have hts0 := atoms_spec (ws := .code yJxc12de_init_da8c8 cJxc12de_init_da8c8 1 none :: ws0) B.pre
  have hts : ∀ w ∈ ws0, w.before ([.ref h0] : List Value).toArray s = true := fun w h => hts0 w (List.mem_cons_of_mem _ h)
  have hown : s.vm.findClass "java/util/AbstractList" = some m.cls := findClass_of_methodNamed B.named
  have hlocks := B.notSynchronized
  have hin : meth.name = "<init>" := (name_of_methodNamed B.named B.method).1
  subst hsz
  have hD := hD0.self (sz := s.heap.size)
  generalize hAe : va_A [(h0, .inr (10, [.int 0, .null, .int 0]))] s.heap.size = A at hD ⊢
  have hA : ∀ q : Nat, s.heap.size ≤ q → A q := fun q h => by rw [← hAe]; exact Or.inr h
  have hS : va_S A s.heap s.heap [] := va_S.rf
  have hP : va_P (dC, dI) classes [(h0, .inr (10, [.int 0, .null, .int 0]))] s.heap := hP
  have hl := lv_entry ([.ref h0]) (n := 1) (Nat.le_of_ble_eq_true rfl)
  rw [lg_entry_eq]
  generalize (lg_sl ([.ref h0]) ++ List.replicate (1 - (lg_sl ([.ref h0])).length) Slot.unset).toArray = ls at hl ⊢
  have hl : lv_has ls 1 [(0, .ref h0)] := hl
  refine lv_aload_n hx hb dJxc12de_init_da8c8_0 rfl (lv_at hl 0 rfl) ?_
  have hPc := hP.sub (ws' := []) [] rfl
  have hDc := hD.sub (ws' := []) [] (by decide) rfl
  have hFc := va_free (wc := []) hD hS hA [] rfl
  refine zcall (st1 := []) (va_runI (As := []) (rest := []) ⟨hx, hb, hml, hown, hts⟩ (k_AC_init l dC dI cI cZ cF s.heap.size h0 ) (cwI 0 hts (zz_gC mc_yJxa1e45_init_da8c8) rfl rfl rfl (hts _ mw_107) (hts _ mw_290) (hts _ mw_291) rfl (by decide +kernel) ⟨Nat.le_of_ble_eq_true rfl, Nat.le_of_ble_eq_true rfl⟩) (zPS hPc hDc hK) rfl rfl hl.1 rfl (lv_room (Nat.le_of_ble_eq_true rfl)) dJxc12de_init_da8c8_1 ⟨Nat.le_of_ble_eq_true rfl, Nat.le_of_ble_eq_true rfl⟩) hS hFc hFc rfl (fun t H1 locs ht hB hk1 hS => ?_)
  obtain ⟨hP1, hD1⟩ := hB
  rw [ht] at hP1
  obtain ⟨hP, hD⟩ := va_join (wr := [(h0, .inr (10, [.int 0, .null, .int 0]))]) (w1 := []) hP hD [] [0] rfl rfl (by decide) (by decide) hk1 hFc hP1 hD1
  clear hk1 hPc hDc hFc hP1 hD1 ht
  generalize H1 = H at hP hS ⊢
  have hP : va_P (dC, dI) classes [(h0, .inr (10, [.int 0, .null, .int 0]))] H := hP
  have hD : va_D A [(h0, .inr (10, [.int 0, .null, .int 0]))] := hD
  refine lv_aload_n hx hb dJxc12de_init_da8c8_4 rfl (lv_at hl 0 rfl) ?_
  refine lv_iconst (v := 0) hx hb dJxc12de_init_da8c8_5 (by decide) ?_
  refine va_put (D := (dC, dI)) (ci := 10) (v := .int 0) (ty := .int) (C := RJx4a65c) (T := TJx4a65c) (N := 3) hx hb hts inJx4a65c tyJx4a65c tyJx4a65c_ok nmJx4a65c hown hK hP hD hS 0 rfl rfl 0 (by decide) (hts _ mw_298) (fun _ h9 => h9) rfl (by decide +kernel) rfl rfl (Nat.le_of_ble_eq_true rfl) dJxc12de_init_da8c8_6 (fun H locs hP hD hS => ?_)
  have hP : va_P (dC, dI) classes [(h0, .inr (10, [.int 0, .null, .int 0]))] H := hP
  have hD : va_D A [(h0, .inr (10, [.int 0, .null, .int 0]))] := hD
  refine W.widen (k := 0) (n := 0) (by decide) (by decide) ?_
  have hP9 := hP.sub (ws' := [(h0, .inr (10, [.int 0, .null, .int 0]))]) [0] rfl
  have hD9 := hD.sub (ws' := [(h0, .inr (10, [.int 0, .null, .int 0]))]) [0] (by decide) rfl
  exact W.vret hx hb hr (fun t ht hW => ⟨⟨rfl, by rw [ht]; exact hP9, hD9⟩, hS.F ht⟩) hS.2.2 dJxc12de_init_da8c8_9
set_option maxHeartbeats 4000000 in
set_option maxRecDepth 100000 in
theorem k_AL_init (l : Launch) (dC : Nat → ClassId) (dI : Nat → Nat → Nat) (cI cZ cF : ClassId) (sz : Nat) (h0 : Nat) (e0 : Nat) : Met l yJx4a65c_init_da8c8 (.code yJx4a65c_init_da8c8 cJx4a65c_init_da8c8 1 none :: ws0) ({ frames := 3, cells := 0, slots := 0, locals := 52 }) (va_Pc [.ref h0] (zPre (dC, dI) classes (zTy cI cZ cF) [(h0, .inr (10, [.int 0, .null, .int 0]))] sz (zXZ e0 (va_A [(h0, .inr (10, [.int 0, .null, .int 0]))] sz)))) (zQ none (fun t => va_P (dC, dI) classes [(h0, .inr (10, [.int 0, .ref e0, .int 0]))] t.heap ∧ va_D (va_A [(h0, .inr (10, [.int 0, .null, .int 0]))] sz) [(h0, .inr (10, [.int 0, .ref e0, .int 0]))]) (va_A [(h0, .inr (10, [.int 0, .null, .int 0]))] sz)) 0 0 (va_A [(h0, .inr (10, [.int 0, .null, .int 0]))] sz) := by
  refine Met.ofW (cc := cJx4a65c_init_da8c8) (maxL := 1) (ret := none) (by decide) rfl ?_
  intro p e s m args below meth c s₁ B hml hv
  obtain ⟨rfl, hsz, hP, hK, hD0, hXX⟩ := hv
  have hx := B.exec
  have hb := B.bytes
  have hr := B.returns
  have hts0 := atoms_spec (ws := .code yJx4a65c_init_da8c8 cJx4a65c_init_da8c8 1 none :: ws0) B.pre
  have hts : ∀ w ∈ ws0, w.before ([.ref h0] : List Value).toArray s = true := fun w h => hts0 w (List.mem_cons_of_mem _ h)
  have hown : s.vm.findClass "java/util/ArrayList" = some m.cls := findClass_of_methodNamed B.named
  have hlocks := B.notSynchronized
  have hin : meth.name = "<init>" := (name_of_methodNamed B.named B.method).1
  subst hsz
  have hD := hD0.self (sz := s.heap.size)
  generalize hAe : va_A [(h0, .inr (10, [.int 0, .null, .int 0]))] s.heap.size = A at hD hXX ⊢
  have hA : ∀ q : Nat, s.heap.size ≤ q → A q := fun q h => by rw [← hAe]; exact Or.inr h
  have hS : va_S A s.heap s.heap [] := va_S.rf
  have hP : va_P (dC, dI) classes [(h0, .inr (10, [.int 0, .null, .int 0]))] s.heap := hP
  have hZ := hXX
  have hl := lv_entry ([.ref h0]) (n := 1) (Nat.le_of_ble_eq_true rfl)
  rw [lg_entry_eq]
  generalize (lg_sl ([.ref h0]) ++ List.replicate (1 - (lg_sl ([.ref h0])).length) Slot.unset).toArray = ls at hl ⊢
  have hl : lv_has ls 1 [(0, .ref h0)] := hl
  refine lv_aload_n hx hb dJx4a65c_init_da8c8_0 rfl (lv_at hl 0 rfl) ?_
  have hPc := hP.sub (ws' := [(h0, .inr (10, [.int 0, .null, .int 0]))]) [0] rfl
  have hDc := hD.sub (ws' := [(h0, .inr (10, [.int 0, .null, .int 0]))]) [0] (by decide) rfl
  have hFc := va_free (wc := [(h0, .inr (10, [.int 0, .null, .int 0]))]) hD hS hA [0] rfl
  refine zcall (st1 := []) (va_runI (As := []) (rest := []) ⟨hx, hb, hml, hown, hts⟩ (k_ABL_init l dC dI cI cZ cF s.heap.size h0 ) (cwI 0 hts (zz_gC mc_yJxc12de_init_da8c8) rfl rfl rfl (hts _ mw_108) (hts _ mw_287) (hts _ mw_288) rfl (by decide +kernel) ⟨Nat.le_of_ble_eq_true rfl, Nat.le_of_ble_eq_true rfl⟩) (zPS hPc hDc hK) rfl rfl hl.1 rfl (lv_room (Nat.le_of_ble_eq_true rfl)) dJx4a65c_init_da8c8_1 ⟨Nat.le_of_ble_eq_true rfl, Nat.le_of_ble_eq_true rfl⟩) hS hFc hFc rfl (fun t H1 locs ht hB hk1 hS => ?_)
  obtain ⟨hP1, hD1⟩ := hB
  rw [ht] at hP1
  obtain ⟨hP, hD⟩ := va_join (wr := []) (w1 := [(h0, .inr (10, [.int 0, .null, .int 0]))]) hP hD [0] [] rfl rfl (by decide) (by decide) hk1 hFc hP1 hD1
  clear hk1 hPc hDc hFc hP1 hD1 ht
  generalize H1 = H at hP hS ⊢
  have hP : va_P (dC, dI) classes [(h0, .inr (10, [.int 0, .null, .int 0]))] H := hP
  have hD : va_D A [(h0, .inr (10, [.int 0, .null, .int 0]))] := hD
  refine lv_aload_n hx hb dJx4a65c_init_da8c8_4 rfl (lv_at hl 0 rfl) ?_
  refine va_gets hx hb hZ hS hown (hts _ mw_294) (fun _ h9 => h9) dJx4a65c_init_da8c8_5 ?_
  refine va_put (D := (dC, dI)) (ci := 10) (v := .ref e0) (ty := .array (.object "java/lang/Object")) (C := RJx4a65c) (T := TJx4a65c) (N := 3) hx hb hts inJx4a65c tyJx4a65c tyJx4a65c_ok nmJx4a65c hown hK hP hD hS 0 rfl rfl 1 (by decide) (hts _ mw_296) (fun _ h9 => h9) rfl (by decide +kernel) rfl rfl (Nat.le_of_ble_eq_true rfl) dJx4a65c_init_da8c8_8 (fun H locs hP hD hS => ?_)
  have hP : va_P (dC, dI) classes [(h0, .inr (10, [.int 0, .ref e0, .int 0]))] H := hP
  have hD : va_D A [(h0, .inr (10, [.int 0, .ref e0, .int 0]))] := hD
  refine W.widen (k := 0) (n := 0) (by decide) (by decide) ?_
  have hP9 := hP.sub (ws' := [(h0, .inr (10, [.int 0, .ref e0, .int 0]))]) [0] rfl
  have hD9 := hD.sub (ws' := [(h0, .inr (10, [.int 0, .ref e0, .int 0]))]) [0] (by decide) rfl
  exact W.vret hx hb hr (fun t ht hW => ⟨⟨rfl, by rw [ht]; exact hP9, hD9⟩, hS.F ht⟩) hS.2.2 dJx4a65c_init_da8c8_11
end
section
set_option maxHeartbeats 4000000 in
set_option maxRecDepth 100000 in
theorem k_Shop_init (l : Launch) (dC : Nat → ClassId) (dI : Nat → Nat → Nat) (cI cZ cF : ClassId) (sz : Nat) (h0 : Nat) (e0 : Nat) : Met l yX10_init (.code yX10_init cX10_init 1 none :: ws0) ({ frames := 4, cells := 27, slots := 2179, locals := 72 }) (va_Pc [.ref h0] (zPre (dC, dI) classes (zTy cI cZ cF) [(h0, .inr (8, [.null, .null, .null, .null, .null, .null, .null, .null, .null, .int 0, .int 0, .int 0, .int 0]))] sz (fun U => zXA U ∧ zXZ e0 (va_A [(h0, .inr (8, [.null, .null, .null, .null, .null, .null, .null, .null, .null, .int 0, .int 0, .int 0, .int 0]))] sz) U))) (zQ none (fun t => ∃ (a1 a2 a3 a4 a5 a6 a7 a8 a9 f0 r1 r2 r3 r4 r5 : Nat), va_P (dC, dI) classes [(h0, .inr (8, [.ref a1, .ref a2, .ref a3, .ref a4, .ref a5, .ref a6, .ref a7, .ref a8, .ref a9, .int 0, .int 0, .int 0, .int 0])), (a1, .inr (7, [.ref f0, .int 0])), (f0, .inl (cF, 200, .inr (.inr (.inr (.inr (fun _ => none)))))), (a3, .inr (5, [.ref r1, .ref r2, .ref r3, .ref r4, .ref r5, .int 0])), (a9, .inr (10, [.int 0, .ref e0, .int 0]))] t.heap ∧ va_D (va_A [(h0, .inr (8, [.null, .null, .null, .null, .null, .null, .null, .null, .null, .int 0, .int 0, .int 0, .int 0]))] sz) [(h0, .inr (8, [.ref a1, .ref a2, .ref a3, .ref a4, .ref a5, .ref a6, .ref a7, .ref a8, .ref a9, .int 0, .int 0, .int 0, .int 0])), (a1, .inr (7, [.ref f0, .int 0])), (f0, .inl (cF, 200, .inr (.inr (.inr (.inr (fun _ => none)))))), (a3, .inr (5, [.ref r1, .ref r2, .ref r3, .ref r4, .ref r5, .int 0])), (a9, .inr (10, [.int 0, .ref e0, .int 0]))]) (va_A [(h0, .inr (8, [.null, .null, .null, .null, .null, .null, .null, .null, .null, .int 0, .int 0, .int 0, .int 0]))] sz)) 27 2179 (va_A [(h0, .inr (8, [.null, .null, .null, .null, .null, .null, .null, .null, .null, .int 0, .int 0, .int 0, .int 0]))] sz) := by
  refine Met.ofW (cc := cX10_init) (maxL := 1) (ret := none) (by decide) rfl ?_
  intro p e s m args below meth c s₁ B hml hv
  obtain ⟨rfl, hsz, hP, hK, hD0, hXX⟩ := hv
  have hx := B.exec
  have hb := B.bytes
  have hr := B.returns
  have hts0 := atoms_spec (ws := .code yX10_init cX10_init 1 none :: ws0) B.pre
  have hts : ∀ w ∈ ws0, w.before ([.ref h0] : List Value).toArray s = true := fun w h => hts0 w (List.mem_cons_of_mem _ h)
  have hown : s.vm.findClass "ScaleShop" = some m.cls := findClass_of_methodNamed B.named
  have hlocks := B.notSynchronized
  have hin : meth.name = "<init>" := (name_of_methodNamed B.named B.method).1
  subst hsz
  have hD := hD0.self (sz := s.heap.size)
  generalize hAe : va_A [(h0, .inr (8, [.null, .null, .null, .null, .null, .null, .null, .null, .null, .int 0, .int 0, .int 0, .int 0]))] s.heap.size = A at hD hXX ⊢
  have hA : ∀ q : Nat, s.heap.size ≤ q → A q := fun q h => by rw [← hAe]; exact Or.inr h
  have hS : va_S A s.heap s.heap [] := va_S.rf
  have hP : va_P (dC, dI) classes [(h0, .inr (8, [.null, .null, .null, .null, .null, .null, .null, .null, .null, .int 0, .int 0, .int 0, .int 0]))] s.heap := hP
  obtain ⟨hAO, hZ⟩ := hXX
  have hl := lv_entry ([.ref h0]) (n := 1) (Nat.le_of_ble_eq_true rfl)
  rw [lg_entry_eq]
  generalize (lg_sl ([.ref h0]) ++ List.replicate (1 - (lg_sl ([.ref h0])).length) Slot.unset).toArray = ls at hl ⊢
  have hl : lv_has ls 1 [(0, .ref h0)] := hl
  refine lv_aload_n hx hb dX10_init_0 rfl (lv_at hl 0 rfl) ?_
  refine W.objInit hx hb hown (hts _ mw_125) (hts _ mw_126) (hts _ mw_objcode) rfl (by rw [hml]; exact hl.1) rfl dX10_init_1 (Nat.le_of_ble_eq_true rfl) (Nat.le_of_ble_eq_true rfl) ?_
  refine W.eq (g2 := F0 m 4 ls []) rfl ?_
  refine lv_aload_n hx hb dX10_init_4 rfl (lv_at hl 0 rfl) ?_
  refine va_new (ci := 7) (fs := [.null, .int 0]) (C := RX8) (T := TX8) (N := 2) hx hb hts inX8 tyX8 tyX8_ok hown (hts _ mw_128) (hts _ mw_129) (hts _ mw_100) hK hP hD hS hA rfl dfX8 (Nat.le_of_ble_eq_true rfl) (Nat.le_of_ble_eq_true rfl) dX10_init_5 (fun q_1 H hP hD hS => ?_)
  have hP : va_P (dC, dI) classes [(h0, .inr (8, [.null, .null, .null, .null, .null, .null, .null, .null, .null, .int 0, .int 0, .int 0, .int 0])), (q_1, .inr (7, [.null, .int 0]))] H := hP
  have hD : va_D A [(h0, .inr (8, [.null, .null, .null, .null, .null, .null, .null, .null, .null, .int 0, .int 0, .int 0, .int 0])), (q_1, .inr (7, [.null, .int 0]))] := hD
  refine lv_dup hx hb dX10_init_8 rfl ?_
  have hPc := hP.sub (ws' := [(q_1, .inr (7, [.null, .int 0]))]) [1] rfl
  have hDc := hD.sub (ws' := [(q_1, .inr (7, [.null, .int 0]))]) [1] (by decide) rfl
  have hFc := va_free (wc := [(q_1, .inr (7, [.null, .int 0]))]) hD hS hA [1] rfl
  refine zcall (st1 := [.ref q_1, .ref h0]) (va_runI (As := []) (rest := [.ref q_1, .ref h0]) ⟨hx, hb, hml, hown, hts⟩ (k_Sheet_init l dC dI cI cZ cF H.size q_1 ) (cwI 0 hts (zz_gC mc_yX8_init) rfl rfl rfl (hts _ mw_100) (hts _ mw_130) (hts _ mw_131) rfl (by decide +kernel) ⟨Nat.le_of_ble_eq_true rfl, Nat.le_of_ble_eq_true rfl⟩) (zPSA hPc hDc hK hAO) rfl rfl hl.1 rfl (lv_room (Nat.le_of_ble_eq_true rfl)) dX10_init_9 ⟨Nat.le_of_ble_eq_true rfl, Nat.le_of_ble_eq_true rfl⟩) hS hFc hFc rfl (fun t H1 locs ht hB hk1 hS => ?_)
  obtain ⟨q_2, hP1, hD1⟩ := hB
  rw [ht] at hP1
  obtain ⟨hP, hD⟩ := va_join (wr := [(h0, .inr (8, [.null, .null, .null, .null, .null, .null, .null, .null, .null, .int 0, .int 0, .int 0, .int 0]))]) (w1 := [(q_1, .inr (7, [.ref q_2, .int 0])), (q_2, .inl (cF, 200, .inr (.inr (.inr (.inr (fun _ => none))))))]) hP hD [1] [0] rfl rfl (by decide) (by decide) hk1 hFc hP1 hD1
  clear hk1 hPc hDc hFc hP1 hD1 ht
  generalize H1 = H at hP hS ⊢
  have hP : va_P (dC, dI) classes [(h0, .inr (8, [.null, .null, .null, .null, .null, .null, .null, .null, .null, .int 0, .int 0, .int 0, .int 0])), (q_1, .inr (7, [.ref q_2, .int 0])), (q_2, .inl (cF, 200, .inr (.inr (.inr (.inr (fun _ => none))))))] H := hP
  have hD : va_D A [(h0, .inr (8, [.null, .null, .null, .null, .null, .null, .null, .null, .null, .int 0, .int 0, .int 0, .int 0])), (q_1, .inr (7, [.ref q_2, .int 0])), (q_2, .inl (cF, 200, .inr (.inr (.inr (.inr (fun _ => none))))))] := hD
  refine va_putF (D := (dC, dI)) (ci := 8) (v := .ref q_1) (ty := .object "ScaleShop$Sheet") (C := RX10) (T := TX10) (N := 13) hx hb hts inX10 tyX10 tyX10_ok nmX10 hown hK hP hD hS 0 rfl rfl 0 (by decide) (hts _ mw_309) (fun _ h9 => h9) rfl hin rfl (by decide +kernel) rfl rfl (Nat.le_of_ble_eq_true rfl) dX10_init_12 (fun H locs hP hD hS => ?_)
  have hP : va_P (dC, dI) classes [(h0, .inr (8, [.ref q_1, .null, .null, .null, .null, .null, .null, .null, .null, .int 0, .int 0, .int 0, .int 0])), (q_1, .inr (7, [.ref q_2, .int 0])), (q_2, .inl (cF, 200, .inr (.inr (.inr (.inr (fun _ => none))))))] H := hP
  have hD : va_D A [(h0, .inr (8, [.ref q_1, .null, .null, .null, .null, .null, .null, .null, .null, .int 0, .int 0, .int 0, .int 0])), (q_1, .inr (7, [.ref q_2, .int 0])), (q_2, .inl (cF, 200, .inr (.inr (.inr (.inr (fun _ => none))))))] := hD
  refine lv_aload_n hx hb dX10_init_15 rfl (lv_at hl 0 rfl) ?_
  refine va_new (ci := 3) (fs := [.null, .null, .null, .null, .null, .null]) (C := RX4) (T := TX4) (N := 6) hx hb hts inX4 tyX4 tyX4_ok hown (hts _ mw_146) (hts _ mw_147) (hts _ mw_101) hK hP hD hS hA rfl dfX4 (Nat.le_of_ble_eq_true rfl) (Nat.le_of_ble_eq_true rfl) dX10_init_16 (fun q_3 H hP hD hS => ?_)
  have hP : va_P (dC, dI) classes [(h0, .inr (8, [.ref q_1, .null, .null, .null, .null, .null, .null, .null, .null, .int 0, .int 0, .int 0, .int 0])), (q_1, .inr (7, [.ref q_2, .int 0])), (q_2, .inl (cF, 200, .inr (.inr (.inr (.inr (fun _ => none)))))), (q_3, .inr (3, [.null, .null, .null, .null, .null, .null]))] H := hP
  have hD : va_D A [(h0, .inr (8, [.ref q_1, .null, .null, .null, .null, .null, .null, .null, .null, .int 0, .int 0, .int 0, .int 0])), (q_1, .inr (7, [.ref q_2, .int 0])), (q_2, .inl (cF, 200, .inr (.inr (.inr (.inr (fun _ => none)))))), (q_3, .inr (3, [.null, .null, .null, .null, .null, .null]))] := hD
  refine lv_dup hx hb dX10_init_19 rfl ?_
  have hPc := hP.sub (ws' := [(q_3, .inr (3, [.null, .null, .null, .null, .null, .null]))]) [3] rfl
  have hDc := hD.sub (ws' := [(q_3, .inr (3, [.null, .null, .null, .null, .null, .null]))]) [3] (by decide) rfl
  have hFc := va_free (wc := [(q_3, .inr (3, [.null, .null, .null, .null, .null, .null]))]) hD hS hA [3] rfl
  refine zcall (st1 := [.ref q_3, .ref h0]) (va_runI (As := []) (rest := [.ref q_3, .ref h0]) ⟨hx, hb, hml, hown, hts⟩ (k_Law_init l dC dI cI cZ cF H.size q_3 ) (cwI 0 hts (zz_gC mc_yX4_init) rfl rfl rfl (hts _ mw_101) (hts _ mw_148) (hts _ mw_149) rfl (by decide +kernel) ⟨Nat.le_of_ble_eq_true rfl, Nat.le_of_ble_eq_true rfl⟩) (zPS hPc hDc hK) rfl rfl hl.1 rfl (lv_room (Nat.le_of_ble_eq_true rfl)) dX10_init_20 ⟨Nat.le_of_ble_eq_true rfl, Nat.le_of_ble_eq_true rfl⟩) hS hFc hFc rfl (fun t H1 locs ht hB hk1 hS => ?_)
  obtain ⟨hP1, hD1⟩ := hB
  rw [ht] at hP1
  obtain ⟨hP, hD⟩ := va_join (wr := [(h0, .inr (8, [.ref q_1, .null, .null, .null, .null, .null, .null, .null, .null, .int 0, .int 0, .int 0, .int 0])), (q_1, .inr (7, [.ref q_2, .int 0])), (q_2, .inl (cF, 200, .inr (.inr (.inr (.inr (fun _ => none))))))]) (w1 := []) hP hD [3] [0, 1, 2] rfl rfl (by decide) (by decide) hk1 hFc hP1 hD1
  clear hk1 hPc hDc hFc hP1 hD1 ht
  generalize H1 = H at hP hS ⊢
  have hP : va_P (dC, dI) classes [(h0, .inr (8, [.ref q_1, .null, .null, .null, .null, .null, .null, .null, .null, .int 0, .int 0, .int 0, .int 0])), (q_1, .inr (7, [.ref q_2, .int 0])), (q_2, .inl (cF, 200, .inr (.inr (.inr (.inr (fun _ => none))))))] H := hP
  have hD : va_D A [(h0, .inr (8, [.ref q_1, .null, .null, .null, .null, .null, .null, .null, .null, .int 0, .int 0, .int 0, .int 0])), (q_1, .inr (7, [.ref q_2, .int 0])), (q_2, .inl (cF, 200, .inr (.inr (.inr (.inr (fun _ => none))))))] := hD
  refine va_putF (D := (dC, dI)) (ci := 8) (v := .ref q_3) (ty := .object "ScaleShop$Law") (C := RX10) (T := TX10) (N := 13) hx hb hts inX10 tyX10 tyX10_ok nmX10 hown hK hP hD hS 0 rfl rfl 1 (by decide) (hts _ mw_310) (fun _ h9 => h9) rfl hin rfl (by decide +kernel) rfl rfl (Nat.le_of_ble_eq_true rfl) dX10_init_23 (fun H locs hP hD hS => ?_)
  have hP : va_P (dC, dI) classes [(h0, .inr (8, [.ref q_1, .ref q_3, .null, .null, .null, .null, .null, .null, .null, .int 0, .int 0, .int 0, .int 0])), (q_1, .inr (7, [.ref q_2, .int 0])), (q_2, .inl (cF, 200, .inr (.inr (.inr (.inr (fun _ => none))))))] H := hP
  have hD : va_D A [(h0, .inr (8, [.ref q_1, .ref q_3, .null, .null, .null, .null, .null, .null, .null, .int 0, .int 0, .int 0, .int 0])), (q_1, .inr (7, [.ref q_2, .int 0])), (q_2, .inl (cF, 200, .inr (.inr (.inr (.inr (fun _ => none))))))] := hD
  refine lv_aload_n hx hb dX10_init_26 rfl (lv_at hl 0 rfl) ?_
  refine va_new (ci := 5) (fs := [.null, .null, .null, .null, .null, .int 0]) (C := RX6) (T := TX6) (N := 6) hx hb hts inX6 tyX6 tyX6_ok hown (hts _ mw_239) (hts _ mw_240) (hts _ mw_105) hK hP hD hS hA rfl dfX6 (Nat.le_of_ble_eq_true rfl) (Nat.le_of_ble_eq_true rfl) dX10_init_27 (fun q_4 H hP hD hS => ?_)
  have hP : va_P (dC, dI) classes [(h0, .inr (8, [.ref q_1, .ref q_3, .null, .null, .null, .null, .null, .null, .null, .int 0, .int 0, .int 0, .int 0])), (q_1, .inr (7, [.ref q_2, .int 0])), (q_2, .inl (cF, 200, .inr (.inr (.inr (.inr (fun _ => none)))))), (q_4, .inr (5, [.null, .null, .null, .null, .null, .int 0]))] H := hP
  have hD : va_D A [(h0, .inr (8, [.ref q_1, .ref q_3, .null, .null, .null, .null, .null, .null, .null, .int 0, .int 0, .int 0, .int 0])), (q_1, .inr (7, [.ref q_2, .int 0])), (q_2, .inl (cF, 200, .inr (.inr (.inr (.inr (fun _ => none)))))), (q_4, .inr (5, [.null, .null, .null, .null, .null, .int 0]))] := hD
  refine lv_dup hx hb dX10_init_30 rfl ?_
  have hPc := hP.sub (ws' := [(q_4, .inr (5, [.null, .null, .null, .null, .null, .int 0]))]) [3] rfl
  have hDc := hD.sub (ws' := [(q_4, .inr (5, [.null, .null, .null, .null, .null, .int 0]))]) [3] (by decide) rfl
  have hFc := va_free (wc := [(q_4, .inr (5, [.null, .null, .null, .null, .null, .int 0]))]) hD hS hA [3] rfl
  refine zcall (st1 := [.ref q_4, .ref h0]) (va_runI (As := []) (rest := [.ref q_4, .ref h0]) ⟨hx, hb, hml, hown, hts⟩ (k_Roads_init l dC dI cI cZ cF H.size q_4 ) (cwI 0 hts (zz_gC mc_yX6_init) rfl rfl rfl (hts _ mw_105) (hts _ mw_241) (hts _ mw_242) rfl (by decide +kernel) ⟨Nat.le_of_ble_eq_true rfl, Nat.le_of_ble_eq_true rfl⟩) (zPSA hPc hDc hK hAO) rfl rfl hl.1 rfl (lv_room (Nat.le_of_ble_eq_true rfl)) dX10_init_31 ⟨Nat.le_of_ble_eq_true rfl, Nat.le_of_ble_eq_true rfl⟩) hS hFc hFc rfl (fun t H1 locs ht hB hk1 hS => ?_)
  obtain ⟨q_5, q_6, q_7, q_8, q_9, hP1, hD1⟩ := hB
  rw [ht] at hP1
  obtain ⟨hP, hD⟩ := va_join (wr := [(h0, .inr (8, [.ref q_1, .ref q_3, .null, .null, .null, .null, .null, .null, .null, .int 0, .int 0, .int 0, .int 0])), (q_1, .inr (7, [.ref q_2, .int 0])), (q_2, .inl (cF, 200, .inr (.inr (.inr (.inr (fun _ => none))))))]) (w1 := [(q_4, .inr (5, [.ref q_5, .ref q_6, .ref q_7, .ref q_8, .ref q_9, .int 0]))]) hP hD [3] [0, 1, 2] rfl rfl (by decide) (by decide) hk1 hFc hP1 hD1
  clear hk1 hPc hDc hFc hP1 hD1 ht
  generalize H1 = H at hP hS ⊢
  have hP : va_P (dC, dI) classes [(h0, .inr (8, [.ref q_1, .ref q_3, .null, .null, .null, .null, .null, .null, .null, .int 0, .int 0, .int 0, .int 0])), (q_1, .inr (7, [.ref q_2, .int 0])), (q_2, .inl (cF, 200, .inr (.inr (.inr (.inr (fun _ => none)))))), (q_4, .inr (5, [.ref q_5, .ref q_6, .ref q_7, .ref q_8, .ref q_9, .int 0]))] H := hP
  have hD : va_D A [(h0, .inr (8, [.ref q_1, .ref q_3, .null, .null, .null, .null, .null, .null, .null, .int 0, .int 0, .int 0, .int 0])), (q_1, .inr (7, [.ref q_2, .int 0])), (q_2, .inl (cF, 200, .inr (.inr (.inr (.inr (fun _ => none)))))), (q_4, .inr (5, [.ref q_5, .ref q_6, .ref q_7, .ref q_8, .ref q_9, .int 0]))] := hD
  refine va_putF (D := (dC, dI)) (ci := 8) (v := .ref q_4) (ty := .object "ScaleShop$Roads") (C := RX10) (T := TX10) (N := 13) hx hb hts inX10 tyX10 tyX10_ok nmX10 hown hK hP hD hS 0 rfl rfl 2 (by decide) (hts _ mw_311) (fun _ h9 => h9) rfl hin rfl (by decide +kernel) rfl rfl (Nat.le_of_ble_eq_true rfl) dX10_init_34 (fun H locs hP hD hS => ?_)
  have hP : va_P (dC, dI) classes [(h0, .inr (8, [.ref q_1, .ref q_3, .ref q_4, .null, .null, .null, .null, .null, .null, .int 0, .int 0, .int 0, .int 0])), (q_1, .inr (7, [.ref q_2, .int 0])), (q_2, .inl (cF, 200, .inr (.inr (.inr (.inr (fun _ => none)))))), (q_4, .inr (5, [.ref q_5, .ref q_6, .ref q_7, .ref q_8, .ref q_9, .int 0]))] H := hP
  have hD : va_D A [(h0, .inr (8, [.ref q_1, .ref q_3, .ref q_4, .null, .null, .null, .null, .null, .null, .int 0, .int 0, .int 0, .int 0])), (q_1, .inr (7, [.ref q_2, .int 0])), (q_2, .inl (cF, 200, .inr (.inr (.inr (.inr (fun _ => none)))))), (q_4, .inr (5, [.ref q_5, .ref q_6, .ref q_7, .ref q_8, .ref q_9, .int 0]))] := hD
  refine lv_aload_n hx hb dX10_init_37 rfl (lv_at hl 0 rfl) ?_
  refine va_new (ci := 0) (fs := [.int 0, .int 0, .int 0, .int 0]) (C := RX0) (T := TX0) (N := 4) hx hb hts inX0 tyX0 tyX0_ok hown (hts _ mw_265) (hts _ mw_197) (hts _ mw_104) hK hP hD hS hA rfl dfX0 (Nat.le_of_ble_eq_true rfl) (Nat.le_of_ble_eq_true rfl) dX10_init_38 (fun q_10 H hP hD hS => ?_)
  have hP : va_P (dC, dI) classes [(h0, .inr (8, [.ref q_1, .ref q_3, .ref q_4, .null, .null, .null, .null, .null, .null, .int 0, .int 0, .int 0, .int 0])), (q_1, .inr (7, [.ref q_2, .int 0])), (q_2, .inl (cF, 200, .inr (.inr (.inr (.inr (fun _ => none)))))), (q_4, .inr (5, [.ref q_5, .ref q_6, .ref q_7, .ref q_8, .ref q_9, .int 0])), (q_10, .inr (0, [.int 0, .int 0, .int 0, .int 0]))] H := hP
  have hD : va_D A [(h0, .inr (8, [.ref q_1, .ref q_3, .ref q_4, .null, .null, .null, .null, .null, .null, .int 0, .int 0, .int 0, .int 0])), (q_1, .inr (7, [.ref q_2, .int 0])), (q_2, .inl (cF, 200, .inr (.inr (.inr (.inr (fun _ => none)))))), (q_4, .inr (5, [.ref q_5, .ref q_6, .ref q_7, .ref q_8, .ref q_9, .int 0])), (q_10, .inr (0, [.int 0, .int 0, .int 0, .int 0]))] := hD
  refine lv_dup hx hb dX10_init_41 rfl ?_
  have hPc := hP.sub (ws' := [(q_10, .inr (0, [.int 0, .int 0, .int 0, .int 0]))]) [4] rfl
  have hDc := hD.sub (ws' := [(q_10, .inr (0, [.int 0, .int 0, .int 0, .int 0]))]) [4] (by decide) rfl
  have hFc := va_free (wc := [(q_10, .inr (0, [.int 0, .int 0, .int 0, .int 0]))]) hD hS hA [4] rfl
  refine zcall (st1 := [.ref q_10, .ref h0]) (va_runI (As := []) (rest := [.ref q_10, .ref h0]) ⟨hx, hb, hml, hown, hts⟩ (k_Box_init l dC dI cI cZ cF H.size q_10 ) (cwI 0 hts (zz_gC mc_yX0_init) rfl rfl rfl (hts _ mw_104) (hts _ mw_266) (hts _ mw_199) rfl (by decide +kernel) ⟨Nat.le_of_ble_eq_true rfl, Nat.le_of_ble_eq_true rfl⟩) (zPS hPc hDc hK) rfl rfl hl.1 rfl (lv_room (Nat.le_of_ble_eq_true rfl)) dX10_init_42 ⟨Nat.le_of_ble_eq_true rfl, Nat.le_of_ble_eq_true rfl⟩) hS hFc hFc rfl (fun t H1 locs ht hB hk1 hS => ?_)
  obtain ⟨hP1, hD1⟩ := hB
  rw [ht] at hP1
  obtain ⟨hP, hD⟩ := va_join (wr := [(h0, .inr (8, [.ref q_1, .ref q_3, .ref q_4, .null, .null, .null, .null, .null, .null, .int 0, .int 0, .int 0, .int 0])), (q_1, .inr (7, [.ref q_2, .int 0])), (q_2, .inl (cF, 200, .inr (.inr (.inr (.inr (fun _ => none)))))), (q_4, .inr (5, [.ref q_5, .ref q_6, .ref q_7, .ref q_8, .ref q_9, .int 0]))]) (w1 := []) hP hD [4] [0, 1, 2, 3] rfl rfl (by decide) (by decide) hk1 hFc hP1 hD1
  clear hk1 hPc hDc hFc hP1 hD1 ht
  generalize H1 = H at hP hS ⊢
  have hP : va_P (dC, dI) classes [(h0, .inr (8, [.ref q_1, .ref q_3, .ref q_4, .null, .null, .null, .null, .null, .null, .int 0, .int 0, .int 0, .int 0])), (q_1, .inr (7, [.ref q_2, .int 0])), (q_2, .inl (cF, 200, .inr (.inr (.inr (.inr (fun _ => none)))))), (q_4, .inr (5, [.ref q_5, .ref q_6, .ref q_7, .ref q_8, .ref q_9, .int 0]))] H := hP
  have hD : va_D A [(h0, .inr (8, [.ref q_1, .ref q_3, .ref q_4, .null, .null, .null, .null, .null, .null, .int 0, .int 0, .int 0, .int 0])), (q_1, .inr (7, [.ref q_2, .int 0])), (q_2, .inl (cF, 200, .inr (.inr (.inr (.inr (fun _ => none)))))), (q_4, .inr (5, [.ref q_5, .ref q_6, .ref q_7, .ref q_8, .ref q_9, .int 0]))] := hD
  refine va_putF (D := (dC, dI)) (ci := 8) (v := .ref q_10) (ty := .object "ScaleShop$Box") (C := RX10) (T := TX10) (N := 13) hx hb hts inX10 tyX10 tyX10_ok nmX10 hown hK hP hD hS 0 rfl rfl 3 (by decide) (hts _ mw_312) (fun _ h9 => h9) rfl hin rfl (by decide +kernel) rfl rfl (Nat.le_of_ble_eq_true rfl) dX10_init_45 (fun H locs hP hD hS => ?_)
  have hP : va_P (dC, dI) classes [(h0, .inr (8, [.ref q_1, .ref q_3, .ref q_4, .ref q_10, .null, .null, .null, .null, .null, .int 0, .int 0, .int 0, .int 0])), (q_1, .inr (7, [.ref q_2, .int 0])), (q_2, .inl (cF, 200, .inr (.inr (.inr (.inr (fun _ => none)))))), (q_4, .inr (5, [.ref q_5, .ref q_6, .ref q_7, .ref q_8, .ref q_9, .int 0]))] H := hP
  have hD : va_D A [(h0, .inr (8, [.ref q_1, .ref q_3, .ref q_4, .ref q_10, .null, .null, .null, .null, .null, .int 0, .int 0, .int 0, .int 0])), (q_1, .inr (7, [.ref q_2, .int 0])), (q_2, .inl (cF, 200, .inr (.inr (.inr (.inr (fun _ => none)))))), (q_4, .inr (5, [.ref q_5, .ref q_6, .ref q_7, .ref q_8, .ref q_9, .int 0]))] := hD
  refine lv_aload_n hx hb dX10_init_48 rfl (lv_at hl 0 rfl) ?_
  refine va_new (ci := 0) (fs := [.int 0, .int 0, .int 0, .int 0]) (C := RX0) (T := TX0) (N := 4) hx hb hts inX0 tyX0 tyX0_ok hown (hts _ mw_265) (hts _ mw_197) (hts _ mw_104) hK hP hD hS hA rfl dfX0 (Nat.le_of_ble_eq_true rfl) (Nat.le_of_ble_eq_true rfl) dX10_init_49 (fun q_11 H hP hD hS => ?_)
  have hP : va_P (dC, dI) classes [(h0, .inr (8, [.ref q_1, .ref q_3, .ref q_4, .ref q_10, .null, .null, .null, .null, .null, .int 0, .int 0, .int 0, .int 0])), (q_1, .inr (7, [.ref q_2, .int 0])), (q_2, .inl (cF, 200, .inr (.inr (.inr (.inr (fun _ => none)))))), (q_4, .inr (5, [.ref q_5, .ref q_6, .ref q_7, .ref q_8, .ref q_9, .int 0])), (q_11, .inr (0, [.int 0, .int 0, .int 0, .int 0]))] H := hP
  have hD : va_D A [(h0, .inr (8, [.ref q_1, .ref q_3, .ref q_4, .ref q_10, .null, .null, .null, .null, .null, .int 0, .int 0, .int 0, .int 0])), (q_1, .inr (7, [.ref q_2, .int 0])), (q_2, .inl (cF, 200, .inr (.inr (.inr (.inr (fun _ => none)))))), (q_4, .inr (5, [.ref q_5, .ref q_6, .ref q_7, .ref q_8, .ref q_9, .int 0])), (q_11, .inr (0, [.int 0, .int 0, .int 0, .int 0]))] := hD
  refine lv_dup hx hb dX10_init_52 rfl ?_
  have hPc := hP.sub (ws' := [(q_11, .inr (0, [.int 0, .int 0, .int 0, .int 0]))]) [4] rfl
  have hDc := hD.sub (ws' := [(q_11, .inr (0, [.int 0, .int 0, .int 0, .int 0]))]) [4] (by decide) rfl
  have hFc := va_free (wc := [(q_11, .inr (0, [.int 0, .int 0, .int 0, .int 0]))]) hD hS hA [4] rfl
  refine zcall (st1 := [.ref q_11, .ref h0]) (va_runI (As := []) (rest := [.ref q_11, .ref h0]) ⟨hx, hb, hml, hown, hts⟩ (k_Box_init l dC dI cI cZ cF H.size q_11 ) (cwI 0 hts (zz_gC mc_yX0_init) rfl rfl rfl (hts _ mw_104) (hts _ mw_266) (hts _ mw_199) rfl (by decide +kernel) ⟨Nat.le_of_ble_eq_true rfl, Nat.le_of_ble_eq_true rfl⟩) (zPS hPc hDc hK) rfl rfl hl.1 rfl (lv_room (Nat.le_of_ble_eq_true rfl)) dX10_init_53 ⟨Nat.le_of_ble_eq_true rfl, Nat.le_of_ble_eq_true rfl⟩) hS hFc hFc rfl (fun t H1 locs ht hB hk1 hS => ?_)
  obtain ⟨hP1, hD1⟩ := hB
  rw [ht] at hP1
  obtain ⟨hP, hD⟩ := va_join (wr := [(h0, .inr (8, [.ref q_1, .ref q_3, .ref q_4, .ref q_10, .null, .null, .null, .null, .null, .int 0, .int 0, .int 0, .int 0])), (q_1, .inr (7, [.ref q_2, .int 0])), (q_2, .inl (cF, 200, .inr (.inr (.inr (.inr (fun _ => none)))))), (q_4, .inr (5, [.ref q_5, .ref q_6, .ref q_7, .ref q_8, .ref q_9, .int 0]))]) (w1 := []) hP hD [4] [0, 1, 2, 3] rfl rfl (by decide) (by decide) hk1 hFc hP1 hD1
  clear hk1 hPc hDc hFc hP1 hD1 ht
  generalize H1 = H at hP hS ⊢
  have hP : va_P (dC, dI) classes [(h0, .inr (8, [.ref q_1, .ref q_3, .ref q_4, .ref q_10, .null, .null, .null, .null, .null, .int 0, .int 0, .int 0, .int 0])), (q_1, .inr (7, [.ref q_2, .int 0])), (q_2, .inl (cF, 200, .inr (.inr (.inr (.inr (fun _ => none)))))), (q_4, .inr (5, [.ref q_5, .ref q_6, .ref q_7, .ref q_8, .ref q_9, .int 0]))] H := hP
  have hD : va_D A [(h0, .inr (8, [.ref q_1, .ref q_3, .ref q_4, .ref q_10, .null, .null, .null, .null, .null, .int 0, .int 0, .int 0, .int 0])), (q_1, .inr (7, [.ref q_2, .int 0])), (q_2, .inl (cF, 200, .inr (.inr (.inr (.inr (fun _ => none)))))), (q_4, .inr (5, [.ref q_5, .ref q_6, .ref q_7, .ref q_8, .ref q_9, .int 0]))] := hD
  refine va_putF (D := (dC, dI)) (ci := 8) (v := .ref q_11) (ty := .object "ScaleShop$Box") (C := RX10) (T := TX10) (N := 13) hx hb hts inX10 tyX10 tyX10_ok nmX10 hown hK hP hD hS 0 rfl rfl 4 (by decide) (hts _ mw_313) (fun _ h9 => h9) rfl hin rfl (by decide +kernel) rfl rfl (Nat.le_of_ble_eq_true rfl) dX10_init_56 (fun H locs hP hD hS => ?_)
  have hP : va_P (dC, dI) classes [(h0, .inr (8, [.ref q_1, .ref q_3, .ref q_4, .ref q_10, .ref q_11, .null, .null, .null, .null, .int 0, .int 0, .int 0, .int 0])), (q_1, .inr (7, [.ref q_2, .int 0])), (q_2, .inl (cF, 200, .inr (.inr (.inr (.inr (fun _ => none)))))), (q_4, .inr (5, [.ref q_5, .ref q_6, .ref q_7, .ref q_8, .ref q_9, .int 0]))] H := hP
  have hD : va_D A [(h0, .inr (8, [.ref q_1, .ref q_3, .ref q_4, .ref q_10, .ref q_11, .null, .null, .null, .null, .int 0, .int 0, .int 0, .int 0])), (q_1, .inr (7, [.ref q_2, .int 0])), (q_2, .inl (cF, 200, .inr (.inr (.inr (.inr (fun _ => none)))))), (q_4, .inr (5, [.ref q_5, .ref q_6, .ref q_7, .ref q_8, .ref q_9, .int 0]))] := hD
  refine lv_aload_n hx hb dX10_init_59 rfl (lv_at hl 0 rfl) ?_
  refine va_new (ci := 2) (fs := [.long 0, .long 0]) (C := RX3) (T := TX3) (N := 2) hx hb hts inX3 tyX3 tyX3_ok hown (hts _ mw_267) (hts _ mw_268) (hts _ mw_106) hK hP hD hS hA rfl dfX3 (Nat.le_of_ble_eq_true rfl) (Nat.le_of_ble_eq_true rfl) dX10_init_60 (fun q_12 H hP hD hS => ?_)
  have hP : va_P (dC, dI) classes [(h0, .inr (8, [.ref q_1, .ref q_3, .ref q_4, .ref q_10, .ref q_11, .null, .null, .null, .null, .int 0, .int 0, .int 0, .int 0])), (q_1, .inr (7, [.ref q_2, .int 0])), (q_2, .inl (cF, 200, .inr (.inr (.inr (.inr (fun _ => none)))))), (q_4, .inr (5, [.ref q_5, .ref q_6, .ref q_7, .ref q_8, .ref q_9, .int 0])), (q_12, .inr (2, [.long 0, .long 0]))] H := hP
  have hD : va_D A [(h0, .inr (8, [.ref q_1, .ref q_3, .ref q_4, .ref q_10, .ref q_11, .null, .null, .null, .null, .int 0, .int 0, .int 0, .int 0])), (q_1, .inr (7, [.ref q_2, .int 0])), (q_2, .inl (cF, 200, .inr (.inr (.inr (.inr (fun _ => none)))))), (q_4, .inr (5, [.ref q_5, .ref q_6, .ref q_7, .ref q_8, .ref q_9, .int 0])), (q_12, .inr (2, [.long 0, .long 0]))] := hD
  refine lv_dup hx hb dX10_init_63 rfl ?_
  have hPc := hP.sub (ws' := [(q_12, .inr (2, [.long 0, .long 0]))]) [4] rfl
  have hDc := hD.sub (ws' := [(q_12, .inr (2, [.long 0, .long 0]))]) [4] (by decide) rfl
  have hFc := va_free (wc := [(q_12, .inr (2, [.long 0, .long 0]))]) hD hS hA [4] rfl
  refine zcall (st1 := [.ref q_12, .ref h0]) (va_runI (As := []) (rest := [.ref q_12, .ref h0]) ⟨hx, hb, hml, hown, hts⟩ (k_Fraction_init l dC dI cI cZ cF H.size q_12 ) (cwI 0 hts (zz_gC mc_yX3_init) rfl rfl rfl (hts _ mw_106) (hts _ mw_269) (hts _ mw_270) rfl (by decide +kernel) ⟨Nat.le_of_ble_eq_true rfl, Nat.le_of_ble_eq_true rfl⟩) (zPS hPc hDc hK) rfl rfl hl.1 rfl (lv_room (Nat.le_of_ble_eq_true rfl)) dX10_init_64 ⟨Nat.le_of_ble_eq_true rfl, Nat.le_of_ble_eq_true rfl⟩) hS hFc hFc rfl (fun t H1 locs ht hB hk1 hS => ?_)
  obtain ⟨hP1, hD1⟩ := hB
  rw [ht] at hP1
  obtain ⟨hP, hD⟩ := va_join (wr := [(h0, .inr (8, [.ref q_1, .ref q_3, .ref q_4, .ref q_10, .ref q_11, .null, .null, .null, .null, .int 0, .int 0, .int 0, .int 0])), (q_1, .inr (7, [.ref q_2, .int 0])), (q_2, .inl (cF, 200, .inr (.inr (.inr (.inr (fun _ => none)))))), (q_4, .inr (5, [.ref q_5, .ref q_6, .ref q_7, .ref q_8, .ref q_9, .int 0]))]) (w1 := []) hP hD [4] [0, 1, 2, 3] rfl rfl (by decide) (by decide) hk1 hFc hP1 hD1
  clear hk1 hPc hDc hFc hP1 hD1 ht
  generalize H1 = H at hP hS ⊢
  have hP : va_P (dC, dI) classes [(h0, .inr (8, [.ref q_1, .ref q_3, .ref q_4, .ref q_10, .ref q_11, .null, .null, .null, .null, .int 0, .int 0, .int 0, .int 0])), (q_1, .inr (7, [.ref q_2, .int 0])), (q_2, .inl (cF, 200, .inr (.inr (.inr (.inr (fun _ => none)))))), (q_4, .inr (5, [.ref q_5, .ref q_6, .ref q_7, .ref q_8, .ref q_9, .int 0]))] H := hP
  have hD : va_D A [(h0, .inr (8, [.ref q_1, .ref q_3, .ref q_4, .ref q_10, .ref q_11, .null, .null, .null, .null, .int 0, .int 0, .int 0, .int 0])), (q_1, .inr (7, [.ref q_2, .int 0])), (q_2, .inl (cF, 200, .inr (.inr (.inr (.inr (fun _ => none)))))), (q_4, .inr (5, [.ref q_5, .ref q_6, .ref q_7, .ref q_8, .ref q_9, .int 0]))] := hD
  refine va_putF (D := (dC, dI)) (ci := 8) (v := .ref q_12) (ty := .object "ScaleShop$Fraction") (C := RX10) (T := TX10) (N := 13) hx hb hts inX10 tyX10 tyX10_ok nmX10 hown hK hP hD hS 0 rfl rfl 5 (by decide) (hts _ mw_314) (fun _ h9 => h9) rfl hin rfl (by decide +kernel) rfl rfl (Nat.le_of_ble_eq_true rfl) dX10_init_67 (fun H locs hP hD hS => ?_)
  have hP : va_P (dC, dI) classes [(h0, .inr (8, [.ref q_1, .ref q_3, .ref q_4, .ref q_10, .ref q_11, .ref q_12, .null, .null, .null, .int 0, .int 0, .int 0, .int 0])), (q_1, .inr (7, [.ref q_2, .int 0])), (q_2, .inl (cF, 200, .inr (.inr (.inr (.inr (fun _ => none)))))), (q_4, .inr (5, [.ref q_5, .ref q_6, .ref q_7, .ref q_8, .ref q_9, .int 0]))] H := hP
  have hD : va_D A [(h0, .inr (8, [.ref q_1, .ref q_3, .ref q_4, .ref q_10, .ref q_11, .ref q_12, .null, .null, .null, .int 0, .int 0, .int 0, .int 0])), (q_1, .inr (7, [.ref q_2, .int 0])), (q_2, .inl (cF, 200, .inr (.inr (.inr (.inr (fun _ => none)))))), (q_4, .inr (5, [.ref q_5, .ref q_6, .ref q_7, .ref q_8, .ref q_9, .int 0]))] := hD
  refine lv_aload_n hx hb dX10_init_70 rfl (lv_at hl 0 rfl) ?_
  refine va_new (ci := 2) (fs := [.long 0, .long 0]) (C := RX3) (T := TX3) (N := 2) hx hb hts inX3 tyX3 tyX3_ok hown (hts _ mw_267) (hts _ mw_268) (hts _ mw_106) hK hP hD hS hA rfl dfX3 (Nat.le_of_ble_eq_true rfl) (Nat.le_of_ble_eq_true rfl) dX10_init_71 (fun q_13 H hP hD hS => ?_)
  have hP : va_P (dC, dI) classes [(h0, .inr (8, [.ref q_1, .ref q_3, .ref q_4, .ref q_10, .ref q_11, .ref q_12, .null, .null, .null, .int 0, .int 0, .int 0, .int 0])), (q_1, .inr (7, [.ref q_2, .int 0])), (q_2, .inl (cF, 200, .inr (.inr (.inr (.inr (fun _ => none)))))), (q_4, .inr (5, [.ref q_5, .ref q_6, .ref q_7, .ref q_8, .ref q_9, .int 0])), (q_13, .inr (2, [.long 0, .long 0]))] H := hP
  have hD : va_D A [(h0, .inr (8, [.ref q_1, .ref q_3, .ref q_4, .ref q_10, .ref q_11, .ref q_12, .null, .null, .null, .int 0, .int 0, .int 0, .int 0])), (q_1, .inr (7, [.ref q_2, .int 0])), (q_2, .inl (cF, 200, .inr (.inr (.inr (.inr (fun _ => none)))))), (q_4, .inr (5, [.ref q_5, .ref q_6, .ref q_7, .ref q_8, .ref q_9, .int 0])), (q_13, .inr (2, [.long 0, .long 0]))] := hD
  refine lv_dup hx hb dX10_init_74 rfl ?_
  have hPc := hP.sub (ws' := [(q_13, .inr (2, [.long 0, .long 0]))]) [4] rfl
  have hDc := hD.sub (ws' := [(q_13, .inr (2, [.long 0, .long 0]))]) [4] (by decide) rfl
  have hFc := va_free (wc := [(q_13, .inr (2, [.long 0, .long 0]))]) hD hS hA [4] rfl
  refine zcall (st1 := [.ref q_13, .ref h0]) (va_runI (As := []) (rest := [.ref q_13, .ref h0]) ⟨hx, hb, hml, hown, hts⟩ (k_Fraction_init l dC dI cI cZ cF H.size q_13 ) (cwI 0 hts (zz_gC mc_yX3_init) rfl rfl rfl (hts _ mw_106) (hts _ mw_269) (hts _ mw_270) rfl (by decide +kernel) ⟨Nat.le_of_ble_eq_true rfl, Nat.le_of_ble_eq_true rfl⟩) (zPS hPc hDc hK) rfl rfl hl.1 rfl (lv_room (Nat.le_of_ble_eq_true rfl)) dX10_init_75 ⟨Nat.le_of_ble_eq_true rfl, Nat.le_of_ble_eq_true rfl⟩) hS hFc hFc rfl (fun t H1 locs ht hB hk1 hS => ?_)
  obtain ⟨hP1, hD1⟩ := hB
  rw [ht] at hP1
  obtain ⟨hP, hD⟩ := va_join (wr := [(h0, .inr (8, [.ref q_1, .ref q_3, .ref q_4, .ref q_10, .ref q_11, .ref q_12, .null, .null, .null, .int 0, .int 0, .int 0, .int 0])), (q_1, .inr (7, [.ref q_2, .int 0])), (q_2, .inl (cF, 200, .inr (.inr (.inr (.inr (fun _ => none)))))), (q_4, .inr (5, [.ref q_5, .ref q_6, .ref q_7, .ref q_8, .ref q_9, .int 0]))]) (w1 := []) hP hD [4] [0, 1, 2, 3] rfl rfl (by decide) (by decide) hk1 hFc hP1 hD1
  clear hk1 hPc hDc hFc hP1 hD1 ht
  generalize H1 = H at hP hS ⊢
  have hP : va_P (dC, dI) classes [(h0, .inr (8, [.ref q_1, .ref q_3, .ref q_4, .ref q_10, .ref q_11, .ref q_12, .null, .null, .null, .int 0, .int 0, .int 0, .int 0])), (q_1, .inr (7, [.ref q_2, .int 0])), (q_2, .inl (cF, 200, .inr (.inr (.inr (.inr (fun _ => none)))))), (q_4, .inr (5, [.ref q_5, .ref q_6, .ref q_7, .ref q_8, .ref q_9, .int 0]))] H := hP
  have hD : va_D A [(h0, .inr (8, [.ref q_1, .ref q_3, .ref q_4, .ref q_10, .ref q_11, .ref q_12, .null, .null, .null, .int 0, .int 0, .int 0, .int 0])), (q_1, .inr (7, [.ref q_2, .int 0])), (q_2, .inl (cF, 200, .inr (.inr (.inr (.inr (fun _ => none)))))), (q_4, .inr (5, [.ref q_5, .ref q_6, .ref q_7, .ref q_8, .ref q_9, .int 0]))] := hD
  refine va_putF (D := (dC, dI)) (ci := 8) (v := .ref q_13) (ty := .object "ScaleShop$Fraction") (C := RX10) (T := TX10) (N := 13) hx hb hts inX10 tyX10 tyX10_ok nmX10 hown hK hP hD hS 0 rfl rfl 6 (by decide) (hts _ mw_315) (fun _ h9 => h9) rfl hin rfl (by decide +kernel) rfl rfl (Nat.le_of_ble_eq_true rfl) dX10_init_78 (fun H locs hP hD hS => ?_)
  have hP : va_P (dC, dI) classes [(h0, .inr (8, [.ref q_1, .ref q_3, .ref q_4, .ref q_10, .ref q_11, .ref q_12, .ref q_13, .null, .null, .int 0, .int 0, .int 0, .int 0])), (q_1, .inr (7, [.ref q_2, .int 0])), (q_2, .inl (cF, 200, .inr (.inr (.inr (.inr (fun _ => none)))))), (q_4, .inr (5, [.ref q_5, .ref q_6, .ref q_7, .ref q_8, .ref q_9, .int 0]))] H := hP
  have hD : va_D A [(h0, .inr (8, [.ref q_1, .ref q_3, .ref q_4, .ref q_10, .ref q_11, .ref q_12, .ref q_13, .null, .null, .int 0, .int 0, .int 0, .int 0])), (q_1, .inr (7, [.ref q_2, .int 0])), (q_2, .inl (cF, 200, .inr (.inr (.inr (.inr (fun _ => none)))))), (q_4, .inr (5, [.ref q_5, .ref q_6, .ref q_7, .ref q_8, .ref q_9, .int 0]))] := hD
  refine lv_aload_n hx hb dX10_init_81 rfl (lv_at hl 0 rfl) ?_
  refine lv_sipush (v := 200) hx hb dX10_init_82 (by decide) ?_
  refine zz_newa (atype := .boolean) (a0 := (200, .inl (fun _ => 0))) hx hb (hts _ mw_308) (ty := .boolean) rfl hK hP hD hS hA (n := 200) (N' := 200) (cA := cZ) 1 rfl (fun _ => rfl) (by decide) (by decide) (by decide) (Nat.le_of_ble_eq_true rfl) (Nat.le_of_ble_eq_true rfl) dX10_init_85 (fun q_14 H hP hD hS => ?_)
  have hP : va_P (dC, dI) classes [(h0, .inr (8, [.ref q_1, .ref q_3, .ref q_4, .ref q_10, .ref q_11, .ref q_12, .ref q_13, .null, .null, .int 0, .int 0, .int 0, .int 0])), (q_1, .inr (7, [.ref q_2, .int 0])), (q_2, .inl (cF, 200, .inr (.inr (.inr (.inr (fun _ => none)))))), (q_4, .inr (5, [.ref q_5, .ref q_6, .ref q_7, .ref q_8, .ref q_9, .int 0])), (q_14, .inl (cZ, 200, .inl (fun _ => 0)))] H := hP
  have hD : va_D A [(h0, .inr (8, [.ref q_1, .ref q_3, .ref q_4, .ref q_10, .ref q_11, .ref q_12, .ref q_13, .null, .null, .int 0, .int 0, .int 0, .int 0])), (q_1, .inr (7, [.ref q_2, .int 0])), (q_2, .inl (cF, 200, .inr (.inr (.inr (.inr (fun _ => none)))))), (q_4, .inr (5, [.ref q_5, .ref q_6, .ref q_7, .ref q_8, .ref q_9, .int 0])), (q_14, .inl (cZ, 200, .inl (fun _ => 0)))] := hD
  have hP := hP.sub (ws' := [(h0, .inr (8, [.ref q_1, .ref q_3, .ref q_4, .ref q_10, .ref q_11, .ref q_12, .ref q_13, .null, .null, .int 0, .int 0, .int 0, .int 0])), (q_1, .inr (7, [.ref q_2, .int 0])), (q_2, .inl (cF, 200, .inr (.inr (.inr (.inr (fun _ => none)))))), (q_4, .inr (5, [.ref q_5, .ref q_6, .ref q_7, .ref q_8, .ref q_9, .int 0]))]) [0, 1, 2, 3] rfl
  have hD := hD.sub (ws' := [(h0, .inr (8, [.ref q_1, .ref q_3, .ref q_4, .ref q_10, .ref q_11, .ref q_12, .ref q_13, .null, .null, .int 0, .int 0, .int 0, .int 0])), (q_1, .inr (7, [.ref q_2, .int 0])), (q_2, .inl (cF, 200, .inr (.inr (.inr (.inr (fun _ => none)))))), (q_4, .inr (5, [.ref q_5, .ref q_6, .ref q_7, .ref q_8, .ref q_9, .int 0]))]) [0, 1, 2, 3] (by decide) rfl
  refine va_putF (D := (dC, dI)) (ci := 8) (v := .ref q_14) (ty := .array .boolean) (C := RX10) (T := TX10) (N := 13) hx hb hts inX10 tyX10 tyX10_ok nmX10 hown hK hP hD hS 0 rfl rfl 7 (by decide) (hts _ mw_316) (fun _ h9 => h9) rfl hin rfl (by decide +kernel) rfl rfl (Nat.le_of_ble_eq_true rfl) dX10_init_87 (fun H locs hP hD hS => ?_)
  have hP : va_P (dC, dI) classes [(h0, .inr (8, [.ref q_1, .ref q_3, .ref q_4, .ref q_10, .ref q_11, .ref q_12, .ref q_13, .ref q_14, .null, .int 0, .int 0, .int 0, .int 0])), (q_1, .inr (7, [.ref q_2, .int 0])), (q_2, .inl (cF, 200, .inr (.inr (.inr (.inr (fun _ => none)))))), (q_4, .inr (5, [.ref q_5, .ref q_6, .ref q_7, .ref q_8, .ref q_9, .int 0]))] H := hP
  have hD : va_D A [(h0, .inr (8, [.ref q_1, .ref q_3, .ref q_4, .ref q_10, .ref q_11, .ref q_12, .ref q_13, .ref q_14, .null, .int 0, .int 0, .int 0, .int 0])), (q_1, .inr (7, [.ref q_2, .int 0])), (q_2, .inl (cF, 200, .inr (.inr (.inr (.inr (fun _ => none)))))), (q_4, .inr (5, [.ref q_5, .ref q_6, .ref q_7, .ref q_8, .ref q_9, .int 0]))] := hD
  refine lv_aload_n hx hb dX10_init_90 rfl (lv_at hl 0 rfl) ?_
  refine va_new (ci := 10) (fs := [.int 0, .null, .int 0]) (C := RJx4a65c) (T := TJx4a65c) (N := 3) hx hb hts inJx4a65c tyJx4a65c tyJx4a65c_ok hown (hts _ mw_282) (hts _ mw_283) (hts _ mw_109) hK hP hD hS hA rfl dfJx4a65c (Nat.le_of_ble_eq_true rfl) (Nat.le_of_ble_eq_true rfl) dX10_init_91 (fun q_15 H hP hD hS => ?_)
  have hP : va_P (dC, dI) classes [(h0, .inr (8, [.ref q_1, .ref q_3, .ref q_4, .ref q_10, .ref q_11, .ref q_12, .ref q_13, .ref q_14, .null, .int 0, .int 0, .int 0, .int 0])), (q_1, .inr (7, [.ref q_2, .int 0])), (q_2, .inl (cF, 200, .inr (.inr (.inr (.inr (fun _ => none)))))), (q_4, .inr (5, [.ref q_5, .ref q_6, .ref q_7, .ref q_8, .ref q_9, .int 0])), (q_15, .inr (10, [.int 0, .null, .int 0]))] H := hP
  have hD : va_D A [(h0, .inr (8, [.ref q_1, .ref q_3, .ref q_4, .ref q_10, .ref q_11, .ref q_12, .ref q_13, .ref q_14, .null, .int 0, .int 0, .int 0, .int 0])), (q_1, .inr (7, [.ref q_2, .int 0])), (q_2, .inl (cF, 200, .inr (.inr (.inr (.inr (fun _ => none)))))), (q_4, .inr (5, [.ref q_5, .ref q_6, .ref q_7, .ref q_8, .ref q_9, .int 0])), (q_15, .inr (10, [.int 0, .null, .int 0]))] := hD
  refine lv_dup hx hb dX10_init_94 rfl ?_
  have hPc := hP.sub (ws' := [(q_15, .inr (10, [.int 0, .null, .int 0]))]) [4] rfl
  have hDc := hD.sub (ws' := [(q_15, .inr (10, [.int 0, .null, .int 0]))]) [4] (by decide) rfl
  have hFc := va_free (wc := [(q_15, .inr (10, [.int 0, .null, .int 0]))]) hD hS hA [4] rfl
  refine zcall (st1 := [.ref q_15, .ref h0]) (va_runI (As := []) (rest := [.ref q_15, .ref h0]) ⟨hx, hb, hml, hown, hts⟩ (k_AL_init l dC dI cI cZ cF H.size q_15 e0 ) (cwI 0 hts (zz_gC mc_yJx4a65c_init_da8c8) rfl rfl rfl (hts _ mw_109) (hts _ mw_284) (hts _ mw_285) rfl (by decide +kernel) ⟨Nat.le_of_ble_eq_true rfl, Nat.le_of_ble_eq_true rfl⟩) (zPSZ hPc hDc hK hZ hS hFc) rfl rfl hl.1 rfl (lv_room (Nat.le_of_ble_eq_true rfl)) dX10_init_95 ⟨Nat.le_of_ble_eq_true rfl, Nat.le_of_ble_eq_true rfl⟩) hS hFc hFc rfl (fun t H1 locs ht hB hk1 hS => ?_)
  obtain ⟨hP1, hD1⟩ := hB
  rw [ht] at hP1
  obtain ⟨hP, hD⟩ := va_join (wr := [(h0, .inr (8, [.ref q_1, .ref q_3, .ref q_4, .ref q_10, .ref q_11, .ref q_12, .ref q_13, .ref q_14, .null, .int 0, .int 0, .int 0, .int 0])), (q_1, .inr (7, [.ref q_2, .int 0])), (q_2, .inl (cF, 200, .inr (.inr (.inr (.inr (fun _ => none)))))), (q_4, .inr (5, [.ref q_5, .ref q_6, .ref q_7, .ref q_8, .ref q_9, .int 0]))]) (w1 := [(q_15, .inr (10, [.int 0, .ref e0, .int 0]))]) hP hD [4] [0, 1, 2, 3] rfl rfl (by decide) (by decide) hk1 hFc hP1 hD1
  clear hk1 hPc hDc hFc hP1 hD1 ht
  generalize H1 = H at hP hS ⊢
  have hP : va_P (dC, dI) classes [(h0, .inr (8, [.ref q_1, .ref q_3, .ref q_4, .ref q_10, .ref q_11, .ref q_12, .ref q_13, .ref q_14, .null, .int 0, .int 0, .int 0, .int 0])), (q_1, .inr (7, [.ref q_2, .int 0])), (q_2, .inl (cF, 200, .inr (.inr (.inr (.inr (fun _ => none)))))), (q_4, .inr (5, [.ref q_5, .ref q_6, .ref q_7, .ref q_8, .ref q_9, .int 0])), (q_15, .inr (10, [.int 0, .ref e0, .int 0]))] H := hP
  have hD : va_D A [(h0, .inr (8, [.ref q_1, .ref q_3, .ref q_4, .ref q_10, .ref q_11, .ref q_12, .ref q_13, .ref q_14, .null, .int 0, .int 0, .int 0, .int 0])), (q_1, .inr (7, [.ref q_2, .int 0])), (q_2, .inl (cF, 200, .inr (.inr (.inr (.inr (fun _ => none)))))), (q_4, .inr (5, [.ref q_5, .ref q_6, .ref q_7, .ref q_8, .ref q_9, .int 0])), (q_15, .inr (10, [.int 0, .ref e0, .int 0]))] := hD
  refine va_putF (D := (dC, dI)) (ci := 8) (v := .ref q_15) (ty := .object "java/util/ArrayList") (C := RX10) (T := TX10) (N := 13) hx hb hts inX10 tyX10 tyX10_ok nmX10 hown hK hP hD hS 0 rfl rfl 8 (by decide) (hts _ mw_317) (fun _ h9 => h9) rfl hin rfl (by decide +kernel) rfl rfl (Nat.le_of_ble_eq_true rfl) dX10_init_98 (fun H locs hP hD hS => ?_)
  have hP : va_P (dC, dI) classes [(h0, .inr (8, [.ref q_1, .ref q_3, .ref q_4, .ref q_10, .ref q_11, .ref q_12, .ref q_13, .ref q_14, .ref q_15, .int 0, .int 0, .int 0, .int 0])), (q_1, .inr (7, [.ref q_2, .int 0])), (q_2, .inl (cF, 200, .inr (.inr (.inr (.inr (fun _ => none)))))), (q_4, .inr (5, [.ref q_5, .ref q_6, .ref q_7, .ref q_8, .ref q_9, .int 0])), (q_15, .inr (10, [.int 0, .ref e0, .int 0]))] H := hP
  have hD : va_D A [(h0, .inr (8, [.ref q_1, .ref q_3, .ref q_4, .ref q_10, .ref q_11, .ref q_12, .ref q_13, .ref q_14, .ref q_15, .int 0, .int 0, .int 0, .int 0])), (q_1, .inr (7, [.ref q_2, .int 0])), (q_2, .inl (cF, 200, .inr (.inr (.inr (.inr (fun _ => none)))))), (q_4, .inr (5, [.ref q_5, .ref q_6, .ref q_7, .ref q_8, .ref q_9, .int 0])), (q_15, .inr (10, [.int 0, .ref e0, .int 0]))] := hD
  refine lv_aload_n hx hb dX10_init_101 rfl (lv_at hl 0 rfl) ?_
  refine lv_iconst (v := 0) hx hb dX10_init_102 (by decide) ?_
  refine va_put (D := (dC, dI)) (ci := 8) (v := .int 0) (ty := .int) (C := RX10) (T := TX10) (N := 13) hx hb hts inX10 tyX10 tyX10_ok nmX10 hown hK hP hD hS 0 rfl rfl 9 (by decide) (hts _ mw_318) (fun _ h9 => h9) rfl (by decide +kernel) rfl rfl (Nat.le_of_ble_eq_true rfl) dX10_init_103 (fun H locs hP hD hS => ?_)
  have hP : va_P (dC, dI) classes [(h0, .inr (8, [.ref q_1, .ref q_3, .ref q_4, .ref q_10, .ref q_11, .ref q_12, .ref q_13, .ref q_14, .ref q_15, .int 0, .int 0, .int 0, .int 0])), (q_1, .inr (7, [.ref q_2, .int 0])), (q_2, .inl (cF, 200, .inr (.inr (.inr (.inr (fun _ => none)))))), (q_4, .inr (5, [.ref q_5, .ref q_6, .ref q_7, .ref q_8, .ref q_9, .int 0])), (q_15, .inr (10, [.int 0, .ref e0, .int 0]))] H := hP
  have hD : va_D A [(h0, .inr (8, [.ref q_1, .ref q_3, .ref q_4, .ref q_10, .ref q_11, .ref q_12, .ref q_13, .ref q_14, .ref q_15, .int 0, .int 0, .int 0, .int 0])), (q_1, .inr (7, [.ref q_2, .int 0])), (q_2, .inl (cF, 200, .inr (.inr (.inr (.inr (fun _ => none)))))), (q_4, .inr (5, [.ref q_5, .ref q_6, .ref q_7, .ref q_8, .ref q_9, .int 0])), (q_15, .inr (10, [.int 0, .ref e0, .int 0]))] := hD
  refine lv_aload_n hx hb dX10_init_106 rfl (lv_at hl 0 rfl) ?_
  refine lv_iconst (v := 0) hx hb dX10_init_107 (by decide) ?_
  refine va_put (D := (dC, dI)) (ci := 8) (v := .int 0) (ty := .int) (C := RX10) (T := TX10) (N := 13) hx hb hts inX10 tyX10 tyX10_ok nmX10 hown hK hP hD hS 0 rfl rfl 10 (by decide) (hts _ mw_319) (fun _ h9 => h9) rfl (by decide +kernel) rfl rfl (Nat.le_of_ble_eq_true rfl) dX10_init_108 (fun H locs hP hD hS => ?_)
  have hP : va_P (dC, dI) classes [(h0, .inr (8, [.ref q_1, .ref q_3, .ref q_4, .ref q_10, .ref q_11, .ref q_12, .ref q_13, .ref q_14, .ref q_15, .int 0, .int 0, .int 0, .int 0])), (q_1, .inr (7, [.ref q_2, .int 0])), (q_2, .inl (cF, 200, .inr (.inr (.inr (.inr (fun _ => none)))))), (q_4, .inr (5, [.ref q_5, .ref q_6, .ref q_7, .ref q_8, .ref q_9, .int 0])), (q_15, .inr (10, [.int 0, .ref e0, .int 0]))] H := hP
  have hD : va_D A [(h0, .inr (8, [.ref q_1, .ref q_3, .ref q_4, .ref q_10, .ref q_11, .ref q_12, .ref q_13, .ref q_14, .ref q_15, .int 0, .int 0, .int 0, .int 0])), (q_1, .inr (7, [.ref q_2, .int 0])), (q_2, .inl (cF, 200, .inr (.inr (.inr (.inr (fun _ => none)))))), (q_4, .inr (5, [.ref q_5, .ref q_6, .ref q_7, .ref q_8, .ref q_9, .int 0])), (q_15, .inr (10, [.int 0, .ref e0, .int 0]))] := hD
  refine lv_aload_n hx hb dX10_init_111 rfl (lv_at hl 0 rfl) ?_
  refine lv_iconst (v := 0) hx hb dX10_init_112 (by decide) ?_
  refine va_put (D := (dC, dI)) (ci := 8) (v := .int 0) (ty := .int) (C := RX10) (T := TX10) (N := 13) hx hb hts inX10 tyX10 tyX10_ok nmX10 hown hK hP hD hS 0 rfl rfl 11 (by decide) (hts _ mw_320) (fun _ h9 => h9) rfl (by decide +kernel) rfl rfl (Nat.le_of_ble_eq_true rfl) dX10_init_113 (fun H locs hP hD hS => ?_)
  have hP : va_P (dC, dI) classes [(h0, .inr (8, [.ref q_1, .ref q_3, .ref q_4, .ref q_10, .ref q_11, .ref q_12, .ref q_13, .ref q_14, .ref q_15, .int 0, .int 0, .int 0, .int 0])), (q_1, .inr (7, [.ref q_2, .int 0])), (q_2, .inl (cF, 200, .inr (.inr (.inr (.inr (fun _ => none)))))), (q_4, .inr (5, [.ref q_5, .ref q_6, .ref q_7, .ref q_8, .ref q_9, .int 0])), (q_15, .inr (10, [.int 0, .ref e0, .int 0]))] H := hP
  have hD : va_D A [(h0, .inr (8, [.ref q_1, .ref q_3, .ref q_4, .ref q_10, .ref q_11, .ref q_12, .ref q_13, .ref q_14, .ref q_15, .int 0, .int 0, .int 0, .int 0])), (q_1, .inr (7, [.ref q_2, .int 0])), (q_2, .inl (cF, 200, .inr (.inr (.inr (.inr (fun _ => none)))))), (q_4, .inr (5, [.ref q_5, .ref q_6, .ref q_7, .ref q_8, .ref q_9, .int 0])), (q_15, .inr (10, [.int 0, .ref e0, .int 0]))] := hD
  refine lv_aload_n hx hb dX10_init_116 rfl (lv_at hl 0 rfl) ?_
  refine lv_iconst (v := 0) hx hb dX10_init_117 (by decide) ?_
  refine va_put (D := (dC, dI)) (ci := 8) (v := .int 0) (ty := .int) (C := RX10) (T := TX10) (N := 13) hx hb hts inX10 tyX10 tyX10_ok nmX10 hown hK hP hD hS 0 rfl rfl 12 (by decide) (hts _ mw_321) (fun _ h9 => h9) rfl (by decide +kernel) rfl rfl (Nat.le_of_ble_eq_true rfl) dX10_init_118 (fun H locs hP hD hS => ?_)
  have hP : va_P (dC, dI) classes [(h0, .inr (8, [.ref q_1, .ref q_3, .ref q_4, .ref q_10, .ref q_11, .ref q_12, .ref q_13, .ref q_14, .ref q_15, .int 0, .int 0, .int 0, .int 0])), (q_1, .inr (7, [.ref q_2, .int 0])), (q_2, .inl (cF, 200, .inr (.inr (.inr (.inr (fun _ => none)))))), (q_4, .inr (5, [.ref q_5, .ref q_6, .ref q_7, .ref q_8, .ref q_9, .int 0])), (q_15, .inr (10, [.int 0, .ref e0, .int 0]))] H := hP
  have hD : va_D A [(h0, .inr (8, [.ref q_1, .ref q_3, .ref q_4, .ref q_10, .ref q_11, .ref q_12, .ref q_13, .ref q_14, .ref q_15, .int 0, .int 0, .int 0, .int 0])), (q_1, .inr (7, [.ref q_2, .int 0])), (q_2, .inl (cF, 200, .inr (.inr (.inr (.inr (fun _ => none)))))), (q_4, .inr (5, [.ref q_5, .ref q_6, .ref q_7, .ref q_8, .ref q_9, .int 0])), (q_15, .inr (10, [.int 0, .ref e0, .int 0]))] := hD
  refine W.widen (k := 27) (n := 2179) (by decide) (by decide) ?_
  have hP9 := hP.sub (ws' := [(h0, .inr (8, [.ref q_1, .ref q_3, .ref q_4, .ref q_10, .ref q_11, .ref q_12, .ref q_13, .ref q_14, .ref q_15, .int 0, .int 0, .int 0, .int 0])), (q_1, .inr (7, [.ref q_2, .int 0])), (q_2, .inl (cF, 200, .inr (.inr (.inr (.inr (fun _ => none)))))), (q_4, .inr (5, [.ref q_5, .ref q_6, .ref q_7, .ref q_8, .ref q_9, .int 0])), (q_15, .inr (10, [.int 0, .ref e0, .int 0]))]) [0, 1, 2, 3, 4] rfl
  have hD9 := hD.sub (ws' := [(h0, .inr (8, [.ref q_1, .ref q_3, .ref q_4, .ref q_10, .ref q_11, .ref q_12, .ref q_13, .ref q_14, .ref q_15, .int 0, .int 0, .int 0, .int 0])), (q_1, .inr (7, [.ref q_2, .int 0])), (q_2, .inl (cF, 200, .inr (.inr (.inr (.inr (fun _ => none)))))), (q_4, .inr (5, [.ref q_5, .ref q_6, .ref q_7, .ref q_8, .ref q_9, .int 0])), (q_15, .inr (10, [.int 0, .ref e0, .int 0]))]) [0, 1, 2, 3, 4] (by decide) rfl
  exact W.vret hx hb hr (fun t ht hW => ⟨⟨rfl, q_1, q_3, q_4, q_10, q_11, q_12, q_13, q_14, q_15, q_2, q_5, q_6, q_7, q_8, q_9, by rw [ht]; exact hP9, hD9⟩, hS.F ht⟩) hS.2.2 dX10_init_121
end
