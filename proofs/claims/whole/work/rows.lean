section
-- ===== PART A: goes FIRST, ahead of the names: the tables' words, and 'selects' of the private methods out of them =====
/-- a private method of a class that the tables say can be made, by its rows of tables_1 -/
def lw_okq (q : MethodName × Nat) : Prop := (q.1.cls ≠ "java/lang/invoke/MethodHandle" ∧ q.1.cls ≠ "java/lang/invoke/VarHandle") ∧ Cond.instantiable q.1.cls q.2 ∈ tables_1 ∧ Cond.privateMethod q.1 ∈ tables_1 ∧ Cond.instanceMethod q.1 ∈ tables_1
theorem lw_p0 : lw_okq (⟨"GeodesicCutter", "buildBall", "()V"⟩, 11) := ⟨⟨by decide +kernel, by decide +kernel⟩, List.mem_of_getElem? (i := 18) (by decide +kernel), List.mem_of_getElem? (i := 303) (by decide +kernel), List.mem_of_getElem? (i := 304) (by decide +kernel)⟩
theorem lw_p1 : lw_okq (⟨"GeodesicCutter$Hubs", "add", "(III)V"⟩, 5) := ⟨⟨by decide +kernel, by decide +kernel⟩, List.mem_of_getElem? (i := 26) (by decide +kernel), List.mem_of_getElem? (i := 314) (by decide +kernel), List.mem_of_getElem? (i := 315) (by decide +kernel)⟩
theorem lw_p2 : lw_okq (⟨"GeodesicCutter$Struts", "add", "(II)V"⟩, 6) := ⟨⟨by decide +kernel, by decide +kernel⟩, List.mem_of_getElem? (i := 56) (by decide +kernel), List.mem_of_getElem? (i := 332) (by decide +kernel), List.mem_of_getElem? (i := 333) (by decide +kernel)⟩
theorem lw_p3 : lw_okq (⟨"GeodesicCutter$Struts", "link", "(II)V"⟩, 6) := ⟨⟨by decide +kernel, by decide +kernel⟩, List.mem_of_getElem? (i := 56) (by decide +kernel), List.mem_of_getElem? (i := 336) (by decide +kernel), List.mem_of_getElem? (i := 337) (by decide +kernel)⟩
theorem lw_p4 : lw_okq (⟨"GeodesicCutter$Kinds", "include", "(II)V"⟩, 8) := ⟨⟨by decide +kernel, by decide +kernel⟩, List.mem_of_getElem? (i := 93) (by decide +kernel), List.mem_of_getElem? (i := 348) (by decide +kernel), List.mem_of_getElem? (i := 349) (by decide +kernel)⟩
theorem lw_p5 : lw_okq (⟨"GeodesicCutter$Kinds", "placeOf", "(II)I"⟩, 8) := ⟨⟨by decide +kernel, by decide +kernel⟩, List.mem_of_getElem? (i := 93) (by decide +kernel), List.mem_of_getElem? (i := 352) (by decide +kernel), List.mem_of_getElem? (i := 353) (by decide +kernel)⟩
theorem lw_p6 : lw_okq (⟨"GeodesicCutter$Kinds", "compareWithKind", "(III)I"⟩, 8) := ⟨⟨by decide +kernel, by decide +kernel⟩, List.mem_of_getElem? (i := 93) (by decide +kernel), List.mem_of_getElem? (i := 356) (by decide +kernel), List.mem_of_getElem? (i := 357) (by decide +kernel)⟩
theorem lw_p7 : lw_okq (⟨"GeodesicCutter$Kinds", "sortForSawing", "()V"⟩, 8) := ⟨⟨by decide +kernel, by decide +kernel⟩, List.mem_of_getElem? (i := 93) (by decide +kernel), List.mem_of_getElem? (i := 363) (by decide +kernel), List.mem_of_getElem? (i := 364) (by decide +kernel)⟩
theorem lw_p8 : lw_okq (⟨"GeodesicCutter$Faces", "addBetween", "(LGeodesicCutter$Struts;III)V"⟩, 3) := ⟨⟨by decide +kernel, by decide +kernel⟩, List.mem_of_getElem? (i := 130) (by decide +kernel), List.mem_of_getElem? (i := 371) (by decide +kernel), List.mem_of_getElem? (i := 372) (by decide +kernel)⟩
theorem lw_p9 : lw_okq (⟨"GeodesicCutter$History", "dropOldest", "()V"⟩, 2) := ⟨⟨by decide +kernel, by decide +kernel⟩, List.mem_of_getElem? (i := 185) (by decide +kernel), List.mem_of_getElem? (i := 424) (by decide +kernel), List.mem_of_getElem? (i := 425) (by decide +kernel)⟩
theorem lw_p10 : lw_okq (⟨"GeodesicCutter", "countKeptHubs", "()I"⟩, 11) := ⟨⟨by decide +kernel, by decide +kernel⟩, List.mem_of_getElem? (i := 18) (by decide +kernel), List.mem_of_getElem? (i := 447) (by decide +kernel), List.mem_of_getElem? (i := 448) (by decide +kernel)⟩
theorem lw_p11 : lw_okq (⟨"GeodesicCutter", "isKeptHub", "(I)Z"⟩, 11) := ⟨⟨by decide +kernel, by decide +kernel⟩, List.mem_of_getElem? (i := 18) (by decide +kernel), List.mem_of_getElem? (i := 451) (by decide +kernel), List.mem_of_getElem? (i := 452) (by decide +kernel)⟩
theorem lw_p12 : lw_okq (⟨"GeodesicCutter", "sawKeptStruts", "(II)Z"⟩, 11) := ⟨⟨by decide +kernel, by decide +kernel⟩, List.mem_of_getElem? (i := 18) (by decide +kernel), List.mem_of_getElem? (i := 459) (by decide +kernel), List.mem_of_getElem? (i := 460) (by decide +kernel)⟩
theorem lw_p13 : lw_okq (⟨"GeodesicCutter", "loadMill", "()V"⟩, 11) := ⟨⟨by decide +kernel, by decide +kernel⟩, List.mem_of_getElem? (i := 18) (by decide +kernel), List.mem_of_getElem? (i := 463) (by decide +kernel), List.mem_of_getElem? (i := 464) (by decide +kernel)⟩
theorem lw_p14 : lw_okq (⟨"GeodesicCutter", "isKeptStrut", "(I)Z"⟩, 11) := ⟨⟨by decide +kernel, by decide +kernel⟩, List.mem_of_getElem? (i := 18) (by decide +kernel), List.mem_of_getElem? (i := 471) (by decide +kernel), List.mem_of_getElem? (i := 472) (by decide +kernel)⟩
theorem lw_p15 : lw_okq (⟨"GeodesicCutter$Kinds", "reaches", "(III)Z"⟩, 8) := ⟨⟨by decide +kernel, by decide +kernel⟩, List.mem_of_getElem? (i := 93) (by decide +kernel), List.mem_of_getElem? (i := 487) (by decide +kernel), List.mem_of_getElem? (i := 488) (by decide +kernel)⟩
def lw_privs_1 : List (MethodName × Nat) := [(⟨"GeodesicCutter", "buildBall", "()V"⟩, 11), (⟨"GeodesicCutter$Hubs", "add", "(III)V"⟩, 5), (⟨"GeodesicCutter$Struts", "add", "(II)V"⟩, 6), (⟨"GeodesicCutter$Struts", "link", "(II)V"⟩, 6), (⟨"GeodesicCutter$Kinds", "include", "(II)V"⟩, 8), (⟨"GeodesicCutter$Kinds", "placeOf", "(II)I"⟩, 8), (⟨"GeodesicCutter$Kinds", "compareWithKind", "(III)I"⟩, 8), (⟨"GeodesicCutter$Kinds", "sortForSawing", "()V"⟩, 8), (⟨"GeodesicCutter$Faces", "addBetween", "(LGeodesicCutter$Struts;III)V"⟩, 3), (⟨"GeodesicCutter$History", "dropOldest", "()V"⟩, 2), (⟨"GeodesicCutter", "countKeptHubs", "()I"⟩, 11), (⟨"GeodesicCutter", "isKeptHub", "(I)Z"⟩, 11), (⟨"GeodesicCutter", "sawKeptStruts", "(II)Z"⟩, 11), (⟨"GeodesicCutter", "loadMill", "()V"⟩, 11), (⟨"GeodesicCutter", "isKeptStrut", "(I)Z"⟩, 11), (⟨"GeodesicCutter$Kinds", "reaches", "(III)Z"⟩, 8)]
theorem lw_r1 : ∀ q ∈ lw_privs_1, lw_okq q := List.forall_mem_cons.mpr ⟨lw_p0, List.forall_mem_cons.mpr ⟨lw_p1, List.forall_mem_cons.mpr ⟨lw_p2, List.forall_mem_cons.mpr ⟨lw_p3, List.forall_mem_cons.mpr ⟨lw_p4, List.forall_mem_cons.mpr ⟨lw_p5, List.forall_mem_cons.mpr ⟨lw_p6, List.forall_mem_cons.mpr ⟨lw_p7, List.forall_mem_cons.mpr ⟨lw_p8, List.forall_mem_cons.mpr ⟨lw_p9, List.forall_mem_cons.mpr ⟨lw_p10, List.forall_mem_cons.mpr ⟨lw_p11, List.forall_mem_cons.mpr ⟨lw_p12, List.forall_mem_cons.mpr ⟨lw_p13, List.forall_mem_cons.mpr ⟨lw_p14, List.forall_mem_cons.mpr ⟨lw_p15, fun _ h => absurd h List.not_mem_nil⟩⟩⟩⟩⟩⟩⟩⟩⟩⟩⟩⟩⟩⟩⟩⟩
theorem lw_p16 : lw_okq (⟨"GeodesicCutter$Sawmill", "sawInto", "(III)Z"⟩, 8) := ⟨⟨by decide +kernel, by decide +kernel⟩, List.mem_of_getElem? (i := 221) (by decide +kernel), List.mem_of_getElem? (i := 500) (by decide +kernel), List.mem_of_getElem? (i := 501) (by decide +kernel)⟩
theorem lw_p17 : lw_okq (⟨"GeodesicCutter$Sawmill", "beginBar", "(II)Z"⟩, 8) := ⟨⟨by decide +kernel, by decide +kernel⟩, List.mem_of_getElem? (i := 221) (by decide +kernel), List.mem_of_getElem? (i := 504) (by decide +kernel), List.mem_of_getElem? (i := 505) (by decide +kernel)⟩
theorem lw_p18 : lw_okq (⟨"GeodesicCutter", "countKeptStruts", "()I"⟩, 11) := ⟨⟨by decide +kernel, by decide +kernel⟩, List.mem_of_getElem? (i := 18) (by decide +kernel), List.mem_of_getElem? (i := 515) (by decide +kernel), List.mem_of_getElem? (i := 516) (by decide +kernel)⟩
theorem lw_p19 : lw_okq (⟨"GeodesicCutter", "countKeptFaces", "()I"⟩, 11) := ⟨⟨by decide +kernel, by decide +kernel⟩, List.mem_of_getElem? (i := 18) (by decide +kernel), List.mem_of_getElem? (i := 519) (by decide +kernel), List.mem_of_getElem? (i := 520) (by decide +kernel)⟩
theorem lw_p20 : lw_okq (⟨"GeodesicCutter", "isKeptFace", "(I)Z"⟩, 11) := ⟨⟨by decide +kernel, by decide +kernel⟩, List.mem_of_getElem? (i := 18) (by decide +kernel), List.mem_of_getElem? (i := 523) (by decide +kernel), List.mem_of_getElem? (i := 524) (by decide +kernel)⟩
theorem lw_p21 : lw_okq (⟨"GeodesicCutter", "countBorderHubs", "()I"⟩, 11) := ⟨⟨by decide +kernel, by decide +kernel⟩, List.mem_of_getElem? (i := 18) (by decide +kernel), List.mem_of_getElem? (i := 527) (by decide +kernel), List.mem_of_getElem? (i := 528) (by decide +kernel)⟩
theorem lw_p22 : lw_okq (⟨"GeodesicCutter", "isBorderHub", "(I)Z"⟩, 11) := ⟨⟨by decide +kernel, by decide +kernel⟩, List.mem_of_getElem? (i := 18) (by decide +kernel), List.mem_of_getElem? (i := 531) (by decide +kernel), List.mem_of_getElem? (i := 532) (by decide +kernel)⟩
theorem lw_p23 : lw_okq (⟨"GeodesicCutter", "countKeptMissing", "()I"⟩, 11) := ⟨⟨by decide +kernel, by decide +kernel⟩, List.mem_of_getElem? (i := 18) (by decide +kernel), List.mem_of_getElem? (i := 535) (by decide +kernel), List.mem_of_getElem? (i := 536) (by decide +kernel)⟩
theorem lw_p24 : lw_okq (⟨"GeodesicCutter", "countHoles", "()I"⟩, 11) := ⟨⟨by decide +kernel, by decide +kernel⟩, List.mem_of_getElem? (i := 18) (by decide +kernel), List.mem_of_getElem? (i := 539) (by decide +kernel), List.mem_of_getElem? (i := 540) (by decide +kernel)⟩
theorem lw_p25 : lw_okq (⟨"GeodesicCutter", "isClosedFace", "(I)Z"⟩, 11) := ⟨⟨by decide +kernel, by decide +kernel⟩, List.mem_of_getElem? (i := 18) (by decide +kernel), List.mem_of_getElem? (i := 543) (by decide +kernel), List.mem_of_getElem? (i := 544) (by decide +kernel)⟩
theorem lw_p26 : lw_okq (⟨"GeodesicCutter", "isHub", "(I)Z"⟩, 11) := ⟨⟨by decide +kernel, by decide +kernel⟩, List.mem_of_getElem? (i := 18) (by decide +kernel), List.mem_of_getElem? (i := 559) (by decide +kernel), List.mem_of_getElem? (i := 560) (by decide +kernel)⟩
theorem lw_p27 : lw_okq (⟨"GeodesicCutter", "degreeOf", "(I)I"⟩, 11) := ⟨⟨by decide +kernel, by decide +kernel⟩, List.mem_of_getElem? (i := 18) (by decide +kernel), List.mem_of_getElem? (i := 563) (by decide +kernel), List.mem_of_getElem? (i := 564) (by decide +kernel)⟩
theorem lw_p28 : lw_okq (⟨"GeodesicCutter$Hubs", "greatest", "(I)I"⟩, 5) := ⟨⟨by decide +kernel, by decide +kernel⟩, List.mem_of_getElem? (i := 26) (by decide +kernel), List.mem_of_getElem? (i := 572) (by decide +kernel), List.mem_of_getElem? (i := 573) (by decide +kernel)⟩
theorem lw_p29 : lw_okq (⟨"GeodesicCutter$Hubs", "least", "(I)I"⟩, 5) := ⟨⟨by decide +kernel, by decide +kernel⟩, List.mem_of_getElem? (i := 26) (by decide +kernel), List.mem_of_getElem? (i := 577) (by decide +kernel), List.mem_of_getElem? (i := 578) (by decide +kernel)⟩
theorem lw_p30 : lw_okq (⟨"GeodesicCutter", "walkFrom", "(I)V"⟩, 11) := ⟨⟨by decide +kernel, by decide +kernel⟩, List.mem_of_getElem? (i := 18) (by decide +kernel), List.mem_of_getElem? (i := 607) (by decide +kernel), List.mem_of_getElem? (i := 608) (by decide +kernel)⟩
theorem lw_p31 : lw_okq (⟨"GeodesicCutter", "isStrut", "(I)Z"⟩, 11) := ⟨⟨by decide +kernel, by decide +kernel⟩, List.mem_of_getElem? (i := 18) (by decide +kernel), List.mem_of_getElem? (i := 630) (by decide +kernel), List.mem_of_getElem? (i := 631) (by decide +kernel)⟩
def lw_privs_2 : List (MethodName × Nat) := [(⟨"GeodesicCutter$Sawmill", "sawInto", "(III)Z"⟩, 8), (⟨"GeodesicCutter$Sawmill", "beginBar", "(II)Z"⟩, 8), (⟨"GeodesicCutter", "countKeptStruts", "()I"⟩, 11), (⟨"GeodesicCutter", "countKeptFaces", "()I"⟩, 11), (⟨"GeodesicCutter", "isKeptFace", "(I)Z"⟩, 11), (⟨"GeodesicCutter", "countBorderHubs", "()I"⟩, 11), (⟨"GeodesicCutter", "isBorderHub", "(I)Z"⟩, 11), (⟨"GeodesicCutter", "countKeptMissing", "()I"⟩, 11), (⟨"GeodesicCutter", "countHoles", "()I"⟩, 11), (⟨"GeodesicCutter", "isClosedFace", "(I)Z"⟩, 11), (⟨"GeodesicCutter", "isHub", "(I)Z"⟩, 11), (⟨"GeodesicCutter", "degreeOf", "(I)I"⟩, 11), (⟨"GeodesicCutter$Hubs", "greatest", "(I)I"⟩, 5), (⟨"GeodesicCutter$Hubs", "least", "(I)I"⟩, 5), (⟨"GeodesicCutter", "walkFrom", "(I)V"⟩, 11), (⟨"GeodesicCutter", "isStrut", "(I)Z"⟩, 11)]
theorem lw_r2 : ∀ q ∈ lw_privs_2, lw_okq q := List.forall_mem_cons.mpr ⟨lw_p16, List.forall_mem_cons.mpr ⟨lw_p17, List.forall_mem_cons.mpr ⟨lw_p18, List.forall_mem_cons.mpr ⟨lw_p19, List.forall_mem_cons.mpr ⟨lw_p20, List.forall_mem_cons.mpr ⟨lw_p21, List.forall_mem_cons.mpr ⟨lw_p22, List.forall_mem_cons.mpr ⟨lw_p23, List.forall_mem_cons.mpr ⟨lw_p24, List.forall_mem_cons.mpr ⟨lw_p25, List.forall_mem_cons.mpr ⟨lw_p26, List.forall_mem_cons.mpr ⟨lw_p27, List.forall_mem_cons.mpr ⟨lw_p28, List.forall_mem_cons.mpr ⟨lw_p29, List.forall_mem_cons.mpr ⟨lw_p30, List.forall_mem_cons.mpr ⟨lw_p31, fun _ h => absurd h List.not_mem_nil⟩⟩⟩⟩⟩⟩⟩⟩⟩⟩⟩⟩⟩⟩⟩⟩
theorem lw_p32 : lw_okq (⟨"GeodesicCutter", "barOf", "(I)I"⟩, 11) := ⟨⟨by decide +kernel, by decide +kernel⟩, List.mem_of_getElem? (i := 18) (by decide +kernel), List.mem_of_getElem? (i := 635) (by decide +kernel), List.mem_of_getElem? (i := 636) (by decide +kernel)⟩
theorem lw_p33 : lw_okq (⟨"GeodesicCutter", "countOfKind", "(IZZ)I"⟩, 11) := ⟨⟨by decide +kernel, by decide +kernel⟩, List.mem_of_getElem? (i := 18) (by decide +kernel), List.mem_of_getElem? (i := 643) (by decide +kernel), List.mem_of_getElem? (i := 644) (by decide +kernel)⟩
theorem lw_p34 : lw_okq (⟨"GeodesicCutter", "countKindsOfFace", "(I)I"⟩, 11) := ⟨⟨by decide +kernel, by decide +kernel⟩, List.mem_of_getElem? (i := 18) (by decide +kernel), List.mem_of_getElem? (i := 655) (by decide +kernel), List.mem_of_getElem? (i := 656) (by decide +kernel)⟩
theorem lw_p35 : lw_okq (⟨"GeodesicCutter", "sumLengthsOfFace", "(I)I"⟩, 11) := ⟨⟨by decide +kernel, by decide +kernel⟩, List.mem_of_getElem? (i := 18) (by decide +kernel), List.mem_of_getElem? (i := 659) (by decide +kernel), List.mem_of_getElem? (i := 660) (by decide +kernel)⟩
theorem lw_p36 : lw_okq (⟨"GeodesicCutter", "countClosedFacesAt", "(I)I"⟩, 11) := ⟨⟨by decide +kernel, by decide +kernel⟩, List.mem_of_getElem? (i := 18) (by decide +kernel), List.mem_of_getElem? (i := 667) (by decide +kernel), List.mem_of_getElem? (i := 668) (by decide +kernel)⟩
theorem lw_p37 : lw_okq (⟨"GeodesicCutter", "tallyClosedFaces", "()V"⟩, 11) := ⟨⟨by decide +kernel, by decide +kernel⟩, List.mem_of_getElem? (i := 18) (by decide +kernel), List.mem_of_getElem? (i := 671) (by decide +kernel), List.mem_of_getElem? (i := 672) (by decide +kernel)⟩
theorem lw_p38 : lw_okq (⟨"GeodesicCutter", "readText", "()V"⟩, 11) := ⟨⟨by decide +kernel, by decide +kernel⟩, List.mem_of_getElem? (i := 18) (by decide +kernel), List.mem_of_getElem? (i := 729) (by decide +kernel), List.mem_of_getElem? (i := 730) (by decide +kernel)⟩
theorem lw_p39 : lw_okq (⟨"GeodesicCutter", "readListedStrut", "()I"⟩, 11) := ⟨⟨by decide +kernel, by decide +kernel⟩, List.mem_of_getElem? (i := 18) (by decide +kernel), List.mem_of_getElem? (i := 737) (by decide +kernel), List.mem_of_getElem? (i := 738) (by decide +kernel)⟩
theorem lw_p40 : lw_okq (⟨"GeodesicCutter$Text", "readNumber", "()I"⟩, 5) := ⟨⟨by decide +kernel, by decide +kernel⟩, List.mem_of_getElem? (i := 254) (by decide +kernel), List.mem_of_getElem? (i := 745) (by decide +kernel), List.mem_of_getElem? (i := 746) (by decide +kernel)⟩
theorem lw_p41 : lw_okq (⟨"GeodesicCutter$Text", "isAtDigit", "()Z"⟩, 5) := ⟨⟨by decide +kernel, by decide +kernel⟩, List.mem_of_getElem? (i := 254) (by decide +kernel), List.mem_of_getElem? (i := 749) (by decide +kernel), List.mem_of_getElem? (i := 750) (by decide +kernel)⟩
theorem lw_p42 : lw_okq (⟨"GeodesicCutter$Text", "readSign", "(C)Z"⟩, 5) := ⟨⟨by decide +kernel, by decide +kernel⟩, List.mem_of_getElem? (i := 254) (by decide +kernel), List.mem_of_getElem? (i := 753) (by decide +kernel), List.mem_of_getElem? (i := 754) (by decide +kernel)⟩
theorem lw_p43 : lw_okq (⟨"GeodesicCutterModel", "lays", "()V"⟩, 32) := ⟨⟨by decide +kernel, by decide +kernel⟩, List.mem_of_getElem? (i := 765) (by decide +kernel), List.mem_of_getElem? (i := 771) (by decide +kernel), List.mem_of_getElem? (i := 772) (by decide +kernel)⟩
theorem lw_p44 : lw_okq (⟨"GeodesicCutterModel", "laysHubs", "(I)V"⟩, 32) := ⟨⟨by decide +kernel, by decide +kernel⟩, List.mem_of_getElem? (i := 765) (by decide +kernel), List.mem_of_getElem? (i := 775) (by decide +kernel), List.mem_of_getElem? (i := 776) (by decide +kernel)⟩
theorem lw_p45 : lw_okq (⟨"GeodesicCutterModel", "laysStruts", "()V"⟩, 32) := ⟨⟨by decide +kernel, by decide +kernel⟩, List.mem_of_getElem? (i := 765) (by decide +kernel), List.mem_of_getElem? (i := 782) (by decide +kernel), List.mem_of_getElem? (i := 783) (by decide +kernel)⟩
theorem lw_p46 : lw_okq (⟨"GeodesicCutterModel", "areJoined", "(II)Z"⟩, 32) := ⟨⟨by decide +kernel, by decide +kernel⟩, List.mem_of_getElem? (i := 765) (by decide +kernel), List.mem_of_getElem? (i := 786) (by decide +kernel), List.mem_of_getElem? (i := 787) (by decide +kernel)⟩
theorem lw_p47 : lw_okq (⟨"GeodesicCutterModel", "laysFaces", "()V"⟩, 32) := ⟨⟨by decide +kernel, by decide +kernel⟩, List.mem_of_getElem? (i := 765) (by decide +kernel), List.mem_of_getElem? (i := 793) (by decide +kernel), List.mem_of_getElem? (i := 794) (by decide +kernel)⟩
def lw_privs_3 : List (MethodName × Nat) := [(⟨"GeodesicCutter", "barOf", "(I)I"⟩, 11), (⟨"GeodesicCutter", "countOfKind", "(IZZ)I"⟩, 11), (⟨"GeodesicCutter", "countKindsOfFace", "(I)I"⟩, 11), (⟨"GeodesicCutter", "sumLengthsOfFace", "(I)I"⟩, 11), (⟨"GeodesicCutter", "countClosedFacesAt", "(I)I"⟩, 11), (⟨"GeodesicCutter", "tallyClosedFaces", "()V"⟩, 11), (⟨"GeodesicCutter", "readText", "()V"⟩, 11), (⟨"GeodesicCutter", "readListedStrut", "()I"⟩, 11), (⟨"GeodesicCutter$Text", "readNumber", "()I"⟩, 5), (⟨"GeodesicCutter$Text", "isAtDigit", "()Z"⟩, 5), (⟨"GeodesicCutter$Text", "readSign", "(C)Z"⟩, 5), (⟨"GeodesicCutterModel", "lays", "()V"⟩, 32), (⟨"GeodesicCutterModel", "laysHubs", "(I)V"⟩, 32), (⟨"GeodesicCutterModel", "laysStruts", "()V"⟩, 32), (⟨"GeodesicCutterModel", "areJoined", "(II)Z"⟩, 32), (⟨"GeodesicCutterModel", "laysFaces", "()V"⟩, 32)]
theorem lw_r3 : ∀ q ∈ lw_privs_3, lw_okq q := List.forall_mem_cons.mpr ⟨lw_p32, List.forall_mem_cons.mpr ⟨lw_p33, List.forall_mem_cons.mpr ⟨lw_p34, List.forall_mem_cons.mpr ⟨lw_p35, List.forall_mem_cons.mpr ⟨lw_p36, List.forall_mem_cons.mpr ⟨lw_p37, List.forall_mem_cons.mpr ⟨lw_p38, List.forall_mem_cons.mpr ⟨lw_p39, List.forall_mem_cons.mpr ⟨lw_p40, List.forall_mem_cons.mpr ⟨lw_p41, List.forall_mem_cons.mpr ⟨lw_p42, List.forall_mem_cons.mpr ⟨lw_p43, List.forall_mem_cons.mpr ⟨lw_p44, List.forall_mem_cons.mpr ⟨lw_p45, List.forall_mem_cons.mpr ⟨lw_p46, List.forall_mem_cons.mpr ⟨lw_p47, fun _ h => absurd h List.not_mem_nil⟩⟩⟩⟩⟩⟩⟩⟩⟩⟩⟩⟩⟩⟩⟩⟩
theorem lw_p48 : lw_okq (⟨"GeodesicCutterModel", "laysKinds", "()V"⟩, 32) := ⟨⟨by decide +kernel, by decide +kernel⟩, List.mem_of_getElem? (i := 765) (by decide +kernel), List.mem_of_getElem? (i := 797) (by decide +kernel), List.mem_of_getElem? (i := 798) (by decide +kernel)⟩
theorem lw_p49 : lw_okq (⟨"GeodesicCutterModel", "innerOf", "(I)I"⟩, 32) := ⟨⟨by decide +kernel, by decide +kernel⟩, List.mem_of_getElem? (i := 765) (by decide +kernel), List.mem_of_getElem? (i := 801) (by decide +kernel), List.mem_of_getElem? (i := 802) (by decide +kernel)⟩
theorem lw_p50 : lw_okq (⟨"GeodesicCutterModel", "productOf", "(I)I"⟩, 32) := ⟨⟨by decide +kernel, by decide +kernel⟩, List.mem_of_getElem? (i := 765) (by decide +kernel), List.mem_of_getElem? (i := 805) (by decide +kernel), List.mem_of_getElem? (i := 806) (by decide +kernel)⟩
theorem lw_p51 : lw_okq (⟨"GeodesicCutterModel", "own", "(I)I"⟩, 32) := ⟨⟨by decide +kernel, by decide +kernel⟩, List.mem_of_getElem? (i := 765) (by decide +kernel), List.mem_of_getElem? (i := 809) (by decide +kernel), List.mem_of_getElem? (i := 810) (by decide +kernel)⟩
theorem lw_p52 : lw_okq (⟨"GeodesicCutterModel", "measures", "(I)V"⟩, 32) := ⟨⟨by decide +kernel, by decide +kernel⟩, List.mem_of_getElem? (i := 765) (by decide +kernel), List.mem_of_getElem? (i := 813) (by decide +kernel), List.mem_of_getElem? (i := 814) (by decide +kernel)⟩
theorem lw_p53 : lw_okq (⟨"GeodesicCutterModel", "notes", "()V"⟩, 32) := ⟨⟨by decide +kernel, by decide +kernel⟩, List.mem_of_getElem? (i := 765) (by decide +kernel), List.mem_of_getElem? (i := 927) (by decide +kernel), List.mem_of_getElem? (i := 928) (by decide +kernel)⟩
theorem lw_p54 : lw_okq (⟨"GeodesicCutterModel", "mends", "()V"⟩, 32) := ⟨⟨by decide +kernel, by decide +kernel⟩, List.mem_of_getElem? (i := 765) (by decide +kernel), List.mem_of_getElem? (i := 931) (by decide +kernel), List.mem_of_getElem? (i := 932) (by decide +kernel)⟩
theorem lw_p55 : lw_okq (⟨"GeodesicCutterModel", "keptHubs", "()I"⟩, 32) := ⟨⟨by decide +kernel, by decide +kernel⟩, List.mem_of_getElem? (i := 765) (by decide +kernel), List.mem_of_getElem? (i := 943) (by decide +kernel), List.mem_of_getElem? (i := 944) (by decide +kernel)⟩
theorem lw_p56 : lw_okq (⟨"GeodesicCutterModel", "isKept", "(I)Z"⟩, 32) := ⟨⟨by decide +kernel, by decide +kernel⟩, List.mem_of_getElem? (i := 765) (by decide +kernel), List.mem_of_getElem? (i := 947) (by decide +kernel), List.mem_of_getElem? (i := 948) (by decide +kernel)⟩
theorem lw_p57 : lw_okq (⟨"GeodesicCutterModel", "longest", "()I"⟩, 32) := ⟨⟨by decide +kernel, by decide +kernel⟩, List.mem_of_getElem? (i := 765) (by decide +kernel), List.mem_of_getElem? (i := 955) (by decide +kernel), List.mem_of_getElem? (i := 956) (by decide +kernel)⟩
theorem lw_p58 : lw_okq (⟨"GeodesicCutterModel", "hasStrut", "(I)Z"⟩, 32) := ⟨⟨by decide +kernel, by decide +kernel⟩, List.mem_of_getElem? (i := 765) (by decide +kernel), List.mem_of_getElem? (i := 959) (by decide +kernel), List.mem_of_getElem? (i := 960) (by decide +kernel)⟩
theorem lw_p59 : lw_okq (⟨"GeodesicCutterModel", "saws", "(I)V"⟩, 32) := ⟨⟨by decide +kernel, by decide +kernel⟩, List.mem_of_getElem? (i := 765) (by decide +kernel), List.mem_of_getElem? (i := 963) (by decide +kernel), List.mem_of_getElem? (i := 964) (by decide +kernel)⟩
theorem lw_p60 : lw_okq (⟨"GeodesicCutterModel", "sawsOne", "(I)V"⟩, 32) := ⟨⟨by decide +kernel, by decide +kernel⟩, List.mem_of_getElem? (i := 765) (by decide +kernel), List.mem_of_getElem? (i := 967) (by decide +kernel), List.mem_of_getElem? (i := 968) (by decide +kernel)⟩
theorem lw_p61 : lw_okq (⟨"GeodesicCutterModel", "strutsOf", "(I)I"⟩, 32) := ⟨⟨by decide +kernel, by decide +kernel⟩, List.mem_of_getElem? (i := 765) (by decide +kernel), List.mem_of_getElem? (i := 975) (by decide +kernel), List.mem_of_getElem? (i := 976) (by decide +kernel)⟩
theorem lw_p62 : lw_okq (⟨"GeodesicCutterModel", "isMissing", "(I)Z"⟩, 32) := ⟨⟨by decide +kernel, by decide +kernel⟩, List.mem_of_getElem? (i := 765) (by decide +kernel), List.mem_of_getElem? (i := 979) (by decide +kernel), List.mem_of_getElem? (i := 980) (by decide +kernel)⟩
theorem lw_p63 : lw_okq (⟨"GeodesicCutterModel", "facesOf", "(Z)I"⟩, 32) := ⟨⟨by decide +kernel, by decide +kernel⟩, List.mem_of_getElem? (i := 765) (by decide +kernel), List.mem_of_getElem? (i := 983) (by decide +kernel), List.mem_of_getElem? (i := 984) (by decide +kernel)⟩
def lw_privs_4 : List (MethodName × Nat) := [(⟨"GeodesicCutterModel", "laysKinds", "()V"⟩, 32), (⟨"GeodesicCutterModel", "innerOf", "(I)I"⟩, 32), (⟨"GeodesicCutterModel", "productOf", "(I)I"⟩, 32), (⟨"GeodesicCutterModel", "own", "(I)I"⟩, 32), (⟨"GeodesicCutterModel", "measures", "(I)V"⟩, 32), (⟨"GeodesicCutterModel", "notes", "()V"⟩, 32), (⟨"GeodesicCutterModel", "mends", "()V"⟩, 32), (⟨"GeodesicCutterModel", "keptHubs", "()I"⟩, 32), (⟨"GeodesicCutterModel", "isKept", "(I)Z"⟩, 32), (⟨"GeodesicCutterModel", "longest", "()I"⟩, 32), (⟨"GeodesicCutterModel", "hasStrut", "(I)Z"⟩, 32), (⟨"GeodesicCutterModel", "saws", "(I)V"⟩, 32), (⟨"GeodesicCutterModel", "sawsOne", "(I)V"⟩, 32), (⟨"GeodesicCutterModel", "strutsOf", "(I)I"⟩, 32), (⟨"GeodesicCutterModel", "isMissing", "(I)Z"⟩, 32), (⟨"GeodesicCutterModel", "facesOf", "(Z)I"⟩, 32)]
theorem lw_r4 : ∀ q ∈ lw_privs_4, lw_okq q := List.forall_mem_cons.mpr ⟨lw_p48, List.forall_mem_cons.mpr ⟨lw_p49, List.forall_mem_cons.mpr ⟨lw_p50, List.forall_mem_cons.mpr ⟨lw_p51, List.forall_mem_cons.mpr ⟨lw_p52, List.forall_mem_cons.mpr ⟨lw_p53, List.forall_mem_cons.mpr ⟨lw_p54, List.forall_mem_cons.mpr ⟨lw_p55, List.forall_mem_cons.mpr ⟨lw_p56, List.forall_mem_cons.mpr ⟨lw_p57, List.forall_mem_cons.mpr ⟨lw_p58, List.forall_mem_cons.mpr ⟨lw_p59, List.forall_mem_cons.mpr ⟨lw_p60, List.forall_mem_cons.mpr ⟨lw_p61, List.forall_mem_cons.mpr ⟨lw_p62, List.forall_mem_cons.mpr ⟨lw_p63, fun _ h => absurd h List.not_mem_nil⟩⟩⟩⟩⟩⟩⟩⟩⟩⟩⟩⟩⟩⟩⟩⟩
theorem lw_p64 : lw_okq (⟨"GeodesicCutterModel", "hasFace", "(I)Z"⟩, 32) := ⟨⟨by decide +kernel, by decide +kernel⟩, List.mem_of_getElem? (i := 765) (by decide +kernel), List.mem_of_getElem? (i := 987) (by decide +kernel), List.mem_of_getElem? (i := 988) (by decide +kernel)⟩
theorem lw_p65 : lw_okq (⟨"GeodesicCutterModel", "isHole", "(I)Z"⟩, 32) := ⟨⟨by decide +kernel, by decide +kernel⟩, List.mem_of_getElem? (i := 765) (by decide +kernel), List.mem_of_getElem? (i := 991) (by decide +kernel), List.mem_of_getElem? (i := 992) (by decide +kernel)⟩
theorem lw_p66 : lw_okq (⟨"GeodesicCutterModel", "side", "(II)I"⟩, 32) := ⟨⟨by decide +kernel, by decide +kernel⟩, List.mem_of_getElem? (i := 765) (by decide +kernel), List.mem_of_getElem? (i := 995) (by decide +kernel), List.mem_of_getElem? (i := 996) (by decide +kernel)⟩
theorem lw_p67 : lw_okq (⟨"GeodesicCutterModel", "borders", "()I"⟩, 32) := ⟨⟨by decide +kernel, by decide +kernel⟩, List.mem_of_getElem? (i := 765) (by decide +kernel), List.mem_of_getElem? (i := 999) (by decide +kernel), List.mem_of_getElem? (i := 1000) (by decide +kernel)⟩
theorem lw_p68 : lw_okq (⟨"GeodesicCutterModel", "isBorder", "(I)Z"⟩, 32) := ⟨⟨by decide +kernel, by decide +kernel⟩, List.mem_of_getElem? (i := 765) (by decide +kernel), List.mem_of_getElem? (i := 1003) (by decide +kernel), List.mem_of_getElem? (i := 1004) (by decide +kernel)⟩
theorem lw_p69 : lw_okq (⟨"GeodesicCutterModel", "isHub", "(I)Z"⟩, 32) := ⟨⟨by decide +kernel, by decide +kernel⟩, List.mem_of_getElem? (i := 765) (by decide +kernel), List.mem_of_getElem? (i := 1011) (by decide +kernel), List.mem_of_getElem? (i := 1012) (by decide +kernel)⟩
theorem lw_p70 : lw_okq (⟨"GeodesicCutterModel", "joinedTo", "(I)I"⟩, 32) := ⟨⟨by decide +kernel, by decide +kernel⟩, List.mem_of_getElem? (i := 765) (by decide +kernel), List.mem_of_getElem? (i := 1015) (by decide +kernel), List.mem_of_getElem? (i := 1016) (by decide +kernel)⟩
theorem lw_p71 : lw_okq (⟨"GeodesicCutterModel", "degree", "(I)I"⟩, 32) := ⟨⟨by decide +kernel, by decide +kernel⟩, List.mem_of_getElem? (i := 765) (by decide +kernel), List.mem_of_getElem? (i := 1019) (by decide +kernel), List.mem_of_getElem? (i := 1020) (by decide +kernel)⟩
theorem lw_p72 : lw_okq (⟨"GeodesicCutterModel", "alike", "(I)I"⟩, 32) := ⟨⟨by decide +kernel, by decide +kernel⟩, List.mem_of_getElem? (i := 765) (by decide +kernel), List.mem_of_getElem? (i := 1023) (by decide +kernel), List.mem_of_getElem? (i := 1024) (by decide +kernel)⟩
theorem lw_p73 : lw_okq (⟨"GeodesicCutterModel", "at", "(III)I"⟩, 32) := ⟨⟨by decide +kernel, by decide +kernel⟩, List.mem_of_getElem? (i := 765) (by decide +kernel), List.mem_of_getElem? (i := 1031) (by decide +kernel), List.mem_of_getElem? (i := 1032) (by decide +kernel)⟩
theorem lw_p74 : lw_okq (⟨"GeodesicCutterModel", "reaches", "(III)V"⟩, 32) := ⟨⟨by decide +kernel, by decide +kernel⟩, List.mem_of_getElem? (i := 765) (by decide +kernel), List.mem_of_getElem? (i := 1047) (by decide +kernel), List.mem_of_getElem? (i := 1048) (by decide +kernel)⟩
theorem lw_p75 : lw_okq (⟨"GeodesicCutterModel", "isStrut", "(I)Z"⟩, 32) := ⟨⟨by decide +kernel, by decide +kernel⟩, List.mem_of_getElem? (i := 765) (by decide +kernel), List.mem_of_getElem? (i := 1059) (by decide +kernel), List.mem_of_getElem? (i := 1060) (by decide +kernel)⟩
theorem lw_p76 : lw_okq (⟨"GeodesicCutterModel", "barFor", "(I)I"⟩, 32) := ⟨⟨by decide +kernel, by decide +kernel⟩, List.mem_of_getElem? (i := 765) (by decide +kernel), List.mem_of_getElem? (i := 1063) (by decide +kernel), List.mem_of_getElem? (i := 1064) (by decide +kernel)⟩
theorem lw_p77 : lw_okq (⟨"GeodesicCutterModel", "closes", "(I)I"⟩, 32) := ⟨⟨by decide +kernel, by decide +kernel⟩, List.mem_of_getElem? (i := 765) (by decide +kernel), List.mem_of_getElem? (i := 1079) (by decide +kernel), List.mem_of_getElem? (i := 1080) (by decide +kernel)⟩
theorem lw_p78 : lw_okq (⟨"GeodesicCutterModel", "allLengths", "()I"⟩, 32) := ⟨⟨by decide +kernel, by decide +kernel⟩, List.mem_of_getElem? (i := 765) (by decide +kernel), List.mem_of_getElem? (i := 1099) (by decide +kernel), List.mem_of_getElem? (i := 1100) (by decide +kernel)⟩
theorem lw_p79 : lw_okq (⟨"GeodesicCutterModel", "isEnough", "(II)Z"⟩, 32) := ⟨⟨by decide +kernel, by decide +kernel⟩, List.mem_of_getElem? (i := 765) (by decide +kernel), List.mem_of_getElem? (i := 1107) (by decide +kernel), List.mem_of_getElem? (i := 1108) (by decide +kernel)⟩
def lw_privs_5 : List (MethodName × Nat) := [(⟨"GeodesicCutterModel", "hasFace", "(I)Z"⟩, 32), (⟨"GeodesicCutterModel", "isHole", "(I)Z"⟩, 32), (⟨"GeodesicCutterModel", "side", "(II)I"⟩, 32), (⟨"GeodesicCutterModel", "borders", "()I"⟩, 32), (⟨"GeodesicCutterModel", "isBorder", "(I)Z"⟩, 32), (⟨"GeodesicCutterModel", "isHub", "(I)Z"⟩, 32), (⟨"GeodesicCutterModel", "joinedTo", "(I)I"⟩, 32), (⟨"GeodesicCutterModel", "degree", "(I)I"⟩, 32), (⟨"GeodesicCutterModel", "alike", "(I)I"⟩, 32), (⟨"GeodesicCutterModel", "at", "(III)I"⟩, 32), (⟨"GeodesicCutterModel", "reaches", "(III)V"⟩, 32), (⟨"GeodesicCutterModel", "isStrut", "(I)Z"⟩, 32), (⟨"GeodesicCutterModel", "barFor", "(I)I"⟩, 32), (⟨"GeodesicCutterModel", "closes", "(I)I"⟩, 32), (⟨"GeodesicCutterModel", "allLengths", "()I"⟩, 32), (⟨"GeodesicCutterModel", "isEnough", "(II)Z"⟩, 32)]
theorem lw_r5 : ∀ q ∈ lw_privs_5, lw_okq q := List.forall_mem_cons.mpr ⟨lw_p64, List.forall_mem_cons.mpr ⟨lw_p65, List.forall_mem_cons.mpr ⟨lw_p66, List.forall_mem_cons.mpr ⟨lw_p67, List.forall_mem_cons.mpr ⟨lw_p68, List.forall_mem_cons.mpr ⟨lw_p69, List.forall_mem_cons.mpr ⟨lw_p70, List.forall_mem_cons.mpr ⟨lw_p71, List.forall_mem_cons.mpr ⟨lw_p72, List.forall_mem_cons.mpr ⟨lw_p73, List.forall_mem_cons.mpr ⟨lw_p74, List.forall_mem_cons.mpr ⟨lw_p75, List.forall_mem_cons.mpr ⟨lw_p76, List.forall_mem_cons.mpr ⟨lw_p77, List.forall_mem_cons.mpr ⟨lw_p78, List.forall_mem_cons.mpr ⟨lw_p79, fun _ h => absurd h List.not_mem_nil⟩⟩⟩⟩⟩⟩⟩⟩⟩⟩⟩⟩⟩⟩⟩⟩
theorem lw_p80 : lw_okq (⟨"GeodesicCutterModel", "wrongAt", "()I"⟩, 32) := ⟨⟨by decide +kernel, by decide +kernel⟩, List.mem_of_getElem? (i := 765) (by decide +kernel), List.mem_of_getElem? (i := 1123) (by decide +kernel), List.mem_of_getElem? (i := 1124) (by decide +kernel)⟩
theorem lw_p81 : lw_okq (⟨"GeodesicCutterModel", "reason", "()I"⟩, 32) := ⟨⟨by decide +kernel, by decide +kernel⟩, List.mem_of_getElem? (i := 765) (by decide +kernel), List.mem_of_getElem? (i := 1127) (by decide +kernel), List.mem_of_getElem? (i := 1128) (by decide +kernel)⟩
theorem lw_p82 : lw_okq (⟨"GeodesicCutterModel", "isForm", "()Z"⟩, 32) := ⟨⟨by decide +kernel, by decide +kernel⟩, List.mem_of_getElem? (i := 765) (by decide +kernel), List.mem_of_getElem? (i := 1131) (by decide +kernel), List.mem_of_getElem? (i := 1132) (by decide +kernel)⟩
theorem lw_p83 : lw_okq (⟨"GeodesicCutterModel", "number", "()I"⟩, 32) := ⟨⟨by decide +kernel, by decide +kernel⟩, List.mem_of_getElem? (i := 765) (by decide +kernel), List.mem_of_getElem? (i := 1135) (by decide +kernel), List.mem_of_getElem? (i := 1136) (by decide +kernel)⟩
theorem lw_p84 : lw_okq (⟨"GeodesicCutterModel", "takes", "(I)Z"⟩, 32) := ⟨⟨by decide +kernel, by decide +kernel⟩, List.mem_of_getElem? (i := 765) (by decide +kernel), List.mem_of_getElem? (i := 1139) (by decide +kernel), List.mem_of_getElem? (i := 1140) (by decide +kernel)⟩
def lw_privs_6 : List (MethodName × Nat) := [(⟨"GeodesicCutterModel", "wrongAt", "()I"⟩, 32), (⟨"GeodesicCutterModel", "reason", "()I"⟩, 32), (⟨"GeodesicCutterModel", "isForm", "()Z"⟩, 32), (⟨"GeodesicCutterModel", "number", "()I"⟩, 32), (⟨"GeodesicCutterModel", "takes", "(I)Z"⟩, 32)]
theorem lw_r6 : ∀ q ∈ lw_privs_6, lw_okq q := List.forall_mem_cons.mpr ⟨lw_p80, List.forall_mem_cons.mpr ⟨lw_p81, List.forall_mem_cons.mpr ⟨lw_p82, List.forall_mem_cons.mpr ⟨lw_p83, List.forall_mem_cons.mpr ⟨lw_p84, fun _ h => absurd h List.not_mem_nil⟩⟩⟩⟩⟩
def lw_privs : List (MethodName × Nat) := lw_privs_1 ++ (lw_privs_2 ++ (lw_privs_3 ++ (lw_privs_4 ++ (lw_privs_5 ++ (lw_privs_6)))))
def lw_tbl : List Cond := k2_sels lw_privs ++ tables_1
theorem lw_privs_ok : ∀ q ∈ lw_privs, lw_okq q := by
  show ∀ q ∈ lw_privs_1 ++ (lw_privs_2 ++ (lw_privs_3 ++ (lw_privs_4 ++ (lw_privs_5 ++ (lw_privs_6))))), lw_okq q
  exact List.forall_mem_append.mpr ⟨lw_r1, List.forall_mem_append.mpr ⟨lw_r2, List.forall_mem_append.mpr ⟨lw_r3, List.forall_mem_append.mpr ⟨lw_r4, List.forall_mem_append.mpr ⟨lw_r5, lw_r6⟩⟩⟩⟩⟩
-- end of PART A
end
section
def RX0 : String := "GeodesicCutter$Faces"
def TX0 : u_T := fun k => match k with
  | 0 => ("GeodesicCutter$Faces", "corner", "[I", true)
  | 1 => ("GeodesicCutter$Faces", "side", "[I", true)
  | _ => ("GeodesicCutter$Faces", "count", "I", false)
def tyX0 : Nat → FieldType := fun k => match k with
  | 0 => .array .int
  | 1 => .array .int
  | _ => .int
abbrev wsX00 : List Cond := u_ws RX0 TX0 3
theorem nmX0 : ∀ a, a < 3 → ∀ b, b < 3 → a ≠ b → (TX0 a).2.1 ≠ (TX0 b).2.1 := by decide +kernel
theorem tyX0_ok : ∀ k, k < 3 → parseFieldDescriptor (TX0 k).2.2.1 = some (tyX0 k) := by decide +kernel
def RX1 : String := "GeodesicCutter$History"
def TX1 : u_T := fun k => match k with
  | 0 => ("GeodesicCutter$History", "states", "[LGeodesicCutter$State;", true)
  | _ => ("GeodesicCutter$History", "count", "I", false)
def tyX1 : Nat → FieldType := fun k => match k with
  | 0 => .array (.object "GeodesicCutter$State")
  | _ => .int
abbrev wsX10 : List Cond := u_ws RX1 TX1 2
theorem nmX1 : ∀ a, a < 2 → ∀ b, b < 2 → a ≠ b → (TX1 a).2.1 ≠ (TX1 b).2.1 := by decide +kernel
theorem tyX1_ok : ∀ k, k < 2 → parseFieldDescriptor (TX1 k).2.2.1 = some (tyX1 k) := by decide +kernel
def RX2 : String := "GeodesicCutter$Hubs"
def TX2 : u_T := fun k => match k with
  | 0 => ("GeodesicCutter$Hubs", "x", "[I", true)
  | 1 => ("GeodesicCutter$Hubs", "y", "[I", true)
  | 2 => ("GeodesicCutter$Hubs", "z", "[I", true)
  | 3 => ("GeodesicCutter$Hubs", "steps", "I", false)
  | _ => ("GeodesicCutter$Hubs", "count", "I", false)
def tyX2 : Nat → FieldType := fun k => match k with
  | 0 => .array .int
  | 1 => .array .int
  | 2 => .array .int
  | 3 => .int
  | _ => .int
abbrev wsX20 : List Cond := u_ws RX2 TX2 5
theorem nmX2 : ∀ a, a < 5 → ∀ b, b < 5 → a ≠ b → (TX2 a).2.1 ≠ (TX2 b).2.1 := by decide +kernel
theorem tyX2_ok : ∀ k, k < 5 → parseFieldDescriptor (TX2 k).2.2.1 = some (tyX2 k) := by decide +kernel
def RX3 : String := "GeodesicCutter$Kinds"
def TX3 : u_T := fun k => match k with
  | 0 => ("GeodesicCutter$Kinds", "n", "[I", true)
  | 1 => ("GeodesicCutter$Kinds", "d", "[I", true)
  | 2 => ("GeodesicCutter$Kinds", "of", "[I", true)
  | 3 => ("GeodesicCutter$Kinds", "sawOrder", "[I", true)
  | 4 => ("GeodesicCutter$Kinds", "kindN", "[I", true)
  | 5 => ("GeodesicCutter$Kinds", "kindD", "[I", true)
  | 6 => ("GeodesicCutter$Kinds", "strutCount", "I", false)
  | _ => ("GeodesicCutter$Kinds", "count", "I", false)
def tyX3 : Nat → FieldType := fun k => match k with
  | 0 => .array .int
  | 1 => .array .int
  | 2 => .array .int
  | 3 => .array .int
  | 4 => .array .int
  | 5 => .array .int
  | 6 => .int
  | _ => .int
abbrev wsX30 : List Cond := u_ws RX3 TX3 8
theorem nmX3 : ∀ a, a < 8 → ∀ b, b < 8 → a ≠ b → (TX3 a).2.1 ≠ (TX3 b).2.1 := by decide +kernel
theorem tyX3_ok : ∀ k, k < 8 → parseFieldDescriptor (TX3 k).2.2.1 = some (tyX3 k) := by decide +kernel
def RX4 : String := "GeodesicCutter$Listing"
def TX4 : u_T := fun k => match k with
  | 0 => ("GeodesicCutter$Listing", "struts", "[I", true)
  | 1 => ("GeodesicCutter$Listing", "count", "I", false)
  | 2 => ("GeodesicCutter$Listing", "reason", "I", false)
  | _ => ("GeodesicCutter$Listing", "place", "I", false)
def tyX4 : Nat → FieldType := fun k => match k with
  | 0 => .array .int
  | 1 => .int
  | 2 => .int
  | _ => .int
abbrev wsX40 : List Cond := u_ws RX4 TX4 4
theorem nmX4 : ∀ a, a < 4 → ∀ b, b < 4 → a ≠ b → (TX4 a).2.1 ≠ (TX4 b).2.1 := by decide +kernel
theorem tyX4_ok : ∀ k, k < 4 → parseFieldDescriptor (TX4 k).2.2.1 = some (tyX4 k) := by decide +kernel
def RX5 : String := "GeodesicCutter$Sawmill"
def TX5 : u_T := fun k => match k with
  | 0 => ("GeodesicCutter$Sawmill", "strut", "[I", true)
  | 1 => ("GeodesicCutter$Sawmill", "kindOf", "[I", true)
  | 2 => ("GeodesicCutter$Sawmill", "waiting", "I", false)
  | 3 => ("GeodesicCutter$Sawmill", "length", "[I", true)
  | 4 => ("GeodesicCutter$Sawmill", "left", "[I", true)
  | 5 => ("GeodesicCutter$Sawmill", "pieces", "[I", true)
  | 6 => ("GeodesicCutter$Sawmill", "barOf", "[I", true)
  | _ => ("GeodesicCutter$Sawmill", "bars", "I", false)
def tyX5 : Nat → FieldType := fun k => match k with
  | 0 => .array .int
  | 1 => .array .int
  | 2 => .int
  | 3 => .array .int
  | 4 => .array .int
  | 5 => .array .int
  | 6 => .array .int
  | _ => .int
abbrev wsX50 : List Cond := u_ws RX5 TX5 8
theorem nmX5 : ∀ a, a < 8 → ∀ b, b < 8 → a ≠ b → (TX5 a).2.1 ≠ (TX5 b).2.1 := by decide +kernel
theorem tyX5_ok : ∀ k, k < 8 → parseFieldDescriptor (TX5 k).2.2.1 = some (tyX5 k) := by decide +kernel
def RX6 : String := "GeodesicCutter$State"
def TX6 : u_T := fun k => match k with
  | 0 => ("GeodesicCutter$State", "steps", "I", false)
  | 1 => ("GeodesicCutter$State", "radius", "I", false)
  | 2 => ("GeodesicCutter$State", "line", "I", false)
  | 3 => ("GeodesicCutter$State", "bar", "I", false)
  | 4 => ("GeodesicCutter$State", "saw", "I", false)
  | 5 => ("GeodesicCutter$State", "missingCount", "I", false)
  | _ => ("GeodesicCutter$State", "missing", "[Z", true)
def tyX6 : Nat → FieldType := fun k => match k with
  | 0 => .int
  | 1 => .int
  | 2 => .int
  | 3 => .int
  | 4 => .int
  | 5 => .int
  | _ => .array .boolean
abbrev wsX60 : List Cond := u_ws RX6 TX6 7
theorem nmX6 : ∀ a, a < 7 → ∀ b, b < 7 → a ≠ b → (TX6 a).2.1 ≠ (TX6 b).2.1 := by decide +kernel
theorem tyX6_ok : ∀ k, k < 7 → parseFieldDescriptor (TX6 k).2.2.1 = some (tyX6 k) := by decide +kernel
def RX7 : String := "GeodesicCutter$Struts"
def TX7 : u_T := fun k => match k with
  | 0 => ("GeodesicCutter$Struts", "low", "[I", true)
  | 1 => ("GeodesicCutter$Struts", "high", "[I", true)
  | 2 => ("GeodesicCutter$Struts", "links", "[I", true)
  | 3 => ("GeodesicCutter$Struts", "linkedHub", "[I", true)
  | 4 => ("GeodesicCutter$Struts", "linkedStrut", "[I", true)
  | _ => ("GeodesicCutter$Struts", "count", "I", false)
def tyX7 : Nat → FieldType := fun k => match k with
  | 0 => .array .int
  | 1 => .array .int
  | 2 => .array .int
  | 3 => .array .int
  | 4 => .array .int
  | _ => .int
abbrev wsX70 : List Cond := u_ws RX7 TX7 6
theorem nmX7 : ∀ a, a < 6 → ∀ b, b < 6 → a ≠ b → (TX7 a).2.1 ≠ (TX7 b).2.1 := by decide +kernel
theorem tyX7_ok : ∀ k, k < 6 → parseFieldDescriptor (TX7 k).2.2.1 = some (tyX7 k) := by decide +kernel
def RX8 : String := "GeodesicCutter$Text"
def TX8 : u_T := fun k => match k with
  | 0 => ("GeodesicCutter$Text", "characters", "[C", true)
  | 1 => ("GeodesicCutter$Text", "length", "I", false)
  | 2 => ("GeodesicCutter$Text", "cursor", "I", false)
  | 3 => ("GeodesicCutter$Text", "first", "I", false)
  | _ => ("GeodesicCutter$Text", "second", "I", false)
def tyX8 : Nat → FieldType := fun k => match k with
  | 0 => .array .char
  | 1 => .int
  | 2 => .int
  | 3 => .int
  | _ => .int
abbrev wsX80 : List Cond := u_ws RX8 TX8 5
theorem nmX8 : ∀ a, a < 5 → ∀ b, b < 5 → a ≠ b → (TX8 a).2.1 ≠ (TX8 b).2.1 := by decide +kernel
theorem tyX8_ok : ∀ k, k < 5 → parseFieldDescriptor (TX8 k).2.2.1 = some (tyX8 k) := by decide +kernel
def RX9 : String := "GeodesicCutter$Walk"
def TX9 : u_T := fun k => match k with
  | 0 => ("GeodesicCutter$Walk", "distance", "[I", true)
  | 1 => ("GeodesicCutter$Walk", "queue", "[I", true)
  | _ => ("GeodesicCutter$Walk", "reached", "I", false)
def tyX9 : Nat → FieldType := fun k => match k with
  | 0 => .array .int
  | 1 => .array .int
  | _ => .int
abbrev wsX90 : List Cond := u_ws RX9 TX9 3
theorem nmX9 : ∀ a, a < 3 → ∀ b, b < 3 → a ≠ b → (TX9 a).2.1 ≠ (TX9 b).2.1 := by decide +kernel
theorem tyX9_ok : ∀ k, k < 3 → parseFieldDescriptor (TX9 k).2.2.1 = some (tyX9 k) := by decide +kernel
def RX10 : String := "GeodesicCutter"
def TX10 : u_T := fun k => match k with
  | 0 => ("GeodesicCutter", "hubs", "LGeodesicCutter$Hubs;", true)
  | 1 => ("GeodesicCutter", "struts", "LGeodesicCutter$Struts;", true)
  | 2 => ("GeodesicCutter", "kinds", "LGeodesicCutter$Kinds;", true)
  | 3 => ("GeodesicCutter", "faces", "LGeodesicCutter$Faces;", true)
  | 4 => ("GeodesicCutter", "now", "LGeodesicCutter$State;", true)
  | 5 => ("GeodesicCutter", "history", "LGeodesicCutter$History;", true)
  | 6 => ("GeodesicCutter", "walk", "LGeodesicCutter$Walk;", true)
  | 7 => ("GeodesicCutter", "mill", "LGeodesicCutter$Sawmill;", true)
  | 8 => ("GeodesicCutter", "text", "LGeodesicCutter$Text;", true)
  | 9 => ("GeodesicCutter", "listing", "LGeodesicCutter$Listing;", true)
  | _ => ("GeodesicCutter", "closedAt", "[I", true)
def tyX10 : Nat → FieldType := fun k => match k with
  | 0 => .object "GeodesicCutter$Hubs"
  | 1 => .object "GeodesicCutter$Struts"
  | 2 => .object "GeodesicCutter$Kinds"
  | 3 => .object "GeodesicCutter$Faces"
  | 4 => .object "GeodesicCutter$State"
  | 5 => .object "GeodesicCutter$History"
  | 6 => .object "GeodesicCutter$Walk"
  | 7 => .object "GeodesicCutter$Sawmill"
  | 8 => .object "GeodesicCutter$Text"
  | 9 => .object "GeodesicCutter$Listing"
  | _ => .array .int
abbrev wsX100 : List Cond := u_ws RX10 TX10 11
theorem nmX10 : ∀ a, a < 11 → ∀ b, b < 11 → a ≠ b → (TX10 a).2.1 ≠ (TX10 b).2.1 := by decide +kernel
theorem tyX10_ok : ∀ k, k < 11 → parseFieldDescriptor (TX10 k).2.2.1 = some (tyX10 k) := by decide +kernel
def RX11 : String := "GeodesicCutterModel"
def TX11 : u_T := fun k => match k with
  | 0 => ("GeodesicCutterModel", "s", "[I", true)
  | 1 => ("GeodesicCutterModel", "past", "[I", true)
  | 2 => ("GeodesicCutterModel", "pasts", "I", false)
  | 3 => ("GeodesicCutterModel", "text", "[B", true)
  | 4 => ("GeodesicCutterModel", "typed", "I", false)
  | 5 => ("GeodesicCutterModel", "laid", "I", false)
  | 6 => ("GeodesicCutterModel", "hubs", "I", false)
  | 7 => ("GeodesicCutterModel", "struts", "I", false)
  | 8 => ("GeodesicCutterModel", "faces", "I", false)
  | 9 => ("GeodesicCutterModel", "kinds", "I", false)
  | 10 => ("GeodesicCutterModel", "x", "[I", true)
  | 11 => ("GeodesicCutterModel", "y", "[I", true)
  | 12 => ("GeodesicCutterModel", "z", "[I", true)
  | 13 => ("GeodesicCutterModel", "one", "[I", true)
  | 14 => ("GeodesicCutterModel", "other", "[I", true)
  | 15 => ("GeodesicCutterModel", "kindOf", "[I", true)
  | 16 => ("GeodesicCutterModel", "upper", "[I", true)
  | 17 => ("GeodesicCutterModel", "lower", "[I", true)
  | 18 => ("GeodesicCutterModel", "between", "[I", true)
  | 19 => ("GeodesicCutterModel", "corner", "[I", true)
  | 20 => ("GeodesicCutterModel", "length", "[I", true)
  | 21 => ("GeodesicCutterModel", "far", "[I", true)
  | 22 => ("GeodesicCutterModel", "bars", "I", false)
  | 23 => ("GeodesicCutterModel", "left", "[I", true)
  | 24 => ("GeodesicCutterModel", "many", "[I", true)
  | 25 => ("GeodesicCutterModel", "barOf", "[I", true)
  | 26 => ("GeodesicCutterModel", "at", "I", false)
  | 27 => ("GeodesicCutterModel", "first", "I", false)
  | 28 => ("GeodesicCutterModel", "second", "I", false)
  | 29 => ("GeodesicCutterModel", "why", "I", false)
  | 30 => ("GeodesicCutterModel", "told", "I", false)
  | _ => ("GeodesicCutterModel", "isTold", "[Z", true)
def tyX11 : Nat → FieldType := fun k => match k with
  | 0 => .array .int
  | 1 => .array .int
  | 2 => .int
  | 3 => .array .byte
  | 4 => .int
  | 5 => .int
  | 6 => .int
  | 7 => .int
  | 8 => .int
  | 9 => .int
  | 10 => .array .int
  | 11 => .array .int
  | 12 => .array .int
  | 13 => .array .int
  | 14 => .array .int
  | 15 => .array .int
  | 16 => .array .int
  | 17 => .array .int
  | 18 => .array .int
  | 19 => .array .int
  | 20 => .array .int
  | 21 => .array .int
  | 22 => .int
  | 23 => .array .int
  | 24 => .array .int
  | 25 => .array .int
  | 26 => .int
  | 27 => .int
  | 28 => .int
  | 29 => .int
  | 30 => .int
  | _ => .array .boolean
abbrev wsX110 : List Cond := u_ws RX11 TX11 32
theorem nmX11 : ∀ a, a < 32 → ∀ b, b < 32 → a ≠ b → (TX11 a).2.1 ≠ (TX11 b).2.1 := by decide +kernel
theorem tyX11_ok : ∀ k, k < 32 → parseFieldDescriptor (TX11 k).2.2.1 = some (tyX11 k) := by decide +kernel
abbrev vwCl : List vw_C := [(RX0, TX0, 3), (RX1, TX1, 2), (RX2, TX2, 5), (RX3, TX3, 8), (RX4, TX4, 4), (RX5, TX5, 8), (RX6, TX6, 7), (RX7, TX7, 6), (RX8, TX8, 5), (RX9, TX9, 3), (RX10, TX10, 11), (RX11, TX11, 32)]
/-- the owners of the constant pools, by number -/
def pm_on : List String := ["GeodesicCutter$Faces", "GeodesicCutter$History", "GeodesicCutter$Hubs", "GeodesicCutter$Kinds", "GeodesicCutter$Listing", "GeodesicCutter$Sawmill", "GeodesicCutter$State", "GeodesicCutter$Struts", "GeodesicCutter$Text", "GeodesicCutter$Walk", "GeodesicCutter", "GeodesicCutterModel", "java/lang/Integer", "java/util/Arrays", "java/lang/Math", "GeodesicCutterLaw"]
/-- the methods: name, code, locals, answer, owner, frames, words of locals, parameters (the receiver included) -/
def pm_mt0 : List (MethodName × ByteArray × Nat × Option FieldType × Nat × Nat × Nat × Nat) := [(⟨"GeodesicCutter$Faces", "<init>", "()V"⟩, prog_2_method_1_code, 1, none, 0, 1, 20, 1),
  (⟨"GeodesicCutter$Faces", "build", "(LGeodesicCutter$Hubs;LGeodesicCutter$Struts;)V"⟩, prog_2_method_2_code, 6, none, 0, 2, 50, 3),
  (⟨"GeodesicCutter$Faces", "addBetween", "(LGeodesicCutter$Struts;III)V"⟩, prog_2_method_3_code, 8, none, 0, 1, 23, 5),
  (⟨"GeodesicCutter$History", "<init>", "()V"⟩, prog_3_method_1_code, 2, none, 1, 2, 40, 1),
  (⟨"GeodesicCutter$History", "store", "(LGeodesicCutter$State;)V"⟩, prog_3_method_2_code, 2, none, 1, 2, 61, 2),
  (⟨"GeodesicCutter$History", "dropOldest", "()V"⟩, prog_3_method_3_code, 3, none, 1, 0, 0, 1),
  (⟨"GeodesicCutter$History", "restore", "(LGeodesicCutter$State;)Z"⟩, prog_3_method_4_code, 2, some .boolean, 1, 2, 61, 2),
  (⟨"GeodesicCutter$Hubs", "<init>", "()V"⟩, prog_4_method_1_code, 1, none, 2, 1, 20, 1),
  (⟨"GeodesicCutter$Hubs", "build", "(I)V"⟩, prog_4_method_2_code, 6, none, 2, 1, 23, 2),
  (⟨"GeodesicCutter$Hubs", "add", "(III)V"⟩, prog_4_method_3_code, 4, none, 2, 0, 0, 4),
  (⟨"GeodesicCutter$Hubs", "find", "(III)I"⟩, prog_4_method_4_code, 5, some .int, 2, 0, 0, 4),
  (⟨"GeodesicCutter$Hubs", "product", "(II)I"⟩, prog_4_method_5_code, 3, some .int, 2, 0, 0, 3),
  (⟨"GeodesicCutter$Hubs", "areNeighbours", "(II)Z"⟩, prog_4_method_6_code, 6, some .boolean, 2, 2, 41, 3),
  (⟨"GeodesicCutter$Hubs", "gap", "(II)I"⟩, prog_4_method_7_code, 2, some .int, 2, 1, 20, 2),
  (⟨"GeodesicCutter$Hubs", "countAlike", "(I)I"⟩, prog_4_method_8_code, 4, some .int, 2, 2, 42, 2),
  (⟨"GeodesicCutter$Hubs", "greatest", "(I)I"⟩, prog_4_method_9_code, 2, some .int, 2, 1, 21, 2),
  (⟨"GeodesicCutter$Hubs", "least", "(I)I"⟩, prog_4_method_10_code, 2, some .int, 2, 1, 21, 2),
  (⟨"GeodesicCutter$Kinds", "<init>", "()V"⟩, prog_5_method_1_code, 1, none, 3, 1, 20, 1),
  (⟨"GeodesicCutter$Kinds", "build", "(LGeodesicCutter$Hubs;LGeodesicCutter$Struts;)V"⟩, prog_5_method_2_code, 6, none, 3, 4, 92, 3),
  (⟨"GeodesicCutter$Kinds", "placeOf", "(II)I"⟩, prog_5_method_3_code, 4, some .int, 3, 2, 44, 3),
  (⟨"GeodesicCutter$Kinds", "compareWithKind", "(III)I"⟩, prog_5_method_4_code, 4, some .int, 3, 1, 21, 4),
  (⟨"GeodesicCutter$Kinds", "include", "(II)V"⟩, prog_5_method_5_code, 6, none, 3, 3, 67, 3),
  (⟨"GeodesicCutter$Kinds", "sortForSawing", "()V"⟩, prog_5_method_6_code, 4, none, 3, 0, 0, 1),
  (⟨"GeodesicCutter$Kinds", "lowestStrut", "(I)I"⟩, prog_5_method_7_code, 3, some .int, 3, 0, 0, 2),
  (⟨"GeodesicCutter$Kinds", "lengthOf", "(II)I"⟩, prog_5_method_8_code, 5, some .int, 3, 1, 27, 3),
  (⟨"GeodesicCutter$Kinds", "reaches", "(III)Z"⟩, prog_5_method_9_code, 8, some .boolean, 3, 0, 0, 4),
  (⟨"GeodesicCutter$Listing", "<init>", "()V"⟩, prog_6_method_1_code, 1, none, 4, 1, 20, 1),
  (⟨"GeodesicCutter$Listing", "empty", "()V"⟩, prog_6_method_2_code, 1, none, 4, 0, 0, 1),
  (⟨"GeodesicCutter$Listing", "add", "(I)Z"⟩, prog_6_method_3_code, 3, some .boolean, 4, 0, 0, 2),
  (⟨"GeodesicCutter$Sawmill", "<init>", "()V"⟩, prog_7_method_1_code, 1, none, 5, 1, 20, 1),
  (⟨"GeodesicCutter$Sawmill", "empty", "()V"⟩, prog_7_method_2_code, 1, none, 5, 0, 0, 1),
  (⟨"GeodesicCutter$Sawmill", "add", "(II)V"⟩, prog_7_method_3_code, 3, none, 5, 0, 0, 3),
  (⟨"GeodesicCutter$Sawmill", "measure", "(LGeodesicCutter$Kinds;I)V"⟩, prog_7_method_4_code, 4, none, 5, 2, 51, 3),
  (⟨"GeodesicCutter$Sawmill", "areEnough", "(III)Z"⟩, prog_7_method_5_code, 4, some .boolean, 5, 2, 48, 4),
  (⟨"GeodesicCutter$Sawmill", "sawInto", "(III)Z"⟩, prog_7_method_6_code, 7, some .boolean, 5, 1, 22, 4),
  (⟨"GeodesicCutter$Sawmill", "beginBar", "(II)Z"⟩, prog_7_method_7_code, 3, some .boolean, 5, 0, 0, 3),
  (⟨"GeodesicCutter$Sawmill", "sumLengths", "()I"⟩, prog_7_method_8_code, 3, some .int, 5, 0, 0, 1),
  (⟨"GeodesicCutter$Sawmill", "sumLeft", "()I"⟩, prog_7_method_9_code, 3, some .int, 5, 0, 0, 1),
  (⟨"GeodesicCutter$Sawmill", "mostPieces", "()I"⟩, prog_7_method_10_code, 3, some .int, 5, 1, 21, 1),
  (⟨"GeodesicCutter$State", "<init>", "()V"⟩, prog_8_method_1_code, 1, none, 6, 1, 20, 1)]
def pm_mt1 : List (MethodName × ByteArray × Nat × Option FieldType × Nat × Nat × Nat × Nat) := [(⟨"GeodesicCutter$State", "copyFrom", "(LGeodesicCutter$State;)V"⟩, prog_8_method_2_code, 2, none, 6, 1, 40, 2),
  (⟨"GeodesicCutter$State", "miss", "(I)V"⟩, prog_8_method_3_code, 2, none, 6, 0, 0, 2),
  (⟨"GeodesicCutter$State", "putBack", "(I)V"⟩, prog_8_method_4_code, 2, none, 6, 0, 0, 2),
  (⟨"GeodesicCutter$State", "putAllBack", "()V"⟩, prog_8_method_5_code, 2, none, 6, 0, 0, 1),
  (⟨"GeodesicCutter$Struts", "<init>", "()V"⟩, prog_9_method_1_code, 1, none, 7, 1, 20, 1),
  (⟨"GeodesicCutter$Struts", "build", "(LGeodesicCutter$Hubs;)V"⟩, prog_9_method_2_code, 4, none, 7, 3, 66, 2),
  (⟨"GeodesicCutter$Struts", "add", "(II)V"⟩, prog_9_method_3_code, 3, none, 7, 1, 23, 3),
  (⟨"GeodesicCutter$Struts", "link", "(II)V"⟩, prog_9_method_4_code, 4, none, 7, 0, 0, 3),
  (⟨"GeodesicCutter$Struts", "between", "(II)I"⟩, prog_9_method_5_code, 4, some .int, 7, 0, 0, 3),
  (⟨"GeodesicCutter$Text", "<init>", "()V"⟩, prog_10_method_1_code, 1, none, 8, 1, 20, 1),
  (⟨"GeodesicCutter$Text", "append", "(C)Z"⟩, prog_10_method_2_code, 2, some .boolean, 8, 0, 0, 2),
  (⟨"GeodesicCutter$Text", "readPair", "()Z"⟩, prog_10_method_3_code, 1, some .boolean, 8, 2, 42, 1),
  (⟨"GeodesicCutter$Text", "readNumber", "()I"⟩, prog_10_method_4_code, 3, some .int, 8, 1, 20, 1),
  (⟨"GeodesicCutter$Text", "isAtDigit", "()Z"⟩, prog_10_method_5_code, 1, some .boolean, 8, 0, 0, 1),
  (⟨"GeodesicCutter$Text", "readSign", "(C)Z"⟩, prog_10_method_6_code, 2, some .boolean, 8, 0, 0, 2),
  (⟨"GeodesicCutter$Walk", "<init>", "()V"⟩, prog_11_method_1_code, 1, none, 9, 1, 20, 1),
  (⟨"GeodesicCutter$Walk", "begin", "(I)V"⟩, prog_11_method_2_code, 2, none, 9, 1, 23, 2),
  (⟨"GeodesicCutter$Walk", "reach", "(II)V"⟩, prog_11_method_3_code, 3, none, 9, 0, 0, 3),
  (⟨"GeodesicCutter", "<init>", "()V"⟩, prog_1_method_1_code, 1, none, 10, 6, 137, 1),
  (⟨"GeodesicCutter", "split", "(I)I"⟩, prog_1_method_2_code, 2, some .int, 10, 6, 137, 2),
  (⟨"GeodesicCutter", "setRadius", "(I)I"⟩, prog_1_method_3_code, 3, some .int, 10, 3, 82, 2),
  (⟨"GeodesicCutter", "cutAt", "(I)I"⟩, prog_1_method_4_code, 2, some .int, 10, 3, 82, 2),
  (⟨"GeodesicCutter", "setStock", "(II)I"⟩, prog_1_method_5_code, 3, some .int, 10, 4, 96, 3),
  (⟨"GeodesicCutter", "count", "(I)I"⟩, prog_1_method_6_code, 2, some .int, 10, 4, 85, 2),
  (⟨"GeodesicCutter", "undo", "()I"⟩, prog_1_method_7_code, 1, some .int, 10, 6, 137, 1),
  (⟨"GeodesicCutter", "hub", "(II)I"⟩, prog_1_method_8_code, 3, some .int, 10, 3, 66, 3),
  (⟨"GeodesicCutter", "hubAt", "(III)I"⟩, prog_1_method_9_code, 5, some .int, 10, 2, 42, 4),
  (⟨"GeodesicCutter", "joined", "(II)I"⟩, prog_1_method_10_code, 3, some .int, 10, 2, 43, 3),
  (⟨"GeodesicCutter", "led", "(II)I"⟩, prog_1_method_11_code, 6, some .int, 10, 2, 43, 3),
  (⟨"GeodesicCutter", "way", "(II)I"⟩, prog_1_method_12_code, 4, some .int, 10, 3, 69, 3),
  (⟨"GeodesicCutter", "strut", "(II)I"⟩, prog_1_method_13_code, 4, some .int, 10, 2, 43, 3),
  (⟨"GeodesicCutter", "strutOf", "(II)I"⟩, prog_1_method_14_code, 3, some .int, 10, 5, 117, 3),
  (⟨"GeodesicCutter", "kind", "(II)I"⟩, prog_1_method_15_code, 3, some .int, 10, 3, 67, 3),
  (⟨"GeodesicCutter", "face", "(II)I"⟩, prog_1_method_16_code, 3, some .int, 10, 3, 74, 3),
  (⟨"GeodesicCutter", "lose", "(I)I"⟩, prog_1_method_17_code, 3, some .int, 10, 5, 105, 2),
  (⟨"GeodesicCutter", "put", "(I)I"⟩, prog_1_method_18_code, 2, some .int, 10, 5, 105, 2),
  (⟨"GeodesicCutter", "mend", "()I"⟩, prog_1_method_19_code, 2, some .int, 10, 3, 82, 1),
  (⟨"GeodesicCutter", "worst", "()I"⟩, prog_1_method_20_code, 3, some .int, 10, 4, 84, 1),
  (⟨"GeodesicCutter", "stock", "(I)I"⟩, prog_1_method_21_code, 2, some .int, 10, 4, 96, 2),
  (⟨"GeodesicCutter", "radiusFor", "(I)I"⟩, prog_1_method_22_code, 3, some .int, 10, 3, 74, 2)]
def pm_mt2 : List (MethodName × ByteArray × Nat × Option FieldType × Nat × Nat × Nat × Nat) := [(⟨"GeodesicCutter", "type", "(I)I"⟩, prog_1_method_23_code, 2, some .int, 10, 1, 22, 2),
  (⟨"GeodesicCutter", "clearText", "()I"⟩, prog_1_method_24_code, 2, some .int, 10, 0, 0, 1),
  (⟨"GeodesicCutter", "fault", "(I)I"⟩, prog_1_method_25_code, 2, some .int, 10, 5, 106, 2),
  (⟨"GeodesicCutter", "loseAll", "()I"⟩, prog_1_method_26_code, 2, some .int, 10, 5, 106, 1),
  (⟨"GeodesicCutter", "isWithin", "(III)Z"⟩, prog_1_method_27_code, 3, some .boolean, 10, 0, 0, 3),
  (⟨"GeodesicCutter", "isCoordinate", "(I)Z"⟩, prog_1_method_28_code, 1, some .boolean, 10, 1, 22, 1),
  (⟨"GeodesicCutter", "isHub", "(I)Z"⟩, prog_1_method_29_code, 2, some .boolean, 10, 1, 22, 2),
  (⟨"GeodesicCutter", "isStrut", "(I)Z"⟩, prog_1_method_30_code, 2, some .boolean, 10, 1, 22, 2),
  (⟨"GeodesicCutter", "buildBall", "()V"⟩, prog_1_method_31_code, 1, none, 10, 5, 117, 1),
  (⟨"GeodesicCutter", "isKeptHub", "(I)Z"⟩, prog_1_method_32_code, 2, some .boolean, 10, 0, 0, 2),
  (⟨"GeodesicCutter", "isKeptStrut", "(I)Z"⟩, prog_1_method_33_code, 2, some .boolean, 10, 1, 21, 2),
  (⟨"GeodesicCutter", "isKeptFace", "(I)Z"⟩, prog_1_method_34_code, 2, some .boolean, 10, 1, 21, 2),
  (⟨"GeodesicCutter", "isClosedFace", "(I)Z"⟩, prog_1_method_35_code, 2, some .boolean, 10, 2, 42, 2),
  (⟨"GeodesicCutter", "isBorderHub", "(I)Z"⟩, prog_1_method_36_code, 3, some .boolean, 10, 1, 21, 2),
  (⟨"GeodesicCutter", "degreeOf", "(I)I"⟩, prog_1_method_37_code, 5, some .int, 10, 2, 42, 2),
  (⟨"GeodesicCutter", "countKeptHubs", "()I"⟩, prog_1_method_38_code, 3, some .int, 10, 1, 21, 1),
  (⟨"GeodesicCutter", "countBorderHubs", "()I"⟩, prog_1_method_39_code, 3, some .int, 10, 2, 43, 1),
  (⟨"GeodesicCutter", "countKeptStruts", "()I"⟩, prog_1_method_40_code, 3, some .int, 10, 2, 42, 1),
  (⟨"GeodesicCutter", "countKeptMissing", "()I"⟩, prog_1_method_41_code, 3, some .int, 10, 2, 42, 1),
  (⟨"GeodesicCutter", "countKeptFaces", "()I"⟩, prog_1_method_42_code, 3, some .int, 10, 2, 42, 1),
  (⟨"GeodesicCutter", "countHoles", "()I"⟩, prog_1_method_43_code, 3, some .int, 10, 3, 63, 1),
  (⟨"GeodesicCutter", "countOfKind", "(IZZ)I"⟩, prog_1_method_44_code, 6, some .int, 10, 2, 42, 4),
  (⟨"GeodesicCutter", "countKindsOfFace", "(I)I"⟩, prog_1_method_45_code, 6, some .int, 10, 0, 0, 2),
  (⟨"GeodesicCutter", "sumLengthsOfFace", "(I)I"⟩, prog_1_method_46_code, 4, some .int, 10, 2, 51, 2),
  (⟨"GeodesicCutter", "tallyClosedFaces", "()V"⟩, prog_1_method_47_code, 2, none, 10, 3, 63, 1),
  (⟨"GeodesicCutter", "countClosedFacesAt", "(I)I"⟩, prog_1_method_48_code, 2, some .int, 10, 4, 84, 2),
  (⟨"GeodesicCutter", "walkFrom", "(I)V"⟩, prog_1_method_49_code, 6, none, 10, 2, 44, 2),
  (⟨"GeodesicCutter", "loadMill", "()V"⟩, prog_1_method_50_code, 3, none, 10, 2, 42, 1),
  (⟨"GeodesicCutter", "sawKeptStruts", "(II)Z"⟩, prog_1_method_51_code, 3, some .boolean, 10, 3, 74, 3),
  (⟨"GeodesicCutter", "barOf", "(I)I"⟩, prog_1_method_52_code, 2, some .int, 10, 4, 96, 2),
  (⟨"GeodesicCutter", "readText", "()V"⟩, prog_1_method_53_code, 4, none, 10, 4, 83, 1),
  (⟨"GeodesicCutter", "readListedStrut", "()I"⟩, prog_1_method_54_code, 2, some .int, 10, 3, 62, 1),
  (⟨"GeodesicCutterModel", "<init>", "()V"⟩, prog_13_method_1_code, 1, none, 11, 5, 108, 1),
  (⟨"GeodesicCutterModel", "in", "(III)Z"⟩, prog_13_method_3_code, 3, some .boolean, 11, 0, 0, 3),
  (⟨"GeodesicCutterModel", "size", "(I)I"⟩, prog_13_method_4_code, 1, some .int, 11, 0, 0, 1),
  (⟨"GeodesicCutterModel", "notes", "()V"⟩, prog_13_method_5_code, 2, none, 11, 0, 0, 1),
  (⟨"GeodesicCutterModel", "undo", "()I"⟩, prog_13_method_6_code, 2, some .int, 11, 5, 108, 1),
  (⟨"GeodesicCutterModel", "laysHubs", "(I)V"⟩, prog_13_method_7_code, 5, none, 11, 1, 20, 2),
  (⟨"GeodesicCutterModel", "differ", "(II)I"⟩, prog_13_method_8_code, 2, some .int, 11, 1, 20, 2),
  (⟨"GeodesicCutterModel", "areJoined", "(II)Z"⟩, prog_13_method_9_code, 6, some .boolean, 11, 2, 41, 3)]
def pm_mt3 : List (MethodName × ByteArray × Nat × Option FieldType × Nat × Nat × Nat × Nat) := [(⟨"GeodesicCutterModel", "own", "(I)I"⟩, prog_13_method_10_code, 2, some .int, 11, 0, 0, 2),
  (⟨"GeodesicCutterModel", "innerOf", "(I)I"⟩, prog_13_method_11_code, 4, some .int, 11, 0, 0, 2),
  (⟨"GeodesicCutterModel", "productOf", "(I)I"⟩, prog_13_method_12_code, 2, some .int, 11, 1, 21, 2),
  (⟨"GeodesicCutterModel", "laysStruts", "()V"⟩, prog_13_method_13_code, 3, none, 11, 3, 66, 1),
  (⟨"GeodesicCutterModel", "laysFaces", "()V"⟩, prog_13_method_14_code, 3, none, 11, 0, 0, 1),
  (⟨"GeodesicCutterModel", "laysKinds", "()V"⟩, prog_13_method_15_code, 6, none, 11, 2, 42, 1),
  (⟨"GeodesicCutterModel", "lays", "()V"⟩, prog_13_method_16_code, 1, none, 11, 4, 88, 1),
  (⟨"GeodesicCutterModel", "measures", "(I)V"⟩, prog_13_method_17_code, 11, none, 11, 0, 0, 2),
  (⟨"GeodesicCutterModel", "split", "(I)I"⟩, prog_13_method_18_code, 2, some .int, 11, 5, 108, 2),
  (⟨"GeodesicCutterModel", "setRadius", "(I)I"⟩, prog_13_method_19_code, 3, some .int, 11, 1, 30, 2),
  (⟨"GeodesicCutterModel", "isKept", "(I)Z"⟩, prog_13_method_20_code, 2, some .boolean, 11, 0, 0, 2),
  (⟨"GeodesicCutterModel", "keptHubs", "()I"⟩, prog_13_method_21_code, 3, some .int, 11, 1, 21, 1),
  (⟨"GeodesicCutterModel", "cutAt", "(I)I"⟩, prog_13_method_22_code, 2, some .int, 11, 2, 43, 2),
  (⟨"GeodesicCutterModel", "setStock", "(II)I"⟩, prog_13_method_23_code, 3, some .int, 11, 3, 65, 3),
  (⟨"GeodesicCutterModel", "hasStrut", "(I)Z"⟩, prog_13_method_24_code, 2, some .boolean, 11, 1, 21, 2),
  (⟨"GeodesicCutterModel", "isMissing", "(I)Z"⟩, prog_13_method_25_code, 2, some .boolean, 11, 0, 0, 2),
  (⟨"GeodesicCutterModel", "hasFace", "(I)Z"⟩, prog_13_method_26_code, 2, some .boolean, 11, 1, 21, 2),
  (⟨"GeodesicCutterModel", "side", "(II)I"⟩, prog_13_method_27_code, 5, some .int, 11, 0, 0, 3),
  (⟨"GeodesicCutterModel", "isHole", "(I)Z"⟩, prog_13_method_28_code, 2, some .boolean, 11, 2, 42, 2),
  (⟨"GeodesicCutterModel", "isBorder", "(I)Z"⟩, prog_13_method_29_code, 4, some .boolean, 11, 1, 21, 2),
  (⟨"GeodesicCutterModel", "strutsOf", "(I)I"⟩, prog_13_method_30_code, 4, some .int, 11, 2, 42, 2),
  (⟨"GeodesicCutterModel", "facesOf", "(Z)I"⟩, prog_13_method_31_code, 4, some .int, 11, 3, 63, 2),
  (⟨"GeodesicCutterModel", "borders", "()I"⟩, prog_13_method_32_code, 3, some .int, 11, 2, 44, 1),
  (⟨"GeodesicCutterModel", "count", "(I)I"⟩, prog_13_method_33_code, 2, some .int, 11, 4, 86, 2),
  (⟨"GeodesicCutterModel", "isHub", "(I)Z"⟩, prog_13_method_34_code, 2, some .boolean, 11, 1, 22, 2),
  (⟨"GeodesicCutterModel", "joinedTo", "(I)I"⟩, prog_13_method_35_code, 4, some .int, 11, 0, 0, 2),
  (⟨"GeodesicCutterModel", "degree", "(I)I"⟩, prog_13_method_36_code, 5, some .int, 11, 2, 42, 2),
  (⟨"GeodesicCutterModel", "alike", "(I)I"⟩, prog_13_method_37_code, 6, some .int, 11, 1, 20, 2),
  (⟨"GeodesicCutterModel", "hub", "(II)I"⟩, prog_13_method_38_code, 3, some .int, 11, 3, 66, 3),
  (⟨"GeodesicCutterModel", "at", "(III)I"⟩, prog_13_method_39_code, 5, some .int, 11, 0, 0, 4),
  (⟨"GeodesicCutterModel", "hubAt", "(III)I"⟩, prog_13_method_40_code, 4, some .int, 11, 1, 24, 4),
  (⟨"GeodesicCutterModel", "joined", "(II)I"⟩, prog_13_method_41_code, 5, some .int, 11, 2, 43, 3),
  (⟨"GeodesicCutterModel", "led", "(II)I"⟩, prog_13_method_42_code, 6, some .int, 11, 2, 43, 3),
  (⟨"GeodesicCutterModel", "way", "(II)I"⟩, prog_13_method_43_code, 5, some .int, 11, 2, 43, 3),
  (⟨"GeodesicCutterModel", "reaches", "(III)V"⟩, prog_13_method_44_code, 4, none, 11, 0, 0, 4),
  (⟨"GeodesicCutterModel", "isStrut", "(I)Z"⟩, prog_13_method_45_code, 2, some .boolean, 11, 1, 22, 2),
  (⟨"GeodesicCutterModel", "strut", "(II)I"⟩, prog_13_method_46_code, 4, some .int, 11, 2, 43, 3),
  (⟨"GeodesicCutterModel", "strutOf", "(II)I"⟩, prog_13_method_47_code, 3, some .int, 11, 4, 86, 3),
  (⟨"GeodesicCutterModel", "barFor", "(I)I"⟩, prog_13_method_48_code, 2, some .int, 11, 3, 65, 2),
  (⟨"GeodesicCutterModel", "kind", "(II)I"⟩, prog_13_method_49_code, 6, some .int, 11, 2, 42, 3)]
def pm_mt4 : List (MethodName × ByteArray × Nat × Option FieldType × Nat × Nat × Nat × Nat) := [(⟨"GeodesicCutterModel", "face", "(II)I"⟩, prog_13_method_50_code, 6, some .int, 11, 3, 63, 3),
  (⟨"GeodesicCutterModel", "closes", "(I)I"⟩, prog_13_method_51_code, 5, some .int, 11, 3, 63, 2),
  (⟨"GeodesicCutterModel", "lose", "(I)I"⟩, prog_13_method_52_code, 3, some .int, 11, 4, 87, 2),
  (⟨"GeodesicCutterModel", "put", "(I)I"⟩, prog_13_method_53_code, 2, some .int, 11, 4, 87, 2),
  (⟨"GeodesicCutterModel", "mends", "()V"⟩, prog_13_method_54_code, 2, none, 11, 0, 0, 1),
  (⟨"GeodesicCutterModel", "mend", "()I"⟩, prog_13_method_55_code, 2, some .int, 11, 3, 65, 1),
  (⟨"GeodesicCutterModel", "worst", "()I"⟩, prog_13_method_56_code, 5, some .int, 11, 4, 87, 1),
  (⟨"GeodesicCutterModel", "longest", "()I"⟩, prog_13_method_57_code, 4, some .int, 11, 2, 42, 1),
  (⟨"GeodesicCutterModel", "allLengths", "()I"⟩, prog_13_method_58_code, 3, some .int, 11, 2, 42, 1),
  (⟨"GeodesicCutterModel", "sawsOne", "(I)V"⟩, prog_13_method_59_code, 5, none, 11, 0, 0, 2),
  (⟨"GeodesicCutterModel", "saws", "(I)V"⟩, prog_13_method_60_code, 4, none, 11, 2, 42, 2),
  (⟨"GeodesicCutterModel", "stock", "(I)I"⟩, prog_13_method_61_code, 5, some .int, 11, 3, 65, 2),
  (⟨"GeodesicCutterModel", "isEnough", "(II)Z"⟩, prog_13_method_62_code, 3, some .boolean, 11, 3, 65, 3),
  (⟨"GeodesicCutterModel", "radiusFor", "(I)I"⟩, prog_13_method_63_code, 3, some .int, 11, 4, 87, 2),
  (⟨"GeodesicCutterModel", "type", "(I)I"⟩, prog_13_method_64_code, 2, some .int, 11, 1, 22, 2),
  (⟨"GeodesicCutterModel", "clearText", "()I"⟩, prog_13_method_65_code, 2, some .int, 11, 0, 0, 1),
  (⟨"GeodesicCutterModel", "number", "()I"⟩, prog_13_method_66_code, 3, some .int, 11, 1, 22, 1),
  (⟨"GeodesicCutterModel", "takes", "(I)Z"⟩, prog_13_method_67_code, 3, some .boolean, 11, 0, 0, 2),
  (⟨"GeodesicCutterModel", "isForm", "()Z"⟩, prog_13_method_68_code, 1, some .boolean, 11, 2, 44, 1),
  (⟨"GeodesicCutterModel", "reason", "()I"⟩, prog_13_method_69_code, 2, some .int, 11, 3, 64, 1),
  (⟨"GeodesicCutterModel", "wrongAt", "()I"⟩, prog_13_method_70_code, 2, some .int, 11, 4, 85, 1),
  (⟨"GeodesicCutterModel", "fault", "(I)I"⟩, prog_13_method_71_code, 3, some .int, 11, 5, 106, 2),
  (⟨"GeodesicCutterModel", "loseAll", "()I"⟩, prog_13_method_72_code, 2, some .int, 11, 5, 106, 1),
  (⟨"java/lang/Integer", "compare", "(II)I"⟩, prog_14_method_40_code, 2, some .int, 12, 0, 0, 2),
  (⟨"java/util/Arrays", "fill", "([II)V"⟩, prog_17_method_103_code, 4, none, 13, 0, 0, 2),
  (⟨"java/lang/Math", "abs", "(I)I"⟩, prog_15_method_59_code, 1, some .int, 14, 0, 0, 1),
  (⟨"java/lang/Math", "max", "(II)I"⟩, prog_15_method_65_code, 2, some .int, 14, 0, 0, 2),
  (⟨"java/lang/Math", "min", "(II)I"⟩, prog_15_method_69_code, 2, some .int, 14, 0, 0, 2)]
def pm_mt : List (MethodName × ByteArray × Nat × Option FieldType × Nat × Nat × Nat × Nat) := pm_mt0 ++ (pm_mt1 ++ (pm_mt2 ++ (pm_mt3 ++ (pm_mt4))))
/-- the cells of the two worlds: an object (its class, its fields: an int, or the cell that it always names) or an array (its type, its length) -/
def pm_sh0 : List ((Nat × List (Option Nat)) ⊕ (Nat × Nat)) := [.inl (10, [some 1, some 5, some 11, some 18, some 21, some 23, some 37, some 40, some 47, some 49, some 51]),
  .inl (2, [some 2, some 3, some 4, none, none]),
  .inr (0, 146),
  .inr (0, 146),
  .inr (0, 146),
  .inl (7, [some 6, some 7, some 8, some 9, some 10, none]),
  .inr (0, 432),
  .inr (0, 432),
  .inr (0, 146),
  .inr (0, 876),
  .inr (0, 876),
  .inl (3, [some 12, some 13, some 14, some 15, some 16, some 17, none, none]),
  .inr (0, 432),
  .inr (0, 432),
  .inr (0, 432),
  .inr (0, 432),
  .inr (0, 16),
  .inr (0, 16),
  .inl (0, [some 19, some 20, none]),
  .inr (0, 864),
  .inr (0, 864),
  .inl (6, [none, none, none, none, none, none, some 22]),
  .inr (2, 432),
  .inl (1, [some 24, none]),
  .inr (4, 6),
  .inl (6, [none, none, none, none, none, none, some 26]),
  .inr (2, 432),
  .inl (6, [none, none, none, none, none, none, some 28]),
  .inr (2, 432),
  .inl (6, [none, none, none, none, none, none, some 30]),
  .inr (2, 432),
  .inl (6, [none, none, none, none, none, none, some 32]),
  .inr (2, 432),
  .inl (6, [none, none, none, none, none, none, some 34]),
  .inr (2, 432),
  .inl (6, [none, none, none, none, none, none, some 36]),
  .inr (2, 432),
  .inl (9, [some 38, some 39, none]),
  .inr (0, 146),
  .inr (0, 146),
  .inl (5, [some 41, some 42, none, some 43, some 44, some 45, some 46, none]),
  .inr (0, 432),
  .inr (0, 432),
  .inr (0, 16),
  .inr (0, 432),
  .inr (0, 432),
  .inr (0, 432),
  .inl (8, [some 48, none, none, none, none]),
  .inr (3, 80),
  .inl (4, [some 50, none, none, none]),
  .inr (0, 20),
  .inr (0, 432)]
def pm_sh1 : List ((Nat × List (Option Nat)) ⊕ (Nat × Nat)) := [.inl (11, [some 1, some 2, none, some 3, none, none, none, none, none, none, some 4, some 5, some 6, some 7, some 8, some 9, some 10, some 11, some 12, some 13, some 14, some 15, none, some 16, some 17, some 18, none, none, none, none, none, some 19]),
  .inr (0, 437),
  .inr (0, 2622),
  .inr (1, 80),
  .inr (0, 146),
  .inr (0, 146),
  .inr (0, 146),
  .inr (0, 432),
  .inr (0, 432),
  .inr (0, 432),
  .inr (0, 432),
  .inr (0, 432),
  .inr (0, 21316),
  .inr (0, 864),
  .inr (0, 432),
  .inr (0, 146),
  .inr (0, 432),
  .inr (0, 432),
  .inr (0, 432),
  .inr (2, 432)]
end
section
/-! THE SYSTEM AS TWO PURE WORLDS. A world's cells are fixed (pm_sh): every object names the same cells for ever; what changes is a memory 'cell, place -> Int32'. pm_P says: from here method number k, with these locals, stack and memory, ends, and its answer and memory hold Q. Its rows (pm_..) turn it at one instruction into itself at the next. -/
abbrev Mem : Type := Nat → Nat → Int32
abbrev pm_D : Type := (Nat × List (Option Nat)) ⊕ (Nat × Nat)
abbrev Lcs : Type := List (Nat × Value)
def pm_z : MethodName × ByteArray × Nat × Option FieldType × Nat × Nat × Nat × Nat := (⟨"", "", ""⟩, code, 0, none, 0, 0, 0, 0)
def pm_q (k : Nat) : MethodName × ByteArray × Nat × Option FieldType × Nat × Nat × Nat × Nat := pm_mt.getD k pm_z
def pm_y (k : Nat) : MethodName := (pm_q k).1
def pm_c (k : Nat) : ByteArray := (pm_q k).2.1
def pm_l (k : Nat) : Nat := (pm_q k).2.2.1
def pm_r (k : Nat) : Option FieldType := (pm_q k).2.2.2.1
def pm_o (k : Nat) : Nat := (pm_q k).2.2.2.2.1
def pm_na (k : Nat) : Nat := (pm_q k).2.2.2.2.2.2.2
def pm_rm (k : Nat) : Room := { frames := (pm_q k).2.2.2.2.2.1, cells := 0, slots := 0, locals := (pm_q k).2.2.2.2.2.2.1 }
def pm_wo (k : Nat) : Nat := if pm_o k = 11 then 1 else 0
def pm_own (n : Nat) : String := pm_on.getD n ""
def pm_sh (w : Nat) : List pm_D := if w = 0 then pm_sh0 else pm_sh1
def pm_W : List Cond := lw_tbl.filter goodWord
def pm_ws (k : Nat) : List Cond := .code (pm_y k) (pm_c k) (pm_l k) (pm_r k) :: pm_W
theorem pm_in {w : Cond} (i : Nat) (h : lw_tbl[i]? = some w) (hg : goodWord w = true) : w ∈ pm_W := List.mem_filter.mpr ⟨List.mem_of_getElem? h, hg⟩
theorem pm_inL (ws : List Cond) (ps : List Nat) (hp : ws = ps.filterMap (fun i => lw_tbl[i]?)) (h : ws.all goodWord = true) : ∀ w ∈ ws, w ∈ pm_W := by
  intro w hw
  have h1 := List.all_eq_true.mp h w hw
  rw [hp] at hw
  obtain ⟨i, -, hi⟩ := List.mem_filterMap.mp hw
  exact List.mem_filter.mpr ⟨List.mem_of_getElem? hi, h1⟩
/-- what the tables say of a method -/
def pm_ok (k : Nat) : Prop := Cond.code (pm_y k) (pm_c k) (pm_l k) (pm_r k) ∈ pm_W ∧ plainName (pm_y k).cls = true ∧ (pm_y k).cls = pm_own (pm_o k) ∧ Cond.initialized (pm_y k).cls ∈ pm_W ∧ (pm_y k).cls ≠ "java/lang/invoke/MethodHandle" ∧ (pm_y k).cls ≠ "java/lang/invoke/VarHandle"
def pm_LV (own idx k : Nat) : Prop := Cond.methodLink (pm_own own) idx (pm_y k) ∈ pm_W ∧ Cond.instanceMethod (pm_y k) ∈ pm_W ∧ Cond.selects (pm_y k).cls (pm_y k) (pm_y k) ∈ pm_W ∧ (parseMethodDescriptor (pm_y k).desc).map (fun d => d.parameters.length + 1) = some (pm_na k)
def pm_LS (own idx k : Nat) : Prop := Cond.methodLink (pm_own own) idx (pm_y k) ∈ pm_W ∧ Cond.static (pm_y k) ∈ pm_W ∧ (parseMethodDescriptor (pm_y k).desc).map (fun d => d.parameters.length) = some (pm_na k)
def pm_LF (own idx ci j : Nat) : Prop := ∃ q : vw_C, vwCl[ci]? = some q ∧ j < q.2.2 ∧ Cond.fieldLink (pm_own own) idx (q.2.1 j).1 (q.2.1 j).2.1 (q.2.1 j).2.2.1 ∈ pm_W
def pm_LP (own idx ci j : Nat) : Prop := ∃ q : vw_C, vwCl[ci]? = some q ∧ j < q.2.2 ∧ Cond.fieldLink (pm_own own) idx (q.2.1 j).1 (q.2.1 j).2.1 (q.2.1 j).2.2.1 ∈ pm_W ∧ (q.2.1 j).2.2.2 = false ∧ (q.2.1 j).2.2.1 = "I"
def pm_LA (own idx : Nat) : Prop := Cond.methodLink (pm_own own) idx arraycopyName ∈ pm_W ∧ Cond.native arraycopyName ∈ pm_W ∧ Cond.static arraycopyName ∈ pm_W ∧ Cond.initialized "java/lang/System" ∈ pm_W
def pm_LL (own idx : Nat) (v : Int64) : Prop := Cond.constantLong (pm_own own) idx v ∈ pm_W
/-- of each class: its fields' words, types, names -/
def pm_cls : Prop := ∀ (ci : Nat) (q : vw_C), vwCl[ci]? = some q → (∀ w ∈ u_ws q.1 q.2.1 q.2.2, w ∈ pm_W) ∧ (∃ ty0 : Nat → FieldType, ∀ k, k < q.2.2 → parseFieldDescriptor (q.2.1 k).2.2.1 = some (ty0 k)) ∧ (∀ a, a < q.2.2 → ∀ b, b < q.2.2 → a ≠ b → (q.2.1 a).2.1 ≠ (q.2.1 b).2.1)
-- values, locals, memory
def tv (ad : Nat → Nat) : Value → Value
  | .ref i => .ref (ad i)
  | v => v
def pm_g : Lcs → Nat → Option Value
  | [], _ => none
  | (j, v) :: t, i => if j = i then some v else pm_g t i
def pm_ins : Lcs → Nat → Value → Lcs
  | [], i, v => [(i, v)]
  | (j, w) :: t, i, v => if j < i then (j, w) :: pm_ins t i v else (i, v) :: (j, w) :: t
def pm_s1 (L : Lcs) (i : Nat) (v : Value) : Lcs := pm_ins (L.filter (fun q => !(q.1 == i) && !(q.1 + 1 == i && q.2.category == 2))) i v
def pm_s2 (L : Lcs) (i : Nat) (v : Value) : Lcs := pm_ins (L.filter (fun q => !(q.1 == i) && (!(q.1 == i + 1) && !(q.1 + 1 == i && q.2.category == 2)))) i v
def pm_ent : Nat → List Value → Lcs
  | _, [] => []
  | i, v :: vs => (i, v) :: pm_ent (i + 1) vs
def mset (A : Mem) (b j : Nat) (v : Int32) : Mem := fun c q => if c = b then (if q = j then v else A c q) else A c q
def pm_fv (ad : Nat → Nat) (a : Nat → Int32) (j : Nat) : Option Nat → Value
  | some t => .ref (ad t)
  | none => .int (a j)
def pm_e (ad : Nat → Nat) (tyc : Nat → ClassId) (a : Nat → Int32) : pm_D → va_E
  | .inl (ci, sl) => .inr (ci, sl.mapIdx (pm_fv ad a))
  | .inr (t, len) => .inl (tyc t, len, if t = 4 then .inr (.inr (.inr (.inr (fun j => some (ad (a j).toNatClampNeg))))) else .inl a)
def pm_w (w : Nat) (ad : Nat → Nat) (tyc : Nat → ClassId) (A : Mem) : va_W := (pm_sh w).mapIdx (fun i d => (ad i, pm_e ad tyc (A i) d))
def pm_A (w : Nat) (ad : Nat → Nat) : Nat → Prop := fun q => ∃ i, i < (pm_sh w).length ∧ q = ad i
def pm_inj (w : Nat) (ad : Nat → Nat) : Prop := ∀ i j, i < (pm_sh w).length → j < (pm_sh w).length → ad i = ad j → i = j
def pm_ts (tyc : Nat → ClassId) : List (ClassId × FieldType) := [(tyc 0, .int), (tyc 1, .byte), (tyc 2, .boolean), (tyc 3, .char), (tyc 4, .object RX6)]
def pm_B (w : Nat) (ad : Nat → Nat) (D : va_G) (tyc : Nat → ClassId) : Mem → State → Prop := fun A t => va_P D vwCl (pm_w w ad tyc A) t.heap ∧ va_K D vwCl (pm_ts tyc) t
def pm_Q (k : Nat) (ad : Nat → Nat) (D : va_G) (tyc : Nat → ClassId) (Q : Int32 → Mem → Prop) : Array Value → State → Outcome → State → Prop := match pm_r k with
  | none => va_Qv (fun A : Mem => Q 0 A) (pm_B (pm_wo k) ad D tyc) (pm_A (pm_wo k) ad)
  | some _ => va_Qi (fun (r : Int32) (A : Mem) => Q r A) (pm_B (pm_wo k) ad D tyc) (pm_A (pm_wo k) ad)
/-- where a method's body stands -/
def pm_C (k : Nat) (p : Program) (s : State) (m : MethodId) (args : Array Value) (meth : Method) (c : Code) (ad : Nat → Nat) (D : va_G) (tyc : Nat → ClassId) : Prop :=
  p.tables.exec = Jvm.exec ∧ c.code = pm_c k ∧ meth.sig.returnType = pm_r k ∧ c.maxLocals = pm_l k ∧ s.vm.findClass (pm_y k).cls = some m.cls ∧ (∀ w ∈ pm_ws k, w.before args s = true) ∧ meth.locks = false ∧ va_K D vwCl (pm_ts tyc) s ∧ pm_inj (pm_wo k) ad ∧ pm_ok k ∧ pm_cls
def pm_P (k pc : Nat) (L : Lcs) (st : List Value) (A : Mem) (Q : Int32 → Mem → Prop) : Prop :=
  ∀ (p : Program) (l : Launch) (e : Env) (s : State) (m : MethodId) (args : Array Value) (below : List Frame) (meth : Method) (c : Code) (ad : Nat → Nat) (D : va_G) (tyc : Nat → ClassId) (H : Heap) (locs : List Loc) (ls : Array Slot),
    pm_C k p s m args meth c ad D tyc → va_P D vwCl (pm_w (pm_wo k) ad tyc A) H → va_S (pm_A (pm_wo k) ad) s.heap H locs → lv_has ls (pm_l k) (L.map (fun q => (q.1, tv ad q.2))) →
    W p l e (pm_rm k) s m args below meth c H locs 0 0 (MQ below (pm_Q k ad D tyc Q) args s 0 0 (pm_A (pm_wo k) ad)) (F0 m pc ls (st.map (tv ad)))
-- words
theorem pm_hts {k : Nat} {args : Array Value} {s : State} (h : ∀ w ∈ pm_ws k, w.before args s = true) {w : Cond} (hw : w ∈ pm_W) : w.before args s = true := h w (List.mem_cons_of_mem _ hw)
theorem pm_good {k : Nat} (k2 : Nat) (hk : pm_ok k2) : GoodIn (pm_ws k) (pm_ws k2) := by
  intro w hw
  have h1 : w ∈ pm_W := by
    rcases List.mem_cons.mp hw with rfl | h
    · exact hk.1
    · exact h
  exact ⟨List.mem_cons_of_mem _ h1, good_of_word (List.mem_filter.mp h1).2⟩
-- the world's list
theorem pm_w_get {w : Nat} {ad : Nat → Nat} {tyc : Nat → ClassId} {A : Mem} {i : Nat} {d : pm_D} (h : (pm_sh w)[i]? = some d) : (pm_w w ad tyc A)[i]? = some (ad i, pm_e ad tyc (A i) d) := by
  simp [pm_w, List.getElem?_mapIdx, h]
theorem pm_w_D {w : Nat} {ad : Nat → Nat} {tyc : Nat → ClassId} {A : Mem} (h : pm_inj w ad) : va_D (pm_A w ad) (pm_w w ad tyc A) := by
  have key : ∀ (i : Nat) (p : Nat × va_E), (pm_w w ad tyc A)[i]? = some p → i < (pm_sh w).length ∧ p.1 = ad i := by
    intro i p hp
    simp only [pm_w, List.getElem?_mapIdx, Option.map_eq_some_iff] at hp
    obtain ⟨d, h1, h2⟩ := hp
    exact ⟨(List.getElem?_eq_some_iff.mp h1).1, by rw [← h2]⟩
  refine ⟨fun i j p q hi hj he => ?_, fun i p hp => ⟨i, (key i p hp).1, (key i p hp).2⟩⟩
  obtain ⟨a1, a2⟩ := key i p hi
  obtain ⟨b1, b2⟩ := key j q hj
  exact h i j a1 b1 (by rw [← a2, ← b2, he])
theorem pm_w_set {w : Nat} {ad : Nat → Nat} {tyc : Nat → ClassId} {A A2 : Mem} {i : Nat} {d : pm_D} {e : va_E} (h : (pm_sh w)[i]? = some d) (he : e = pm_e ad tyc (A2 i) d) (ho : ∀ c, c ≠ i → A2 c = A c) : (pm_w w ad tyc A).set i (ad i, e) = pm_w w ad tyc A2 := by
  apply List.ext_getElem?
  intro j
  rw [List.getElem?_set]
  by_cases hj : i = j
  · subst hj
    have hl : i < (pm_w w ad tyc A).length := by simp [pm_w]; exact (List.getElem?_eq_some_iff.mp h).1
    rw [if_pos rfl, if_pos hl, pm_w_get h, he]
  · rw [if_neg hj]
    simp only [pm_w, List.getElem?_mapIdx]
    rw [ho j (fun q => hj q.symm)]
theorem mset_other {A : Mem} {b j : Nat} {v : Int32} {c : Nat} (h : c ≠ b) : mset A b j v c = A c := by
  funext q
  simp [mset, h]
theorem mset_row (A : Mem) (b j : Nat) (v : Int32) : mset A b j v b = upd (A b) j v := by
  funext q
  simp [mset, upd]
theorem mset_get (A : Mem) (b j : Nat) (v : Int32) (c q : Nat) : mset A b j v c q = if c = b ∧ q = j then v else A c q := by
  by_cases h1 : c = b <;> by_cases h2 : q = j <;> simp [mset, h1, h2]
-- locals
theorem pm_g_mem {L : Lcs} {i : Nat} {v : Value} (h : pm_g L i = some v) : (i, v) ∈ L := by
  induction L with
  | nil => cases h
  | cons q t ih =>
    obtain ⟨j, w⟩ := q
    simp only [pm_g] at h
    by_cases hj : j = i
    · subst hj
      rw [if_pos rfl] at h
      cases h
      exact List.mem_cons_self
    · rw [if_neg hj] at h
      exact List.mem_cons_of_mem _ (ih h)
theorem pm_ins_mem {L : Lcs} {i : Nat} {v : Value} {q : Nat × Value} (h : q ∈ pm_ins L i v) : q = (i, v) ∨ q ∈ L := by
  induction L with
  | nil => simpa [pm_ins] using h
  | cons p t ih =>
    obtain ⟨j, w⟩ := p
    simp only [pm_ins] at h
    by_cases hj : j < i
    · rw [if_pos hj] at h
      rcases List.mem_cons.mp h with h | h
      · exact Or.inr (h ▸ List.mem_cons_self)
      · rcases ih h with h | h
        · exact Or.inl h
        · exact Or.inr (List.mem_cons_of_mem _ h)
    · rw [if_neg hj] at h
      rcases List.mem_cons.mp h with h | h
      · exact Or.inl h
      · exact Or.inr h
theorem tv_cat (ad : Nat → Nat) (v : Value) : (tv ad v).category = v.category := by cases v <;> rfl
theorem pm_read {ad : Nat → Nat} {ls : Array Slot} {n : Nat} {L : Lcs} (h : lv_has ls n (L.map (fun q => (q.1, tv ad q.2)))) {i : Nat} {v : Value} (hv : pm_g L i = some v) : ls[i]? = some (.val (tv ad v)) :=
  h.2.2 (i, tv ad v) (List.mem_map.mpr ⟨(i, v), pm_g_mem hv, rfl⟩)
theorem pm_has_sub {ls : Array Slot} {n : Nat} {l l' : List (Nat × Value)} (h : lv_has ls n l) (hs : ∀ q ∈ l', q ∈ l) : lv_has ls n l' := ⟨h.1, h.2.1, fun q hq => h.2.2 q (hs q hq)⟩
theorem pm_st1 {ad : Nat → Nat} {ls : Array Slot} {n i : Nat} {L : Lcs} {v : Value} (h : lv_has ls n ((i, tv ad v) :: (L.map (fun q => (q.1, tv ad q.2))).filter (fun q => !(q.1 == i) && !(q.1 + 1 == i && q.2.category == 2)))) : lv_has ls n ((pm_s1 L i v).map (fun q => (q.1, tv ad q.2))) := by
  refine pm_has_sub h fun q hq => ?_
  obtain ⟨r, hr, rfl⟩ := List.mem_map.mp hq
  rcases pm_ins_mem hr with rfl | hr
  · exact List.mem_cons_self
  · obtain ⟨h1, h2⟩ := List.mem_filter.mp hr
    refine List.mem_cons_of_mem _ (List.mem_filter.mpr ⟨List.mem_map.mpr ⟨r, h1, rfl⟩, ?_⟩)
    simp only [tv_cat]
    exact h2
theorem pm_st2 {ad : Nat → Nat} {ls : Array Slot} {n i : Nat} {L : Lcs} {v : Value} (h : lv_has ls n ((i, tv ad v) :: (L.map (fun q => (q.1, tv ad q.2))).filter (fun q => !(q.1 == i) && (!(q.1 == i + 1) && !(q.1 + 1 == i && q.2.category == 2))))) : lv_has ls n ((pm_s2 L i v).map (fun q => (q.1, tv ad q.2))) := by
  refine pm_has_sub h fun q hq => ?_
  obtain ⟨r, hr, rfl⟩ := List.mem_map.mp hq
  rcases pm_ins_mem hr with rfl | hr
  · exact List.mem_cons_self
  · obtain ⟨h1, h2⟩ := List.mem_filter.mp hr
    refine List.mem_cons_of_mem _ (List.mem_filter.mpr ⟨List.mem_map.mpr ⟨r, h1, rfl⟩, ?_⟩)
    simp only [tv_cat]
    exact h2
end
section
section PMR
variable {k pc : Nat} {L : Lcs} {st : List Value} {A : Mem} {Q : Int32 → Mem → Prop}
theorem pm_iconst {n : Int} {v : Int32} (hd : decode (pm_c k) pc = .ok (.iconst n, 1)) (hv : Int32.ofInt n = v) (h : pm_P k (pc + 1) L (.int v :: st) A Q) : pm_P k pc L st A Q := by
  intro p l e s m args below meth c ad D tyc H locs ls C hP hS hL
  exact lv_iconst C.1 C.2.1 hd hv (h p l e s m args below meth c ad D tyc H locs ls C hP hS hL)
theorem pm_bipush {n : Int} {v : Int32} (hd : decode (pm_c k) pc = .ok (.bipush n, 2)) (hv : (Int8.ofInt n).toInt32 = v) (h : pm_P k (pc + 2) L (.int v :: st) A Q) : pm_P k pc L st A Q := by
  intro p l e s m args below meth c ad D tyc H locs ls C hP hS hL
  exact lv_bipush C.1 C.2.1 hd hv (h p l e s m args below meth c ad D tyc H locs ls C hP hS hL)
theorem pm_sipush {n : Int} {v : Int32} (hd : decode (pm_c k) pc = .ok (.sipush n, 3)) (hv : (Int16.ofInt n).toInt32 = v) (h : pm_P k (pc + 3) L (.int v :: st) A Q) : pm_P k pc L st A Q := by
  intro p l e s m args below meth c ad D tyc H locs ls C hP hS hL
  exact lv_sipush C.1 C.2.1 hd hv (h p l e s m args below meth c ad D tyc H locs ls C hP hS hL)
theorem pm_lconst {n : Fin 2} {v : Int64} (hd : decode (pm_c k) pc = .ok (.lconst n, 1)) (hv : Int64.ofNat (n : Nat) = v) (h : pm_P k (pc + 1) L (.long v :: st) A Q) : pm_P k pc L st A Q := by
  intro p l e s m args below meth c ad D tyc H locs ls C hP hS hL
  exact lv_lconst C.1 C.2.1 hd hv (h p l e s m args below meth c ad D tyc H locs ls C hP hS hL)
theorem pm_iload_n {j : Fin 4} {i : Nat} {x : Int32} (hd : decode (pm_c k) pc = .ok (.iload_n j, 1)) (hi : (j : Nat) = i) (hl : pm_g L i = some (.int x)) (h : pm_P k (pc + 1) L (.int x :: st) A Q) : pm_P k pc L st A Q := by
  intro p l e s m args below meth c ad D tyc H locs ls C hP hS hL
  exact lv_iload_n C.1 C.2.1 hd hi (pm_read hL hl) (h p l e s m args below meth c ad D tyc H locs ls C hP hS hL)
theorem pm_iload {i : Nat} {x : Int32} (hd : decode (pm_c k) pc = .ok (.iload i, 2)) (hl : pm_g L i = some (.int x)) (h : pm_P k (pc + 2) L (.int x :: st) A Q) : pm_P k pc L st A Q := by
  intro p l e s m args below meth c ad D tyc H locs ls C hP hS hL
  exact lv_iload C.1 C.2.1 hd (pm_read hL hl) (h p l e s m args below meth c ad D tyc H locs ls C hP hS hL)
theorem pm_lload_n {j : Fin 4} {i : Nat} {x : Int64} (hd : decode (pm_c k) pc = .ok (.lload_n j, 1)) (hi : (j : Nat) = i) (hl : pm_g L i = some (.long x)) (h : pm_P k (pc + 1) L (.long x :: st) A Q) : pm_P k pc L st A Q := by
  intro p l e s m args below meth c ad D tyc H locs ls C hP hS hL
  exact lv_lload_n C.1 C.2.1 hd hi (pm_read hL hl) (h p l e s m args below meth c ad D tyc H locs ls C hP hS hL)
theorem pm_lload {i : Nat} {x : Int64} (hd : decode (pm_c k) pc = .ok (.lload i, 2)) (hl : pm_g L i = some (.long x)) (h : pm_P k (pc + 2) L (.long x :: st) A Q) : pm_P k pc L st A Q := by
  intro p l e s m args below meth c ad D tyc H locs ls C hP hS hL
  exact lv_lload C.1 C.2.1 hd (pm_read hL hl) (h p l e s m args below meth c ad D tyc H locs ls C hP hS hL)
theorem pm_aload_n {j : Fin 4} {i : Nat} {x : Nat} (hd : decode (pm_c k) pc = .ok (.aload_n j, 1)) (hi : (j : Nat) = i) (hl : pm_g L i = some (.ref x)) (h : pm_P k (pc + 1) L (.ref x :: st) A Q) : pm_P k pc L st A Q := by
  intro p l e s m args below meth c ad D tyc H locs ls C hP hS hL
  exact lv_aload_n C.1 C.2.1 hd hi (pm_read hL hl) (h p l e s m args below meth c ad D tyc H locs ls C hP hS hL)
theorem pm_istore_n {j : Fin 4} {i : Nat} {x : Int32} {L2 : Lcs} (hd : decode (pm_c k) pc = .ok (.istore_n j, 1)) (hi : (j : Nat) = i) (hn : i < pm_l k) (hs : pm_s1 L i (.int x) = L2) (h : pm_P k (pc + 1) L2 st A Q) : pm_P k pc L (.int x :: st) A Q := by
  intro p l e s m args below meth c ad D tyc H locs ls C hP hS hL
  subst hs
  exact lv_istore_n C.1 C.2.1 hd hi hL hn rfl (fun ls2 hL2 => (h p l e s m args below meth c ad D tyc H locs ls2 C hP hS (pm_st1 hL2)))
theorem pm_istore {i : Nat} {x : Int32} {L2 : Lcs} (hd : decode (pm_c k) pc = .ok (.istore i, 2)) (hn : i < pm_l k) (hs : pm_s1 L i (.int x) = L2) (h : pm_P k (pc + 2) L2 st A Q) : pm_P k pc L (.int x :: st) A Q := by
  intro p l e s m args below meth c ad D tyc H locs ls C hP hS hL
  subst hs
  exact lv_istore C.1 C.2.1 hd hL hn rfl (fun ls2 hL2 => (h p l e s m args below meth c ad D tyc H locs ls2 C hP hS (pm_st1 hL2)))
theorem pm_astore_n {j : Fin 4} {i : Nat} {x : Nat} {L2 : Lcs} (hd : decode (pm_c k) pc = .ok (.astore_n j, 1)) (hi : (j : Nat) = i) (hn : i < pm_l k) (hs : pm_s1 L i (.ref x) = L2) (h : pm_P k (pc + 1) L2 st A Q) : pm_P k pc L (.ref x :: st) A Q := by
  intro p l e s m args below meth c ad D tyc H locs ls C hP hS hL
  subst hs
  exact lv_astore_n C.1 C.2.1 hd hi hL hn rfl (fun ls2 hL2 => (h p l e s m args below meth c ad D tyc H locs ls2 C hP hS (pm_st1 hL2)))
theorem pm_lstore_n {j : Fin 4} {i : Nat} {x : Int64} {L2 : Lcs} (hd : decode (pm_c k) pc = .ok (.lstore_n j, 1)) (hi : (j : Nat) = i) (hn : i + 1 < pm_l k) (hs : pm_s2 L i (.long x) = L2) (h : pm_P k (pc + 1) L2 st A Q) : pm_P k pc L (.long x :: st) A Q := by
  intro p l e s m args below meth c ad D tyc H locs ls C hP hS hL
  subst hs
  exact lv_lstore_n C.1 C.2.1 hd hi hL hn rfl (fun ls2 hL2 => (h p l e s m args below meth c ad D tyc H locs ls2 C hP hS (pm_st2 hL2)))
theorem pm_lstore {i : Nat} {x : Int64} {L2 : Lcs} (hd : decode (pm_c k) pc = .ok (.lstore i, 2)) (hn : i + 1 < pm_l k) (hs : pm_s2 L i (.long x) = L2) (h : pm_P k (pc + 2) L2 st A Q) : pm_P k pc L (.long x :: st) A Q := by
  intro p l e s m args below meth c ad D tyc H locs ls C hP hS hL
  subst hs
  exact lv_lstore C.1 C.2.1 hd hL hn rfl (fun ls2 hL2 => (h p l e s m args below meth c ad D tyc H locs ls2 C hP hS (pm_st2 hL2)))
theorem pm_iinc {i : Nat} {n : Int} {x v : Int32} {L2 : Lcs} (hd : decode (pm_c k) pc = .ok (.iinc i n, 3)) (hl : pm_g L i = some (.int x)) (hv : x + Int32.ofInt n = v) (hn : i < pm_l k) (hs : pm_s1 L i (.int v) = L2) (h : pm_P k (pc + 3) L2 st A Q) : pm_P k pc L st A Q := by
  intro p l e s m args below meth c ad D tyc H locs ls C hP hS hL
  subst hs
  have hm : (i, tv ad (.int x)) ∈ L.map (fun q => (q.1, tv ad q.2)) := List.mem_map.mpr ⟨(i, .int x), pm_g_mem hl, rfl⟩
  obtain ⟨q, hq⟩ := List.getElem?_of_mem hm
  exact lv_iinc C.1 C.2.1 hd hL (k := q) hq hv hn rfl (fun ls2 hL2 => (h p l e s m args below meth c ad D tyc H locs ls2 C hP hS (pm_st1 hL2)))
theorem pm_iadd {x y : Int32} (hd : decode (pm_c k) pc = .ok (.iadd, 1)) (h : pm_P k (pc + 1) L (.int (x + y) :: st) A Q) : pm_P k pc L (.int y :: .int x :: st) A Q := by
  intro p l e s m args below meth c ad D tyc H locs ls C hP hS hL
  exact lv_iadd C.1 C.2.1 hd (h p l e s m args below meth c ad D tyc H locs ls C hP hS hL)
theorem pm_isub {x y : Int32} (hd : decode (pm_c k) pc = .ok (.isub, 1)) (h : pm_P k (pc + 1) L (.int (x - y) :: st) A Q) : pm_P k pc L (.int y :: .int x :: st) A Q := by
  intro p l e s m args below meth c ad D tyc H locs ls C hP hS hL
  exact lv_isub C.1 C.2.1 hd (h p l e s m args below meth c ad D tyc H locs ls C hP hS hL)
theorem pm_imul {x y : Int32} (hd : decode (pm_c k) pc = .ok (.imul, 1)) (h : pm_P k (pc + 1) L (.int (x * y) :: st) A Q) : pm_P k pc L (.int y :: .int x :: st) A Q := by
  intro p l e s m args below meth c ad D tyc H locs ls C hP hS hL
  exact lv_imul C.1 C.2.1 hd (h p l e s m args below meth c ad D tyc H locs ls C hP hS hL)
theorem pm_iand {x y : Int32} (hd : decode (pm_c k) pc = .ok (.iand, 1)) (h : pm_P k (pc + 1) L (.int (x &&& y) :: st) A Q) : pm_P k pc L (.int y :: .int x :: st) A Q := by
  intro p l e s m args below meth c ad D tyc H locs ls C hP hS hL
  exact lv_iand C.1 C.2.1 hd (h p l e s m args below meth c ad D tyc H locs ls C hP hS hL)
theorem pm_lsub {x y : Int64} (hd : decode (pm_c k) pc = .ok (.lsub, 1)) (h : pm_P k (pc + 1) L (.long (x - y) :: st) A Q) : pm_P k pc L (.long y :: .long x :: st) A Q := by
  intro p l e s m args below meth c ad D tyc H locs ls C hP hS hL
  exact lv_lsub C.1 C.2.1 hd (h p l e s m args below meth c ad D tyc H locs ls C hP hS hL)
theorem pm_lmul {x y : Int64} (hd : decode (pm_c k) pc = .ok (.lmul, 1)) (h : pm_P k (pc + 1) L (.long (x * y) :: st) A Q) : pm_P k pc L (.long y :: .long x :: st) A Q := by
  intro p l e s m args below meth c ad D tyc H locs ls C hP hS hL
  exact lv_lmul C.1 C.2.1 hd (h p l e s m args below meth c ad D tyc H locs ls C hP hS hL)
theorem pm_ineg {x : Int32} (hd : decode (pm_c k) pc = .ok (.ineg, 1)) (h : pm_P k (pc + 1) L (.int (-x) :: st) A Q) : pm_P k pc L (.int x :: st) A Q := by
  intro p l e s m args below meth c ad D tyc H locs ls C hP hS hL
  exact lv_ineg C.1 C.2.1 hd (h p l e s m args below meth c ad D tyc H locs ls C hP hS hL)
theorem pm_i2l {x : Int32} {v : Int64} (hd : decode (pm_c k) pc = .ok (.i2l, 1)) (hv : x.toInt64 = v) (h : pm_P k (pc + 1) L (.long v :: st) A Q) : pm_P k pc L (.int x :: st) A Q := by
  intro p l e s m args below meth c ad D tyc H locs ls C hP hS hL
  exact lv_i2l C.1 C.2.1 hd hv (h p l e s m args below meth c ad D tyc H locs ls C hP hS hL)
theorem pm_l2i {x : Int64} {v : Int32} (hd : decode (pm_c k) pc = .ok (.l2i, 1)) (hv : x.toInt32 = v) (h : pm_P k (pc + 1) L (.int v :: st) A Q) : pm_P k pc L (.long x :: st) A Q := by
  intro p l e s m args below meth c ad D tyc H locs ls C hP hS hL
  exact lv_l2i C.1 C.2.1 hd hv (h p l e s m args below meth c ad D tyc H locs ls C hP hS hL)
theorem pm_i2b {x v : Int32} (hd : decode (pm_c k) pc = .ok (.i2b, 1)) (hv : x.toInt8.toInt32 = v) (h : pm_P k (pc + 1) L (.int v :: st) A Q) : pm_P k pc L (.int x :: st) A Q := by
  intro p l e s m args below meth c ad D tyc H locs ls C hP hS hL
  exact lv_i2b C.1 C.2.1 hd hv (h p l e s m args below meth c ad D tyc H locs ls C hP hS hL)
theorem pm_i2c {x v : Int32} (hd : decode (pm_c k) pc = .ok (.i2c, 1)) (hv : (x.toUInt32 % 65536).toInt32 = v) (h : pm_P k (pc + 1) L (.int v :: st) A Q) : pm_P k pc L (.int x :: st) A Q := by
  intro p l e s m args below meth c ad D tyc H locs ls C hP hS hL
  exact lv_i2c C.1 C.2.1 hd hv (h p l e s m args below meth c ad D tyc H locs ls C hP hS hL)
theorem pm_lcmp {x y : Int64} (hd : decode (pm_c k) pc = .ok (.lcmp, 1)) (h : pm_P k (pc + 1) L (.int (lg_cmp x y) :: st) A Q) : pm_P k pc L (.long y :: .long x :: st) A Q := by
  intro p l e s m args below meth c ad D tyc H locs ls C hP hS hL
  exact W.lcmp C.1 C.2.1 hd (h p l e s m args below meth c ad D tyc H locs ls C hP hS hL)
theorem pm_dup {v : Value} (hd : decode (pm_c k) pc = .ok (.dup, 1)) (hv : v.category = 1) (h : pm_P k (pc + 1) L (v :: v :: st) A Q) : pm_P k pc L (v :: st) A Q := by
  intro p l e s m args below meth c ad D tyc H locs ls C hP hS hL
  exact lv_dup C.1 C.2.1 hd ((tv_cat ad v).trans hv) (h p l e s m args below meth c ad D tyc H locs ls C hP hS hL)
theorem pm_dup2 {v u : Value} (hd : decode (pm_c k) pc = .ok (.dup2, 1)) (hv : v.category = 1) (hu : u.category = 1) (h : pm_P k (pc + 1) L (v :: u :: v :: u :: st) A Q) : pm_P k pc L (v :: u :: st) A Q := by
  intro p l e s m args below meth c ad D tyc H locs ls C hP hS hL
  exact lv_dup2_11 C.1 C.2.1 hd ((tv_cat ad v).trans hv) ((tv_cat ad u).trans hu) (h p l e s m args below meth c ad D tyc H locs ls C hP hS hL)
theorem pm_idiv {x y : Int32} (hd : decode (pm_c k) pc = .ok (.idiv, 1)) (hy : ¬ y = 0) (h : pm_P k (pc + 1) L (.int (x / y) :: st) A Q) : pm_P k pc L (.int y :: .int x :: st) A Q := by
  intro p l e s m args below meth c ad D tyc H locs ls C hP hS hL
  exact lv_idiv C.1 C.2.1 hd hy (h p l e s m args below meth c ad D tyc H locs ls C hP hS hL)
theorem pm_ldc2 {idx : Nat} {v : Int64} (hd : decode (pm_c k) pc = .ok (.ldc2_w idx, 3)) (hl : pm_LL (pm_o k) idx v) (h : pm_P k (pc + 3) L (.long v :: st) A Q) : pm_P k pc L st A Q := by
  intro p l e s m args below meth c ad D tyc H locs ls C hP hS hL
  have hw := pm_hts C.2.2.2.2.2.1 hl
  rw [← C.2.2.2.2.2.2.2.2.2.1.2.2.1] at hw
  exact lv_ldc2 C.1 C.2.1 C.2.2.2.2.1 hw hd (h p l e s m args below meth c ad D tyc H locs ls C hP hS hL)
theorem pm_goto {off : Int} {tgt : Nat} (hd : decode (pm_c k) pc = .ok (.goto off, 3)) (ht : (pc : Int) + off = (tgt : Int)) (h : pm_P k tgt L st A Q) : pm_P k pc L st A Q := by
  intro p l e s m args below meth c ad D tyc H locs ls C hP hS hL
  exact lv_goto C.1 C.2.1 hd ht (h p l e s m args below meth c ad D tyc H locs ls C hP hS hL)
theorem pm_if_eq {x : Int32} {off : Int} {tgt : Nat} (hd : decode (pm_c k) pc = .ok (.ifCond .eq off, 3)) (ht : (pc : Int) + off = (tgt : Int)) (kt : x = 0 → pm_P k tgt L st A Q) (kf : ¬ x = 0 → pm_P k (pc + 3) L st A Q) : pm_P k pc L (.int x :: st) A Q := by
  intro p l e s m args below meth c ad D tyc H locs ls C hP hS hL
  exact lv_if_eq C.1 C.2.1 hd ht (fun q => (kt q p l e s m args below meth c ad D tyc H locs ls C hP hS hL)) (fun q => (kf q p l e s m args below meth c ad D tyc H locs ls C hP hS hL))
theorem pm_icmp_eq {x y : Int32} {off : Int} {tgt : Nat} (hd : decode (pm_c k) pc = .ok (.if_icmp .eq off, 3)) (ht : (pc : Int) + off = (tgt : Int)) (kt : x = y → pm_P k tgt L st A Q) (kf : ¬ x = y → pm_P k (pc + 3) L st A Q) : pm_P k pc L (.int y :: .int x :: st) A Q := by
  intro p l e s m args below meth c ad D tyc H locs ls C hP hS hL
  exact lv_icmp_eq C.1 C.2.1 hd ht (fun q => (kt q p l e s m args below meth c ad D tyc H locs ls C hP hS hL)) (fun q => (kf q p l e s m args below meth c ad D tyc H locs ls C hP hS hL))
theorem pm_if_ne {x : Int32} {off : Int} {tgt : Nat} (hd : decode (pm_c k) pc = .ok (.ifCond .ne off, 3)) (ht : (pc : Int) + off = (tgt : Int)) (kt : ¬ x = 0 → pm_P k tgt L st A Q) (kf : x = 0 → pm_P k (pc + 3) L st A Q) : pm_P k pc L (.int x :: st) A Q := by
  intro p l e s m args below meth c ad D tyc H locs ls C hP hS hL
  exact lv_if_ne C.1 C.2.1 hd ht (fun q => (kt q p l e s m args below meth c ad D tyc H locs ls C hP hS hL)) (fun q => (kf q p l e s m args below meth c ad D tyc H locs ls C hP hS hL))
theorem pm_icmp_ne {x y : Int32} {off : Int} {tgt : Nat} (hd : decode (pm_c k) pc = .ok (.if_icmp .ne off, 3)) (ht : (pc : Int) + off = (tgt : Int)) (kt : ¬ x = y → pm_P k tgt L st A Q) (kf : x = y → pm_P k (pc + 3) L st A Q) : pm_P k pc L (.int y :: .int x :: st) A Q := by
  intro p l e s m args below meth c ad D tyc H locs ls C hP hS hL
  exact lv_icmp_ne C.1 C.2.1 hd ht (fun q => (kt q p l e s m args below meth c ad D tyc H locs ls C hP hS hL)) (fun q => (kf q p l e s m args below meth c ad D tyc H locs ls C hP hS hL))
theorem pm_if_lt {x : Int32} {off : Int} {tgt : Nat} (hd : decode (pm_c k) pc = .ok (.ifCond .lt off, 3)) (ht : (pc : Int) + off = (tgt : Int)) (kt : x < 0 → pm_P k tgt L st A Q) (kf : ¬ x < 0 → pm_P k (pc + 3) L st A Q) : pm_P k pc L (.int x :: st) A Q := by
  intro p l e s m args below meth c ad D tyc H locs ls C hP hS hL
  exact lv_if_lt C.1 C.2.1 hd ht (fun q => (kt q p l e s m args below meth c ad D tyc H locs ls C hP hS hL)) (fun q => (kf q p l e s m args below meth c ad D tyc H locs ls C hP hS hL))
theorem pm_icmp_lt {x y : Int32} {off : Int} {tgt : Nat} (hd : decode (pm_c k) pc = .ok (.if_icmp .lt off, 3)) (ht : (pc : Int) + off = (tgt : Int)) (kt : x < y → pm_P k tgt L st A Q) (kf : ¬ x < y → pm_P k (pc + 3) L st A Q) : pm_P k pc L (.int y :: .int x :: st) A Q := by
  intro p l e s m args below meth c ad D tyc H locs ls C hP hS hL
  exact lv_icmp_lt C.1 C.2.1 hd ht (fun q => (kt q p l e s m args below meth c ad D tyc H locs ls C hP hS hL)) (fun q => (kf q p l e s m args below meth c ad D tyc H locs ls C hP hS hL))
theorem pm_if_ge {x : Int32} {off : Int} {tgt : Nat} (hd : decode (pm_c k) pc = .ok (.ifCond .ge off, 3)) (ht : (pc : Int) + off = (tgt : Int)) (kt : 0 ≤ x → pm_P k tgt L st A Q) (kf : ¬ 0 ≤ x → pm_P k (pc + 3) L st A Q) : pm_P k pc L (.int x :: st) A Q := by
  intro p l e s m args below meth c ad D tyc H locs ls C hP hS hL
  exact lv_if_ge C.1 C.2.1 hd ht (fun q => (kt q p l e s m args below meth c ad D tyc H locs ls C hP hS hL)) (fun q => (kf q p l e s m args below meth c ad D tyc H locs ls C hP hS hL))
theorem pm_icmp_ge {x y : Int32} {off : Int} {tgt : Nat} (hd : decode (pm_c k) pc = .ok (.if_icmp .ge off, 3)) (ht : (pc : Int) + off = (tgt : Int)) (kt : y ≤ x → pm_P k tgt L st A Q) (kf : ¬ y ≤ x → pm_P k (pc + 3) L st A Q) : pm_P k pc L (.int y :: .int x :: st) A Q := by
  intro p l e s m args below meth c ad D tyc H locs ls C hP hS hL
  exact lv_icmp_ge C.1 C.2.1 hd ht (fun q => (kt q p l e s m args below meth c ad D tyc H locs ls C hP hS hL)) (fun q => (kf q p l e s m args below meth c ad D tyc H locs ls C hP hS hL))
theorem pm_if_gt {x : Int32} {off : Int} {tgt : Nat} (hd : decode (pm_c k) pc = .ok (.ifCond .gt off, 3)) (ht : (pc : Int) + off = (tgt : Int)) (kt : 0 < x → pm_P k tgt L st A Q) (kf : ¬ 0 < x → pm_P k (pc + 3) L st A Q) : pm_P k pc L (.int x :: st) A Q := by
  intro p l e s m args below meth c ad D tyc H locs ls C hP hS hL
  exact lv_if_gt C.1 C.2.1 hd ht (fun q => (kt q p l e s m args below meth c ad D tyc H locs ls C hP hS hL)) (fun q => (kf q p l e s m args below meth c ad D tyc H locs ls C hP hS hL))
theorem pm_icmp_gt {x y : Int32} {off : Int} {tgt : Nat} (hd : decode (pm_c k) pc = .ok (.if_icmp .gt off, 3)) (ht : (pc : Int) + off = (tgt : Int)) (kt : y < x → pm_P k tgt L st A Q) (kf : ¬ y < x → pm_P k (pc + 3) L st A Q) : pm_P k pc L (.int y :: .int x :: st) A Q := by
  intro p l e s m args below meth c ad D tyc H locs ls C hP hS hL
  exact lv_icmp_gt C.1 C.2.1 hd ht (fun q => (kt q p l e s m args below meth c ad D tyc H locs ls C hP hS hL)) (fun q => (kf q p l e s m args below meth c ad D tyc H locs ls C hP hS hL))
theorem pm_if_le {x : Int32} {off : Int} {tgt : Nat} (hd : decode (pm_c k) pc = .ok (.ifCond .le off, 3)) (ht : (pc : Int) + off = (tgt : Int)) (kt : x ≤ 0 → pm_P k tgt L st A Q) (kf : ¬ x ≤ 0 → pm_P k (pc + 3) L st A Q) : pm_P k pc L (.int x :: st) A Q := by
  intro p l e s m args below meth c ad D tyc H locs ls C hP hS hL
  exact lv_if_le C.1 C.2.1 hd ht (fun q => (kt q p l e s m args below meth c ad D tyc H locs ls C hP hS hL)) (fun q => (kf q p l e s m args below meth c ad D tyc H locs ls C hP hS hL))
theorem pm_icmp_le {x y : Int32} {off : Int} {tgt : Nat} (hd : decode (pm_c k) pc = .ok (.if_icmp .le off, 3)) (ht : (pc : Int) + off = (tgt : Int)) (kt : x ≤ y → pm_P k tgt L st A Q) (kf : ¬ x ≤ y → pm_P k (pc + 3) L st A Q) : pm_P k pc L (.int y :: .int x :: st) A Q := by
  intro p l e s m args below meth c ad D tyc H locs ls C hP hS hL
  exact lv_icmp_le C.1 C.2.1 hd ht (fun q => (kt q p l e s m args below meth c ad D tyc H locs ls C hP hS hL)) (fun q => (kf q p l e s m args below meth c ad D tyc H locs ls C hP hS hL))
theorem pm_swOut {dflt lo hi : Int} {offs : Array Int} {len : Nat} {x : Int32} {tgt : Nat} (hd : decode (pm_c k) pc = .ok (.tableswitch dflt lo hi offs, len)) (hx : x.toInt < lo ∨ hi < x.toInt) (ht : (pc : Int) + dflt = (tgt : Int)) (h : pm_P k tgt L st A Q) : pm_P k pc L (.int x :: st) A Q := by
  intro p l e s m args below meth c ad D tyc H locs ls C hP hS hL
  exact lv_tableOut C.1 C.2.1 hd hx ht (h p l e s m args below meth c ad D tyc H locs ls C hP hS hL)
theorem pm_swIn {dflt lo hi : Int} {offs : Array Int} {len : Nat} {x : Int32} {off : Int} {tgt : Nat} (hd : decode (pm_c k) pc = .ok (.tableswitch dflt lo hi offs, len)) (h1 : ¬ x.toInt < lo) (h2 : ¬ hi < x.toInt) (ho : offs[(x.toInt - lo).toNat]? = some off) (ht : (pc : Int) + off = (tgt : Int)) (h : pm_P k tgt L st A Q) : pm_P k pc L (.int x :: st) A Q := by
  intro p l e s m args below meth c ad D tyc H locs ls C hP hS hL
  exact lv_tableIn C.1 C.2.1 hd h1 h2 ho ht (h p l e s m args below meth c ad D tyc H locs ls C hP hS hL)
theorem pm_sub {L2 : Lcs} (hs : ∀ q ∈ L2, q ∈ L) (h : pm_P k pc L2 st A Q) : pm_P k pc L st A Q := by
  intro p l e s m args below meth c ad D tyc H locs ls C hP hS hL
  refine h p l e s m args below meth c ad D tyc H locs ls C hP hS (pm_has_sub hL fun q hq => ?_)
  obtain ⟨r, hr, rfl⟩ := List.mem_map.mp hq
  exact List.mem_map.mpr ⟨r, hs r hr, rfl⟩
theorem pm_pick {L2 : Lcs} (is : List Nat) (hs : is.filterMap (fun i => L[i]?) = L2) (h : pm_P k pc L2 st A Q) : pm_P k pc L st A Q := by
  refine pm_sub (fun q hq => ?_) h
  subst hs
  obtain ⟨i, -, hi⟩ := List.mem_filterMap.mp hq
  exact List.mem_of_getElem? hi
theorem pm_post {Q2 : Int32 → Mem → Prop} (h : pm_P k pc L st A Q2) (hq : ∀ r A2, Q2 r A2 → Q r A2) : pm_P k pc L st A Q := by
  intro p l e s m args below meth c ad D tyc H locs ls C hP hS hL
  intro T hT X
  obtain ⟨t, a, o, b1, b2, b3, b4⟩ := h p l e s m args below meth c ad D tyc H locs ls C hP hS hL T hT X
  refine ⟨t, a, o, b1, b2, ?_, b4⟩
  revert b3
  unfold pm_Q
  cases pm_r k <;> intro b3
  · obtain ⟨⟨u, c1, c2, c3⟩, c4⟩ := b3
    exact ⟨⟨u, c1, hq _ _ c2, c3⟩, c4⟩
  · obtain ⟨⟨r, u, c1, c2, c3⟩, c4⟩ := b3
    exact ⟨⟨r, u, c1, hq _ _ c2, c3⟩, c4⟩
theorem pm_iret {v : Int32} {ty : FieldType} (hd : decode (pm_c k) pc = .ok (.ireturn, 1)) (hr : pm_r k = some ty) (hn : narrow ty (.int v) = .int v) (hq : Q v A) : pm_P k pc L [.int v] A Q := by
  intro p l e s m args below meth c ad D tyc H locs ls C hP hS hL
  obtain ⟨hx, hb, hret, hml, hown, hts, hlk, hK, hin, hok, hcl⟩ := C
  refine W.zret (v := v) hx hb (hret.trans hr) hn (fun t ht hW => ?_) hS.2.2 hd hlk
  unfold pm_Q
  rw [hr]
  exact ⟨⟨v, A, rfl, hq, by rw [ht]; exact hP, va_K.moved hW.alike hK⟩, hS.F ht⟩
theorem pm_vret (hd : decode (pm_c k) pc = .ok (.return_, 1)) (hr : pm_r k = none) (hq : Q 0 A) : pm_P k pc L [] A Q := by
  intro p l e s m args below meth c ad D tyc H locs ls C hP hS hL
  obtain ⟨hx, hb, hret, hml, hown, hts, hlk, hK, hin, hok, hcl⟩ := C
  refine W.vret hx hb (hret.trans hr) (fun t ht hW => ?_) hS.2.2 hd hlk
  unfold pm_Q
  rw [hr]
  exact ⟨⟨A, rfl, hq, by rw [ht]; exact hP, va_K.moved hW.alike hK⟩, hS.F ht⟩
theorem pm_field {ad : Nat → Nat} {a : Nat → Int32} {sl : List (Option Nat)} {j : Nat} {x : Option Nat} (hj : sl[j]? = some x) : (sl.mapIdx (pm_fv ad a))[j]? = some (pm_fv ad a j x) := by
  simp [List.getElem?_mapIdx, hj]
theorem pm_getV {idx ci j b : Nat} {sl : List (Option Nat)} {x : Option Nat} (hd : decode (pm_c k) pc = .ok (.getfield idx, 3)) (hl : pm_LF (pm_o k) idx ci j) (hs : (pm_sh (pm_wo k))[b]? = some (.inl (ci, sl))) (hj : sl[j]? = some x) (h : pm_P k (pc + 3) L (pm_fv (fun i => i) (A b) j x :: st) A Q) : pm_P k pc L (.ref b :: st) A Q := by
  intro p l e s m args below meth c ad D tyc H locs ls C hP hS hL
  have hgo := h p l e s m args below meth c ad D tyc H locs ls C hP hS hL
  obtain ⟨hx, hb, hret, hml, hown, hts, hlk, hK, hin, hok, hcl⟩ := C
  obtain ⟨q, hq, hlt, hw⟩ := hl
  rw [← hok.2.2.1] at hw
  refine va_get (D := D) (ci := ci) (C := q.1) (T := q.2.1) (N := q.2.2) (Ts := pm_ws k) (own := (pm_y k).cls) hx hb hts (fun w h => List.mem_cons_of_mem _ ((hcl ci q hq).1 w h)) hown hK hP b (pm_w_get hs) hq j hlt (pm_hts hts hw) (fun _ h9 => h9) (pm_field (ad := ad) (a := A b) hj) hd ?_
  cases x <;> exact hgo
theorem pm_getI {idx ci j b : Nat} {sl : List (Option Nat)} (hd : decode (pm_c k) pc = .ok (.getfield idx, 3)) (hl : pm_LF (pm_o k) idx ci j) (hs : (pm_sh (pm_wo k))[b]? = some (.inl (ci, sl))) (hj : sl[j]? = some none) (h : pm_P k (pc + 3) L (.int (A b j) :: st) A Q) : pm_P k pc L (.ref b :: st) A Q := pm_getV hd hl hs hj h
theorem pm_getR {idx ci j b t : Nat} {sl : List (Option Nat)} (hd : decode (pm_c k) pc = .ok (.getfield idx, 3)) (hl : pm_LF (pm_o k) idx ci j) (hs : (pm_sh (pm_wo k))[b]? = some (.inl (ci, sl))) (hj : sl[j]? = some (some t)) (h : pm_P k (pc + 3) L (.ref t :: st) A Q) : pm_P k pc L (.ref b :: st) A Q := pm_getV hd hl hs hj h
theorem pm_fset {ad : Nat → Nat} {tyc : Nat → ClassId} {A : Mem} {ci b j : Nat} {v : Int32} {sl : List (Option Nat)} (hj : sl[j]? = some none) : (Sum.inr (ci, (sl.mapIdx (pm_fv ad (A b))).set j (.int v)) : va_E) = pm_e ad tyc (mset A b j v b) (.inl (ci, sl)) := by
  show (Sum.inr (ci, _) : va_E) = Sum.inr (ci, _)
  congr 2
  apply List.ext_getElem?
  intro i
  rw [List.getElem?_set]
  by_cases h : j = i
  · subst h
    have hl : j < sl.length := (List.getElem?_eq_some_iff.mp hj).1
    have h2 : sl[j] = none := by
      have := List.getElem?_eq_getElem hl
      rw [hj] at this
      exact (Option.some.inj this).symm
    simp [List.getElem?_mapIdx, hl, h2, pm_fv, mset]
  · rw [if_neg h]
    simp only [List.getElem?_mapIdx]
    cases sl[i]? with
    | none => rfl
    | some x => cases x <;> simp [pm_fv, mset, Ne.symm h]
theorem pm_putI {idx ci j b : Nat} {v : Int32} {sl : List (Option Nat)} (hd : decode (pm_c k) pc = .ok (.putfield idx, 3)) (hl : pm_LP (pm_o k) idx ci j) (hs : (pm_sh (pm_wo k))[b]? = some (.inl (ci, sl))) (hj : sl[j]? = some none) (h : pm_P k (pc + 3) L st (mset A b j v) Q) : pm_P k pc L (.int v :: .ref b :: st) A Q := by
  intro p l e s m args below meth c ad D tyc H locs ls C hP hS hL
  have hC := C
  obtain ⟨hx, hb, hret, hml, hown, hts, hlk, hK, hin, hok, hcl⟩ := C
  obtain ⟨q, hq, hlt, hw, hnf, hI⟩ := hl
  rw [← hok.2.2.1] at hw
  obtain ⟨hu, ⟨ty0, hty⟩, hnm⟩ := hcl ci q hq
  refine va_put (D := D) (ci := ci) (C := q.1) (T := q.2.1) (N := q.2.2) (Ts := pm_ws k) (own := (pm_y k).cls) (ty := .int) (v := .int v) hx hb hts (fun w h => List.mem_cons_of_mem _ (hu w h)) ty0 hty hnm hown hK hP (pm_w_D hin) hS b (pm_w_get hs) hq j hlt (pm_hts hts hw) (fun _ h9 => h9) hnf (by rw [hI]; decide +kernel) rfl rfl (by simpa using (List.getElem?_eq_some_iff.mp hj).1) hd (fun H1 locs1 hP1 hD1 hS1 => ?_)
  rw [pm_w_set hs (A2 := mset A b j v) (pm_fset (ad := ad) (tyc := tyc) (A := A) (b := b) hj) (fun c hc => mset_other hc)] at hP1
  exact h p l e s m args below meth c ad D tyc H1 locs1 ls hC hP1 hS1 hL
theorem pm_iald {b len : Nat} {i : Int32} (hd : decode (pm_c k) pc = .ok (.iaload, 1)) (hs : (pm_sh (pm_wo k))[b]? = some (.inr (0, len))) (hi : vp_in i len) (h : pm_P k (pc + 1) L (.int (A b i.toNatClampNeg) :: st) A Q) : pm_P k pc L (.int i :: .ref b :: st) A Q := by
  intro p l e s m args below meth c ad D tyc H locs ls C hP hS hL
  exact va_iald C.1 C.2.1 C.2.2.2.2.2.2.2.1 hP b 0 (pm_w_get hs) rfl hi hd (h p l e s m args below meth c ad D tyc H locs ls C hP hS hL)
theorem pm_bald {b len : Nat} {i : Int32} (hd : decode (pm_c k) pc = .ok (.baload, 1)) (hs : (pm_sh (pm_wo k))[b]? = some (.inr (1, len))) (hi : vp_in i len) (h : pm_P k (pc + 1) L (.int (A b i.toNatClampNeg) :: st) A Q) : pm_P k pc L (.int i :: .ref b :: st) A Q := by
  intro p l e s m args below meth c ad D tyc H locs ls C hP hS hL
  exact va_bald C.1 C.2.1 C.2.2.2.2.2.2.2.1 hP b 1 (pm_w_get hs) rfl hi hd (h p l e s m args below meth c ad D tyc H locs ls C hP hS hL)
theorem pm_zald {b len : Nat} {i : Int32} (hd : decode (pm_c k) pc = .ok (.baload, 1)) (hs : (pm_sh (pm_wo k))[b]? = some (.inr (2, len))) (hi : vp_in i len) (h : pm_P k (pc + 1) L (.int (A b i.toNatClampNeg) :: st) A Q) : pm_P k pc L (.int i :: .ref b :: st) A Q := by
  intro p l e s m args below meth c ad D tyc H locs ls C hP hS hL
  exact va_zald C.1 C.2.1 C.2.2.2.2.2.2.2.1 hP b 2 (pm_w_get hs) rfl hi hd (h p l e s m args below meth c ad D tyc H locs ls C hP hS hL)
theorem pm_cald {b len : Nat} {i : Int32} (hd : decode (pm_c k) pc = .ok (.caload, 1)) (hs : (pm_sh (pm_wo k))[b]? = some (.inr (3, len))) (hi : vp_in i len) (h : pm_P k (pc + 1) L (.int (A b i.toNatClampNeg) :: st) A Q) : pm_P k pc L (.int i :: .ref b :: st) A Q := by
  intro p l e s m args below meth c ad D tyc H locs ls C hP hS hL
  exact va_cald C.1 C.2.1 C.2.2.2.2.2.2.2.1 hP b 3 (pm_w_get hs) rfl hi hd (h p l e s m args below meth c ad D tyc H locs ls C hP hS hL)
theorem pm_iast {b len : Nat} {i x : Int32} (hd : decode (pm_c k) pc = .ok (.iastore, 1)) (hs : (pm_sh (pm_wo k))[b]? = some (.inr (0, len))) (hi : vp_in i len) (h : pm_P k (pc + 1) L st (mset A b i.toNatClampNeg x) Q) : pm_P k pc L (.int x :: .int i :: .ref b :: st) A Q := by
  intro p l e s m args below meth c ad D tyc H locs ls C hP hS hL
  refine va_iast C.1 C.2.1 C.2.2.2.2.2.2.2.1 hP (pm_w_D C.2.2.2.2.2.2.2.2.1) hS b 0 (pm_w_get hs) rfl hi hd (fun H1 locs1 hP1 hD1 hS1 => ?_)
  rw [pm_w_set hs (A2 := mset A b i.toNatClampNeg x) (by rw [mset_row]; rfl) (fun c hc => mset_other hc)] at hP1
  exact h p l e s m args below meth c ad D tyc H1 locs1 ls C hP1 hS1 hL
theorem pm_bast {b len : Nat} {i x : Int32} (hd : decode (pm_c k) pc = .ok (.bastore, 1)) (hs : (pm_sh (pm_wo k))[b]? = some (.inr (1, len))) (hi : vp_in i len) (h : pm_P k (pc + 1) L st (mset A b i.toNatClampNeg (vp_nar .byte x)) Q) : pm_P k pc L (.int x :: .int i :: .ref b :: st) A Q := by
  intro p l e s m args below meth c ad D tyc H locs ls C hP hS hL
  refine va_bast C.1 C.2.1 C.2.2.2.2.2.2.2.1 hP (pm_w_D C.2.2.2.2.2.2.2.2.1) hS b 1 (pm_w_get hs) rfl hi hd (fun H1 locs1 hP1 hD1 hS1 => ?_)
  rw [pm_w_set hs (A2 := mset A b i.toNatClampNeg (vp_nar .byte x)) (by rw [mset_row]; rfl) (fun c hc => mset_other hc)] at hP1
  exact h p l e s m args below meth c ad D tyc H1 locs1 ls C hP1 hS1 hL
theorem pm_zast {b len : Nat} {i x : Int32} (hd : decode (pm_c k) pc = .ok (.bastore, 1)) (hs : (pm_sh (pm_wo k))[b]? = some (.inr (2, len))) (hi : vp_in i len) (h : pm_P k (pc + 1) L st (mset A b i.toNatClampNeg (vp_nar .boolean x)) Q) : pm_P k pc L (.int x :: .int i :: .ref b :: st) A Q := by
  intro p l e s m args below meth c ad D tyc H locs ls C hP hS hL
  refine va_zast C.1 C.2.1 C.2.2.2.2.2.2.2.1 hP (pm_w_D C.2.2.2.2.2.2.2.2.1) hS b 2 (pm_w_get hs) rfl hi hd (fun H1 locs1 hP1 hD1 hS1 => ?_)
  rw [pm_w_set hs (A2 := mset A b i.toNatClampNeg (vp_nar .boolean x)) (by rw [mset_row]; rfl) (fun c hc => mset_other hc)] at hP1
  exact h p l e s m args below meth c ad D tyc H1 locs1 ls C hP1 hS1 hL
theorem pm_cast {b len : Nat} {i x : Int32} (hd : decode (pm_c k) pc = .ok (.castore, 1)) (hs : (pm_sh (pm_wo k))[b]? = some (.inr (3, len))) (hi : vp_in i len) (h : pm_P k (pc + 1) L st (mset A b i.toNatClampNeg (vp_nar .char x)) Q) : pm_P k pc L (.int x :: .int i :: .ref b :: st) A Q := by
  intro p l e s m args below meth c ad D tyc H locs ls C hP hS hL
  refine va_cast C.1 C.2.1 C.2.2.2.2.2.2.2.1 hP (pm_w_D C.2.2.2.2.2.2.2.2.1) hS b 3 (pm_w_get hs) rfl hi hd (fun H1 locs1 hP1 hD1 hS1 => ?_)
  rw [pm_w_set hs (A2 := mset A b i.toNatClampNeg (vp_nar .char x)) (by rw [mset_row]; rfl) (fun c hc => mset_other hc)] at hP1
  exact h p l e s m args below meth c ad D tyc H1 locs1 ls C hP1 hS1 hL
theorem pm_aald {b len : Nat} {i : Int32} (hd : decode (pm_c k) pc = .ok (.aaload, 1)) (hs : (pm_sh (pm_wo k))[b]? = some (.inr (4, len))) (hi : vp_in i len) (h : pm_P k (pc + 1) L (.ref (A b i.toNatClampNeg).toNatClampNeg :: st) A Q) : pm_P k pc L (.int i :: .ref b :: st) A Q := by
  intro p l e s m args below meth c ad D tyc H locs ls C hP hS hL
  exact va_aldq (C := RX6) C.1 C.2.1 C.2.2.2.2.2.2.2.1 hP b 4 (pm_w_get hs) rfl hi hd (h p l e s m args below meth c ad D tyc H locs ls C hP hS hL)
theorem pm_aast {b len v : Nat} {i : Int32} {sl : List (Option Nat)} (hd : decode (pm_c k) pc = .ok (.aastore, 1)) (hs : (pm_sh (pm_wo k))[b]? = some (.inr (4, len))) (hv : (pm_sh (pm_wo k))[v]? = some (.inl (6, sl))) (hv2 : (nI v).toNatClampNeg = v) (hi : vp_in i len) (h : pm_P k (pc + 1) L st (mset A b i.toNatClampNeg (nI v)) Q) : pm_P k pc L (.ref v :: .int i :: .ref b :: st) A Q := by
  intro p l e s m args below meth c ad D tyc H locs ls C hP hS hL
  refine va_astq (r := (RX6, TX6, 7)) C.1 C.2.1 C.2.2.2.2.2.2.2.1 hP (pm_w_D C.2.2.2.2.2.2.2.2.1) hS b 4 v 6 (pm_w_get hs) rfl (pm_w_get hv) rfl hi hd (fun H1 locs1 hP1 hD1 hS1 => ?_)
  rw [pm_w_set hs (A2 := mset A b i.toNatClampNeg (nI v)) (by
    rw [mset_row]
    show (Sum.inl (tyc 4, len, _) : va_E) = Sum.inl (tyc 4, len, if 4 = 4 then _ else _)
    rw [if_pos rfl]
    congr 7
    funext j
    by_cases hj : j = i.toNatClampNeg <;> simp [va_up, upd, hj, hv2]) (fun c hc => mset_other hc)] at hP1
  exact h p l e s m args below meth c ad D tyc H1 locs1 ls C hP1 hS1 hL
theorem pm_alen {b len t : Nat} {v : Int32} {ty : FieldType} (hd : decode (pm_c k) pc = .ok (.arraylength, 1)) (hs : (pm_sh (pm_wo k))[b]? = some (.inr (t, len))) (ht : ∀ tyc, (pm_ts tyc)[t]? = some (tyc t, ty)) (hv : Int32.ofNat len = v) (h : pm_P k (pc + 1) L (.int v :: st) A Q) : pm_P k pc L (.ref b :: st) A Q := by
  intro p l e s m args below meth c ad D tyc H locs ls C hP hS hL
  exact va_alen C.1 C.2.1 C.2.2.2.2.2.2.2.1 hP b t (pm_w_get hs) (ht tyc) hv hd (h p l e s m args below meth c ad D tyc H locs ls C hP hS hL)
end PMR
end
section
/-! calls: from pm_P of the callee at its entry to the contract, and from there to the caller -/
theorem pm_ent_map (ad : Nat → Nat) (as : List Value) : ∀ i, as.all (fun v => v.category == 1) = true → lv_args i (as.map (tv ad)) = (pm_ent i as).map (fun q => (q.1, tv ad q.2)) := by
  induction as with
  | nil => intro i _; rfl
  | cons v vs ih =>
    intro i h
    simp only [List.all_cons, Bool.and_eq_true, beq_iff_eq] at h
    have hc : ¬ (tv ad v).category = 2 := by rw [tv_cat, h.1]; decide
    show (i, tv ad v) :: lv_args (if (tv ad v).category = 2 then i + 2 else i + 1) (vs.map (tv ad)) = (i, tv ad v) :: (pm_ent (i + 1) vs).map (fun q => (q.1, tv ad q.2))
    rw [if_neg hc, ih (i + 1) h.2]
theorem pm_sl_len (ad : Nat → Nat) (as : List Value) (h : as.all (fun v => v.category == 1) = true) : (lg_sl (as.map (tv ad))).length = as.length := by
  induction as with
  | nil => rfl
  | cons v vs ih =>
    simp only [List.all_cons, Bool.and_eq_true, beq_iff_eq] at h
    have hc : ¬ (tv ad v).category = 2 := by rw [tv_cat, h.1]; decide
    have e : lg_sl ((v :: vs).map (tv ad)) = .val (tv ad v) :: lg_sl (vs.map (tv ad)) := by simp [lg_sl, hc]
    rw [e, List.length_cons, ih h.2, List.length_cons]
theorem pm_met {k : Nat} {as : List Value} {A : Mem} {Q : Int32 → Mem → Prop} (hok : pm_ok k) (hcl : pm_cls) (hP : pm_P k 0 (pm_ent 0 as) [] A Q) (hlen : as.length ≤ pm_l k) (hcat : as.all (fun v => v.category == 1) = true) (l : Launch) (ad : Nat → Nat) (D : va_G) (tyc : Nat → ClassId) (hinj : pm_inj (pm_wo k) ad) :
    Met l (pm_y k) (pm_ws k) (pm_rm k) (va_Pc (as.map (tv ad)) (fun U => va_P D vwCl (pm_w (pm_wo k) ad tyc A) U.heap ∧ va_K D vwCl (pm_ts tyc) U)) (pm_Q k ad D tyc Q) 0 0 (pm_A (pm_wo k) ad) := by
  refine Met.ofW (cc := pm_c k) (maxL := pm_l k) (ret := pm_r k) hok.2.1 rfl ?_
  intro p e s m args below meth c s₁ B hml hv
  obtain ⟨rfl, hPw, hK⟩ := hv
  have hts := atoms_spec (ws := pm_ws k) B.pre
  have hown : s.vm.findClass (pm_y k).cls = some m.cls := findClass_of_methodNamed B.named
  have hl := lv_entry (as.map (tv ad)) (n := pm_l k) (by rw [pm_sl_len ad as hcat]; exact hlen)
  rw [lg_entry_eq]
  rw [pm_ent_map ad as 0 hcat] at hl
  exact hP p l e s m _ below meth c ad D tyc s.heap [] _ ⟨B.exec, B.bytes, B.returns, hml, hown, hts, B.notSynchronized, hK, hinj, hok, hcl⟩ hPw va_S.rf hl
theorem pm_blind {as : List Value} {ad : Nat → Nat} {D : va_G} {tyc : Nat → ClassId} {w : Nat} {A : Mem} : FrameBlind (va_Pc (as.map (tv ad)) (fun U => va_P D vwCl (pm_w w ad tyc A) U.heap ∧ va_K D vwCl (pm_ts tyc) U)) :=
  fun a U g mk q => by
    obtain ⟨q0, qP, qK⟩ := q
    exact ⟨q0, qP, va_K.moved (u := U) (U := U.calling g mk a) (Vm.Alike.refl U.vm) qK⟩
theorem pm_Qi_eq {k : Nat} {ad : Nat → Nat} {D : va_G} {tyc : Nat → ClassId} {Q : Int32 → Mem → Prop} {ty : FieldType} (h : pm_r k = some ty) : pm_Q k ad D tyc Q = va_Qi (fun (r : Int32) (A : Mem) => Q r A) (pm_B (pm_wo k) ad D tyc) (pm_A (pm_wo k) ad) := by
  unfold pm_Q
  rw [h]
theorem pm_Qv_eq {k : Nat} {ad : Nat → Nat} {D : va_G} {tyc : Nat → ClassId} {Q : Int32 → Mem → Prop} (h : pm_r k = none) : pm_Q k ad D tyc Q = va_Qv (fun A : Mem => Q 0 A) (pm_B (pm_wo k) ad D tyc) (pm_A (pm_wo k) ad) := by
  unfold pm_Q
  rw [h]
def pm_rok (k k2 : Nat) : Prop := (pm_rm k2).frames + 1 ≤ (pm_rm k).frames ∧ 8 + (pm_l k2 + 11) + (pm_rm k2).locals ≤ (pm_rm k).locals
section PMC
variable {k pc : Nat} {L : Lcs} {A : Mem} {Q : Int32 → Mem → Prop}
theorem pm_catsum (ad : Nat → Nat) (rest : List Value) : ((rest.map (tv ad)).map fun v => v.category).sum = (rest.map fun v => v.category).sum := by
  rw [List.map_map]
  congr 1
  apply List.map_congr_left
  intro v _
  exact tv_cat ad v
/-- a virtual call that answers an int -/
theorem pm_callV {k2 idx b ci : Nat} {sl : List (Option Nat)} {As rest st : List Value} {ty : FieldType} {r : vw_C} (hd : decode (pm_c k) pc = .ok (.invokevirtual idx, 3)) (hl : pm_LV (pm_o k) idx k2) (hok : pm_ok k2) (hr : pm_r k2 = some ty) (hst : st = As.reverse ++ .ref b :: rest) (hn : As.length + 1 = pm_na k2) (hmx : As.length + 1 ≤ pm_l k2) (hcat : As.all (fun v => v.category == 1) = true) (hw : pm_wo k2 = pm_wo k) (hs : (pm_sh (pm_wo k))[b]? = some (.inl (ci, sl))) (hci : vwCl[ci]? = some r) (hC : r.1 = (pm_y k2).cls) (hR : pm_rok k k2) (hc : (rest.map fun v => v.category).sum ≤ 8)
    (h : pm_P k2 0 (pm_ent 0 (.ref b :: As)) [] A (fun r1 A1 => pm_P k (pc + 3) L (.int r1 :: rest) A1 Q)) : pm_P k pc L st A Q := by
  intro p l e s m args below meth c ad D tyc H locs ls C hP hS hL
  have hCC := C
  obtain ⟨hx, hb, hret, hml, hown, hts, hlk, hK, hin, hokk, hcl⟩ := C
  have hin2 : pm_inj (pm_wo k2) ad := by rw [hw]; exact hin
  have hM := pm_met hok hcl h (by simpa using hmx) (by rw [List.all_cons, hcat]; rfl) l ad D tyc hin2
  rw [pm_Qi_eq hr, hw] at hM
  obtain ⟨w1, w2, w3, w4⟩ := hl
  rw [← hokk.2.2.1] at w1
  have hT : GoodIn (pm_ws k) (wsV (pm_y k).cls idx (pm_y k2).cls (pm_y k2) (pm_ws k2)) := by
    intro w hw9
    rcases List.mem_append.mp hw9 with h9 | h9
    · have h8 : w ∈ pm_W := by
        simp only [List.mem_cons, List.not_mem_nil, or_false] at h9
        rcases h9 with rfl | rfl | rfl | rfl
        · exact w1
        · exact w2
        · exact w3
        · exact hok.2.2.2.1
      exact ⟨List.mem_cons_of_mem _ h8, good_of_word (List.mem_filter.mp h8).2⟩
    · exact pm_good k2 hok w h9
  have hnn : (parseMethodDescriptor (pm_y k2).desc).map (fun d => d.parameters.length) = some As.length := by
    cases hp : parseMethodDescriptor (pm_y k2).desc with
    | none => rw [hp] at w4; cases w4
    | some d =>
      rw [hp] at w4
      have h1 : d.parameters.length + 1 = pm_na k2 := Option.some.inj w4
      show some d.parameters.length = some As.length
      congr 1
      omega
  have cw := cwV (R := pm_rm k) (mc := 0) (ms := 0) (rm := pm_rm k2) As.length hts hT rfl rfl rfl ⟨rfl, hok.2.2.2.2.1, hok.2.2.2.2.2, hnn⟩ hR
  subst hst
  rw [show (As.reverse ++ Value.ref b :: rest).map (tv ad) = (As.map (tv ad)).reverse ++ Value.ref (ad b) :: rest.map (tv ad) by simp [tv]]
  refine va_calli (va_runV (As := As.map (tv ad)) (rest := rest.map (tv ad)) ⟨hx, hb, hml, hown, hts⟩ hM cw ⟨pm_blind (as := .ref b :: As), by rw [← hC]; exact va_recv hK hP (ci := ci) (q0 := b) hci (pm_w_get hs), fun U hU hW => ⟨rfl, by rw [hU]; exact hP, va_K.moved hW.alike hK⟩⟩ rfl (by simp) hL.1 rfl (lv_room (by rw [pm_catsum]; exact hc)) hd ⟨Nat.zero_le _, Nat.zero_le _⟩) hS (fun q _ h => h) (fun q h => h) (fun r1 u t H1 locs1 ht hvm hq hB hz hk1 hS1 => ?_)
  obtain ⟨hB1, hB2⟩ := hB
  rw [ht] at hB1
  exact hq p l e s m args below meth c ad D tyc H1 locs1 ls hCC hB1 hS1 hL
/-- a virtual call that answers nothing -/
theorem pm_callVv {k2 idx b ci : Nat} {sl : List (Option Nat)} {As rest st : List Value} {r : vw_C} (hd : decode (pm_c k) pc = .ok (.invokevirtual idx, 3)) (hl : pm_LV (pm_o k) idx k2) (hok : pm_ok k2) (hr : pm_r k2 = none) (hst : st = As.reverse ++ .ref b :: rest) (hn : As.length + 1 = pm_na k2) (hmx : As.length + 1 ≤ pm_l k2) (hcat : As.all (fun v => v.category == 1) = true) (hw : pm_wo k2 = pm_wo k) (hs : (pm_sh (pm_wo k))[b]? = some (.inl (ci, sl))) (hci : vwCl[ci]? = some r) (hC : r.1 = (pm_y k2).cls) (hR : pm_rok k k2) (hc : (rest.map fun v => v.category).sum ≤ 8)
    (h : pm_P k2 0 (pm_ent 0 (.ref b :: As)) [] A (fun _ A1 => pm_P k (pc + 3) L rest A1 Q)) : pm_P k pc L st A Q := by
  intro p l e s m args below meth c ad D tyc H locs ls C hP hS hL
  have hCC := C
  obtain ⟨hx, hb, hret, hml, hown, hts, hlk, hK, hin, hokk, hcl⟩ := C
  have hin2 : pm_inj (pm_wo k2) ad := by rw [hw]; exact hin
  have hM := pm_met hok hcl h (by simpa using hmx) (by rw [List.all_cons, hcat]; rfl) l ad D tyc hin2
  rw [pm_Qv_eq hr, hw] at hM
  obtain ⟨w1, w2, w3, w4⟩ := hl
  rw [← hokk.2.2.1] at w1
  have hT : GoodIn (pm_ws k) (wsV (pm_y k).cls idx (pm_y k2).cls (pm_y k2) (pm_ws k2)) := by
    intro w hw9
    rcases List.mem_append.mp hw9 with h9 | h9
    · have h8 : w ∈ pm_W := by
        simp only [List.mem_cons, List.not_mem_nil, or_false] at h9
        rcases h9 with rfl | rfl | rfl | rfl
        · exact w1
        · exact w2
        · exact w3
        · exact hok.2.2.2.1
      exact ⟨List.mem_cons_of_mem _ h8, good_of_word (List.mem_filter.mp h8).2⟩
    · exact pm_good k2 hok w h9
  have hnn : (parseMethodDescriptor (pm_y k2).desc).map (fun d => d.parameters.length) = some As.length := by
    cases hp : parseMethodDescriptor (pm_y k2).desc with
    | none => rw [hp] at w4; cases w4
    | some d =>
      rw [hp] at w4
      have h1 : d.parameters.length + 1 = pm_na k2 := Option.some.inj w4
      show some d.parameters.length = some As.length
      congr 1
      omega
  have cw := cwV (R := pm_rm k) (mc := 0) (ms := 0) (rm := pm_rm k2) As.length hts hT rfl rfl rfl ⟨rfl, hok.2.2.2.2.1, hok.2.2.2.2.2, hnn⟩ hR
  subst hst
  rw [show (As.reverse ++ Value.ref b :: rest).map (tv ad) = (As.map (tv ad)).reverse ++ Value.ref (ad b) :: rest.map (tv ad) by simp [tv]]
  refine va_callv (va_runV (As := As.map (tv ad)) (rest := rest.map (tv ad)) ⟨hx, hb, hml, hown, hts⟩ hM cw ⟨pm_blind (as := .ref b :: As), by rw [← hC]; exact va_recv hK hP (ci := ci) (q0 := b) hci (pm_w_get hs), fun U hU hW => ⟨rfl, by rw [hU]; exact hP, va_K.moved hW.alike hK⟩⟩ rfl (by simp) hL.1 rfl (lv_room (by rw [pm_catsum]; exact hc)) hd ⟨Nat.zero_le _, Nat.zero_le _⟩) hS (fun q _ h => h) (fun q h => h) (fun u t H1 locs1 ht hvm hq hB hz hk1 hS1 => ?_)
  obtain ⟨hB1, hB2⟩ := hB
  rw [ht] at hB1
  exact hq p l e s m args below meth c ad D tyc H1 locs1 ls hCC hB1 hS1 hL
theorem pm_goodS {idx k2 : Nat} (hl : pm_LS (pm_o k) idx k2) (hokk : pm_ok k) (hok : pm_ok k2) : GoodIn (pm_ws k) (va_wsS (pm_y k).cls idx (pm_y k2) (pm_ws k2)) := by
  obtain ⟨w1, w2, w4⟩ := hl
  rw [← hokk.2.2.1] at w1
  intro w hw9
  rcases List.mem_append.mp hw9 with h9 | h9
  · have h8 : w ∈ pm_W := by
      simp only [List.mem_cons, List.not_mem_nil, or_false] at h9
      rcases h9 with rfl | rfl | rfl
      · exact w1
      · exact w2
      · exact hok.2.2.2.1
    exact ⟨List.mem_cons_of_mem _ h8, good_of_word (List.mem_filter.mp h8).2⟩
  · exact pm_good k2 hok w h9
/-- a static call that answers an int -/
theorem pm_callS {k2 idx : Nat} {As rest st : List Value} {ty : FieldType} (hd : decode (pm_c k) pc = .ok (.invokestatic idx, 3)) (hl : pm_LS (pm_o k) idx k2) (hok : pm_ok k2) (hr : pm_r k2 = some ty) (hst : st = As.reverse ++ rest) (hn : As.length = pm_na k2) (hmx : As.length ≤ pm_l k2) (hcat : As.all (fun v => v.category == 1) = true) (hw : pm_wo k2 = pm_wo k) (hR : pm_rok k k2) (hc : (rest.map fun v => v.category).sum ≤ 8)
    (h : pm_P k2 0 (pm_ent 0 As) [] A (fun r1 A1 => pm_P k (pc + 3) L (.int r1 :: rest) A1 Q)) : pm_P k pc L st A Q := by
  intro p l e s m args below meth c ad D tyc H locs ls C hP hS hL
  have hCC := C
  obtain ⟨hx, hb, hret, hml, hown, hts, hlk, hK, hin, hokk, hcl⟩ := C
  have hin2 : pm_inj (pm_wo k2) ad := by rw [hw]; exact hin
  have hM := pm_met hok hcl h hmx hcat l ad D tyc hin2
  rw [pm_Qi_eq hr, hw] at hM
  have cw := va_cwS (R := pm_rm k) (mc := 0) (ms := 0) (rm := pm_rm k2) As.length hts (pm_goodS hl hokk hok) rfl rfl rfl ⟨hok.2.2.2.2.1, hok.2.2.2.2.2, by rw [hl.2.2, hn]⟩ hR
  subst hst
  rw [show (As.reverse ++ rest).map (tv ad) = (As.map (tv ad)).reverse ++ rest.map (tv ad) by simp]
  refine va_calli (va_runS (As := As.map (tv ad)) (rest := rest.map (tv ad)) ⟨hx, hb, hml, hown, hts⟩ hM cw ⟨pm_blind (as := As), fun U hU hW => ⟨rfl, by rw [hU]; exact hP, va_K.moved hW.alike hK⟩⟩ rfl (by simp) hL.1 rfl (lv_room (by rw [pm_catsum]; exact hc)) hd ⟨Nat.zero_le _, Nat.zero_le _⟩) hS (fun q _ h => h) (fun q h => h) (fun r1 u t H1 locs1 ht hvm hq hB hz hk1 hS1 => ?_)
  obtain ⟨hB1, hB2⟩ := hB
  rw [ht] at hB1
  exact hq p l e s m args below meth c ad D tyc H1 locs1 ls hCC hB1 hS1 hL
/-- a static call that answers nothing -/
theorem pm_callSv {k2 idx : Nat} {As rest st : List Value} (hd : decode (pm_c k) pc = .ok (.invokestatic idx, 3)) (hl : pm_LS (pm_o k) idx k2) (hok : pm_ok k2) (hr : pm_r k2 = none) (hst : st = As.reverse ++ rest) (hn : As.length = pm_na k2) (hmx : As.length ≤ pm_l k2) (hcat : As.all (fun v => v.category == 1) = true) (hw : pm_wo k2 = pm_wo k) (hR : pm_rok k k2) (hc : (rest.map fun v => v.category).sum ≤ 8)
    (h : pm_P k2 0 (pm_ent 0 As) [] A (fun _ A1 => pm_P k (pc + 3) L rest A1 Q)) : pm_P k pc L st A Q := by
  intro p l e s m args below meth c ad D tyc H locs ls C hP hS hL
  have hCC := C
  obtain ⟨hx, hb, hret, hml, hown, hts, hlk, hK, hin, hokk, hcl⟩ := C
  have hin2 : pm_inj (pm_wo k2) ad := by rw [hw]; exact hin
  have hM := pm_met hok hcl h hmx hcat l ad D tyc hin2
  rw [pm_Qv_eq hr, hw] at hM
  have cw := va_cwS (R := pm_rm k) (mc := 0) (ms := 0) (rm := pm_rm k2) As.length hts (pm_goodS hl hokk hok) rfl rfl rfl ⟨hok.2.2.2.2.1, hok.2.2.2.2.2, by rw [hl.2.2, hn]⟩ hR
  subst hst
  rw [show (As.reverse ++ rest).map (tv ad) = (As.map (tv ad)).reverse ++ rest.map (tv ad) by simp]
  refine va_callv (va_runS (As := As.map (tv ad)) (rest := rest.map (tv ad)) ⟨hx, hb, hml, hown, hts⟩ hM cw ⟨pm_blind (as := As), fun U hU hW => ⟨rfl, by rw [hU]; exact hP, va_K.moved hW.alike hK⟩⟩ rfl (by simp) hL.1 rfl (lv_room (by rw [pm_catsum]; exact hc)) hd ⟨Nat.zero_le _, Nat.zero_le _⟩) hS (fun q _ h => h) (fun q h => h) (fun u t H1 locs1 ht hvm hq hB hz hk1 hS1 => ?_)
  obtain ⟨hB1, hB2⟩ := hB
  rw [ht] at hB1
  exact hq p l e s m args below meth c ad D tyc H1 locs1 ls hCC hB1 hS1 hL
/-- System.arraycopy of a whole row of booleans, from place 0 to place 0 -/
theorem pm_copyz {idx b1 b2 n1 n2 : Nat} {n : Int32} {st : List Value} (hd : decode (pm_c k) pc = .ok (.invokestatic idx, 3)) (hl : pm_LA (pm_o k) idx) (hs1 : (pm_sh (pm_wo k))[b1]? = some (.inr (2, n1))) (hs2 : (pm_sh (pm_wo k))[b2]? = some (.inr (2, n2))) (h0 : ¬ n < 0) (hn1 : n.toNatClampNeg ≤ n1) (hn2 : n.toNatClampNeg ≤ n2) (hfit : ∀ i, i < n.toNatClampNeg → A b1 i = 0 ∨ A b1 i = 1) (hfr : 1 ≤ (pm_rm k).frames) (hlo : (st.map fun v => v.category).sum + (nativeFrameWords "java/lang/System" "arraycopy" 5 + 11) ≤ (pm_rm k).locals)
    (h : pm_P k (pc + 3) L st (fun c q => if c = b2 ∧ q < n.toNatClampNeg then A b1 q else A c q) Q) : pm_P k pc L (.int n :: .int 0 :: .ref b2 :: .int 0 :: .ref b1 :: st) A Q := by
  intro p l e s m args below meth c ad D tyc H locs ls C hP hS hL
  have hCC := C
  obtain ⟨hx, hb, hret, hml, hown, hts, hlk, hK, hin, hokk, hcl⟩ := C
  obtain ⟨w1, w2, w3, w4⟩ := hl
  rw [← hokk.2.2.1] at w1
  have z0 : (0 : Int32).toNatClampNeg = 0 := by decide
  refine va_copyi (ty := .boolean) hx hb (hml.trans hL.1.symm) hown (pm_hts hts w1) (pm_hts hts w2) (pm_hts hts w3) (pm_hts hts w4) hK hP (pm_w_D hin) hS b1 b2 2 2 (pm_w_get hs1) (pm_w_get hs2) rfl rfl rfl (by decide) (by decide) h0 (by rw [z0]; omega) (by rw [z0]; omega) (fun i hi => ?_) hfr (by rw [pm_catsum]; exact hlo) hd (fun H1 locs1 hP1 hD1 hS1 => ?_)
  · rw [z0, Nat.zero_add]
    rcases hfit i hi with h9 | h9 <;> rw [h9] <;> rfl
  · rw [pm_w_set hs2 (A2 := fun c q => if c = b2 ∧ q < n.toNatClampNeg then A b1 q else A c q) (by
      show (Sum.inl (tyc 2, n2, _) : va_E) = Sum.inl (tyc 2, n2, if 2 = 4 then _ else _)
      rw [if_neg (by decide)]
      congr 4
      funext q
      simp [va_cpy, z0]) (fun c hc => by funext q; simp [hc])] at hP1
    exact h p l e s m args below meth c ad D tyc H1 locs1 ls hCC hP1 hS1 hL
def pm_LM (own idx : Nat) (y : MethodName) (cc : ByteArray) (n : Nat) : Prop := Cond.methodLink (pm_own own) idx y ∈ pm_W ∧ Cond.static y ∈ pm_W ∧ Cond.initialized "java/lang/Math" ∈ pm_W ∧ Cond.code y cc n (some .int) ∈ pm_W
theorem pm_mmax {idx : Nat} {x y : Int32} {st : List Value} (hd : decode (pm_c k) pc = .ok (.invokestatic idx, 3)) (hl : pm_LM (pm_o k) idx Lib.Math.max.name Lib.Math.max.code 2) (hfr : 1 ≤ (pm_rm k).frames) (hlo : (st.map fun v => v.category).sum + 13 ≤ (pm_rm k).locals)
    (h : pm_P k (pc + 3) L (.int (if x < y then y else x) :: st) A Q) : pm_P k pc L (.int y :: .int x :: st) A Q := by
  intro p l e s m args below meth c ad D tyc H locs ls C hP hS hL
  have hgo := h p l e s m args below meth c ad D tyc H locs ls C hP hS hL
  obtain ⟨hx, hb, hret, hml, hown, hts, hlk, hK, hin, hokk, hcl⟩ := C
  obtain ⟨w1, w2, w3, w4⟩ := hl
  rw [← hokk.2.2.1] at w1
  exact va_mmax hx hb (hml.trans hL.1.symm) hown (pm_hts hts w1) (pm_hts hts w2) (pm_hts hts w3) (pm_hts hts w4) hfr (by rw [pm_catsum]; exact hlo) (Nat.zero_le _) (Nat.zero_le _) hd hgo
theorem pm_mmin {idx : Nat} {x y : Int32} {st : List Value} (hd : decode (pm_c k) pc = .ok (.invokestatic idx, 3)) (hl : pm_LM (pm_o k) idx Lib.Math.min.name Lib.Math.min.code 2) (hfr : 1 ≤ (pm_rm k).frames) (hlo : (st.map fun v => v.category).sum + 13 ≤ (pm_rm k).locals)
    (h : pm_P k (pc + 3) L (.int (if y < x then y else x) :: st) A Q) : pm_P k pc L (.int y :: .int x :: st) A Q := by
  intro p l e s m args below meth c ad D tyc H locs ls C hP hS hL
  have hgo := h p l e s m args below meth c ad D tyc H locs ls C hP hS hL
  obtain ⟨hx, hb, hret, hml, hown, hts, hlk, hK, hin, hokk, hcl⟩ := C
  obtain ⟨w1, w2, w3, w4⟩ := hl
  rw [← hokk.2.2.1] at w1
  exact va_mmin hx hb (hml.trans hL.1.symm) hown (pm_hts hts w1) (pm_hts hts w2) (pm_hts hts w3) (pm_hts hts w4) hfr (by rw [pm_catsum]; exact hlo) (Nat.zero_le _) (Nat.zero_le _) hd hgo
theorem pm_mabs {idx : Nat} {x : Int32} {st : List Value} (hd : decode (pm_c k) pc = .ok (.invokestatic idx, 3)) (hl : pm_LM (pm_o k) idx Lib.Math.abs.name Lib.Math.abs.code 1) (hfr : 1 ≤ (pm_rm k).frames) (hlo : (st.map fun v => v.category).sum + 13 ≤ (pm_rm k).locals)
    (h : pm_P k (pc + 3) L (.int (if 0 ≤ x then x else 0 - x) :: st) A Q) : pm_P k pc L (.int x :: st) A Q := by
  intro p l e s m args below meth c ad D tyc H locs ls C hP hS hL
  have hgo := h p l e s m args below meth c ad D tyc H locs ls C hP hS hL
  obtain ⟨hx, hb, hret, hml, hown, hts, hlk, hK, hin, hokk, hcl⟩ := C
  obtain ⟨w1, w2, w3, w4⟩ := hl
  rw [← hokk.2.2.1] at w1
  exact va_mabs hx hb (hml.trans hL.1.symm) hown (pm_hts hts w1) (pm_hts hts w2) (pm_hts hts w3) (pm_hts hts w4) hfr (by rw [pm_catsum]; exact hlo) (Nat.zero_le _) (Nat.zero_le _) hd hgo
end PMC
end
section
theorem cls_all : pm_cls := by
  intro ci q hq
  match ci, hq with
  | 0, hq => cases hq; exact ⟨pm_inL (wsX00) [226, 228, 230] (by decide +kernel) (by decide +kernel), ⟨tyX0, tyX0_ok⟩, nmX0⟩
  | 1, hq => cases hq; exact ⟨pm_inL (wsX10) [281, 283] (by decide +kernel) (by decide +kernel), ⟨tyX1, tyX1_ok⟩, nmX1⟩
  | 2, hq => cases hq; exact ⟨pm_inL (wsX20) [128, 130, 132, 134, 136] (by decide +kernel) (by decide +kernel), ⟨tyX2, tyX2_ok⟩, nmX2⟩
  | 3, hq => cases hq; exact ⟨pm_inL (wsX30) [197, 199, 201, 203, 205, 207, 209, 211] (by decide +kernel) (by decide +kernel), ⟨tyX3, tyX3_ok⟩, nmX3⟩
  | 4, hq => cases hq; exact ⟨pm_inL (wsX40) [378, 380, 382, 384] (by decide +kernel) (by decide +kernel), ⟨tyX4, tyX4_ok⟩, nmX4⟩
  | 5, hq => cases hq; exact ⟨pm_inL (wsX50) [321, 323, 325, 327, 329, 331, 333, 335] (by decide +kernel) (by decide +kernel), ⟨tyX5, tyX5_ok⟩, nmX5⟩
  | 6, hq => cases hq; exact ⟨pm_inL (wsX60) [253, 255, 257, 259, 261, 263, 265] (by decide +kernel) (by decide +kernel), ⟨tyX6, tyX6_ok⟩, nmX6⟩
  | 7, hq => cases hq; exact ⟨pm_inL (wsX70) [164, 166, 168, 170, 172, 174] (by decide +kernel) (by decide +kernel), ⟨tyX7, tyX7_ok⟩, nmX7⟩
  | 8, hq => cases hq; exact ⟨pm_inL (wsX80) [353, 355, 357, 359, 361] (by decide +kernel) (by decide +kernel), ⟨tyX8, tyX8_ok⟩, nmX8⟩
  | 9, hq => cases hq; exact ⟨pm_inL (wsX90) [298, 300, 302] (by decide +kernel) (by decide +kernel), ⟨tyX9, tyX9_ok⟩, nmX9⟩
  | 10, hq => cases hq; exact ⟨pm_inL (wsX100) [474, 476, 478, 480, 482, 484, 486, 488, 490, 492, 494] (by decide +kernel) (by decide +kernel), ⟨tyX10, tyX10_ok⟩, nmX10⟩
  | 11, hq => cases hq; exact ⟨pm_inL (wsX110) [934, 936, 938, 940, 942, 944, 946, 948, 950, 952, 954, 956, 958, 960, 962, 964, 966, 968, 970, 972, 974, 976, 978, 980, 982, 984, 986, 988, 990, 992, 994, 996] (by decide +kernel) (by decide +kernel), ⟨tyX11, tyX11_ok⟩, nmX11⟩
  | k + 12, hq => simp [vwCl] at hq
theorem ok_1 : pm_ok 1 := ⟨pm_in 454 (by decide +kernel) (by decide +kernel), (by decide +kernel), (by decide +kernel), pm_in 90 (by decide +kernel) (by decide +kernel), (by decide +kernel), (by decide +kernel)⟩
theorem ok_2 : pm_ok 2 := ⟨pm_in 458 (by decide +kernel) (by decide +kernel), (by decide +kernel), (by decide +kernel), pm_in 90 (by decide +kernel) (by decide +kernel), (by decide +kernel), (by decide +kernel)⟩
theorem ok_4 : pm_ok 4 := ⟨pm_in 507 (by decide +kernel) (by decide +kernel), (by decide +kernel), (by decide +kernel), pm_in 92 (by decide +kernel) (by decide +kernel), (by decide +kernel), (by decide +kernel)⟩
theorem ok_5 : pm_ok 5 := ⟨pm_in 511 (by decide +kernel) (by decide +kernel), (by decide +kernel), (by decide +kernel), pm_in 92 (by decide +kernel) (by decide +kernel), (by decide +kernel), (by decide +kernel)⟩
theorem ok_6 : pm_ok 6 := ⟨pm_in 638 (by decide +kernel) (by decide +kernel), (by decide +kernel), (by decide +kernel), pm_in 92 (by decide +kernel) (by decide +kernel), (by decide +kernel), (by decide +kernel)⟩
theorem ok_8 : pm_ok 8 := ⟨pm_in 394 (by decide +kernel) (by decide +kernel), (by decide +kernel), (by decide +kernel), pm_in 87 (by decide +kernel) (by decide +kernel), (by decide +kernel), (by decide +kernel)⟩
theorem ok_9 : pm_ok 9 := ⟨pm_in 401 (by decide +kernel) (by decide +kernel), (by decide +kernel), (by decide +kernel), pm_in 87 (by decide +kernel) (by decide +kernel), (by decide +kernel), (by decide +kernel)⟩
theorem ok_10 : pm_ok 10 := ⟨pm_in 678 (by decide +kernel) (by decide +kernel), (by decide +kernel), (by decide +kernel), pm_in 87 (by decide +kernel) (by decide +kernel), (by decide +kernel), (by decide +kernel)⟩
theorem ok_11 : pm_ok 11 := ⟨pm_in 431 (by decide +kernel) (by decide +kernel), (by decide +kernel), (by decide +kernel), pm_in 87 (by decide +kernel) (by decide +kernel), (by decide +kernel), (by decide +kernel)⟩
theorem ok_12 : pm_ok 12 := ⟨pm_in 412 (by decide +kernel) (by decide +kernel), (by decide +kernel), (by decide +kernel), pm_in 87 (by decide +kernel) (by decide +kernel), (by decide +kernel), (by decide +kernel)⟩
theorem ok_13 : pm_ok 13 := ⟨pm_in 415 (by decide +kernel) (by decide +kernel), (by decide +kernel), (by decide +kernel), pm_in 87 (by decide +kernel) (by decide +kernel), (by decide +kernel), (by decide +kernel)⟩
theorem ok_14 : pm_ok 14 := ⟨pm_in 655 (by decide +kernel) (by decide +kernel), (by decide +kernel), (by decide +kernel), pm_in 87 (by decide +kernel) (by decide +kernel), (by decide +kernel), (by decide +kernel)⟩
theorem ok_15 : pm_ok 15 := ⟨pm_in 659 (by decide +kernel) (by decide +kernel), (by decide +kernel), (by decide +kernel), pm_in 87 (by decide +kernel) (by decide +kernel), (by decide +kernel), (by decide +kernel)⟩
theorem ok_16 : pm_ok 16 := ⟨pm_in 664 (by decide +kernel) (by decide +kernel), (by decide +kernel), (by decide +kernel), pm_in 87 (by decide +kernel) (by decide +kernel), (by decide +kernel), (by decide +kernel)⟩
theorem ok_18 : pm_ok 18 := ⟨pm_in 427 (by decide +kernel) (by decide +kernel), (by decide +kernel), (by decide +kernel), pm_in 89 (by decide +kernel) (by decide +kernel), (by decide +kernel), (by decide +kernel)⟩
theorem ok_19 : pm_ok 19 := ⟨pm_in 439 (by decide +kernel) (by decide +kernel), (by decide +kernel), (by decide +kernel), pm_in 89 (by decide +kernel) (by decide +kernel), (by decide +kernel), (by decide +kernel)⟩
theorem ok_20 : pm_ok 20 := ⟨pm_in 443 (by decide +kernel) (by decide +kernel), (by decide +kernel), (by decide +kernel), pm_in 89 (by decide +kernel) (by decide +kernel), (by decide +kernel), (by decide +kernel)⟩
theorem ok_21 : pm_ok 21 := ⟨pm_in 435 (by decide +kernel) (by decide +kernel), (by decide +kernel), (by decide +kernel), pm_in 89 (by decide +kernel) (by decide +kernel), (by decide +kernel), (by decide +kernel)⟩
theorem ok_22 : pm_ok 22 := ⟨pm_in 450 (by decide +kernel) (by decide +kernel), (by decide +kernel), (by decide +kernel), pm_in 89 (by decide +kernel) (by decide +kernel), (by decide +kernel), (by decide +kernel)⟩
theorem ok_23 : pm_ok 23 := ⟨pm_in 734 (by decide +kernel) (by decide +kernel), (by decide +kernel), (by decide +kernel), pm_in 89 (by decide +kernel) (by decide +kernel), (by decide +kernel), (by decide +kernel)⟩
theorem ok_24 : pm_ok 24 := ⟨pm_in 570 (by decide +kernel) (by decide +kernel), (by decide +kernel), (by decide +kernel), pm_in 89 (by decide +kernel) (by decide +kernel), (by decide +kernel), (by decide +kernel)⟩
theorem ok_25 : pm_ok 25 := ⟨pm_in 574 (by decide +kernel) (by decide +kernel), (by decide +kernel), (by decide +kernel), pm_in 89 (by decide +kernel) (by decide +kernel), (by decide +kernel), (by decide +kernel)⟩
theorem ok_27 : pm_ok 27 := ⟨pm_in 820 (by decide +kernel) (by decide +kernel), (by decide +kernel), (by decide +kernel), pm_in 96 (by decide +kernel) (by decide +kernel), (by decide +kernel), (by decide +kernel)⟩
theorem ok_28 : pm_ok 28 := ⟨pm_in 844 (by decide +kernel) (by decide +kernel), (by decide +kernel), (by decide +kernel), pm_in 96 (by decide +kernel) (by decide +kernel), (by decide +kernel), (by decide +kernel)⟩
theorem ok_30 : pm_ok 30 := ⟨pm_in 554 (by decide +kernel) (by decide +kernel), (by decide +kernel), (by decide +kernel), pm_in 94 (by decide +kernel) (by decide +kernel), (by decide +kernel), (by decide +kernel)⟩
theorem ok_31 : pm_ok 31 := ⟨pm_in 562 (by decide +kernel) (by decide +kernel), (by decide +kernel), (by decide +kernel), pm_in 94 (by decide +kernel) (by decide +kernel), (by decide +kernel), (by decide +kernel)⟩
theorem ok_32 : pm_ok 32 := ⟨pm_in 566 (by decide +kernel) (by decide +kernel), (by decide +kernel), (by decide +kernel), pm_in 94 (by decide +kernel) (by decide +kernel), (by decide +kernel), (by decide +kernel)⟩
theorem ok_33 : pm_ok 33 := ⟨pm_in 579 (by decide +kernel) (by decide +kernel), (by decide +kernel), (by decide +kernel), pm_in 94 (by decide +kernel) (by decide +kernel), (by decide +kernel), (by decide +kernel)⟩
theorem ok_34 : pm_ok 34 := ⟨pm_in 587 (by decide +kernel) (by decide +kernel), (by decide +kernel), (by decide +kernel), pm_in 94 (by decide +kernel) (by decide +kernel), (by decide +kernel), (by decide +kernel)⟩
theorem ok_35 : pm_ok 35 := ⟨pm_in 591 (by decide +kernel) (by decide +kernel), (by decide +kernel), (by decide +kernel), pm_in 94 (by decide +kernel) (by decide +kernel), (by decide +kernel), (by decide +kernel)⟩
theorem ok_36 : pm_ok 36 := ⟨pm_in 583 (by decide +kernel) (by decide +kernel), (by decide +kernel), (by decide +kernel), pm_in 94 (by decide +kernel) (by decide +kernel), (by decide +kernel), (by decide +kernel)⟩
theorem ok_37 : pm_ok 37 := ⟨pm_in 787 (by decide +kernel) (by decide +kernel), (by decide +kernel), (by decide +kernel), pm_in 94 (by decide +kernel) (by decide +kernel), (by decide +kernel), (by decide +kernel)⟩
theorem ok_38 : pm_ok 38 := ⟨pm_in 791 (by decide +kernel) (by decide +kernel), (by decide +kernel), (by decide +kernel), pm_in 94 (by decide +kernel) (by decide +kernel), (by decide +kernel), (by decide +kernel)⟩
theorem ok_40 : pm_ok 40 := ⟨pm_in 515 (by decide +kernel) (by decide +kernel), (by decide +kernel), (by decide +kernel), pm_in 91 (by decide +kernel) (by decide +kernel), (by decide +kernel), (by decide +kernel)⟩
theorem ok_41 : pm_ok 41 := ⟨pm_in 763 (by decide +kernel) (by decide +kernel), (by decide +kernel), (by decide +kernel), pm_in 91 (by decide +kernel) (by decide +kernel), (by decide +kernel), (by decide +kernel)⟩
theorem ok_42 : pm_ok 42 := ⟨pm_in 771 (by decide +kernel) (by decide +kernel), (by decide +kernel), (by decide +kernel), pm_in 91 (by decide +kernel) (by decide +kernel), (by decide +kernel), (by decide +kernel)⟩
theorem ok_43 : pm_ok 43 := ⟨pm_in 522 (by decide +kernel) (by decide +kernel), (by decide +kernel), (by decide +kernel), pm_in 91 (by decide +kernel) (by decide +kernel), (by decide +kernel), (by decide +kernel)⟩
theorem ok_45 : pm_ok 45 := ⟨pm_in 405 (by decide +kernel) (by decide +kernel), (by decide +kernel), (by decide +kernel), pm_in 88 (by decide +kernel) (by decide +kernel), (by decide +kernel), (by decide +kernel)⟩
theorem ok_46 : pm_ok 46 := ⟨pm_in 419 (by decide +kernel) (by decide +kernel), (by decide +kernel), (by decide +kernel), pm_in 88 (by decide +kernel) (by decide +kernel), (by decide +kernel), (by decide +kernel)⟩
theorem ok_47 : pm_ok 47 := ⟨pm_in 423 (by decide +kernel) (by decide +kernel), (by decide +kernel), (by decide +kernel), pm_in 88 (by decide +kernel) (by decide +kernel), (by decide +kernel), (by decide +kernel)⟩
theorem ok_48 : pm_ok 48 := ⟨pm_in 462 (by decide +kernel) (by decide +kernel), (by decide +kernel), (by decide +kernel), pm_in 88 (by decide +kernel) (by decide +kernel), (by decide +kernel), (by decide +kernel)⟩
theorem ok_50 : pm_ok 50 := ⟨pm_in 804 (by decide +kernel) (by decide +kernel), (by decide +kernel), (by decide +kernel), pm_in 95 (by decide +kernel) (by decide +kernel), (by decide +kernel), (by decide +kernel)⟩
theorem ok_51 : pm_ok 51 := ⟨pm_in 828 (by decide +kernel) (by decide +kernel), (by decide +kernel), (by decide +kernel), pm_in 95 (by decide +kernel) (by decide +kernel), (by decide +kernel), (by decide +kernel)⟩
theorem ok_52 : pm_ok 52 := ⟨pm_in 832 (by decide +kernel) (by decide +kernel), (by decide +kernel), (by decide +kernel), pm_in 95 (by decide +kernel) (by decide +kernel), (by decide +kernel), (by decide +kernel)⟩
theorem ok_53 : pm_ok 53 := ⟨pm_in 836 (by decide +kernel) (by decide +kernel), (by decide +kernel), (by decide +kernel), pm_in 95 (by decide +kernel) (by decide +kernel), (by decide +kernel), (by decide +kernel)⟩
theorem ok_54 : pm_ok 54 := ⟨pm_in 840 (by decide +kernel) (by decide +kernel), (by decide +kernel), (by decide +kernel), pm_in 95 (by decide +kernel) (by decide +kernel), (by decide +kernel), (by decide +kernel)⟩
theorem ok_56 : pm_ok 56 := ⟨pm_in 698 (by decide +kernel) (by decide +kernel), (by decide +kernel), (by decide +kernel), pm_in 93 (by decide +kernel) (by decide +kernel), (by decide +kernel), (by decide +kernel)⟩
theorem ok_57 : pm_ok 57 := ⟨pm_in 703 (by decide +kernel) (by decide +kernel), (by decide +kernel), (by decide +kernel), pm_in 93 (by decide +kernel) (by decide +kernel), (by decide +kernel), (by decide +kernel)⟩
theorem ok_59 : pm_ok 59 := ⟨pm_in 500 (by decide +kernel) (by decide +kernel), (by decide +kernel), (by decide +kernel), pm_in 86 (by decide +kernel) (by decide +kernel), (by decide +kernel), (by decide +kernel)⟩
theorem ok_60 : pm_ok 60 := ⟨pm_in 526 (by decide +kernel) (by decide +kernel), (by decide +kernel), (by decide +kernel), pm_in 86 (by decide +kernel) (by decide +kernel), (by decide +kernel), (by decide +kernel)⟩
theorem ok_61 : pm_ok 61 := ⟨pm_in 530 (by decide +kernel) (by decide +kernel), (by decide +kernel), (by decide +kernel), pm_in 86 (by decide +kernel) (by decide +kernel), (by decide +kernel), (by decide +kernel)⟩
theorem ok_62 : pm_ok 62 := ⟨pm_in 542 (by decide +kernel) (by decide +kernel), (by decide +kernel), (by decide +kernel), pm_in 86 (by decide +kernel) (by decide +kernel), (by decide +kernel), (by decide +kernel)⟩
theorem ok_63 : pm_ok 63 := ⟨pm_in 598 (by decide +kernel) (by decide +kernel), (by decide +kernel), (by decide +kernel), pm_in 86 (by decide +kernel) (by decide +kernel), (by decide +kernel), (by decide +kernel)⟩
theorem ok_64 : pm_ok 64 := ⟨pm_in 634 (by decide +kernel) (by decide +kernel), (by decide +kernel), (by decide +kernel), pm_in 86 (by decide +kernel) (by decide +kernel), (by decide +kernel), (by decide +kernel)⟩
theorem ok_65 : pm_ok 65 := ⟨pm_in 642 (by decide +kernel) (by decide +kernel), (by decide +kernel), (by decide +kernel), pm_in 86 (by decide +kernel) (by decide +kernel), (by decide +kernel), (by decide +kernel)⟩
theorem ok_66 : pm_ok 66 := ⟨pm_in 671 (by decide +kernel) (by decide +kernel), (by decide +kernel), (by decide +kernel), pm_in 86 (by decide +kernel) (by decide +kernel), (by decide +kernel), (by decide +kernel)⟩
theorem ok_67 : pm_ok 67 := ⟨pm_in 682 (by decide +kernel) (by decide +kernel), (by decide +kernel), (by decide +kernel), pm_in 86 (by decide +kernel) (by decide +kernel), (by decide +kernel), (by decide +kernel)⟩
theorem ok_68 : pm_ok 68 := ⟨pm_in 686 (by decide +kernel) (by decide +kernel), (by decide +kernel), (by decide +kernel), pm_in 86 (by decide +kernel) (by decide +kernel), (by decide +kernel), (by decide +kernel)⟩
theorem ok_69 : pm_ok 69 := ⟨pm_in 690 (by decide +kernel) (by decide +kernel), (by decide +kernel), (by decide +kernel), pm_in 86 (by decide +kernel) (by decide +kernel), (by decide +kernel), (by decide +kernel)⟩
theorem ok_70 : pm_ok 70 := ⟨pm_in 708 (by decide +kernel) (by decide +kernel), (by decide +kernel), (by decide +kernel), pm_in 86 (by decide +kernel) (by decide +kernel), (by decide +kernel), (by decide +kernel)⟩
theorem ok_71 : pm_ok 71 := ⟨pm_in 713 (by decide +kernel) (by decide +kernel), (by decide +kernel), (by decide +kernel), pm_in 86 (by decide +kernel) (by decide +kernel), (by decide +kernel), (by decide +kernel)⟩
theorem ok_72 : pm_ok 72 := ⟨pm_in 726 (by decide +kernel) (by decide +kernel), (by decide +kernel), (by decide +kernel), pm_in 86 (by decide +kernel) (by decide +kernel), (by decide +kernel), (by decide +kernel)⟩
theorem ok_73 : pm_ok 73 := ⟨pm_in 738 (by decide +kernel) (by decide +kernel), (by decide +kernel), (by decide +kernel), pm_in 86 (by decide +kernel) (by decide +kernel), (by decide +kernel), (by decide +kernel)⟩
theorem ok_74 : pm_ok 74 := ⟨pm_in 750 (by decide +kernel) (by decide +kernel), (by decide +kernel), (by decide +kernel), pm_in 86 (by decide +kernel) (by decide +kernel), (by decide +kernel), (by decide +kernel)⟩
theorem ok_75 : pm_ok 75 := ⟨pm_in 767 (by decide +kernel) (by decide +kernel), (by decide +kernel), (by decide +kernel), pm_in 86 (by decide +kernel) (by decide +kernel), (by decide +kernel), (by decide +kernel)⟩
theorem ok_76 : pm_ok 76 := ⟨pm_in 775 (by decide +kernel) (by decide +kernel), (by decide +kernel), (by decide +kernel), pm_in 86 (by decide +kernel) (by decide +kernel), (by decide +kernel), (by decide +kernel)⟩
theorem ok_77 : pm_ok 77 := ⟨pm_in 779 (by decide +kernel) (by decide +kernel), (by decide +kernel), (by decide +kernel), pm_in 86 (by decide +kernel) (by decide +kernel), (by decide +kernel), (by decide +kernel)⟩
theorem ok_78 : pm_ok 78 := ⟨pm_in 783 (by decide +kernel) (by decide +kernel), (by decide +kernel), (by decide +kernel), pm_in 86 (by decide +kernel) (by decide +kernel), (by decide +kernel), (by decide +kernel)⟩
theorem ok_79 : pm_ok 79 := ⟨pm_in 796 (by decide +kernel) (by decide +kernel), (by decide +kernel), (by decide +kernel), pm_in 86 (by decide +kernel) (by decide +kernel), (by decide +kernel), (by decide +kernel)⟩
theorem ok_80 : pm_ok 80 := ⟨pm_in 800 (by decide +kernel) (by decide +kernel), (by decide +kernel), (by decide +kernel), pm_in 86 (by decide +kernel) (by decide +kernel), (by decide +kernel), (by decide +kernel)⟩
theorem ok_81 : pm_ok 81 := ⟨pm_in 808 (by decide +kernel) (by decide +kernel), (by decide +kernel), (by decide +kernel), pm_in 86 (by decide +kernel) (by decide +kernel), (by decide +kernel), (by decide +kernel)⟩
theorem ok_82 : pm_ok 82 := ⟨pm_in 812 (by decide +kernel) (by decide +kernel), (by decide +kernel), (by decide +kernel), pm_in 86 (by decide +kernel) (by decide +kernel), (by decide +kernel), (by decide +kernel)⟩
theorem ok_83 : pm_ok 83 := ⟨pm_in 848 (by decide +kernel) (by decide +kernel), (by decide +kernel), (by decide +kernel), pm_in 86 (by decide +kernel) (by decide +kernel), (by decide +kernel), (by decide +kernel)⟩
theorem ok_84 : pm_ok 84 := ⟨pm_in 503 (by decide +kernel) (by decide +kernel), (by decide +kernel), (by decide +kernel), pm_in 86 (by decide +kernel) (by decide +kernel), (by decide +kernel), (by decide +kernel)⟩
theorem ok_85 : pm_ok 85 := ⟨pm_in 674 (by decide +kernel) (by decide +kernel), (by decide +kernel), (by decide +kernel), pm_in 86 (by decide +kernel) (by decide +kernel), (by decide +kernel), (by decide +kernel)⟩
theorem ok_86 : pm_ok 86 := ⟨pm_in 646 (by decide +kernel) (by decide +kernel), (by decide +kernel), (by decide +kernel), pm_in 86 (by decide +kernel) (by decide +kernel), (by decide +kernel), (by decide +kernel)⟩
theorem ok_87 : pm_ok 87 := ⟨pm_in 717 (by decide +kernel) (by decide +kernel), (by decide +kernel), (by decide +kernel), pm_in 86 (by decide +kernel) (by decide +kernel), (by decide +kernel), (by decide +kernel)⟩
theorem ok_88 : pm_ok 88 := ⟨pm_in 390 (by decide +kernel) (by decide +kernel), (by decide +kernel), (by decide +kernel), pm_in 86 (by decide +kernel) (by decide +kernel), (by decide +kernel), (by decide +kernel)⟩
theorem ok_89 : pm_ok 89 := ⟨pm_in 538 (by decide +kernel) (by decide +kernel), (by decide +kernel), (by decide +kernel), pm_in 86 (by decide +kernel) (by decide +kernel), (by decide +kernel), (by decide +kernel)⟩
theorem ok_90 : pm_ok 90 := ⟨pm_in 558 (by decide +kernel) (by decide +kernel), (by decide +kernel), (by decide +kernel), pm_in 86 (by decide +kernel) (by decide +kernel), (by decide +kernel), (by decide +kernel)⟩
theorem ok_91 : pm_ok 91 := ⟨pm_in 610 (by decide +kernel) (by decide +kernel), (by decide +kernel), (by decide +kernel), pm_in 86 (by decide +kernel) (by decide +kernel), (by decide +kernel), (by decide +kernel)⟩
theorem ok_92 : pm_ok 92 := ⟨pm_in 630 (by decide +kernel) (by decide +kernel), (by decide +kernel), (by decide +kernel), pm_in 86 (by decide +kernel) (by decide +kernel), (by decide +kernel), (by decide +kernel)⟩
theorem ok_93 : pm_ok 93 := ⟨pm_in 618 (by decide +kernel) (by decide +kernel), (by decide +kernel), (by decide +kernel), pm_in 86 (by decide +kernel) (by decide +kernel), (by decide +kernel), (by decide +kernel)⟩
theorem ok_94 : pm_ok 94 := ⟨pm_in 650 (by decide +kernel) (by decide +kernel), (by decide +kernel), (by decide +kernel), pm_in 86 (by decide +kernel) (by decide +kernel), (by decide +kernel), (by decide +kernel)⟩
theorem ok_95 : pm_ok 95 := ⟨pm_in 534 (by decide +kernel) (by decide +kernel), (by decide +kernel), (by decide +kernel), pm_in 86 (by decide +kernel) (by decide +kernel), (by decide +kernel), (by decide +kernel)⟩
theorem ok_96 : pm_ok 96 := ⟨pm_in 614 (by decide +kernel) (by decide +kernel), (by decide +kernel), (by decide +kernel), pm_in 86 (by decide +kernel) (by decide +kernel), (by decide +kernel), (by decide +kernel)⟩
theorem ok_97 : pm_ok 97 := ⟨pm_in 602 (by decide +kernel) (by decide +kernel), (by decide +kernel), (by decide +kernel), pm_in 86 (by decide +kernel) (by decide +kernel), (by decide +kernel), (by decide +kernel)⟩
theorem ok_98 : pm_ok 98 := ⟨pm_in 622 (by decide +kernel) (by decide +kernel), (by decide +kernel), (by decide +kernel), pm_in 86 (by decide +kernel) (by decide +kernel), (by decide +kernel), (by decide +kernel)⟩
theorem ok_99 : pm_ok 99 := ⟨pm_in 606 (by decide +kernel) (by decide +kernel), (by decide +kernel), (by decide +kernel), pm_in 86 (by decide +kernel) (by decide +kernel), (by decide +kernel), (by decide +kernel)⟩
theorem ok_100 : pm_ok 100 := ⟨pm_in 626 (by decide +kernel) (by decide +kernel), (by decide +kernel), (by decide +kernel), pm_in 86 (by decide +kernel) (by decide +kernel), (by decide +kernel), (by decide +kernel)⟩
theorem ok_101 : pm_ok 101 := ⟨pm_in 730 (by decide +kernel) (by decide +kernel), (by decide +kernel), (by decide +kernel), pm_in 86 (by decide +kernel) (by decide +kernel), (by decide +kernel), (by decide +kernel)⟩
theorem ok_102 : pm_ok 102 := ⟨pm_in 742 (by decide +kernel) (by decide +kernel), (by decide +kernel), (by decide +kernel), pm_in 86 (by decide +kernel) (by decide +kernel), (by decide +kernel), (by decide +kernel)⟩
theorem ok_103 : pm_ok 103 := ⟨pm_in 746 (by decide +kernel) (by decide +kernel), (by decide +kernel), (by decide +kernel), pm_in 86 (by decide +kernel) (by decide +kernel), (by decide +kernel), (by decide +kernel)⟩
theorem ok_104 : pm_ok 104 := ⟨pm_in 758 (by decide +kernel) (by decide +kernel), (by decide +kernel), (by decide +kernel), pm_in 86 (by decide +kernel) (by decide +kernel), (by decide +kernel), (by decide +kernel)⟩
theorem ok_105 : pm_ok 105 := ⟨pm_in 754 (by decide +kernel) (by decide +kernel), (by decide +kernel), (by decide +kernel), pm_in 86 (by decide +kernel) (by decide +kernel), (by decide +kernel), (by decide +kernel)⟩
theorem ok_106 : pm_ok 106 := ⟨pm_in 694 (by decide +kernel) (by decide +kernel), (by decide +kernel), (by decide +kernel), pm_in 86 (by decide +kernel) (by decide +kernel), (by decide +kernel), (by decide +kernel)⟩
theorem ok_107 : pm_ok 107 := ⟨pm_in 550 (by decide +kernel) (by decide +kernel), (by decide +kernel), (by decide +kernel), pm_in 86 (by decide +kernel) (by decide +kernel), (by decide +kernel), (by decide +kernel)⟩
theorem ok_108 : pm_ok 108 := ⟨pm_in 546 (by decide +kernel) (by decide +kernel), (by decide +kernel), (by decide +kernel), pm_in 86 (by decide +kernel) (by decide +kernel), (by decide +kernel), (by decide +kernel)⟩
theorem ok_109 : pm_ok 109 := ⟨pm_in 722 (by decide +kernel) (by decide +kernel), (by decide +kernel), (by decide +kernel), pm_in 86 (by decide +kernel) (by decide +kernel), (by decide +kernel), (by decide +kernel)⟩
theorem ok_110 : pm_ok 110 := ⟨pm_in 816 (by decide +kernel) (by decide +kernel), (by decide +kernel), (by decide +kernel), pm_in 86 (by decide +kernel) (by decide +kernel), (by decide +kernel), (by decide +kernel)⟩
theorem ok_111 : pm_ok 111 := ⟨pm_in 824 (by decide +kernel) (by decide +kernel), (by decide +kernel), (by decide +kernel), pm_in 86 (by decide +kernel) (by decide +kernel), (by decide +kernel), (by decide +kernel)⟩
theorem ok_113 : pm_ok 113 := ⟨pm_in 1010 (by decide +kernel) (by decide +kernel), (by decide +kernel), (by decide +kernel), pm_in 100 (by decide +kernel) (by decide +kernel), (by decide +kernel), (by decide +kernel)⟩
theorem ok_114 : pm_ok 114 := ⟨pm_in 865 (by decide +kernel) (by decide +kernel), (by decide +kernel), (by decide +kernel), pm_in 100 (by decide +kernel) (by decide +kernel), (by decide +kernel), (by decide +kernel)⟩
theorem ok_115 : pm_ok 115 := ⟨pm_in 1014 (by decide +kernel) (by decide +kernel), (by decide +kernel), (by decide +kernel), pm_in 100 (by decide +kernel) (by decide +kernel), (by decide +kernel), (by decide +kernel)⟩
theorem ok_116 : pm_ok 116 := ⟨pm_in 1003 (by decide +kernel) (by decide +kernel), (by decide +kernel), (by decide +kernel), pm_in 100 (by decide +kernel) (by decide +kernel), (by decide +kernel), (by decide +kernel)⟩
theorem ok_117 : pm_ok 117 := ⟨pm_in 862 (by decide +kernel) (by decide +kernel), (by decide +kernel), (by decide +kernel), pm_in 100 (by decide +kernel) (by decide +kernel), (by decide +kernel), (by decide +kernel)⟩
theorem ok_118 : pm_ok 118 := ⟨pm_in 876 (by decide +kernel) (by decide +kernel), (by decide +kernel), (by decide +kernel), pm_in 100 (by decide +kernel) (by decide +kernel), (by decide +kernel), (by decide +kernel)⟩
theorem ok_119 : pm_ok 119 := ⟨pm_in 873 (by decide +kernel) (by decide +kernel), (by decide +kernel), (by decide +kernel), pm_in 100 (by decide +kernel) (by decide +kernel), (by decide +kernel), (by decide +kernel)⟩
theorem ok_120 : pm_ok 120 := ⟨pm_in 896 (by decide +kernel) (by decide +kernel), (by decide +kernel), (by decide +kernel), pm_in 100 (by decide +kernel) (by decide +kernel), (by decide +kernel), (by decide +kernel)⟩
theorem ok_121 : pm_ok 121 := ⟨pm_in 888 (by decide +kernel) (by decide +kernel), (by decide +kernel), (by decide +kernel), pm_in 100 (by decide +kernel) (by decide +kernel), (by decide +kernel), (by decide +kernel)⟩
theorem ok_122 : pm_ok 122 := ⟨pm_in 892 (by decide +kernel) (by decide +kernel), (by decide +kernel), (by decide +kernel), pm_in 100 (by decide +kernel) (by decide +kernel), (by decide +kernel), (by decide +kernel)⟩
theorem ok_123 : pm_ok 123 := ⟨pm_in 869 (by decide +kernel) (by decide +kernel), (by decide +kernel), (by decide +kernel), pm_in 100 (by decide +kernel) (by decide +kernel), (by decide +kernel), (by decide +kernel)⟩
theorem ok_124 : pm_ok 124 := ⟨pm_in 880 (by decide +kernel) (by decide +kernel), (by decide +kernel), (by decide +kernel), pm_in 100 (by decide +kernel) (by decide +kernel), (by decide +kernel), (by decide +kernel)⟩
theorem ok_125 : pm_ok 125 := ⟨pm_in 884 (by decide +kernel) (by decide +kernel), (by decide +kernel), (by decide +kernel), pm_in 100 (by decide +kernel) (by decide +kernel), (by decide +kernel), (by decide +kernel)⟩
theorem ok_126 : pm_ok 126 := ⟨pm_in 858 (by decide +kernel) (by decide +kernel), (by decide +kernel), (by decide +kernel), pm_in 100 (by decide +kernel) (by decide +kernel), (by decide +kernel), (by decide +kernel)⟩
theorem ok_127 : pm_ok 127 := ⟨pm_in 900 (by decide +kernel) (by decide +kernel), (by decide +kernel), (by decide +kernel), pm_in 100 (by decide +kernel) (by decide +kernel), (by decide +kernel), (by decide +kernel)⟩
theorem ok_128 : pm_ok 128 := ⟨pm_in 1007 (by decide +kernel) (by decide +kernel), (by decide +kernel), (by decide +kernel), pm_in 100 (by decide +kernel) (by decide +kernel), (by decide +kernel), (by decide +kernel)⟩
theorem ok_129 : pm_ok 129 := ⟨pm_in 1022 (by decide +kernel) (by decide +kernel), (by decide +kernel), (by decide +kernel), pm_in 100 (by decide +kernel) (by decide +kernel), (by decide +kernel), (by decide +kernel)⟩
theorem ok_130 : pm_ok 130 := ⟨pm_in 1034 (by decide +kernel) (by decide +kernel), (by decide +kernel), (by decide +kernel), pm_in 100 (by decide +kernel) (by decide +kernel), (by decide +kernel), (by decide +kernel)⟩
theorem ok_131 : pm_ok 131 := ⟨pm_in 1030 (by decide +kernel) (by decide +kernel), (by decide +kernel), (by decide +kernel), pm_in 100 (by decide +kernel) (by decide +kernel), (by decide +kernel), (by decide +kernel)⟩
theorem ok_132 : pm_ok 132 := ⟨pm_in 1026 (by decide +kernel) (by decide +kernel), (by decide +kernel), (by decide +kernel), pm_in 100 (by decide +kernel) (by decide +kernel), (by decide +kernel), (by decide +kernel)⟩
theorem ok_133 : pm_ok 133 := ⟨pm_in 1038 (by decide +kernel) (by decide +kernel), (by decide +kernel), (by decide +kernel), pm_in 100 (by decide +kernel) (by decide +kernel), (by decide +kernel), (by decide +kernel)⟩
theorem ok_134 : pm_ok 134 := ⟨pm_in 1046 (by decide +kernel) (by decide +kernel), (by decide +kernel), (by decide +kernel), pm_in 100 (by decide +kernel) (by decide +kernel), (by decide +kernel), (by decide +kernel)⟩
theorem ok_135 : pm_ok 135 := ⟨pm_in 1066 (by decide +kernel) (by decide +kernel), (by decide +kernel), (by decide +kernel), pm_in 100 (by decide +kernel) (by decide +kernel), (by decide +kernel), (by decide +kernel)⟩
theorem ok_136 : pm_ok 136 := ⟨pm_in 1074 (by decide +kernel) (by decide +kernel), (by decide +kernel), (by decide +kernel), pm_in 100 (by decide +kernel) (by decide +kernel), (by decide +kernel), (by decide +kernel)⟩
theorem ok_137 : pm_ok 137 := ⟨pm_in 1082 (by decide +kernel) (by decide +kernel), (by decide +kernel), (by decide +kernel), pm_in 100 (by decide +kernel) (by decide +kernel), (by decide +kernel), (by decide +kernel)⟩
theorem ok_138 : pm_ok 138 := ⟨pm_in 1078 (by decide +kernel) (by decide +kernel), (by decide +kernel), (by decide +kernel), pm_in 100 (by decide +kernel) (by decide +kernel), (by decide +kernel), (by decide +kernel)⟩
theorem ok_139 : pm_ok 139 := ⟨pm_in 1090 (by decide +kernel) (by decide +kernel), (by decide +kernel), (by decide +kernel), pm_in 100 (by decide +kernel) (by decide +kernel), (by decide +kernel), (by decide +kernel)⟩
theorem ok_140 : pm_ok 140 := ⟨pm_in 1062 (by decide +kernel) (by decide +kernel), (by decide +kernel), (by decide +kernel), pm_in 100 (by decide +kernel) (by decide +kernel), (by decide +kernel), (by decide +kernel)⟩
theorem ok_141 : pm_ok 141 := ⟨pm_in 1070 (by decide +kernel) (by decide +kernel), (by decide +kernel), (by decide +kernel), pm_in 100 (by decide +kernel) (by decide +kernel), (by decide +kernel), (by decide +kernel)⟩
theorem ok_142 : pm_ok 142 := ⟨pm_in 1086 (by decide +kernel) (by decide +kernel), (by decide +kernel), (by decide +kernel), pm_in 100 (by decide +kernel) (by decide +kernel), (by decide +kernel), (by decide +kernel)⟩
theorem ok_143 : pm_ok 143 := ⟨pm_in 1058 (by decide +kernel) (by decide +kernel), (by decide +kernel), (by decide +kernel), pm_in 100 (by decide +kernel) (by decide +kernel), (by decide +kernel), (by decide +kernel)⟩
theorem ok_144 : pm_ok 144 := ⟨pm_in 1098 (by decide +kernel) (by decide +kernel), (by decide +kernel), (by decide +kernel), pm_in 100 (by decide +kernel) (by decide +kernel), (by decide +kernel), (by decide +kernel)⟩
theorem ok_145 : pm_ok 145 := ⟨pm_in 1102 (by decide +kernel) (by decide +kernel), (by decide +kernel), (by decide +kernel), pm_in 100 (by decide +kernel) (by decide +kernel), (by decide +kernel), (by decide +kernel)⟩
theorem ok_146 : pm_ok 146 := ⟨pm_in 1106 (by decide +kernel) (by decide +kernel), (by decide +kernel), (by decide +kernel), pm_in 100 (by decide +kernel) (by decide +kernel), (by decide +kernel), (by decide +kernel)⟩
theorem ok_147 : pm_ok 147 := ⟨pm_in 1110 (by decide +kernel) (by decide +kernel), (by decide +kernel), (by decide +kernel), pm_in 100 (by decide +kernel) (by decide +kernel), (by decide +kernel), (by decide +kernel)⟩
theorem ok_148 : pm_ok 148 := ⟨pm_in 1094 (by decide +kernel) (by decide +kernel), (by decide +kernel), (by decide +kernel), pm_in 100 (by decide +kernel) (by decide +kernel), (by decide +kernel), (by decide +kernel)⟩
theorem ok_149 : pm_ok 149 := ⟨pm_in 1118 (by decide +kernel) (by decide +kernel), (by decide +kernel), (by decide +kernel), pm_in 100 (by decide +kernel) (by decide +kernel), (by decide +kernel), (by decide +kernel)⟩
theorem ok_150 : pm_ok 150 := ⟨pm_in 1114 (by decide +kernel) (by decide +kernel), (by decide +kernel), (by decide +kernel), pm_in 100 (by decide +kernel) (by decide +kernel), (by decide +kernel), (by decide +kernel)⟩
theorem ok_151 : pm_ok 151 := ⟨pm_in 1122 (by decide +kernel) (by decide +kernel), (by decide +kernel), (by decide +kernel), pm_in 100 (by decide +kernel) (by decide +kernel), (by decide +kernel), (by decide +kernel)⟩
theorem ok_152 : pm_ok 152 := ⟨pm_in 1126 (by decide +kernel) (by decide +kernel), (by decide +kernel), (by decide +kernel), pm_in 100 (by decide +kernel) (by decide +kernel), (by decide +kernel), (by decide +kernel)⟩
theorem ok_153 : pm_ok 153 := ⟨pm_in 1130 (by decide +kernel) (by decide +kernel), (by decide +kernel), (by decide +kernel), pm_in 100 (by decide +kernel) (by decide +kernel), (by decide +kernel), (by decide +kernel)⟩
theorem ok_154 : pm_ok 154 := ⟨pm_in 1134 (by decide +kernel) (by decide +kernel), (by decide +kernel), (by decide +kernel), pm_in 100 (by decide +kernel) (by decide +kernel), (by decide +kernel), (by decide +kernel)⟩
theorem ok_155 : pm_ok 155 := ⟨pm_in 1146 (by decide +kernel) (by decide +kernel), (by decide +kernel), (by decide +kernel), pm_in 100 (by decide +kernel) (by decide +kernel), (by decide +kernel), (by decide +kernel)⟩
theorem ok_156 : pm_ok 156 := ⟨pm_in 1138 (by decide +kernel) (by decide +kernel), (by decide +kernel), (by decide +kernel), pm_in 100 (by decide +kernel) (by decide +kernel), (by decide +kernel), (by decide +kernel)⟩
theorem ok_157 : pm_ok 157 := ⟨pm_in 1142 (by decide +kernel) (by decide +kernel), (by decide +kernel), (by decide +kernel), pm_in 100 (by decide +kernel) (by decide +kernel), (by decide +kernel), (by decide +kernel)⟩
theorem ok_158 : pm_ok 158 := ⟨pm_in 1150 (by decide +kernel) (by decide +kernel), (by decide +kernel), (by decide +kernel), pm_in 100 (by decide +kernel) (by decide +kernel), (by decide +kernel), (by decide +kernel)⟩
theorem ok_159 : pm_ok 159 := ⟨pm_in 1154 (by decide +kernel) (by decide +kernel), (by decide +kernel), (by decide +kernel), pm_in 100 (by decide +kernel) (by decide +kernel), (by decide +kernel), (by decide +kernel)⟩
theorem ok_160 : pm_ok 160 := ⟨pm_in 1158 (by decide +kernel) (by decide +kernel), (by decide +kernel), (by decide +kernel), pm_in 100 (by decide +kernel) (by decide +kernel), (by decide +kernel), (by decide +kernel)⟩
theorem ok_161 : pm_ok 161 := ⟨pm_in 1166 (by decide +kernel) (by decide +kernel), (by decide +kernel), (by decide +kernel), pm_in 100 (by decide +kernel) (by decide +kernel), (by decide +kernel), (by decide +kernel)⟩
theorem ok_162 : pm_ok 162 := ⟨pm_in 1162 (by decide +kernel) (by decide +kernel), (by decide +kernel), (by decide +kernel), pm_in 100 (by decide +kernel) (by decide +kernel), (by decide +kernel), (by decide +kernel)⟩
theorem ok_163 : pm_ok 163 := ⟨pm_in 1170 (by decide +kernel) (by decide +kernel), (by decide +kernel), (by decide +kernel), pm_in 100 (by decide +kernel) (by decide +kernel), (by decide +kernel), (by decide +kernel)⟩
theorem ok_164 : pm_ok 164 := ⟨pm_in 1018 (by decide +kernel) (by decide +kernel), (by decide +kernel), (by decide +kernel), pm_in 100 (by decide +kernel) (by decide +kernel), (by decide +kernel), (by decide +kernel)⟩
theorem ok_165 : pm_ok 165 := ⟨pm_in 1174 (by decide +kernel) (by decide +kernel), (by decide +kernel), (by decide +kernel), pm_in 100 (by decide +kernel) (by decide +kernel), (by decide +kernel), (by decide +kernel)⟩
theorem ok_166 : pm_ok 166 := ⟨pm_in 1178 (by decide +kernel) (by decide +kernel), (by decide +kernel), (by decide +kernel), pm_in 100 (by decide +kernel) (by decide +kernel), (by decide +kernel), (by decide +kernel)⟩
theorem ok_167 : pm_ok 167 := ⟨pm_in 1042 (by decide +kernel) (by decide +kernel), (by decide +kernel), (by decide +kernel), pm_in 100 (by decide +kernel) (by decide +kernel), (by decide +kernel), (by decide +kernel)⟩
theorem ok_168 : pm_ok 168 := ⟨pm_in 1186 (by decide +kernel) (by decide +kernel), (by decide +kernel), (by decide +kernel), pm_in 100 (by decide +kernel) (by decide +kernel), (by decide +kernel), (by decide +kernel)⟩
theorem ok_169 : pm_ok 169 := ⟨pm_in 1054 (by decide +kernel) (by decide +kernel), (by decide +kernel), (by decide +kernel), pm_in 100 (by decide +kernel) (by decide +kernel), (by decide +kernel), (by decide +kernel)⟩
theorem ok_170 : pm_ok 170 := ⟨pm_in 1050 (by decide +kernel) (by decide +kernel), (by decide +kernel), (by decide +kernel), pm_in 100 (by decide +kernel) (by decide +kernel), (by decide +kernel), (by decide +kernel)⟩
theorem ok_171 : pm_ok 171 := ⟨pm_in 1182 (by decide +kernel) (by decide +kernel), (by decide +kernel), (by decide +kernel), pm_in 100 (by decide +kernel) (by decide +kernel), (by decide +kernel), (by decide +kernel)⟩
theorem ok_172 : pm_ok 172 := ⟨pm_in 1194 (by decide +kernel) (by decide +kernel), (by decide +kernel), (by decide +kernel), pm_in 100 (by decide +kernel) (by decide +kernel), (by decide +kernel), (by decide +kernel)⟩
theorem ok_173 : pm_ok 173 := ⟨pm_in 1190 (by decide +kernel) (by decide +kernel), (by decide +kernel), (by decide +kernel), pm_in 100 (by decide +kernel) (by decide +kernel), (by decide +kernel), (by decide +kernel)⟩
theorem ok_174 : pm_ok 174 := ⟨pm_in 1198 (by decide +kernel) (by decide +kernel), (by decide +kernel), (by decide +kernel), pm_in 100 (by decide +kernel) (by decide +kernel), (by decide +kernel), (by decide +kernel)⟩
theorem ok_175 : pm_ok 175 := ⟨pm_in 1202 (by decide +kernel) (by decide +kernel), (by decide +kernel), (by decide +kernel), pm_in 100 (by decide +kernel) (by decide +kernel), (by decide +kernel), (by decide +kernel)⟩
theorem ok_176 : pm_ok 176 := ⟨pm_in 1222 (by decide +kernel) (by decide +kernel), (by decide +kernel), (by decide +kernel), pm_in 100 (by decide +kernel) (by decide +kernel), (by decide +kernel), (by decide +kernel)⟩
theorem ok_177 : pm_ok 177 := ⟨pm_in 1226 (by decide +kernel) (by decide +kernel), (by decide +kernel), (by decide +kernel), pm_in 100 (by decide +kernel) (by decide +kernel), (by decide +kernel), (by decide +kernel)⟩
theorem ok_178 : pm_ok 178 := ⟨pm_in 1218 (by decide +kernel) (by decide +kernel), (by decide +kernel), (by decide +kernel), pm_in 100 (by decide +kernel) (by decide +kernel), (by decide +kernel), (by decide +kernel)⟩
theorem ok_179 : pm_ok 179 := ⟨pm_in 1214 (by decide +kernel) (by decide +kernel), (by decide +kernel), (by decide +kernel), pm_in 100 (by decide +kernel) (by decide +kernel), (by decide +kernel), (by decide +kernel)⟩
theorem ok_180 : pm_ok 180 := ⟨pm_in 1210 (by decide +kernel) (by decide +kernel), (by decide +kernel), (by decide +kernel), pm_in 100 (by decide +kernel) (by decide +kernel), (by decide +kernel), (by decide +kernel)⟩
theorem ok_181 : pm_ok 181 := ⟨pm_in 1206 (by decide +kernel) (by decide +kernel), (by decide +kernel), (by decide +kernel), pm_in 100 (by decide +kernel) (by decide +kernel), (by decide +kernel), (by decide +kernel)⟩
theorem ok_182 : pm_ok 182 := ⟨pm_in 1230 (by decide +kernel) (by decide +kernel), (by decide +kernel), (by decide +kernel), pm_in 100 (by decide +kernel) (by decide +kernel), (by decide +kernel), (by decide +kernel)⟩
theorem ok_183 : pm_ok 183 := ⟨pm_in 446 (by decide +kernel) (by decide +kernel), (by decide +kernel), (by decide +kernel), pm_in 99 (by decide +kernel) (by decide +kernel), (by decide +kernel), (by decide +kernel)⟩
theorem ok_184 : pm_ok 184 := ⟨pm_in 408 (by decide +kernel) (by decide +kernel), (by decide +kernel), (by decide +kernel), pm_in 98 (by decide +kernel) (by decide +kernel), (by decide +kernel), (by decide +kernel)⟩
theorem lf_0_9 : pm_LF 0 9 0 0 := ⟨_, rfl, (by decide +kernel), pm_in 220 (by decide +kernel) (by decide +kernel)⟩
theorem lf_0_15 : pm_LF 0 15 0 1 := ⟨_, rfl, (by decide +kernel), pm_in 222 (by decide +kernel) (by decide +kernel)⟩
theorem lf_0_18 : pm_LF 0 18 0 2 := ⟨_, rfl, (by decide +kernel), pm_in 224 (by decide +kernel) (by decide +kernel)⟩
theorem lp_0_18 : pm_LP 0 18 0 2 := ⟨_, rfl, (by decide +kernel), pm_in 224 (by decide +kernel) (by decide +kernel), rfl, rfl⟩
theorem lf_0_22 : pm_LF 0 22 2 4 := ⟨_, rfl, (by decide +kernel), pm_in 125 (by decide +kernel) (by decide +kernel)⟩
theorem lf_0_25 : pm_LF 0 25 7 2 := ⟨_, rfl, (by decide +kernel), pm_in 153 (by decide +kernel) (by decide +kernel)⟩
theorem lk_0_30 : pm_LV 0 30 2 := ⟨pm_in 455 (by decide +kernel) (by decide +kernel), pm_in 457 (by decide +kernel) (by decide +kernel), pm_in 8 (by decide +kernel) (by decide +kernel), (by decide +kernel)⟩
theorem lf_0_34 : pm_LF 0 34 7 3 := ⟨_, rfl, (by decide +kernel), pm_in 156 (by decide +kernel) (by decide +kernel)⟩
theorem lk_0_37 : pm_LV 0 37 48 := ⟨pm_in 459 (by decide +kernel) (by decide +kernel), pm_in 460 (by decide +kernel) (by decide +kernel), pm_in 461 (by decide +kernel) (by decide +kernel), (by decide +kernel)⟩
theorem lf_0_41 : pm_LF 0 41 7 4 := ⟨_, rfl, (by decide +kernel), pm_in 159 (by decide +kernel) (by decide +kernel)⟩
theorem lf_1_11 : pm_LF 1 11 1 0 := ⟨_, rfl, (by decide +kernel), pm_in 278 (by decide +kernel) (by decide +kernel)⟩
theorem lf_1_18 : pm_LF 1 18 1 1 := ⟨_, rfl, (by decide +kernel), pm_in 279 (by decide +kernel) (by decide +kernel)⟩
theorem lk_1_22 : pm_LV 1 22 5 := ⟨pm_in 508 (by decide +kernel) (by decide +kernel), pm_in 510 (by decide +kernel) (by decide +kernel), pm_in 9 (by decide +kernel) (by decide +kernel), (by decide +kernel)⟩
theorem lk_1_25 : pm_LV 1 25 40 := ⟨pm_in 512 (by decide +kernel) (by decide +kernel), pm_in 513 (by decide +kernel) (by decide +kernel), pm_in 514 (by decide +kernel) (by decide +kernel), (by decide +kernel)⟩
theorem lp_1_18 : pm_LP 1 18 1 1 := ⟨_, rfl, (by decide +kernel), pm_in 279 (by decide +kernel) (by decide +kernel), rfl, rfl⟩
theorem lf_2_9 : pm_LF 2 9 2 0 := ⟨_, rfl, (by decide +kernel), pm_in 116 (by decide +kernel) (by decide +kernel)⟩
theorem lf_2_15 : pm_LF 2 15 2 1 := ⟨_, rfl, (by decide +kernel), pm_in 118 (by decide +kernel) (by decide +kernel)⟩
theorem lf_2_18 : pm_LF 2 18 2 2 := ⟨_, rfl, (by decide +kernel), pm_in 120 (by decide +kernel) (by decide +kernel)⟩
theorem lf_2_21 : pm_LF 2 21 2 3 := ⟨_, rfl, (by decide +kernel), pm_in 122 (by decide +kernel) (by decide +kernel)⟩
theorem lp_2_21 : pm_LP 2 21 2 3 := ⟨_, rfl, (by decide +kernel), pm_in 122 (by decide +kernel) (by decide +kernel), rfl, rfl⟩
theorem lf_2_25 : pm_LF 2 25 2 4 := ⟨_, rfl, (by decide +kernel), pm_in 124 (by decide +kernel) (by decide +kernel)⟩
theorem lp_2_25 : pm_LP 2 25 2 4 := ⟨_, rfl, (by decide +kernel), pm_in 124 (by decide +kernel) (by decide +kernel), rfl, rfl⟩
theorem lm_2_28 : pm_LM 2 28 Lib.Math.abs.name Lib.Math.abs.code 1 := ⟨pm_in 395 (by decide +kernel) (by decide +kernel), pm_in 396 (by decide +kernel) (by decide +kernel), pm_in 97 (by decide +kernel) (by decide +kernel), pm_in 397 (by decide +kernel) (by decide +kernel)⟩
theorem lk_2_34 : pm_LV 2 34 9 := ⟨pm_in 398 (by decide +kernel) (by decide +kernel), pm_in 400 (by decide +kernel) (by decide +kernel), pm_in 1 (by decide +kernel) (by decide +kernel), (by decide +kernel)⟩
theorem lk_2_38 : pm_LS 2 38 13 := ⟨pm_in 413 (by decide +kernel) (by decide +kernel), pm_in 414 (by decide +kernel) (by decide +kernel), (by decide +kernel)⟩
theorem lk_2_42 : pm_LV 2 42 15 := ⟨pm_in 656 (by decide +kernel) (by decide +kernel), pm_in 658 (by decide +kernel) (by decide +kernel), pm_in 28 (by decide +kernel) (by decide +kernel), (by decide +kernel)⟩
theorem lk_2_45 : pm_LV 2 45 16 := ⟨pm_in 661 (by decide +kernel) (by decide +kernel), pm_in 663 (by decide +kernel) (by decide +kernel), pm_in 29 (by decide +kernel) (by decide +kernel), (by decide +kernel)⟩
theorem lm_2_48 : pm_LM 2 48 Lib.Math.max.name Lib.Math.max.code 2 := ⟨pm_in 660 (by decide +kernel) (by decide +kernel), pm_in 593 (by decide +kernel) (by decide +kernel), pm_in 97 (by decide +kernel) (by decide +kernel), pm_in 594 (by decide +kernel) (by decide +kernel)⟩
theorem lm_2_51 : pm_LM 2 51 Lib.Math.min.name Lib.Math.min.code 2 := ⟨pm_in 665 (by decide +kernel) (by decide +kernel), pm_in 666 (by decide +kernel) (by decide +kernel), pm_in 97 (by decide +kernel) (by decide +kernel), pm_in 667 (by decide +kernel) (by decide +kernel)⟩
theorem lf_3_9 : pm_LF 3 9 3 0 := ⟨_, rfl, (by decide +kernel), pm_in 183 (by decide +kernel) (by decide +kernel)⟩
theorem lf_3_15 : pm_LF 3 15 3 1 := ⟨_, rfl, (by decide +kernel), pm_in 185 (by decide +kernel) (by decide +kernel)⟩
theorem lf_3_18 : pm_LF 3 18 3 2 := ⟨_, rfl, (by decide +kernel), pm_in 187 (by decide +kernel) (by decide +kernel)⟩
theorem lf_3_21 : pm_LF 3 21 3 3 := ⟨_, rfl, (by decide +kernel), pm_in 189 (by decide +kernel) (by decide +kernel)⟩
theorem lf_3_24 : pm_LF 3 24 3 4 := ⟨_, rfl, (by decide +kernel), pm_in 191 (by decide +kernel) (by decide +kernel)⟩
theorem lf_3_27 : pm_LF 3 27 3 5 := ⟨_, rfl, (by decide +kernel), pm_in 192 (by decide +kernel) (by decide +kernel)⟩
theorem lf_3_30 : pm_LF 3 30 3 7 := ⟨_, rfl, (by decide +kernel), pm_in 194 (by decide +kernel) (by decide +kernel)⟩
theorem lp_3_30 : pm_LP 3 30 3 7 := ⟨_, rfl, (by decide +kernel), pm_in 194 (by decide +kernel) (by decide +kernel), rfl, rfl⟩
theorem lf_3_34 : pm_LF 3 34 7 5 := ⟨_, rfl, (by decide +kernel), pm_in 162 (by decide +kernel) (by decide +kernel)⟩
theorem lf_3_37 : pm_LF 3 37 3 6 := ⟨_, rfl, (by decide +kernel), pm_in 193 (by decide +kernel) (by decide +kernel)⟩
theorem lp_3_37 : pm_LP 3 37 3 6 := ⟨_, rfl, (by decide +kernel), pm_in 193 (by decide +kernel) (by decide +kernel), rfl, rfl⟩
theorem lf_3_40 : pm_LF 3 40 7 0 := ⟨_, rfl, (by decide +kernel), pm_in 147 (by decide +kernel) (by decide +kernel)⟩
theorem lf_3_43 : pm_LF 3 43 7 1 := ⟨_, rfl, (by decide +kernel), pm_in 150 (by decide +kernel) (by decide +kernel)⟩
theorem lk_3_46 : pm_LV 3 46 11 := ⟨pm_in 428 (by decide +kernel) (by decide +kernel), pm_in 429 (by decide +kernel) (by decide +kernel), pm_in 430 (by decide +kernel) (by decide +kernel), (by decide +kernel)⟩
theorem lk_3_52 : pm_LV 3 52 21 := ⟨pm_in 432 (by decide +kernel) (by decide +kernel), pm_in 434 (by decide +kernel) (by decide +kernel), pm_in 4 (by decide +kernel) (by decide +kernel), (by decide +kernel)⟩
theorem lk_3_56 : pm_LV 3 56 19 := ⟨pm_in 436 (by decide +kernel) (by decide +kernel), pm_in 438 (by decide +kernel) (by decide +kernel), pm_in 5 (by decide +kernel) (by decide +kernel), (by decide +kernel)⟩
theorem lk_3_59 : pm_LV 3 59 22 := ⟨pm_in 447 (by decide +kernel) (by decide +kernel), pm_in 449 (by decide +kernel) (by decide +kernel), pm_in 7 (by decide +kernel) (by decide +kernel), (by decide +kernel)⟩
theorem lk_3_62 : pm_LV 3 62 20 := ⟨pm_in 440 (by decide +kernel) (by decide +kernel), pm_in 442 (by decide +kernel) (by decide +kernel), pm_in 6 (by decide +kernel) (by decide +kernel), (by decide +kernel)⟩
theorem lk_3_66 : pm_LS 3 66 183 := ⟨pm_in 444 (by decide +kernel) (by decide +kernel), pm_in 445 (by decide +kernel) (by decide +kernel), (by decide +kernel)⟩
theorem lk_3_71 : pm_LV 3 71 25 := ⟨pm_in 571 (by decide +kernel) (by decide +kernel), pm_in 573 (by decide +kernel) (by decide +kernel), pm_in 15 (by decide +kernel) (by decide +kernel), (by decide +kernel)⟩
theorem ll_3_75 : pm_LL 3 75 2 := pm_in 575 (by decide +kernel) (by decide +kernel)
theorem lf_4_9 : pm_LF 4 9 4 0 := ⟨_, rfl, (by decide +kernel), pm_in 371 (by decide +kernel) (by decide +kernel)⟩
theorem lf_4_15 : pm_LF 4 15 4 1 := ⟨_, rfl, (by decide +kernel), pm_in 373 (by decide +kernel) (by decide +kernel)⟩
theorem lp_4_15 : pm_LP 4 15 4 1 := ⟨_, rfl, (by decide +kernel), pm_in 373 (by decide +kernel) (by decide +kernel), rfl, rfl⟩
theorem lf_4_19 : pm_LF 4 19 4 2 := ⟨_, rfl, (by decide +kernel), pm_in 375 (by decide +kernel) (by decide +kernel)⟩
theorem lp_4_19 : pm_LP 4 19 4 2 := ⟨_, rfl, (by decide +kernel), pm_in 375 (by decide +kernel) (by decide +kernel), rfl, rfl⟩
theorem lf_5_9 : pm_LF 5 9 5 0 := ⟨_, rfl, (by decide +kernel), pm_in 311 (by decide +kernel) (by decide +kernel)⟩
theorem lf_5_15 : pm_LF 5 15 5 1 := ⟨_, rfl, (by decide +kernel), pm_in 312 (by decide +kernel) (by decide +kernel)⟩
theorem lf_5_18 : pm_LF 5 18 5 3 := ⟨_, rfl, (by decide +kernel), pm_in 314 (by decide +kernel) (by decide +kernel)⟩
theorem lf_5_21 : pm_LF 5 21 5 4 := ⟨_, rfl, (by decide +kernel), pm_in 315 (by decide +kernel) (by decide +kernel)⟩
theorem lf_5_24 : pm_LF 5 24 5 5 := ⟨_, rfl, (by decide +kernel), pm_in 316 (by decide +kernel) (by decide +kernel)⟩
theorem lf_5_27 : pm_LF 5 27 5 6 := ⟨_, rfl, (by decide +kernel), pm_in 317 (by decide +kernel) (by decide +kernel)⟩
theorem lf_5_30 : pm_LF 5 30 5 2 := ⟨_, rfl, (by decide +kernel), pm_in 313 (by decide +kernel) (by decide +kernel)⟩
theorem lp_5_30 : pm_LP 5 30 5 2 := ⟨_, rfl, (by decide +kernel), pm_in 313 (by decide +kernel) (by decide +kernel), rfl, rfl⟩
theorem lf_5_34 : pm_LF 5 34 3 7 := ⟨_, rfl, (by decide +kernel), pm_in 195 (by decide +kernel) (by decide +kernel)⟩
theorem lk_5_39 : pm_LV 5 39 24 := ⟨pm_in 567 (by decide +kernel) (by decide +kernel), pm_in 568 (by decide +kernel) (by decide +kernel), pm_in 569 (by decide +kernel) (by decide +kernel), (by decide +kernel)⟩
theorem lk_5_43 : pm_LV 5 43 36 := ⟨pm_in 580 (by decide +kernel) (by decide +kernel), pm_in 581 (by decide +kernel) (by decide +kernel), pm_in 582 (by decide +kernel) (by decide +kernel), (by decide +kernel)⟩
theorem lk_5_47 : pm_LV 5 47 34 := ⟨pm_in 584 (by decide +kernel) (by decide +kernel), pm_in 586 (by decide +kernel) (by decide +kernel), pm_in 16 (by decide +kernel) (by decide +kernel), (by decide +kernel)⟩
theorem lf_5_51 : pm_LF 5 51 5 7 := ⟨_, rfl, (by decide +kernel), pm_in 320 (by decide +kernel) (by decide +kernel)⟩
theorem lp_5_51 : pm_LP 5 51 5 7 := ⟨_, rfl, (by decide +kernel), pm_in 320 (by decide +kernel) (by decide +kernel), rfl, rfl⟩
theorem lk_5_54 : pm_LV 5 54 35 := ⟨pm_in 588 (by decide +kernel) (by decide +kernel), pm_in 590 (by decide +kernel) (by decide +kernel), pm_in 17 (by decide +kernel) (by decide +kernel), (by decide +kernel)⟩
theorem lm_5_58 : pm_LM 5 58 Lib.Math.max.name Lib.Math.max.code 2 := ⟨pm_in 592 (by decide +kernel) (by decide +kernel), pm_in 593 (by decide +kernel) (by decide +kernel), pm_in 97 (by decide +kernel) (by decide +kernel), pm_in 594 (by decide +kernel) (by decide +kernel)⟩
theorem lf_6_9 : pm_LF 6 9 6 0 := ⟨_, rfl, (by decide +kernel), pm_in 239 (by decide +kernel) (by decide +kernel)⟩
theorem lp_6_9 : pm_LP 6 9 6 0 := ⟨_, rfl, (by decide +kernel), pm_in 239 (by decide +kernel) (by decide +kernel), rfl, rfl⟩
theorem lf_6_15 : pm_LF 6 15 6 1 := ⟨_, rfl, (by decide +kernel), pm_in 241 (by decide +kernel) (by decide +kernel)⟩
theorem lp_6_15 : pm_LP 6 15 6 1 := ⟨_, rfl, (by decide +kernel), pm_in 241 (by decide +kernel) (by decide +kernel), rfl, rfl⟩
theorem lf_6_18 : pm_LF 6 18 6 2 := ⟨_, rfl, (by decide +kernel), pm_in 243 (by decide +kernel) (by decide +kernel)⟩
theorem lp_6_18 : pm_LP 6 18 6 2 := ⟨_, rfl, (by decide +kernel), pm_in 243 (by decide +kernel) (by decide +kernel), rfl, rfl⟩
theorem lf_6_21 : pm_LF 6 21 6 3 := ⟨_, rfl, (by decide +kernel), pm_in 245 (by decide +kernel) (by decide +kernel)⟩
theorem lp_6_21 : pm_LP 6 21 6 3 := ⟨_, rfl, (by decide +kernel), pm_in 245 (by decide +kernel) (by decide +kernel), rfl, rfl⟩
theorem lf_6_24 : pm_LF 6 24 6 4 := ⟨_, rfl, (by decide +kernel), pm_in 247 (by decide +kernel) (by decide +kernel)⟩
theorem lp_6_24 : pm_LP 6 24 6 4 := ⟨_, rfl, (by decide +kernel), pm_in 247 (by decide +kernel) (by decide +kernel), rfl, rfl⟩
theorem lf_6_27 : pm_LF 6 27 6 5 := ⟨_, rfl, (by decide +kernel), pm_in 249 (by decide +kernel) (by decide +kernel)⟩
theorem lp_6_27 : pm_LP 6 27 6 5 := ⟨_, rfl, (by decide +kernel), pm_in 249 (by decide +kernel) (by decide +kernel), rfl, rfl⟩
theorem lf_6_30 : pm_LF 6 30 6 6 := ⟨_, rfl, (by decide +kernel), pm_in 251 (by decide +kernel) (by decide +kernel)⟩
theorem la_6_34 : pm_LA 6 34 := ⟨pm_in 516 (by decide +kernel) (by decide +kernel), pm_in 518 (by decide +kernel) (by decide +kernel), pm_in 517 (by decide +kernel) (by decide +kernel), pm_in 101 (by decide +kernel) (by decide +kernel)⟩
theorem lf_7_9 : pm_LF 7 9 7 0 := ⟨_, rfl, (by decide +kernel), pm_in 146 (by decide +kernel) (by decide +kernel)⟩
theorem lf_7_15 : pm_LF 7 15 7 1 := ⟨_, rfl, (by decide +kernel), pm_in 149 (by decide +kernel) (by decide +kernel)⟩
theorem lf_7_18 : pm_LF 7 18 7 2 := ⟨_, rfl, (by decide +kernel), pm_in 152 (by decide +kernel) (by decide +kernel)⟩
theorem lf_7_21 : pm_LF 7 21 7 3 := ⟨_, rfl, (by decide +kernel), pm_in 155 (by decide +kernel) (by decide +kernel)⟩
theorem lf_7_24 : pm_LF 7 24 7 4 := ⟨_, rfl, (by decide +kernel), pm_in 158 (by decide +kernel) (by decide +kernel)⟩
theorem lf_7_27 : pm_LF 7 27 7 5 := ⟨_, rfl, (by decide +kernel), pm_in 161 (by decide +kernel) (by decide +kernel)⟩
theorem lp_7_27 : pm_LP 7 27 7 5 := ⟨_, rfl, (by decide +kernel), pm_in 161 (by decide +kernel) (by decide +kernel), rfl, rfl⟩
theorem lk_7_31 : pm_LS 7 31 184 := ⟨pm_in 406 (by decide +kernel) (by decide +kernel), pm_in 407 (by decide +kernel) (by decide +kernel), (by decide +kernel)⟩
theorem lf_7_37 : pm_LF 7 37 2 4 := ⟨_, rfl, (by decide +kernel), pm_in 126 (by decide +kernel) (by decide +kernel)⟩
theorem lk_7_40 : pm_LV 7 40 12 := ⟨pm_in 409 (by decide +kernel) (by decide +kernel), pm_in 410 (by decide +kernel) (by decide +kernel), pm_in 411 (by decide +kernel) (by decide +kernel), (by decide +kernel)⟩
theorem lk_7_44 : pm_LV 7 44 46 := ⟨pm_in 416 (by decide +kernel) (by decide +kernel), pm_in 418 (by decide +kernel) (by decide +kernel), pm_in 2 (by decide +kernel) (by decide +kernel), (by decide +kernel)⟩
theorem lk_7_48 : pm_LV 7 48 47 := ⟨pm_in 420 (by decide +kernel) (by decide +kernel), pm_in 422 (by decide +kernel) (by decide +kernel), pm_in 3 (by decide +kernel) (by decide +kernel), (by decide +kernel)⟩
theorem lf_8_9 : pm_LF 8 9 8 0 := ⟨_, rfl, (by decide +kernel), pm_in 344 (by decide +kernel) (by decide +kernel)⟩
theorem lf_8_15 : pm_LF 8 15 8 1 := ⟨_, rfl, (by decide +kernel), pm_in 345 (by decide +kernel) (by decide +kernel)⟩
theorem lp_8_15 : pm_LP 8 15 8 1 := ⟨_, rfl, (by decide +kernel), pm_in 345 (by decide +kernel) (by decide +kernel), rfl, rfl⟩
theorem lk_8_19 : pm_LV 8 19 52 := ⟨pm_in 829 (by decide +kernel) (by decide +kernel), pm_in 831 (by decide +kernel) (by decide +kernel), pm_in 40 (by decide +kernel) (by decide +kernel), (by decide +kernel)⟩
theorem lf_8_23 : pm_LF 8 23 8 3 := ⟨_, rfl, (by decide +kernel), pm_in 349 (by decide +kernel) (by decide +kernel)⟩
theorem lp_8_23 : pm_LP 8 23 8 3 := ⟨_, rfl, (by decide +kernel), pm_in 349 (by decide +kernel) (by decide +kernel), rfl, rfl⟩
theorem lk_8_26 : pm_LV 8 26 54 := ⟨pm_in 837 (by decide +kernel) (by decide +kernel), pm_in 839 (by decide +kernel) (by decide +kernel), pm_in 42 (by decide +kernel) (by decide +kernel), (by decide +kernel)⟩
theorem lf_8_30 : pm_LF 8 30 8 4 := ⟨_, rfl, (by decide +kernel), pm_in 351 (by decide +kernel) (by decide +kernel)⟩
theorem lp_8_30 : pm_LP 8 30 8 4 := ⟨_, rfl, (by decide +kernel), pm_in 351 (by decide +kernel) (by decide +kernel), rfl, rfl⟩
theorem lk_8_33 : pm_LV 8 33 53 := ⟨pm_in 833 (by decide +kernel) (by decide +kernel), pm_in 835 (by decide +kernel) (by decide +kernel), pm_in 41 (by decide +kernel) (by decide +kernel), (by decide +kernel)⟩
theorem lf_8_37 : pm_LF 8 37 8 2 := ⟨_, rfl, (by decide +kernel), pm_in 347 (by decide +kernel) (by decide +kernel)⟩
theorem lp_8_37 : pm_LP 8 37 8 2 := ⟨_, rfl, (by decide +kernel), pm_in 347 (by decide +kernel) (by decide +kernel), rfl, rfl⟩
theorem lf_9_9 : pm_LF 9 9 9 0 := ⟨_, rfl, (by decide +kernel), pm_in 292 (by decide +kernel) (by decide +kernel)⟩
theorem lf_9_15 : pm_LF 9 15 9 1 := ⟨_, rfl, (by decide +kernel), pm_in 294 (by decide +kernel) (by decide +kernel)⟩
theorem lk_9_18 : pm_LS 9 18 184 := ⟨pm_in 699 (by decide +kernel) (by decide +kernel), pm_in 407 (by decide +kernel) (by decide +kernel), (by decide +kernel)⟩
theorem lf_9_24 : pm_LF 9 24 9 2 := ⟨_, rfl, (by decide +kernel), pm_in 296 (by decide +kernel) (by decide +kernel)⟩
theorem lp_9_24 : pm_LP 9 24 9 2 := ⟨_, rfl, (by decide +kernel), pm_in 296 (by decide +kernel) (by decide +kernel), rfl, rfl⟩
theorem lk_9_28 : pm_LV 9 28 57 := ⟨pm_in 700 (by decide +kernel) (by decide +kernel), pm_in 701 (by decide +kernel) (by decide +kernel), pm_in 702 (by decide +kernel) (by decide +kernel), (by decide +kernel)⟩
theorem lf_10_12 : pm_LF 10 12 10 0 := ⟨_, rfl, (by decide +kernel), pm_in 463 (by decide +kernel) (by decide +kernel)⟩
theorem lf_10_19 : pm_LF 10 19 10 1 := ⟨_, rfl, (by decide +kernel), pm_in 464 (by decide +kernel) (by decide +kernel)⟩
theorem lf_10_26 : pm_LF 10 26 10 2 := ⟨_, rfl, (by decide +kernel), pm_in 465 (by decide +kernel) (by decide +kernel)⟩
theorem lf_10_33 : pm_LF 10 33 10 3 := ⟨_, rfl, (by decide +kernel), pm_in 466 (by decide +kernel) (by decide +kernel)⟩
theorem lf_10_40 : pm_LF 10 40 10 4 := ⟨_, rfl, (by decide +kernel), pm_in 467 (by decide +kernel) (by decide +kernel)⟩
theorem lf_10_47 : pm_LF 10 47 10 5 := ⟨_, rfl, (by decide +kernel), pm_in 468 (by decide +kernel) (by decide +kernel)⟩
theorem lf_10_54 : pm_LF 10 54 10 6 := ⟨_, rfl, (by decide +kernel), pm_in 469 (by decide +kernel) (by decide +kernel)⟩
theorem lf_10_61 : pm_LF 10 61 10 7 := ⟨_, rfl, (by decide +kernel), pm_in 470 (by decide +kernel) (by decide +kernel)⟩
theorem lf_10_68 : pm_LF 10 68 10 8 := ⟨_, rfl, (by decide +kernel), pm_in 471 (by decide +kernel) (by decide +kernel)⟩
theorem lf_10_75 : pm_LF 10 75 10 9 := ⟨_, rfl, (by decide +kernel), pm_in 472 (by decide +kernel) (by decide +kernel)⟩
theorem lf_10_79 : pm_LF 10 79 10 10 := ⟨_, rfl, (by decide +kernel), pm_in 473 (by decide +kernel) (by decide +kernel)⟩
theorem lk_10_83 : pm_LV 10 83 88 := ⟨pm_in 387 (by decide +kernel) (by decide +kernel), pm_in 389 (by decide +kernel) (by decide +kernel), pm_in 0 (by decide +kernel) (by decide +kernel), (by decide +kernel)⟩
theorem lk_10_86 : pm_LS 10 86 84 := ⟨pm_in 501 (by decide +kernel) (by decide +kernel), pm_in 502 (by decide +kernel) (by decide +kernel), (by decide +kernel)⟩
theorem lk_10_90 : pm_LV 10 90 4 := ⟨pm_in 504 (by decide +kernel) (by decide +kernel), pm_in 505 (by decide +kernel) (by decide +kernel), pm_in 506 (by decide +kernel) (by decide +kernel), (by decide +kernel)⟩
theorem lf_10_94 : pm_LF 10 94 6 0 := ⟨_, rfl, (by decide +kernel), pm_in 240 (by decide +kernel) (by decide +kernel)⟩
theorem lp_10_94 : pm_LP 10 94 6 0 := ⟨_, rfl, (by decide +kernel), pm_in 240 (by decide +kernel) (by decide +kernel), rfl, rfl⟩
theorem lf_10_98 : pm_LF 10 98 6 2 := ⟨_, rfl, (by decide +kernel), pm_in 244 (by decide +kernel) (by decide +kernel)⟩
theorem lp_10_98 : pm_LP 10 98 6 2 := ⟨_, rfl, (by decide +kernel), pm_in 244 (by decide +kernel) (by decide +kernel), rfl, rfl⟩
theorem lk_10_101 : pm_LV 10 101 43 := ⟨pm_in 519 (by decide +kernel) (by decide +kernel), pm_in 520 (by decide +kernel) (by decide +kernel), pm_in 521 (by decide +kernel) (by decide +kernel), (by decide +kernel)⟩
theorem lf_10_104 : pm_LF 10 104 2 4 := ⟨_, rfl, (by decide +kernel), pm_in 127 (by decide +kernel) (by decide +kernel)⟩
theorem lf_10_107 : pm_LF 10 107 6 1 := ⟨_, rfl, (by decide +kernel), pm_in 242 (by decide +kernel) (by decide +kernel)⟩
theorem lp_10_107 : pm_LP 10 107 6 1 := ⟨_, rfl, (by decide +kernel), pm_in 242 (by decide +kernel) (by decide +kernel), rfl, rfl⟩
theorem lk_10_110 : pm_LV 10 110 95 := ⟨pm_in 531 (by decide +kernel) (by decide +kernel), pm_in 533 (by decide +kernel) (by decide +kernel), pm_in 10 (by decide +kernel) (by decide +kernel), (by decide +kernel)⟩
theorem lk_10_114 : pm_LV 10 114 108 := ⟨pm_in 543 (by decide +kernel) (by decide +kernel), pm_in 545 (by decide +kernel) (by decide +kernel), pm_in 12 (by decide +kernel) (by decide +kernel), (by decide +kernel)⟩
theorem lf_10_118 : pm_LF 10 118 6 3 := ⟨_, rfl, (by decide +kernel), pm_in 246 (by decide +kernel) (by decide +kernel)⟩
theorem lp_10_118 : pm_LP 10 118 6 3 := ⟨_, rfl, (by decide +kernel), pm_in 246 (by decide +kernel) (by decide +kernel), rfl, rfl⟩
theorem lf_10_121 : pm_LF 10 121 6 4 := ⟨_, rfl, (by decide +kernel), pm_in 248 (by decide +kernel) (by decide +kernel)⟩
theorem lp_10_121 : pm_LP 10 121 6 4 := ⟨_, rfl, (by decide +kernel), pm_in 248 (by decide +kernel) (by decide +kernel), rfl, rfl⟩
theorem lf_10_124 : pm_LF 10 124 5 7 := ⟨_, rfl, (by decide +kernel), pm_in 319 (by decide +kernel) (by decide +kernel)⟩
theorem lf_10_127 : pm_LF 10 127 7 5 := ⟨_, rfl, (by decide +kernel), pm_in 163 (by decide +kernel) (by decide +kernel)⟩
theorem lf_10_128 : pm_LF 10 128 0 2 := ⟨_, rfl, (by decide +kernel), pm_in 225 (by decide +kernel) (by decide +kernel)⟩
theorem lf_10_129 : pm_LF 10 129 3 7 := ⟨_, rfl, (by decide +kernel), pm_in 196 (by decide +kernel) (by decide +kernel)⟩
theorem lk_10_130 : pm_LV 10 130 97 := ⟨pm_in 599 (by decide +kernel) (by decide +kernel), pm_in 601 (by decide +kernel) (by decide +kernel), pm_in 18 (by decide +kernel) (by decide +kernel), (by decide +kernel)⟩
theorem lk_10_133 : pm_LV 10 133 99 := ⟨pm_in 603 (by decide +kernel) (by decide +kernel), pm_in 605 (by decide +kernel) (by decide +kernel), pm_in 19 (by decide +kernel) (by decide +kernel), (by decide +kernel)⟩
theorem lk_10_136 : pm_LV 10 136 96 := ⟨pm_in 611 (by decide +kernel) (by decide +kernel), pm_in 613 (by decide +kernel) (by decide +kernel), pm_in 21 (by decide +kernel) (by decide +kernel), (by decide +kernel)⟩
theorem lk_10_139 : pm_LV 10 139 98 := ⟨pm_in 619 (by decide +kernel) (by decide +kernel), pm_in 621 (by decide +kernel) (by decide +kernel), pm_in 23 (by decide +kernel) (by decide +kernel), (by decide +kernel)⟩
theorem lk_10_142 : pm_LV 10 142 100 := ⟨pm_in 623 (by decide +kernel) (by decide +kernel), pm_in 625 (by decide +kernel) (by decide +kernel), pm_in 24 (by decide +kernel) (by decide +kernel), (by decide +kernel)⟩
theorem lf_10_145 : pm_LF 10 145 1 1 := ⟨_, rfl, (by decide +kernel), pm_in 280 (by decide +kernel) (by decide +kernel)⟩
theorem lf_10_146 : pm_LF 10 146 8 1 := ⟨_, rfl, (by decide +kernel), pm_in 346 (by decide +kernel) (by decide +kernel)⟩
theorem lf_10_149 : pm_LF 10 149 6 5 := ⟨_, rfl, (by decide +kernel), pm_in 250 (by decide +kernel) (by decide +kernel)⟩
theorem lk_10_152 : pm_LV 10 152 6 := ⟨pm_in 635 (by decide +kernel) (by decide +kernel), pm_in 636 (by decide +kernel) (by decide +kernel), pm_in 637 (by decide +kernel) (by decide +kernel), (by decide +kernel)⟩
theorem lk_10_156 : pm_LV 10 156 86 := ⟨pm_in 643 (by decide +kernel) (by decide +kernel), pm_in 645 (by decide +kernel) (by decide +kernel), pm_in 26 (by decide +kernel) (by decide +kernel), (by decide +kernel)⟩
theorem lf_10_160 : pm_LF 10 160 2 0 := ⟨_, rfl, (by decide +kernel), pm_in 117 (by decide +kernel) (by decide +kernel)⟩
theorem lf_10_163 : pm_LF 10 163 2 1 := ⟨_, rfl, (by decide +kernel), pm_in 119 (by decide +kernel) (by decide +kernel)⟩
theorem lf_10_166 : pm_LF 10 166 2 2 := ⟨_, rfl, (by decide +kernel), pm_in 121 (by decide +kernel) (by decide +kernel)⟩
theorem lf_10_169 : pm_LF 10 169 7 2 := ⟨_, rfl, (by decide +kernel), pm_in 154 (by decide +kernel) (by decide +kernel)⟩
theorem lk_10_172 : pm_LV 10 172 94 := ⟨pm_in 647 (by decide +kernel) (by decide +kernel), pm_in 649 (by decide +kernel) (by decide +kernel), pm_in 27 (by decide +kernel) (by decide +kernel), (by decide +kernel)⟩
theorem lk_10_176 : pm_LV 10 176 89 := ⟨pm_in 535 (by decide +kernel) (by decide +kernel), pm_in 537 (by decide +kernel) (by decide +kernel), pm_in 11 (by decide +kernel) (by decide +kernel), (by decide +kernel)⟩
theorem lk_10_179 : pm_LV 10 179 93 := ⟨pm_in 615 (by decide +kernel) (by decide +kernel), pm_in 617 (by decide +kernel) (by decide +kernel), pm_in 22 (by decide +kernel) (by decide +kernel), (by decide +kernel)⟩
theorem lk_10_182 : pm_LV 10 182 11 := ⟨pm_in 651 (by decide +kernel) (by decide +kernel), pm_in 429 (by decide +kernel) (by decide +kernel), pm_in 430 (by decide +kernel) (by decide +kernel), (by decide +kernel)⟩
theorem lk_10_186 : pm_LV 10 186 14 := ⟨pm_in 652 (by decide +kernel) (by decide +kernel), pm_in 653 (by decide +kernel) (by decide +kernel), pm_in 654 (by decide +kernel) (by decide +kernel), (by decide +kernel)⟩
theorem lk_10_189 : pm_LS 10 189 85 := ⟨pm_in 672 (by decide +kernel) (by decide +kernel), pm_in 673 (by decide +kernel) (by decide +kernel), (by decide +kernel)⟩
theorem lk_10_192 : pm_LV 10 192 10 := ⟨pm_in 675 (by decide +kernel) (by decide +kernel), pm_in 676 (by decide +kernel) (by decide +kernel), pm_in 677 (by decide +kernel) (by decide +kernel), (by decide +kernel)⟩
theorem lf_10_196 : pm_LF 10 196 7 3 := ⟨_, rfl, (by decide +kernel), pm_in 157 (by decide +kernel) (by decide +kernel)⟩
theorem lk_10_199 : pm_LV 10 199 106 := ⟨pm_in 691 (by decide +kernel) (by decide +kernel), pm_in 693 (by decide +kernel) (by decide +kernel), pm_in 30 (by decide +kernel) (by decide +kernel), (by decide +kernel)⟩
theorem lf_10_203 : pm_LF 10 203 9 0 := ⟨_, rfl, (by decide +kernel), pm_in 293 (by decide +kernel) (by decide +kernel)⟩
theorem lk_10_206 : pm_LV 10 206 48 := ⟨pm_in 709 (by decide +kernel) (by decide +kernel), pm_in 460 (by decide +kernel) (by decide +kernel), pm_in 461 (by decide +kernel) (by decide +kernel), (by decide +kernel)⟩
theorem lk_10_209 : pm_LV 10 209 87 := ⟨pm_in 714 (by decide +kernel) (by decide +kernel), pm_in 716 (by decide +kernel) (by decide +kernel), pm_in 31 (by decide +kernel) (by decide +kernel), (by decide +kernel)⟩
theorem lf_10_212 : pm_LF 10 212 7 0 := ⟨_, rfl, (by decide +kernel), pm_in 148 (by decide +kernel) (by decide +kernel)⟩
theorem lf_10_215 : pm_LF 10 215 7 1 := ⟨_, rfl, (by decide +kernel), pm_in 151 (by decide +kernel) (by decide +kernel)⟩
theorem lf_10_218 : pm_LF 10 218 3 2 := ⟨_, rfl, (by decide +kernel), pm_in 188 (by decide +kernel) (by decide +kernel)⟩
theorem lk_10_221 : pm_LV 10 221 24 := ⟨pm_in 718 (by decide +kernel) (by decide +kernel), pm_in 568 (by decide +kernel) (by decide +kernel), pm_in 569 (by decide +kernel) (by decide +kernel), (by decide +kernel)⟩
theorem lk_10_224 : pm_LV 10 224 90 := ⟨pm_in 555 (by decide +kernel) (by decide +kernel), pm_in 557 (by decide +kernel) (by decide +kernel), pm_in 14 (by decide +kernel) (by decide +kernel), (by decide +kernel)⟩
theorem lf_10_227 : pm_LF 10 227 6 6 := ⟨_, rfl, (by decide +kernel), pm_in 252 (by decide +kernel) (by decide +kernel)⟩
theorem lf_10_231 : pm_LF 10 231 3 0 := ⟨_, rfl, (by decide +kernel), pm_in 184 (by decide +kernel) (by decide +kernel)⟩
theorem lf_10_234 : pm_LF 10 234 3 1 := ⟨_, rfl, (by decide +kernel), pm_in 186 (by decide +kernel) (by decide +kernel)⟩
theorem lk_10_237 : pm_LV 10 237 109 := ⟨pm_in 719 (by decide +kernel) (by decide +kernel), pm_in 721 (by decide +kernel) (by decide +kernel), pm_in 32 (by decide +kernel) (by decide +kernel), (by decide +kernel)⟩
theorem lk_10_240 : pm_LV 10 240 101 := ⟨pm_in 727 (by decide +kernel) (by decide +kernel), pm_in 729 (by decide +kernel) (by decide +kernel), pm_in 33 (by decide +kernel) (by decide +kernel), (by decide +kernel)⟩
theorem lk_10_244 : pm_LV 10 244 23 := ⟨pm_in 731 (by decide +kernel) (by decide +kernel), pm_in 732 (by decide +kernel) (by decide +kernel), pm_in 733 (by decide +kernel) (by decide +kernel), (by decide +kernel)⟩
theorem lf_10_247 : pm_LF 10 247 0 0 := ⟨_, rfl, (by decide +kernel), pm_in 221 (by decide +kernel) (by decide +kernel)⟩
theorem lk_10_250 : pm_LV 10 250 91 := ⟨pm_in 607 (by decide +kernel) (by decide +kernel), pm_in 609 (by decide +kernel) (by decide +kernel), pm_in 20 (by decide +kernel) (by decide +kernel), (by decide +kernel)⟩
theorem lk_10_253 : pm_LV 10 253 92 := ⟨pm_in 627 (by decide +kernel) (by decide +kernel), pm_in 629 (by decide +kernel) (by decide +kernel), pm_in 25 (by decide +kernel) (by decide +kernel), (by decide +kernel)⟩
theorem lk_10_256 : pm_LV 10 256 102 := ⟨pm_in 739 (by decide +kernel) (by decide +kernel), pm_in 741 (by decide +kernel) (by decide +kernel), pm_in 34 (by decide +kernel) (by decide +kernel), (by decide +kernel)⟩
theorem lk_10_259 : pm_LV 10 259 103 := ⟨pm_in 743 (by decide +kernel) (by decide +kernel), pm_in 745 (by decide +kernel) (by decide +kernel), pm_in 35 (by decide +kernel) (by decide +kernel), (by decide +kernel)⟩
theorem lk_10_262 : pm_LV 10 262 105 := ⟨pm_in 751 (by decide +kernel) (by decide +kernel), pm_in 753 (by decide +kernel) (by decide +kernel), pm_in 36 (by decide +kernel) (by decide +kernel), (by decide +kernel)⟩
theorem lk_10_265 : pm_LV 10 265 41 := ⟨pm_in 760 (by decide +kernel) (by decide +kernel), pm_in 761 (by decide +kernel) (by decide +kernel), pm_in 762 (by decide +kernel) (by decide +kernel), (by decide +kernel)⟩
theorem lk_10_268 : pm_LV 10 268 42 := ⟨pm_in 768 (by decide +kernel) (by decide +kernel), pm_in 769 (by decide +kernel) (by decide +kernel), pm_in 770 (by decide +kernel) (by decide +kernel), (by decide +kernel)⟩
theorem lk_10_271 : pm_LV 10 271 104 := ⟨pm_in 755 (by decide +kernel) (by decide +kernel), pm_in 757 (by decide +kernel) (by decide +kernel), pm_in 37 (by decide +kernel) (by decide +kernel), (by decide +kernel)⟩
theorem lk_10_274 : pm_LV 10 274 37 := ⟨pm_in 784 (by decide +kernel) (by decide +kernel), pm_in 785 (by decide +kernel) (by decide +kernel), pm_in 786 (by decide +kernel) (by decide +kernel), (by decide +kernel)⟩
theorem lk_10_277 : pm_LV 10 277 38 := ⟨pm_in 788 (by decide +kernel) (by decide +kernel), pm_in 789 (by decide +kernel) (by decide +kernel), pm_in 790 (by decide +kernel) (by decide +kernel), (by decide +kernel)⟩
theorem lk_10_280 : pm_LV 10 280 36 := ⟨pm_in 792 (by decide +kernel) (by decide +kernel), pm_in 581 (by decide +kernel) (by decide +kernel), pm_in 582 (by decide +kernel) (by decide +kernel), (by decide +kernel)⟩
theorem lk_10_283 : pm_LV 10 283 107 := ⟨pm_in 547 (by decide +kernel) (by decide +kernel), pm_in 549 (by decide +kernel) (by decide +kernel), pm_in 13 (by decide +kernel) (by decide +kernel), (by decide +kernel)⟩
theorem lk_10_286 : pm_LV 10 286 32 := ⟨pm_in 563 (by decide +kernel) (by decide +kernel), pm_in 564 (by decide +kernel) (by decide +kernel), pm_in 565 (by decide +kernel) (by decide +kernel), (by decide +kernel)⟩
theorem lk_10_290 : pm_LV 10 290 33 := ⟨pm_in 576 (by decide +kernel) (by decide +kernel), pm_in 577 (by decide +kernel) (by decide +kernel), pm_in 578 (by decide +kernel) (by decide +kernel), (by decide +kernel)⟩
theorem lk_10_293 : pm_LV 10 293 50 := ⟨pm_in 801 (by decide +kernel) (by decide +kernel), pm_in 802 (by decide +kernel) (by decide +kernel), pm_in 803 (by decide +kernel) (by decide +kernel), (by decide +kernel)⟩
theorem lp_10_146 : pm_LP 10 146 8 1 := ⟨_, rfl, (by decide +kernel), pm_in 346 (by decide +kernel) (by decide +kernel), rfl, rfl⟩
theorem lk_10_297 : pm_LV 10 297 110 := ⟨pm_in 813 (by decide +kernel) (by decide +kernel), pm_in 815 (by decide +kernel) (by decide +kernel), pm_in 38 (by decide +kernel) (by decide +kernel), (by decide +kernel)⟩
theorem lf_10_300 : pm_LF 10 300 4 2 := ⟨_, rfl, (by decide +kernel), pm_in 376 (by decide +kernel) (by decide +kernel)⟩
theorem lf_10_303 : pm_LF 10 303 4 3 := ⟨_, rfl, (by decide +kernel), pm_in 377 (by decide +kernel) (by decide +kernel)⟩
theorem lf_10_306 : pm_LF 10 306 4 1 := ⟨_, rfl, (by decide +kernel), pm_in 374 (by decide +kernel) (by decide +kernel)⟩
theorem lf_10_307 : pm_LF 10 307 4 0 := ⟨_, rfl, (by decide +kernel), pm_in 372 (by decide +kernel) (by decide +kernel)⟩
theorem lf_10_309 : pm_LF 10 309 2 3 := ⟨_, rfl, (by decide +kernel), pm_in 123 (by decide +kernel) (by decide +kernel)⟩
theorem lk_10_310 : pm_LV 10 310 8 := ⟨pm_in 391 (by decide +kernel) (by decide +kernel), pm_in 392 (by decide +kernel) (by decide +kernel), pm_in 393 (by decide +kernel) (by decide +kernel), (by decide +kernel)⟩
theorem lk_10_313 : pm_LV 10 313 45 := ⟨pm_in 402 (by decide +kernel) (by decide +kernel), pm_in 403 (by decide +kernel) (by decide +kernel), pm_in 404 (by decide +kernel) (by decide +kernel), (by decide +kernel)⟩
theorem lk_10_316 : pm_LV 10 316 18 := ⟨pm_in 424 (by decide +kernel) (by decide +kernel), pm_in 425 (by decide +kernel) (by decide +kernel), pm_in 426 (by decide +kernel) (by decide +kernel), (by decide +kernel)⟩
theorem lk_10_319 : pm_LV 10 319 1 := ⟨pm_in 451 (by decide +kernel) (by decide +kernel), pm_in 452 (by decide +kernel) (by decide +kernel), pm_in 453 (by decide +kernel) (by decide +kernel), (by decide +kernel)⟩
theorem lf_10_320 : pm_LF 10 320 0 1 := ⟨_, rfl, (by decide +kernel), pm_in 223 (by decide +kernel) (by decide +kernel)⟩
theorem lf_10_323 : pm_LF 10 323 7 4 := ⟨_, rfl, (by decide +kernel), pm_in 160 (by decide +kernel) (by decide +kernel)⟩
theorem lk_10_326 : pm_LS 10 326 184 := ⟨pm_in 759 (by decide +kernel) (by decide +kernel), pm_in 407 (by decide +kernel) (by decide +kernel), (by decide +kernel)⟩
theorem lk_10_332 : pm_LV 10 332 56 := ⟨pm_in 695 (by decide +kernel) (by decide +kernel), pm_in 696 (by decide +kernel) (by decide +kernel), pm_in 697 (by decide +kernel) (by decide +kernel), (by decide +kernel)⟩
theorem lf_10_335 : pm_LF 10 335 9 2 := ⟨_, rfl, (by decide +kernel), pm_in 297 (by decide +kernel) (by decide +kernel)⟩
theorem lf_10_338 : pm_LF 10 338 9 1 := ⟨_, rfl, (by decide +kernel), pm_in 295 (by decide +kernel) (by decide +kernel)⟩
theorem lk_10_341 : pm_LV 10 341 57 := ⟨pm_in 704 (by decide +kernel) (by decide +kernel), pm_in 701 (by decide +kernel) (by decide +kernel), pm_in 702 (by decide +kernel) (by decide +kernel), (by decide +kernel)⟩
theorem lk_10_345 : pm_LV 10 345 30 := ⟨pm_in 551 (by decide +kernel) (by decide +kernel), pm_in 552 (by decide +kernel) (by decide +kernel), pm_in 553 (by decide +kernel) (by decide +kernel), (by decide +kernel)⟩
theorem lf_10_348 : pm_LF 10 348 3 3 := ⟨_, rfl, (by decide +kernel), pm_in 190 (by decide +kernel) (by decide +kernel)⟩
theorem lk_10_351 : pm_LV 10 351 31 := ⟨pm_in 559 (by decide +kernel) (by decide +kernel), pm_in 560 (by decide +kernel) (by decide +kernel), pm_in 561 (by decide +kernel) (by decide +kernel), (by decide +kernel)⟩
theorem lf_10_354 : pm_LF 10 354 5 6 := ⟨_, rfl, (by decide +kernel), pm_in 318 (by decide +kernel) (by decide +kernel)⟩
theorem lk_10_356 : pm_LV 10 356 27 := ⟨pm_in 817 (by decide +kernel) (by decide +kernel), pm_in 818 (by decide +kernel) (by decide +kernel), pm_in 819 (by decide +kernel) (by decide +kernel), (by decide +kernel)⟩
theorem lf_10_357 : pm_LF 10 357 8 2 := ⟨_, rfl, (by decide +kernel), pm_in 348 (by decide +kernel) (by decide +kernel)⟩
theorem lp_10_357 : pm_LP 10 357 8 2 := ⟨_, rfl, (by decide +kernel), pm_in 348 (by decide +kernel) (by decide +kernel), rfl, rfl⟩
theorem lk_10_360 : pm_LV 10 360 111 := ⟨pm_in 821 (by decide +kernel) (by decide +kernel), pm_in 823 (by decide +kernel) (by decide +kernel), pm_in 39 (by decide +kernel) (by decide +kernel), (by decide +kernel)⟩
theorem lp_10_303 : pm_LP 10 303 4 3 := ⟨_, rfl, (by decide +kernel), pm_in 377 (by decide +kernel) (by decide +kernel), rfl, rfl⟩
theorem lp_10_300 : pm_LP 10 300 4 2 := ⟨_, rfl, (by decide +kernel), pm_in 376 (by decide +kernel) (by decide +kernel), rfl, rfl⟩
theorem lk_10_363 : pm_LV 10 363 51 := ⟨pm_in 825 (by decide +kernel) (by decide +kernel), pm_in 826 (by decide +kernel) (by decide +kernel), pm_in 827 (by decide +kernel) (by decide +kernel), (by decide +kernel)⟩
theorem lf_10_367 : pm_LF 10 367 8 3 := ⟨_, rfl, (by decide +kernel), pm_in 350 (by decide +kernel) (by decide +kernel)⟩
theorem lf_10_370 : pm_LF 10 370 8 4 := ⟨_, rfl, (by decide +kernel), pm_in 352 (by decide +kernel) (by decide +kernel)⟩
theorem lk_10_373 : pm_LV 10 373 28 := ⟨pm_in 841 (by decide +kernel) (by decide +kernel), pm_in 842 (by decide +kernel) (by decide +kernel), pm_in 843 (by decide +kernel) (by decide +kernel), (by decide +kernel)⟩
theorem lf_11_7 : pm_LF 11 7 11 0 := ⟨_, rfl, (by decide +kernel), pm_in 902 (by decide +kernel) (by decide +kernel)⟩
theorem lf_11_13 : pm_LF 11 13 11 1 := ⟨_, rfl, (by decide +kernel), pm_in 903 (by decide +kernel) (by decide +kernel)⟩
theorem lf_11_16 : pm_LF 11 16 11 3 := ⟨_, rfl, (by decide +kernel), pm_in 905 (by decide +kernel) (by decide +kernel)⟩
theorem lf_11_20 : pm_LF 11 20 11 10 := ⟨_, rfl, (by decide +kernel), pm_in 912 (by decide +kernel) (by decide +kernel)⟩
theorem lf_11_23 : pm_LF 11 23 11 11 := ⟨_, rfl, (by decide +kernel), pm_in 913 (by decide +kernel) (by decide +kernel)⟩
theorem lf_11_26 : pm_LF 11 26 11 12 := ⟨_, rfl, (by decide +kernel), pm_in 914 (by decide +kernel) (by decide +kernel)⟩
theorem lf_11_29 : pm_LF 11 29 11 13 := ⟨_, rfl, (by decide +kernel), pm_in 915 (by decide +kernel) (by decide +kernel)⟩
theorem lf_11_32 : pm_LF 11 32 11 14 := ⟨_, rfl, (by decide +kernel), pm_in 916 (by decide +kernel) (by decide +kernel)⟩
theorem lf_11_35 : pm_LF 11 35 11 15 := ⟨_, rfl, (by decide +kernel), pm_in 917 (by decide +kernel) (by decide +kernel)⟩
theorem lf_11_38 : pm_LF 11 38 11 16 := ⟨_, rfl, (by decide +kernel), pm_in 918 (by decide +kernel) (by decide +kernel)⟩
theorem lf_11_41 : pm_LF 11 41 11 17 := ⟨_, rfl, (by decide +kernel), pm_in 919 (by decide +kernel) (by decide +kernel)⟩
theorem lf_11_44 : pm_LF 11 44 11 18 := ⟨_, rfl, (by decide +kernel), pm_in 920 (by decide +kernel) (by decide +kernel)⟩
theorem lf_11_47 : pm_LF 11 47 11 19 := ⟨_, rfl, (by decide +kernel), pm_in 921 (by decide +kernel) (by decide +kernel)⟩
theorem lf_11_50 : pm_LF 11 50 11 20 := ⟨_, rfl, (by decide +kernel), pm_in 922 (by decide +kernel) (by decide +kernel)⟩
theorem lf_11_53 : pm_LF 11 53 11 21 := ⟨_, rfl, (by decide +kernel), pm_in 923 (by decide +kernel) (by decide +kernel)⟩
theorem lf_11_56 : pm_LF 11 56 11 23 := ⟨_, rfl, (by decide +kernel), pm_in 925 (by decide +kernel) (by decide +kernel)⟩
theorem lf_11_59 : pm_LF 11 59 11 24 := ⟨_, rfl, (by decide +kernel), pm_in 926 (by decide +kernel) (by decide +kernel)⟩
theorem lf_11_62 : pm_LF 11 62 11 25 := ⟨_, rfl, (by decide +kernel), pm_in 927 (by decide +kernel) (by decide +kernel)⟩
theorem lf_11_65 : pm_LF 11 65 11 31 := ⟨_, rfl, (by decide +kernel), pm_in 933 (by decide +kernel) (by decide +kernel)⟩
theorem lk_11_69 : pm_LV 11 69 126 := ⟨pm_in 855 (by decide +kernel) (by decide +kernel), pm_in 857 (by decide +kernel) (by decide +kernel), pm_in 43 (by decide +kernel) (by decide +kernel), (by decide +kernel)⟩
theorem lf_11_72 : pm_LF 11 72 11 2 := ⟨_, rfl, (by decide +kernel), pm_in 904 (by decide +kernel) (by decide +kernel)⟩
theorem lp_11_72 : pm_LP 11 72 11 2 := ⟨_, rfl, (by decide +kernel), pm_in 904 (by decide +kernel) (by decide +kernel), rfl, rfl⟩
theorem lf_11_76 : pm_LF 11 76 11 6 := ⟨_, rfl, (by decide +kernel), pm_in 908 (by decide +kernel) (by decide +kernel)⟩
theorem lp_11_76 : pm_LP 11 76 11 6 := ⟨_, rfl, (by decide +kernel), pm_in 908 (by decide +kernel) (by decide +kernel), rfl, rfl⟩
theorem lk_11_79 : pm_LS 11 79 114 := ⟨pm_in 863 (by decide +kernel) (by decide +kernel), pm_in 864 (by decide +kernel) (by decide +kernel), (by decide +kernel)⟩
theorem lk_11_83 : pm_LS 11 83 118 := ⟨pm_in 874 (by decide +kernel) (by decide +kernel), pm_in 875 (by decide +kernel) (by decide +kernel), (by decide +kernel)⟩
theorem lk_11_87 : pm_LV 11 87 120 := ⟨pm_in 893 (by decide +kernel) (by decide +kernel), pm_in 895 (by decide +kernel) (by decide +kernel), pm_in 51 (by decide +kernel) (by decide +kernel), (by decide +kernel)⟩
theorem lf_11_90 : pm_LF 11 90 11 7 := ⟨_, rfl, (by decide +kernel), pm_in 909 (by decide +kernel) (by decide +kernel)⟩
theorem lp_11_90 : pm_LP 11 90 11 7 := ⟨_, rfl, (by decide +kernel), pm_in 909 (by decide +kernel) (by decide +kernel), rfl, rfl⟩
theorem lk_11_93 : pm_LV 11 93 119 := ⟨pm_in 870 (by decide +kernel) (by decide +kernel), pm_in 872 (by decide +kernel) (by decide +kernel), pm_in 46 (by decide +kernel) (by decide +kernel), (by decide +kernel)⟩
theorem lf_11_97 : pm_LF 11 97 11 8 := ⟨_, rfl, (by decide +kernel), pm_in 910 (by decide +kernel) (by decide +kernel)⟩
theorem lp_11_97 : pm_LP 11 97 11 8 := ⟨_, rfl, (by decide +kernel), pm_in 910 (by decide +kernel) (by decide +kernel), rfl, rfl⟩
theorem lf_11_100 : pm_LF 11 100 11 9 := ⟨_, rfl, (by decide +kernel), pm_in 911 (by decide +kernel) (by decide +kernel)⟩
theorem lp_11_100 : pm_LP 11 100 11 9 := ⟨_, rfl, (by decide +kernel), pm_in 911 (by decide +kernel) (by decide +kernel), rfl, rfl⟩
theorem lk_11_103 : pm_LV 11 103 121 := ⟨pm_in 885 (by decide +kernel) (by decide +kernel), pm_in 887 (by decide +kernel) (by decide +kernel), pm_in 49 (by decide +kernel) (by decide +kernel), (by decide +kernel)⟩
theorem lk_11_106 : pm_LV 11 106 122 := ⟨pm_in 889 (by decide +kernel) (by decide +kernel), pm_in 891 (by decide +kernel) (by decide +kernel), pm_in 50 (by decide +kernel) (by decide +kernel), (by decide +kernel)⟩
theorem lf_11_109 : pm_LF 11 109 11 5 := ⟨_, rfl, (by decide +kernel), pm_in 907 (by decide +kernel) (by decide +kernel)⟩
theorem lp_11_109 : pm_LP 11 109 11 5 := ⟨_, rfl, (by decide +kernel), pm_in 907 (by decide +kernel) (by decide +kernel), rfl, rfl⟩
theorem lk_11_112 : pm_LV 11 112 117 := ⟨pm_in 859 (by decide +kernel) (by decide +kernel), pm_in 861 (by decide +kernel) (by decide +kernel), pm_in 44 (by decide +kernel) (by decide +kernel), (by decide +kernel)⟩
theorem lk_11_116 : pm_LV 11 116 123 := ⟨pm_in 866 (by decide +kernel) (by decide +kernel), pm_in 868 (by decide +kernel) (by decide +kernel), pm_in 45 (by decide +kernel) (by decide +kernel), (by decide +kernel)⟩
theorem lk_11_119 : pm_LV 11 119 124 := ⟨pm_in 877 (by decide +kernel) (by decide +kernel), pm_in 879 (by decide +kernel) (by decide +kernel), pm_in 47 (by decide +kernel) (by decide +kernel), (by decide +kernel)⟩
theorem lk_11_122 : pm_LV 11 122 125 := ⟨pm_in 881 (by decide +kernel) (by decide +kernel), pm_in 883 (by decide +kernel) (by decide +kernel), pm_in 48 (by decide +kernel) (by decide +kernel), (by decide +kernel)⟩
theorem lk_11_125 : pm_LV 11 125 127 := ⟨pm_in 897 (by decide +kernel) (by decide +kernel), pm_in 899 (by decide +kernel) (by decide +kernel), pm_in 52 (by decide +kernel) (by decide +kernel), (by decide +kernel)⟩
theorem ll_11_128 : pm_LL 11 128 2 := pm_in 901 (by decide +kernel) (by decide +kernel)
theorem lk_11_130 : pm_LS 11 130 113 := ⟨pm_in 1008 (by decide +kernel) (by decide +kernel), pm_in 1009 (by decide +kernel) (by decide +kernel), (by decide +kernel)⟩
theorem lk_11_134 : pm_LV 11 134 115 := ⟨pm_in 1011 (by decide +kernel) (by decide +kernel), pm_in 1013 (by decide +kernel) (by decide +kernel), pm_in 53 (by decide +kernel) (by decide +kernel), (by decide +kernel)⟩
theorem lk_11_137 : pm_LV 11 137 164 := ⟨pm_in 1015 (by decide +kernel) (by decide +kernel), pm_in 1017 (by decide +kernel) (by decide +kernel), pm_in 54 (by decide +kernel) (by decide +kernel), (by decide +kernel)⟩
theorem lk_11_140 : pm_LV 11 140 130 := ⟨pm_in 1031 (by decide +kernel) (by decide +kernel), pm_in 1033 (by decide +kernel) (by decide +kernel), pm_in 56 (by decide +kernel) (by decide +kernel), (by decide +kernel)⟩
theorem lk_11_144 : pm_LV 11 144 131 := ⟨pm_in 1027 (by decide +kernel) (by decide +kernel), pm_in 1029 (by decide +kernel) (by decide +kernel), pm_in 55 (by decide +kernel) (by decide +kernel), (by decide +kernel)⟩
theorem lk_11_148 : pm_LV 11 148 167 := ⟨pm_in 1039 (by decide +kernel) (by decide +kernel), pm_in 1041 (by decide +kernel) (by decide +kernel), pm_in 57 (by decide +kernel) (by decide +kernel), (by decide +kernel)⟩
theorem lk_11_151 : pm_LV 11 151 170 := ⟨pm_in 1047 (by decide +kernel) (by decide +kernel), pm_in 1049 (by decide +kernel) (by decide +kernel), pm_in 59 (by decide +kernel) (by decide +kernel), (by decide +kernel)⟩
theorem lf_11_154 : pm_LF 11 154 11 22 := ⟨_, rfl, (by decide +kernel), pm_in 924 (by decide +kernel) (by decide +kernel)⟩
theorem lk_11_157 : pm_LV 11 157 136 := ⟨pm_in 1071 (by decide +kernel) (by decide +kernel), pm_in 1073 (by decide +kernel) (by decide +kernel), pm_in 64 (by decide +kernel) (by decide +kernel), (by decide +kernel)⟩
theorem lk_11_160 : pm_LV 11 160 137 := ⟨pm_in 1079 (by decide +kernel) (by decide +kernel), pm_in 1081 (by decide +kernel) (by decide +kernel), pm_in 66 (by decide +kernel) (by decide +kernel), (by decide +kernel)⟩
theorem lk_11_163 : pm_LV 11 163 135 := ⟨pm_in 1063 (by decide +kernel) (by decide +kernel), pm_in 1065 (by decide +kernel) (by decide +kernel), pm_in 62 (by decide +kernel) (by decide +kernel), (by decide +kernel)⟩
theorem lk_11_166 : pm_LV 11 166 134 := ⟨pm_in 1043 (by decide +kernel) (by decide +kernel), pm_in 1045 (by decide +kernel) (by decide +kernel), pm_in 58 (by decide +kernel) (by decide +kernel), (by decide +kernel)⟩
theorem lk_11_169 : pm_LV 11 169 138 := ⟨pm_in 1075 (by decide +kernel) (by decide +kernel), pm_in 1077 (by decide +kernel) (by decide +kernel), pm_in 65 (by decide +kernel) (by decide +kernel), (by decide +kernel)⟩
theorem lk_11_172 : pm_LV 11 172 139 := ⟨pm_in 1087 (by decide +kernel) (by decide +kernel), pm_in 1089 (by decide +kernel) (by decide +kernel), pm_in 68 (by decide +kernel) (by decide +kernel), (by decide +kernel)⟩
theorem lk_11_175 : pm_LV 11 175 140 := ⟨pm_in 1059 (by decide +kernel) (by decide +kernel), pm_in 1061 (by decide +kernel) (by decide +kernel), pm_in 61 (by decide +kernel) (by decide +kernel), (by decide +kernel)⟩
theorem lk_11_178 : pm_LV 11 178 141 := ⟨pm_in 1067 (by decide +kernel) (by decide +kernel), pm_in 1069 (by decide +kernel) (by decide +kernel), pm_in 63 (by decide +kernel) (by decide +kernel), (by decide +kernel)⟩
theorem lk_11_182 : pm_LV 11 182 142 := ⟨pm_in 1083 (by decide +kernel) (by decide +kernel), pm_in 1085 (by decide +kernel) (by decide +kernel), pm_in 67 (by decide +kernel) (by decide +kernel), (by decide +kernel)⟩
theorem lf_11_185 : pm_LF 11 185 11 4 := ⟨_, rfl, (by decide +kernel), pm_in 906 (by decide +kernel) (by decide +kernel)⟩
theorem lk_11_188 : pm_LV 11 188 144 := ⟨pm_in 1095 (by decide +kernel) (by decide +kernel), pm_in 1097 (by decide +kernel) (by decide +kernel), pm_in 69 (by decide +kernel) (by decide +kernel), (by decide +kernel)⟩
theorem lk_11_191 : pm_LV 11 191 145 := ⟨pm_in 1099 (by decide +kernel) (by decide +kernel), pm_in 1101 (by decide +kernel) (by decide +kernel), pm_in 70 (by decide +kernel) (by decide +kernel), (by decide +kernel)⟩
theorem lk_11_194 : pm_LV 11 194 146 := ⟨pm_in 1103 (by decide +kernel) (by decide +kernel), pm_in 1105 (by decide +kernel) (by decide +kernel), pm_in 71 (by decide +kernel) (by decide +kernel), (by decide +kernel)⟩
theorem lk_11_197 : pm_LV 11 197 147 := ⟨pm_in 1107 (by decide +kernel) (by decide +kernel), pm_in 1109 (by decide +kernel) (by decide +kernel), pm_in 72 (by decide +kernel) (by decide +kernel), (by decide +kernel)⟩
theorem lk_11_200 : pm_LV 11 200 149 := ⟨pm_in 1115 (by decide +kernel) (by decide +kernel), pm_in 1117 (by decide +kernel) (by decide +kernel), pm_in 73 (by decide +kernel) (by decide +kernel), (by decide +kernel)⟩
theorem lk_11_204 : pm_LV 11 204 154 := ⟨pm_in 1131 (by decide +kernel) (by decide +kernel), pm_in 1133 (by decide +kernel) (by decide +kernel), pm_in 74 (by decide +kernel) (by decide +kernel), (by decide +kernel)⟩
theorem lk_11_208 : pm_LV 11 208 155 := ⟨pm_in 1143 (by decide +kernel) (by decide +kernel), pm_in 1145 (by decide +kernel) (by decide +kernel), pm_in 75 (by decide +kernel) (by decide +kernel), (by decide +kernel)⟩
theorem lk_11_211 : pm_LV 11 211 158 := ⟨pm_in 1147 (by decide +kernel) (by decide +kernel), pm_in 1149 (by decide +kernel) (by decide +kernel), pm_in 76 (by decide +kernel) (by decide +kernel), (by decide +kernel)⟩
theorem lk_11_214 : pm_LV 11 214 161 := ⟨pm_in 1163 (by decide +kernel) (by decide +kernel), pm_in 1165 (by decide +kernel) (by decide +kernel), pm_in 77 (by decide +kernel) (by decide +kernel), (by decide +kernel)⟩
theorem lp_11_154 : pm_LP 11 154 11 22 := ⟨_, rfl, (by decide +kernel), pm_in 924 (by decide +kernel) (by decide +kernel), rfl, rfl⟩
theorem lk_11_217 : pm_LV 11 217 169 := ⟨pm_in 1051 (by decide +kernel) (by decide +kernel), pm_in 1053 (by decide +kernel) (by decide +kernel), pm_in 60 (by decide +kernel) (by decide +kernel), (by decide +kernel)⟩
theorem lk_11_220 : pm_LV 11 220 168 := ⟨pm_in 1183 (by decide +kernel) (by decide +kernel), pm_in 1185 (by decide +kernel) (by decide +kernel), pm_in 78 (by decide +kernel) (by decide +kernel), (by decide +kernel)⟩
theorem lk_11_223 : pm_LV 11 223 172 := ⟨pm_in 1191 (by decide +kernel) (by decide +kernel), pm_in 1193 (by decide +kernel) (by decide +kernel), pm_in 79 (by decide +kernel) (by decide +kernel), (by decide +kernel)⟩
theorem lp_11_185 : pm_LP 11 185 11 4 := ⟨_, rfl, (by decide +kernel), pm_in 906 (by decide +kernel) (by decide +kernel), rfl, rfl⟩
theorem lf_11_226 : pm_LF 11 226 11 26 := ⟨_, rfl, (by decide +kernel), pm_in 928 (by decide +kernel) (by decide +kernel)⟩
theorem lp_11_226 : pm_LP 11 226 11 26 := ⟨_, rfl, (by decide +kernel), pm_in 928 (by decide +kernel) (by decide +kernel), rfl, rfl⟩
theorem lk_11_228 : pm_LV 11 228 176 := ⟨pm_in 1219 (by decide +kernel) (by decide +kernel), pm_in 1221 (by decide +kernel) (by decide +kernel), pm_in 83 (by decide +kernel) (by decide +kernel), (by decide +kernel)⟩
theorem lf_11_231 : pm_LF 11 231 11 27 := ⟨_, rfl, (by decide +kernel), pm_in 929 (by decide +kernel) (by decide +kernel)⟩
theorem lp_11_231 : pm_LP 11 231 11 27 := ⟨_, rfl, (by decide +kernel), pm_in 929 (by decide +kernel) (by decide +kernel), rfl, rfl⟩
theorem lk_11_234 : pm_LV 11 234 177 := ⟨pm_in 1223 (by decide +kernel) (by decide +kernel), pm_in 1225 (by decide +kernel) (by decide +kernel), pm_in 84 (by decide +kernel) (by decide +kernel), (by decide +kernel)⟩
theorem lf_11_237 : pm_LF 11 237 11 28 := ⟨_, rfl, (by decide +kernel), pm_in 930 (by decide +kernel) (by decide +kernel)⟩
theorem lp_11_237 : pm_LP 11 237 11 28 := ⟨_, rfl, (by decide +kernel), pm_in 930 (by decide +kernel) (by decide +kernel), rfl, rfl⟩
theorem lk_11_240 : pm_LV 11 240 178 := ⟨pm_in 1215 (by decide +kernel) (by decide +kernel), pm_in 1217 (by decide +kernel) (by decide +kernel), pm_in 82 (by decide +kernel) (by decide +kernel), (by decide +kernel)⟩
theorem lf_11_244 : pm_LF 11 244 11 30 := ⟨_, rfl, (by decide +kernel), pm_in 932 (by decide +kernel) (by decide +kernel)⟩
theorem lp_11_244 : pm_LP 11 244 11 30 := ⟨_, rfl, (by decide +kernel), pm_in 932 (by decide +kernel) (by decide +kernel), rfl, rfl⟩
theorem lf_11_247 : pm_LF 11 247 11 29 := ⟨_, rfl, (by decide +kernel), pm_in 931 (by decide +kernel) (by decide +kernel)⟩
theorem lp_11_247 : pm_LP 11 247 11 29 := ⟨_, rfl, (by decide +kernel), pm_in 931 (by decide +kernel) (by decide +kernel), rfl, rfl⟩
theorem lk_11_250 : pm_LV 11 250 179 := ⟨pm_in 1211 (by decide +kernel) (by decide +kernel), pm_in 1213 (by decide +kernel) (by decide +kernel), pm_in 81 (by decide +kernel) (by decide +kernel), (by decide +kernel)⟩
theorem lk_11_253 : pm_LV 11 253 180 := ⟨pm_in 1207 (by decide +kernel) (by decide +kernel), pm_in 1209 (by decide +kernel) (by decide +kernel), pm_in 80 (by decide +kernel) (by decide +kernel), (by decide +kernel)⟩
end
section
theorem i_vc : Claimed_1_1 ∧ Claimed_1_2 := sorry
end
