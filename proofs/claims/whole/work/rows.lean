section
-- ===== PART A: goes FIRST, ahead of the names: the tables' words, and 'selects' of the private methods out of them =====
/-- a private method of a class that the tables say can be made, by its rows of tables_1 -/
def lw_okq (q : MethodName × Nat) : Prop := (q.1.cls ≠ "java/lang/invoke/MethodHandle" ∧ q.1.cls ≠ "java/lang/invoke/VarHandle") ∧ Cond.instantiable q.1.cls q.2 ∈ tables_1 ∧ Cond.privateMethod q.1 ∈ tables_1 ∧ Cond.instanceMethod q.1 ∈ tables_1
theorem lw_p0 : lw_okq (⟨"ZonedLight$PictureText", "addNumber", "(I)V"⟩, 4) := ⟨⟨by decide +kernel, by decide +kernel⟩, List.mem_of_getElem? (i := 84) (by decide +kernel), List.mem_of_getElem? (i := 202) (by decide +kernel), List.mem_of_getElem? (i := 203) (by decide +kernel)⟩
theorem lw_p1 : lw_okq (⟨"ZonedLight", "rememberPicture", "()V"⟩, 9) := ⟨⟨by decide +kernel, by decide +kernel⟩, List.mem_of_getElem? (i := 11) (by decide +kernel), List.mem_of_getElem? (i := 213) (by decide +kernel), List.mem_of_getElem? (i := 214) (by decide +kernel)⟩
theorem lw_p2 : lw_okq (⟨"ZonedLight", "changedSpots", "()I"⟩, 9) := ⟨⟨by decide +kernel, by decide +kernel⟩, List.mem_of_getElem? (i := 11) (by decide +kernel), List.mem_of_getElem? (i := 237) (by decide +kernel), List.mem_of_getElem? (i := 238) (by decide +kernel)⟩
theorem lw_p3 : lw_okq (⟨"ZonedLight$Plan", "levelByRule", "(LZonedLight$Screen;I)I"⟩, 2) := ⟨⟨by decide +kernel, by decide +kernel⟩, List.mem_of_getElem? (i := 105) (by decide +kernel), List.mem_of_getElem? (i := 276) (by decide +kernel), List.mem_of_getElem? (i := 277) (by decide +kernel)⟩
theorem lw_p4 : lw_okq (⟨"ZonedLight$Plan", "aim", "(LZonedLight$Screen;I)I"⟩, 2) := ⟨⟨by decide +kernel, by decide +kernel⟩, List.mem_of_getElem? (i := 105) (by decide +kernel), List.mem_of_getElem? (i := 280) (by decide +kernel), List.mem_of_getElem? (i := 281) (by decide +kernel)⟩
theorem lw_p5 : lw_okq (⟨"ZonedLight$Plan", "raiseAll", "(LZonedLight$Screen;)V"⟩, 2) := ⟨⟨by decide +kernel, by decide +kernel⟩, List.mem_of_getElem? (i := 105) (by decide +kernel), List.mem_of_getElem? (i := 289) (by decide +kernel), List.mem_of_getElem? (i := 290) (by decide +kernel)⟩
theorem lw_p6 : lw_okq (⟨"ZonedLight$Plan", "raiseNeighbours", "(LZonedLight$Screen;II)V"⟩, 2) := ⟨⟨by decide +kernel, by decide +kernel⟩, List.mem_of_getElem? (i := 105) (by decide +kernel), List.mem_of_getElem? (i := 309) (by decide +kernel), List.mem_of_getElem? (i := 310) (by decide +kernel)⟩
theorem lw_p7 : lw_okq (⟨"ZonedLight$Plan", "raise", "(II)V"⟩, 2) := ⟨⟨by decide +kernel, by decide +kernel⟩, List.mem_of_getElem? (i := 105) (by decide +kernel), List.mem_of_getElem? (i := 320) (by decide +kernel), List.mem_of_getElem? (i := 321) (by decide +kernel)⟩
theorem lw_p8 : lw_okq (⟨"ZonedLight$Plan", "lowerForBlack", "(LZonedLight$Screen;I)V"⟩, 2) := ⟨⟨by decide +kernel, by decide +kernel⟩, List.mem_of_getElem? (i := 105) (by decide +kernel), List.mem_of_getElem? (i := 328) (by decide +kernel), List.mem_of_getElem? (i := 329) (by decide +kernel)⟩
theorem lw_p9 : lw_okq (⟨"ZonedLight$Tally", "clear", "()V"⟩, 5) := ⟨⟨by decide +kernel, by decide +kernel⟩, List.mem_of_getElem? (i := 119) (by decide +kernel), List.mem_of_getElem? (i := 421) (by decide +kernel), List.mem_of_getElem? (i := 422) (by decide +kernel)⟩
theorem lw_p10 : lw_okq (⟨"ZonedLight$Tally", "addZone", "(LZonedLight$Screen;I)V"⟩, 5) := ⟨⟨by decide +kernel, by decide +kernel⟩, List.mem_of_getElem? (i := 119) (by decide +kernel), List.mem_of_getElem? (i := 425) (by decide +kernel), List.mem_of_getElem? (i := 426) (by decide +kernel)⟩
theorem lw_p11 : lw_okq (⟨"ZonedLight$Tally", "addSpot", "(II)V"⟩, 5) := ⟨⟨by decide +kernel, by decide +kernel⟩, List.mem_of_getElem? (i := 119) (by decide +kernel), List.mem_of_getElem? (i := 432) (by decide +kernel), List.mem_of_getElem? (i := 433) (by decide +kernel)⟩
theorem lw_p12 : lw_okq (⟨"ZonedLight", "greatestGap", "()I"⟩, 9) := ⟨⟨by decide +kernel, by decide +kernel⟩, List.mem_of_getElem? (i := 11) (by decide +kernel), List.mem_of_getElem? (i := 447) (by decide +kernel), List.mem_of_getElem? (i := 448) (by decide +kernel)⟩
theorem lw_p13 : lw_okq (⟨"ZonedLight", "countSpots", "(I)I"⟩, 9) := ⟨⟨by decide +kernel, by decide +kernel⟩, List.mem_of_getElem? (i := 11) (by decide +kernel), List.mem_of_getElem? (i := 451) (by decide +kernel), List.mem_of_getElem? (i := 452) (by decide +kernel)⟩
theorem lw_p14 : lw_okq (⟨"ZonedLight", "settleTrial", "()V"⟩, 9) := ⟨⟨by decide +kernel, by decide +kernel⟩, List.mem_of_getElem? (i := 11) (by decide +kernel), List.mem_of_getElem? (i := 472) (by decide +kernel), List.mem_of_getElem? (i := 473) (by decide +kernel)⟩
theorem lw_p15 : lw_okq (⟨"ZonedLightModel", "acts", "()V"⟩, 10) := ⟨⟨by decide +kernel, by decide +kernel⟩, List.mem_of_getElem? (i := 488) (by decide +kernel), List.mem_of_getElem? (i := 538) (by decide +kernel), List.mem_of_getElem? (i := 539) (by decide +kernel)⟩
def lw_privs_1 : List (MethodName × Nat) := [(⟨"ZonedLight$PictureText", "addNumber", "(I)V"⟩, 4), (⟨"ZonedLight", "rememberPicture", "()V"⟩, 9), (⟨"ZonedLight", "changedSpots", "()I"⟩, 9), (⟨"ZonedLight$Plan", "levelByRule", "(LZonedLight$Screen;I)I"⟩, 2), (⟨"ZonedLight$Plan", "aim", "(LZonedLight$Screen;I)I"⟩, 2), (⟨"ZonedLight$Plan", "raiseAll", "(LZonedLight$Screen;)V"⟩, 2), (⟨"ZonedLight$Plan", "raiseNeighbours", "(LZonedLight$Screen;II)V"⟩, 2), (⟨"ZonedLight$Plan", "raise", "(II)V"⟩, 2), (⟨"ZonedLight$Plan", "lowerForBlack", "(LZonedLight$Screen;I)V"⟩, 2), (⟨"ZonedLight$Tally", "clear", "()V"⟩, 5), (⟨"ZonedLight$Tally", "addZone", "(LZonedLight$Screen;I)V"⟩, 5), (⟨"ZonedLight$Tally", "addSpot", "(II)V"⟩, 5), (⟨"ZonedLight", "greatestGap", "()I"⟩, 9), (⟨"ZonedLight", "countSpots", "(I)I"⟩, 9), (⟨"ZonedLight", "settleTrial", "()V"⟩, 9), (⟨"ZonedLightModel", "acts", "()V"⟩, 10)]
theorem lw_r1 : ∀ q ∈ lw_privs_1, lw_okq q := List.forall_mem_cons.mpr ⟨lw_p0, List.forall_mem_cons.mpr ⟨lw_p1, List.forall_mem_cons.mpr ⟨lw_p2, List.forall_mem_cons.mpr ⟨lw_p3, List.forall_mem_cons.mpr ⟨lw_p4, List.forall_mem_cons.mpr ⟨lw_p5, List.forall_mem_cons.mpr ⟨lw_p6, List.forall_mem_cons.mpr ⟨lw_p7, List.forall_mem_cons.mpr ⟨lw_p8, List.forall_mem_cons.mpr ⟨lw_p9, List.forall_mem_cons.mpr ⟨lw_p10, List.forall_mem_cons.mpr ⟨lw_p11, List.forall_mem_cons.mpr ⟨lw_p12, List.forall_mem_cons.mpr ⟨lw_p13, List.forall_mem_cons.mpr ⟨lw_p14, List.forall_mem_cons.mpr ⟨lw_p15, fun _ h => absurd h List.not_mem_nil⟩⟩⟩⟩⟩⟩⟩⟩⟩⟩⟩⟩⟩⟩⟩⟩
theorem lw_p16 : lw_okq (⟨"ZonedLightModel", "otherSpots", "()I"⟩, 10) := ⟨⟨by decide +kernel, by decide +kernel⟩, List.mem_of_getElem? (i := 488) (by decide +kernel), List.mem_of_getElem? (i := 547) (by decide +kernel), List.mem_of_getElem? (i := 548) (by decide +kernel)⟩
theorem lw_p17 : lw_okq (⟨"ZonedLightModel", "wants", "(I)V"⟩, 10) := ⟨⟨by decide +kernel, by decide +kernel⟩, List.mem_of_getElem? (i := 488) (by decide +kernel), List.mem_of_getElem? (i := 564) (by decide +kernel), List.mem_of_getElem? (i := 565) (by decide +kernel)⟩
theorem lw_p18 : lw_okq (⟨"ZonedLightModel", "beginning", "(II)I"⟩, 10) := ⟨⟨by decide +kernel, by decide +kernel⟩, List.mem_of_getElem? (i := 488) (by decide +kernel), List.mem_of_getElem? (i := 568) (by decide +kernel), List.mem_of_getElem? (i := 569) (by decide +kernel)⟩
theorem lw_p19 : lw_okq (⟨"ZonedLightModel", "greatestIn", "(I)I"⟩, 10) := ⟨⟨by decide +kernel, by decide +kernel⟩, List.mem_of_getElem? (i := 488) (by decide +kernel), List.mem_of_getElem? (i := 572) (by decide +kernel), List.mem_of_getElem? (i := 573) (by decide +kernel)⟩
theorem lw_p20 : lw_okq (⟨"ZonedLightModel", "meanIn", "(I)I"⟩, 10) := ⟨⟨by decide +kernel, by decide +kernel⟩, List.mem_of_getElem? (i := 488) (by decide +kernel), List.mem_of_getElem? (i := 579) (by decide +kernel), List.mem_of_getElem? (i := 580) (by decide +kernel)⟩
theorem lw_p21 : lw_okq (⟨"ZonedLightModel", "round", "()V"⟩, 10) := ⟨⟨by decide +kernel, by decide +kernel⟩, List.mem_of_getElem? (i := 488) (by decide +kernel), List.mem_of_getElem? (i := 586) (by decide +kernel), List.mem_of_getElem? (i := 587) (by decide +kernel)⟩
theorem lw_p22 : lw_okq (⟨"ZonedLightModel", "light", "(IZ)I"⟩, 10) := ⟨⟨by decide +kernel, by decide +kernel⟩, List.mem_of_getElem? (i := 488) (by decide +kernel), List.mem_of_getElem? (i := 590) (by decide +kernel), List.mem_of_getElem? (i := 591) (by decide +kernel)⟩
theorem lw_p23 : lw_okq (⟨"ZonedLightModel", "shareAt", "(I)I"⟩, 10) := ⟨⟨by decide +kernel, by decide +kernel⟩, List.mem_of_getElem? (i := 488) (by decide +kernel), List.mem_of_getElem? (i := 600) (by decide +kernel), List.mem_of_getElem? (i := 601) (by decide +kernel)⟩
theorem lw_p24 : lw_okq (⟨"ZonedLightModel", "raises", "(III)V"⟩, 10) := ⟨⟨by decide +kernel, by decide +kernel⟩, List.mem_of_getElem? (i := 488) (by decide +kernel), List.mem_of_getElem? (i := 604) (by decide +kernel), List.mem_of_getElem? (i := 605) (by decide +kernel)⟩
theorem lw_p25 : lw_okq (⟨"ZonedLightModel", "raisesBeside", "(II)V"⟩, 10) := ⟨⟨by decide +kernel, by decide +kernel⟩, List.mem_of_getElem? (i := 488) (by decide +kernel), List.mem_of_getElem? (i := 608) (by decide +kernel), List.mem_of_getElem? (i := 609) (by decide +kernel)⟩
theorem lw_p26 : lw_okq (⟨"ZonedLightModel", "isLiveBeside", "(II)Z"⟩, 10) := ⟨⟨by decide +kernel, by decide +kernel⟩, List.mem_of_getElem? (i := 488) (by decide +kernel), List.mem_of_getElem? (i := 612) (by decide +kernel), List.mem_of_getElem? (i := 613) (by decide +kernel)⟩
theorem lw_p27 : lw_okq (⟨"ZonedLightModel", "hasBlack", "(I)Z"⟩, 10) := ⟨⟨by decide +kernel, by decide +kernel⟩, List.mem_of_getElem? (i := 488) (by decide +kernel), List.mem_of_getElem? (i := 616) (by decide +kernel), List.mem_of_getElem? (i := 617) (by decide +kernel)⟩
theorem lw_p28 : lw_okq (⟨"ZonedLightModel", "leakOf", "(I)I"⟩, 10) := ⟨⟨by decide +kernel, by decide +kernel⟩, List.mem_of_getElem? (i := 488) (by decide +kernel), List.mem_of_getElem? (i := 620) (by decide +kernel), List.mem_of_getElem? (i := 621) (by decide +kernel)⟩
theorem lw_p29 : lw_okq (⟨"ZonedLightModel", "frame", "()V"⟩, 10) := ⟨⟨by decide +kernel, by decide +kernel⟩, List.mem_of_getElem? (i := 488) (by decide +kernel), List.mem_of_getElem? (i := 624) (by decide +kernel), List.mem_of_getElem? (i := 625) (by decide +kernel)⟩
theorem lw_p30 : lw_okq (⟨"ZonedLightModel", "power", "(Z)I"⟩, 10) := ⟨⟨by decide +kernel, by decide +kernel⟩, List.mem_of_getElem? (i := 488) (by decide +kernel), List.mem_of_getElem? (i := 628) (by decide +kernel), List.mem_of_getElem? (i := 629) (by decide +kernel)⟩
theorem lw_p31 : lw_okq (⟨"ZonedLightModel", "readsPart", "()Z"⟩, 10) := ⟨⟨by decide +kernel, by decide +kernel⟩, List.mem_of_getElem? (i := 488) (by decide +kernel), List.mem_of_getElem? (i := 658) (by decide +kernel), List.mem_of_getElem? (i := 659) (by decide +kernel)⟩
def lw_privs_2 : List (MethodName × Nat) := [(⟨"ZonedLightModel", "otherSpots", "()I"⟩, 10), (⟨"ZonedLightModel", "wants", "(I)V"⟩, 10), (⟨"ZonedLightModel", "beginning", "(II)I"⟩, 10), (⟨"ZonedLightModel", "greatestIn", "(I)I"⟩, 10), (⟨"ZonedLightModel", "meanIn", "(I)I"⟩, 10), (⟨"ZonedLightModel", "round", "()V"⟩, 10), (⟨"ZonedLightModel", "light", "(IZ)I"⟩, 10), (⟨"ZonedLightModel", "shareAt", "(I)I"⟩, 10), (⟨"ZonedLightModel", "raises", "(III)V"⟩, 10), (⟨"ZonedLightModel", "raisesBeside", "(II)V"⟩, 10), (⟨"ZonedLightModel", "isLiveBeside", "(II)Z"⟩, 10), (⟨"ZonedLightModel", "hasBlack", "(I)Z"⟩, 10), (⟨"ZonedLightModel", "leakOf", "(I)I"⟩, 10), (⟨"ZonedLightModel", "frame", "()V"⟩, 10), (⟨"ZonedLightModel", "power", "(Z)I"⟩, 10), (⟨"ZonedLightModel", "readsPart", "()Z"⟩, 10)]
theorem lw_r2 : ∀ q ∈ lw_privs_2, lw_okq q := List.forall_mem_cons.mpr ⟨lw_p16, List.forall_mem_cons.mpr ⟨lw_p17, List.forall_mem_cons.mpr ⟨lw_p18, List.forall_mem_cons.mpr ⟨lw_p19, List.forall_mem_cons.mpr ⟨lw_p20, List.forall_mem_cons.mpr ⟨lw_p21, List.forall_mem_cons.mpr ⟨lw_p22, List.forall_mem_cons.mpr ⟨lw_p23, List.forall_mem_cons.mpr ⟨lw_p24, List.forall_mem_cons.mpr ⟨lw_p25, List.forall_mem_cons.mpr ⟨lw_p26, List.forall_mem_cons.mpr ⟨lw_p27, List.forall_mem_cons.mpr ⟨lw_p28, List.forall_mem_cons.mpr ⟨lw_p29, List.forall_mem_cons.mpr ⟨lw_p30, List.forall_mem_cons.mpr ⟨lw_p31, fun _ h => absurd h List.not_mem_nil⟩⟩⟩⟩⟩⟩⟩⟩⟩⟩⟩⟩⟩⟩⟩⟩
theorem lw_p32 : lw_okq (⟨"ZonedLightModel", "readsNumber", "(III)Z"⟩, 10) := ⟨⟨by decide +kernel, by decide +kernel⟩, List.mem_of_getElem? (i := 488) (by decide +kernel), List.mem_of_getElem? (i := 662) (by decide +kernel), List.mem_of_getElem? (i := 663) (by decide +kernel)⟩
theorem lw_p33 : lw_okq (⟨"ZonedLightModel", "isHere", "(II)Z"⟩, 10) := ⟨⟨by decide +kernel, by decide +kernel⟩, List.mem_of_getElem? (i := 488) (by decide +kernel), List.mem_of_getElem? (i := 666) (by decide +kernel), List.mem_of_getElem? (i := 667) (by decide +kernel)⟩
theorem lw_p34 : lw_okq (⟨"ZonedLightModel", "takes", "(I)Z"⟩, 10) := ⟨⟨by decide +kernel, by decide +kernel⟩, List.mem_of_getElem? (i := 488) (by decide +kernel), List.mem_of_getElem? (i := 670) (by decide +kernel), List.mem_of_getElem? (i := 671) (by decide +kernel)⟩
theorem lw_p35 : lw_okq (⟨"ZonedLightModel", "asksPart", "()V"⟩, 10) := ⟨⟨by decide +kernel, by decide +kernel⟩, List.mem_of_getElem? (i := 488) (by decide +kernel), List.mem_of_getElem? (i := 679) (by decide +kernel), List.mem_of_getElem? (i := 680) (by decide +kernel)⟩
theorem lw_p36 : lw_okq (⟨"ZonedLightModel", "shown", "(II)I"⟩, 10) := ⟨⟨by decide +kernel, by decide +kernel⟩, List.mem_of_getElem? (i := 488) (by decide +kernel), List.mem_of_getElem? (i := 702) (by decide +kernel), List.mem_of_getElem? (i := 703) (by decide +kernel)⟩
theorem lw_p37 : lw_okq (⟨"ZonedLightModel", "wantedFor", "(I)I"⟩, 10) := ⟨⟨by decide +kernel, by decide +kernel⟩, List.mem_of_getElem? (i := 488) (by decide +kernel), List.mem_of_getElem? (i := 713) (by decide +kernel), List.mem_of_getElem? (i := 714) (by decide +kernel)⟩
theorem lw_p38 : lw_okq (⟨"ZonedLightModel", "over", "(IIZ)I"⟩, 10) := ⟨⟨by decide +kernel, by decide +kernel⟩, List.mem_of_getElem? (i := 488) (by decide +kernel), List.mem_of_getElem? (i := 717) (by decide +kernel), List.mem_of_getElem? (i := 718) (by decide +kernel)⟩
theorem lw_p39 : lw_okq (⟨"ZonedLightModel", "deadZones", "()I"⟩, 10) := ⟨⟨by decide +kernel, by decide +kernel⟩, List.mem_of_getElem? (i := 488) (by decide +kernel), List.mem_of_getElem? (i := 725) (by decide +kernel), List.mem_of_getElem? (i := 726) (by decide +kernel)⟩
theorem lw_p40 : lw_okq (⟨"ZonedLightModel", "farthest", "()I"⟩, 10) := ⟨⟨by decide +kernel, by decide +kernel⟩, List.mem_of_getElem? (i := 488) (by decide +kernel), List.mem_of_getElem? (i := 729) (by decide +kernel), List.mem_of_getElem? (i := 730) (by decide +kernel)⟩
theorem lw_p41 : lw_okq (⟨"ZonedLightModel", "rested", "(I)I"⟩, 10) := ⟨⟨by decide +kernel, by decide +kernel⟩, List.mem_of_getElem? (i := 488) (by decide +kernel), List.mem_of_getElem? (i := 747) (by decide +kernel), List.mem_of_getElem? (i := 748) (by decide +kernel)⟩
def lw_privs_3 : List (MethodName × Nat) := [(⟨"ZonedLightModel", "readsNumber", "(III)Z"⟩, 10), (⟨"ZonedLightModel", "isHere", "(II)Z"⟩, 10), (⟨"ZonedLightModel", "takes", "(I)Z"⟩, 10), (⟨"ZonedLightModel", "asksPart", "()V"⟩, 10), (⟨"ZonedLightModel", "shown", "(II)I"⟩, 10), (⟨"ZonedLightModel", "wantedFor", "(I)I"⟩, 10), (⟨"ZonedLightModel", "over", "(IIZ)I"⟩, 10), (⟨"ZonedLightModel", "deadZones", "()I"⟩, 10), (⟨"ZonedLightModel", "farthest", "()I"⟩, 10), (⟨"ZonedLightModel", "rested", "(I)I"⟩, 10)]
theorem lw_r3 : ∀ q ∈ lw_privs_3, lw_okq q := List.forall_mem_cons.mpr ⟨lw_p32, List.forall_mem_cons.mpr ⟨lw_p33, List.forall_mem_cons.mpr ⟨lw_p34, List.forall_mem_cons.mpr ⟨lw_p35, List.forall_mem_cons.mpr ⟨lw_p36, List.forall_mem_cons.mpr ⟨lw_p37, List.forall_mem_cons.mpr ⟨lw_p38, List.forall_mem_cons.mpr ⟨lw_p39, List.forall_mem_cons.mpr ⟨lw_p40, List.forall_mem_cons.mpr ⟨lw_p41, fun _ h => absurd h List.not_mem_nil⟩⟩⟩⟩⟩⟩⟩⟩⟩⟩
def lw_privs : List (MethodName × Nat) := lw_privs_1 ++ (lw_privs_2 ++ (lw_privs_3))
def lw_tbl : List Cond := k2_sels lw_privs ++ tables_1
theorem lw_privs_ok : ∀ q ∈ lw_privs, lw_okq q := by
  show ∀ q ∈ lw_privs_1 ++ (lw_privs_2 ++ (lw_privs_3)), lw_okq q
  exact List.forall_mem_append.mpr ⟨lw_r1, List.forall_mem_append.mpr ⟨lw_r2, lw_r3⟩⟩
/-- the streams that the claim lets the run draw from -/
abbrev lw_cs : List Choice := [Jvm.Choice.named "NaN.bits"]
theorem lw_bits : nanBits ∈ lw_cs := by first | decide | exact List.mem_cons_self | simp [lw_cs, nanBits]
-- ===== end of PART A; then your names; then what follows =====
end
section
/-! ===== BEGIN words of one list among another's, by their places ===== -/
theorem goodIn_r {big : List Cond} (ws : List Cond) (ps : List Nat) (hp : ws = ps.filterMap (fun i => big[i]?)) (h : ws.all goodWord = true) : GoodIn big ws := by
  intro w hw
  have h1 := List.all_eq_true.mp h w hw
  rw [hp] at hw
  obtain ⟨i, -, hi⟩ := List.mem_filterMap.mp hw
  have hm : w ∈ big := by first | exact List.mem_of_getElem? hi | exact List.getElem?_mem hi
  exact ⟨hm, good_of_word h1⟩
theorem goodIn_app {big a b : List Cond} (ha : GoodIn big a) (hb : GoodIn big b) : GoodIn big (a ++ b) := fun w h => (List.mem_append.mp h).elim (ha w) (hb w)
theorem goodIn_ca {big a b : List Cond} {c : Cond} (ha : GoodIn big (c :: a)) (hb : GoodIn big b) : GoodIn big (c :: (a ++ b)) := fun w h => (List.mem_cons.mp h).elim (fun e => ha w (List.mem_cons.mpr (Or.inl e))) (fun h => (List.mem_append.mp h).elim (fun h => ha w (List.mem_cons.mpr (Or.inr h))) (hb w))
theorem goodIn_sub {big ws : List Cond} (hm : ∀ w ∈ ws, w ∈ big) (h : ws.all goodWord = true) : GoodIn big ws := fun w hw => ⟨hm w hw, good_of_word (List.all_eq_true.mp h w hw)⟩
/-! ===== END ===== -/

/-! ===== BEGIN printed: names, fields, word lists, decode rows ===== -/
def RX0 : String := "ZonedLight$History"
def TX0 : u_T := fun k => match k with
  | 0 => ("ZonedLight$History", "ring", "[LZonedLight$Screen;", true)
  | 1 => ("ZonedLight$History", "oldest", "I", false)
  | _ => ("ZonedLight$History", "size", "I", false)
def tyX0 : Nat → FieldType := fun k => match k with
  | 0 => .array (.object "ZonedLight$Screen")
  | 1 => .int
  | _ => .int
abbrev wsX00 : List Cond := u_ws RX0 TX0 3
theorem nmX0 : ∀ a, a < 3 → ∀ b, b < 3 → a ≠ b → (TX0 a).2.1 ≠ (TX0 b).2.1 := by decide +kernel
theorem tyX0_ok : ∀ k, k < 3 → parseFieldDescriptor (TX0 k).2.2.1 = some (tyX0 k) := by decide +kernel
abbrev cX0_init : ByteArray := prog_2_method_1_code
def yX0_init : MethodName := ⟨RX0, "<init>", "()V"⟩
abbrev cX0_record : ByteArray := prog_2_method_2_code
def yX0_record : MethodName := ⟨RX0, "record", "(LZonedLight$Screen;)V"⟩
abbrev cX0_takeLatest : ByteArray := prog_2_method_3_code
def yX0_takeLatest : MethodName := ⟨RX0, "takeLatest", "(LZonedLight$Screen;)Z"⟩
def RX1 : String := "ZonedLight$PictureText"
def TX1 : u_T := fun k => match k with
  | 0 => ("ZonedLight$PictureText", "characters", "[C", true)
  | 1 => ("ZonedLight$PictureText", "length", "I", false)
  | 2 => ("ZonedLight$PictureText", "numbers", "[I", true)
  | _ => ("ZonedLight$PictureText", "numbersRead", "I", false)
def tyX1 : Nat → FieldType := fun k => match k with
  | 0 => .array .char
  | 1 => .int
  | 2 => .array .int
  | _ => .int
abbrev wsX10 : List Cond := u_ws RX1 TX1 4
theorem nmX1 : ∀ a, a < 4 → ∀ b, b < 4 → a ≠ b → (TX1 a).2.1 ≠ (TX1 b).2.1 := by decide +kernel
theorem tyX1_ok : ∀ k, k < 4 → parseFieldDescriptor (TX1 k).2.2.1 = some (tyX1 k) := by decide +kernel
abbrev cX1_init : ByteArray := prog_3_method_1_code
def yX1_init : MethodName := ⟨RX1, "<init>", "()V"⟩
abbrev cX1_append : ByteArray := prog_3_method_2_code
def yX1_append : MethodName := ⟨RX1, "append", "(C)Z"⟩
abbrev cX1_read : ByteArray := prog_3_method_3_code
def yX1_read : MethodName := ⟨RX1, "read", "()I"⟩
abbrev cX1_parts : ByteArray := prog_3_method_4_code
def yX1_parts : MethodName := ⟨RX1, "parts", "()I"⟩
abbrev cX1_number : ByteArray := prog_3_method_5_code
def yX1_number : MethodName := ⟨RX1, "number", "(II)I"⟩
abbrev cX1_addNumber : ByteArray := prog_3_method_6_code
def yX1_addNumber : MethodName := ⟨RX1, "addNumber", "(I)V"⟩
abbrev cX1_withDigit : ByteArray := prog_3_method_7_code
def yX1_withDigit : MethodName := ⟨RX1, "withDigit", "(ICI)I"⟩
def RX2 : String := "ZonedLight$Plan"
def TX2 : u_T := fun k => match k with
  | 0 => ("ZonedLight$Plan", "level", "[I", true)
  | _ => ("ZonedLight$Plan", "peak", "[I", true)
def tyX2 : Nat → FieldType := fun k => match k with
  | 0 => .array .int
  | _ => .array .int
abbrev wsX20 : List Cond := u_ws RX2 TX2 2
theorem nmX2 : ∀ a, a < 2 → ∀ b, b < 2 → a ≠ b → (TX2 a).2.1 ≠ (TX2 b).2.1 := by decide +kernel
theorem tyX2_ok : ∀ k, k < 2 → parseFieldDescriptor (TX2 k).2.2.1 = some (tyX2 k) := by decide +kernel
abbrev cX2_init : ByteArray := prog_4_method_1_code
def yX2_init : MethodName := ⟨RX2, "<init>", "()V"⟩
abbrev cX2_make : ByteArray := prog_4_method_2_code
def yX2_make : MethodName := ⟨RX2, "make", "(LZonedLight$Screen;)V"⟩
abbrev cX2_levelByRule : ByteArray := prog_4_method_3_code
def yX2_levelByRule : MethodName := ⟨RX2, "levelByRule", "(LZonedLight$Screen;I)I"⟩
abbrev cX2_aim : ByteArray := prog_4_method_4_code
def yX2_aim : MethodName := ⟨RX2, "aim", "(LZonedLight$Screen;I)I"⟩
abbrev cX2_raiseAll : ByteArray := prog_4_method_5_code
def yX2_raiseAll : MethodName := ⟨RX2, "raiseAll", "(LZonedLight$Screen;)V"⟩
abbrev cX2_raiseNeighbours : ByteArray := prog_4_method_6_code
def yX2_raiseNeighbours : MethodName := ⟨RX2, "raiseNeighbours", "(LZonedLight$Screen;II)V"⟩
abbrev cX2_helps : ByteArray := prog_4_method_7_code
def yX2_helps : MethodName := ⟨RX2, "helps", "(LZonedLight$Screen;II)Z"⟩
abbrev cX2_raise : ByteArray := prog_4_method_8_code
def yX2_raise : MethodName := ⟨RX2, "raise", "(II)V"⟩
abbrev cX2_lowerForBlack : ByteArray := prog_4_method_9_code
def yX2_lowerForBlack : MethodName := ⟨RX2, "lowerForBlack", "(LZonedLight$Screen;I)V"⟩
def RX3 : String := "ZonedLight$Screen"
def TX3 : u_T := fun k => match k with
  | 0 => ("ZonedLight$Screen", "asked", "[I", true)
  | 1 => ("ZonedLight$Screen", "level", "[I", true)
  | 2 => ("ZonedLight$Screen", "dead", "[Z", true)
  | 3 => ("ZonedLight$Screen", "setting", "[I", true)
  | 4 => ("ZonedLight$Screen", "frames", "I", false)
  | 5 => ("ZonedLight$Screen", "flicker", "I", false)
  | _ => ("ZonedLight$Screen", "powerSoFar", "I", false)
def tyX3 : Nat → FieldType := fun k => match k with
  | 0 => .array .int
  | 1 => .array .int
  | 2 => .array .boolean
  | 3 => .array .int
  | 4 => .int
  | 5 => .int
  | _ => .int
abbrev wsX30 : List Cond := u_ws RX3 TX3 7
theorem nmX3 : ∀ a, a < 7 → ∀ b, b < 7 → a ≠ b → (TX3 a).2.1 ≠ (TX3 b).2.1 := by decide +kernel
theorem tyX3_ok : ∀ k, k < 7 → parseFieldDescriptor (TX3 k).2.2.1 = some (tyX3 k) := by decide +kernel
abbrev cX3_init : ByteArray := prog_5_method_1_code
def yX3_init : MethodName := ⟨RX3, "<init>", "()V"⟩
abbrev cX3_copyFrom : ByteArray := prog_5_method_2_code
def yX3_copyFrom : MethodName := ⟨RX3, "copyFrom", "(LZonedLight$Screen;)V"⟩
abbrev cX3_paint : ByteArray := prog_5_method_3_code
def yX3_paint : MethodName := ⟨RX3, "paint", "(IIIII)V"⟩
abbrev cX3_takeShifted : ByteArray := prog_5_method_4_code
def yX3_takeShifted : MethodName := ⟨RX3, "takeShifted", "([III)V"⟩
abbrev cX3_peak : ByteArray := prog_5_method_5_code
def yX3_peak : MethodName := ⟨RX3, "peak", "(I)I"⟩
abbrev cX3_mean : ByteArray := prog_5_method_6_code
def yX3_mean : MethodName := ⟨RX3, "mean", "(I)I"⟩
abbrev cX3_asksBlack : ByteArray := prog_5_method_7_code
def yX3_asksBlack : MethodName := ⟨RX3, "asksBlack", "(I)Z"⟩
abbrev cX3_glow : ByteArray := prog_5_method_8_code
def yX3_glow : MethodName := ⟨RX3, "glow", "(I[I)I"⟩
abbrev cX3_light : ByteArray := prog_5_method_9_code
def yX3_light : MethodName := ⟨RX3, "light", "(I)I"⟩
abbrev cX3_leakOf : ByteArray := prog_5_method_10_code
def yX3_leakOf : MethodName := ⟨RX3, "leakOf", "(I)I"⟩
abbrev cX3_shown : ByteArray := prog_5_method_11_code
def yX3_shown : MethodName := ⟨RX3, "shown", "(II)I"⟩
abbrev cX3_power : ByteArray := prog_5_method_12_code
def yX3_power : MethodName := ⟨RX3, "power", "()I"⟩
abbrev cX3_deadZones : ByteArray := prog_5_method_13_code
def yX3_deadZones : MethodName := ⟨RX3, "deadZones", "()I"⟩
abbrev cX3_passFrame : ByteArray := prog_5_method_14_code
def yX3_passFrame : MethodName := ⟨RX3, "passFrame", "([I)V"⟩
def RX4 : String := "ZonedLight$Tally"
def TX4 : u_T := fun k => match k with
  | 0 => ("ZonedLight$Tally", "tooDark", "I", false)
  | 1 => ("ZonedLight$Tally", "tooBright", "I", false)
  | 2 => ("ZonedLight$Tally", "off", "I", false)
  | 3 => ("ZonedLight$Tally", "greatestOff", "I", false)
  | _ => ("ZonedLight$Tally", "shown", "I", false)
def tyX4 : Nat → FieldType := fun k => match k with
  | 0 => .int
  | 1 => .int
  | 2 => .int
  | 3 => .int
  | _ => .int
abbrev wsX40 : List Cond := u_ws RX4 TX4 5
theorem nmX4 : ∀ a, a < 5 → ∀ b, b < 5 → a ≠ b → (TX4 a).2.1 ≠ (TX4 b).2.1 := by decide +kernel
theorem tyX4_ok : ∀ k, k < 5 → parseFieldDescriptor (TX4 k).2.2.1 = some (tyX4 k) := by decide +kernel
abbrev cX4_init : ByteArray := prog_6_method_1_code
def yX4_init : MethodName := ⟨RX4, "<init>", "()V"⟩
abbrev cX4_takeAll : ByteArray := prog_6_method_2_code
def yX4_takeAll : MethodName := ⟨RX4, "takeAll", "(LZonedLight$Screen;)V"⟩
abbrev cX4_takeZone : ByteArray := prog_6_method_3_code
def yX4_takeZone : MethodName := ⟨RX4, "takeZone", "(LZonedLight$Screen;I)V"⟩
abbrev cX4_clear : ByteArray := prog_6_method_4_code
def yX4_clear : MethodName := ⟨RX4, "clear", "()V"⟩
abbrev cX4_addZone : ByteArray := prog_6_method_5_code
def yX4_addZone : MethodName := ⟨RX4, "addZone", "(LZonedLight$Screen;I)V"⟩
abbrev cX4_addSpot : ByteArray := prog_6_method_6_code
def yX4_addSpot : MethodName := ⟨RX4, "addSpot", "(II)V"⟩
def RX5 : String := "ZonedLight"
def TX5 : u_T := fun k => match k with
  | 0 => ("ZonedLight", "now", "LZonedLight$Screen;", true)
  | 1 => ("ZonedLight", "snapshot", "LZonedLight$Screen;", true)
  | 2 => ("ZonedLight", "hasSnapshot", "Z", false)
  | 3 => ("ZonedLight", "history", "LZonedLight$History;", true)
  | 4 => ("ZonedLight", "text", "LZonedLight$PictureText;", true)
  | 5 => ("ZonedLight", "trial", "LZonedLight$Screen;", true)
  | 6 => ("ZonedLight", "plan", "LZonedLight$Plan;", true)
  | 7 => ("ZonedLight", "tally", "LZonedLight$Tally;", true)
  | _ => ("ZonedLight", "pictureBefore", "[I", true)
def tyX5 : Nat → FieldType := fun k => match k with
  | 0 => .object "ZonedLight$Screen"
  | 1 => .object "ZonedLight$Screen"
  | 2 => .boolean
  | 3 => .object "ZonedLight$History"
  | 4 => .object "ZonedLight$PictureText"
  | 5 => .object "ZonedLight$Screen"
  | 6 => .object "ZonedLight$Plan"
  | 7 => .object "ZonedLight$Tally"
  | _ => .array .int
abbrev wsX50 : List Cond := u_ws RX5 TX5 9
theorem nmX5 : ∀ a, a < 9 → ∀ b, b < 9 → a ≠ b → (TX5 a).2.1 ≠ (TX5 b).2.1 := by decide +kernel
theorem tyX5_ok : ∀ k, k < 9 → parseFieldDescriptor (TX5 k).2.2.1 = some (tyX5 k) := by decide +kernel
abbrev cX5_init : ByteArray := prog_1_method_1_code
def yX5_init : MethodName := ⟨RX5, "<init>", "()V"⟩
abbrev cX5_ask : ByteArray := prog_1_method_2_code
def yX5_ask : MethodName := ⟨RX5, "ask", "(III)I"⟩
abbrev cX5_askAll : ByteArray := prog_1_method_3_code
def yX5_askAll : MethodName := ⟨RX5, "askAll", "()I"⟩
abbrev cX5_move : ByteArray := prog_1_method_4_code
def yX5_move : MethodName := ⟨RX5, "move", "(I)I"⟩
abbrev cX5_kill : ByteArray := prog_1_method_5_code
def yX5_kill : MethodName := ⟨RX5, "kill", "(IZ)I"⟩
abbrev cX5_pass : ByteArray := prog_1_method_6_code
def yX5_pass : MethodName := ⟨RX5, "pass", "(I)I"⟩
abbrev cX5_set : ByteArray := prog_1_method_7_code
def yX5_set : MethodName := ⟨RX5, "set", "(II)I"⟩
abbrev cX5_type : ByteArray := prog_1_method_8_code
def yX5_type : MethodName := ⟨RX5, "type", "(C)I"⟩
abbrev cX5_clearText : ByteArray := prog_1_method_9_code
def yX5_clearText : MethodName := ⟨RX5, "clearText", "()I"⟩
abbrev cX5_fault : ByteArray := prog_1_method_10_code
def yX5_fault : MethodName := ⟨RX5, "fault", "()I"⟩
abbrev cX5_undo : ByteArray := prog_1_method_11_code
def yX5_undo : MethodName := ⟨RX5, "undo", "()I"⟩
abbrev cX5_keep : ByteArray := prog_1_method_12_code
def yX5_keep : MethodName := ⟨RX5, "keep", "()I"⟩
abbrev cX5_restore : ByteArray := prog_1_method_13_code
def yX5_restore : MethodName := ⟨RX5, "restore", "()I"⟩
abbrev cX5_spot : ByteArray := prog_1_method_14_code
def yX5_spot : MethodName := ⟨RX5, "spot", "(III)I"⟩
abbrev cX5_zone : ByteArray := prog_1_method_15_code
def yX5_zone : MethodName := ⟨RX5, "zone", "(II)I"⟩
abbrev cX5_count : ByteArray := prog_1_method_16_code
def yX5_count : MethodName := ⟨RX5, "count", "(I)I"⟩
abbrev cX5_meanShown : ByteArray := prog_1_method_17_code
def yX5_meanShown : MethodName := ⟨RX5, "meanShown", "()D"⟩
abbrev cX5_restsIn : ByteArray := prog_1_method_18_code
def yX5_restsIn : MethodName := ⟨RX5, "restsIn", "()I"⟩
abbrev cX5_ifRule : ByteArray := prog_1_method_19_code
def yX5_ifRule : MethodName := ⟨RX5, "ifRule", "(II)I"⟩
abbrev cX5_bestRule : ByteArray := prog_1_method_20_code
def yX5_bestRule : MethodName := ⟨RX5, "bestRule", "()I"⟩
abbrev cX5_leastStep : ByteArray := prog_1_method_21_code
def yX5_leastStep : MethodName := ⟨RX5, "leastStep", "(I)I"⟩
abbrev cX5_dearest : ByteArray := prog_1_method_22_code
def yX5_dearest : MethodName := ⟨RX5, "dearest", "(I)I"⟩
abbrev cX5_rememberPicture : ByteArray := prog_1_method_23_code
def yX5_rememberPicture : MethodName := ⟨RX5, "rememberPicture", "()V"⟩
abbrev cX5_changedSpots : ByteArray := prog_1_method_24_code
def yX5_changedSpots : MethodName := ⟨RX5, "changedSpots", "()I"⟩
abbrev cX5_countSpots : ByteArray := prog_1_method_25_code
def yX5_countSpots : MethodName := ⟨RX5, "countSpots", "(I)I"⟩
abbrev cX5_greatestGap : ByteArray := prog_1_method_26_code
def yX5_greatestGap : MethodName := ⟨RX5, "greatestGap", "()I"⟩
abbrev cX5_settleTrial : ByteArray := prog_1_method_27_code
def yX5_settleTrial : MethodName := ⟨RX5, "settleTrial", "()V"⟩
abbrev cX5_onScreen : ByteArray := prog_1_method_28_code
def yX5_onScreen : MethodName := ⟨RX5, "onScreen", "(II)Z"⟩
abbrev cX5_isZone : ByteArray := prog_1_method_29_code
def yX5_isZone : MethodName := ⟨RX5, "isZone", "(I)Z"⟩
abbrev cX5_spotAt : ByteArray := prog_1_method_30_code
def yX5_spotAt : MethodName := ⟨RX5, "spotAt", "(II)I"⟩
abbrev cX5_spotOfZone : ByteArray := prog_1_method_31_code
def yX5_spotOfZone : MethodName := ⟨RX5, "spotOfZone", "(II)I"⟩
abbrev cX5_zonesApart : ByteArray := prog_1_method_32_code
def yX5_zonesApart : MethodName := ⟨RX5, "zonesApart", "(II)I"⟩
abbrev cX5_roundedUp : ByteArray := prog_1_method_33_code
def yX5_roundedUp : MethodName := ⟨RX5, "roundedUp", "(II)I"⟩
abbrev cX5_lightOf : ByteArray := prog_1_method_34_code
def yX5_lightOf : MethodName := ⟨RX5, "lightOf", "(I)I"⟩
abbrev cX5_glassFor : ByteArray := prog_1_method_35_code
def yX5_glassFor : MethodName := ⟨RX5, "glassFor", "(II)I"⟩
abbrev cX5_verdict : ByteArray := prog_1_method_36_code
def yX5_verdict : MethodName := ⟨RX5, "verdict", "(II)I"⟩
def RX6 : String := "ZonedLightModel"
def TX6 : u_T := fun k => match k with
  | 0 => ("ZonedLightModel", "all", "[I", true)
  | 1 => ("ZonedLightModel", "history", "[I", true)
  | 2 => ("ZonedLightModel", "historyLong", "I", false)
  | 3 => ("ZonedLightModel", "snapshot", "[I", true)
  | 4 => ("ZonedLightModel", "isKept", "I", false)
  | 5 => ("ZonedLightModel", "wanted", "[I", true)
  | 6 => ("ZonedLightModel", "text", "[I", true)
  | 7 => ("ZonedLightModel", "textLong", "I", false)
  | 8 => ("ZonedLightModel", "spot", "I", false)
  | _ => ("ZonedLightModel", "part", "[I", true)
def tyX6 : Nat → FieldType := fun k => match k with
  | 0 => .array .int
  | 1 => .array .int
  | 2 => .int
  | 3 => .array .int
  | 4 => .int
  | 5 => .array .int
  | 6 => .array .int
  | 7 => .int
  | 8 => .int
  | _ => .array .int
abbrev wsX60 : List Cond := u_ws RX6 TX6 10
theorem nmX6 : ∀ a, a < 10 → ∀ b, b < 10 → a ≠ b → (TX6 a).2.1 ≠ (TX6 b).2.1 := by decide +kernel
theorem tyX6_ok : ∀ k, k < 10 → parseFieldDescriptor (TX6 k).2.2.1 = some (tyX6 k) := by decide +kernel
abbrev cX6_init : ByteArray := prog_8_method_1_code
def yX6_init : MethodName := ⟨RX6, "<init>", "()V"⟩
abbrev cX6_in : ByteArray := prog_8_method_3_code
def yX6_in : MethodName := ⟨RX6, "in", "(JJJ)Z"⟩
abbrev cX6_lesser : ByteArray := prog_8_method_4_code
def yX6_lesser : MethodName := ⟨RX6, "lesser", "(II)I"⟩
abbrev cX6_off : ByteArray := prog_8_method_5_code
def yX6_off : MethodName := ⟨RX6, "off", "(I)I"⟩
abbrev cX6_acts : ByteArray := prog_8_method_6_code
def yX6_acts : MethodName := ⟨RX6, "acts", "()V"⟩
abbrev cX6_isSpot : ByteArray := prog_8_method_7_code
def yX6_isSpot : MethodName := ⟨RX6, "isSpot", "(II)Z"⟩
abbrev cX6_isZone : ByteArray := prog_8_method_8_code
def yX6_isZone : MethodName := ⟨RX6, "isZone", "(I)Z"⟩
abbrev cX6_spotIn : ByteArray := prog_8_method_9_code
def yX6_spotIn : MethodName := ⟨RX6, "spotIn", "(II)I"⟩
abbrev cX6_zoneOf : ByteArray := prog_8_method_10_code
def yX6_zoneOf : MethodName := ⟨RX6, "zoneOf", "(I)I"⟩
abbrev cX6_apart : ByteArray := prog_8_method_11_code
def yX6_apart : MethodName := ⟨RX6, "apart", "(II)I"⟩
abbrev cX6_shareAt : ByteArray := prog_8_method_12_code
def yX6_shareAt : MethodName := ⟨RX6, "shareAt", "(I)I"⟩
abbrev cX6_light : ByteArray := prog_8_method_13_code
def yX6_light : MethodName := ⟨RX6, "light", "(IZ)I"⟩
abbrev cX6_leakOf : ByteArray := prog_8_method_14_code
def yX6_leakOf : MethodName := ⟨RX6, "leakOf", "(I)I"⟩
abbrev cX6_glass : ByteArray := prog_8_method_15_code
def yX6_glass : MethodName := ⟨RX6, "glass", "(II)I"⟩
abbrev cX6_shown : ByteArray := prog_8_method_16_code
def yX6_shown : MethodName := ⟨RX6, "shown", "(II)I"⟩
abbrev cX6_greatestIn : ByteArray := prog_8_method_17_code
def yX6_greatestIn : MethodName := ⟨RX6, "greatestIn", "(I)I"⟩
abbrev cX6_meanIn : ByteArray := prog_8_method_18_code
def yX6_meanIn : MethodName := ⟨RX6, "meanIn", "(I)I"⟩
abbrev cX6_hasBlack : ByteArray := prog_8_method_19_code
def yX6_hasBlack : MethodName := ⟨RX6, "hasBlack", "(I)Z"⟩
abbrev cX6_beginning : ByteArray := prog_8_method_20_code
def yX6_beginning : MethodName := ⟨RX6, "beginning", "(II)I"⟩
abbrev cX6_raises : ByteArray := prog_8_method_21_code
def yX6_raises : MethodName := ⟨RX6, "raises", "(III)V"⟩
abbrev cX6_isLiveBeside : ByteArray := prog_8_method_22_code
def yX6_isLiveBeside : MethodName := ⟨RX6, "isLiveBeside", "(II)Z"⟩
abbrev cX6_raisesBeside : ByteArray := prog_8_method_23_code
def yX6_raisesBeside : MethodName := ⟨RX6, "raisesBeside", "(II)V"⟩
abbrev cX6_round : ByteArray := prog_8_method_24_code
def yX6_round : MethodName := ⟨RX6, "round", "()V"⟩
abbrev cX6_wants : ByteArray := prog_8_method_25_code
def yX6_wants : MethodName := ⟨RX6, "wants", "(I)V"⟩
abbrev cX6_over : ByteArray := prog_8_method_26_code
def yX6_over : MethodName := ⟨RX6, "over", "(IIZ)I"⟩
abbrev cX6_power : ByteArray := prog_8_method_27_code
def yX6_power : MethodName := ⟨RX6, "power", "(Z)I"⟩
abbrev cX6_farthest : ByteArray := prog_8_method_28_code
def yX6_farthest : MethodName := ⟨RX6, "farthest", "()I"⟩
abbrev cX6_ask : ByteArray := prog_8_method_29_code
def yX6_ask : MethodName := ⟨RX6, "ask", "(III)I"⟩
abbrev cX6_otherSpots : ByteArray := prog_8_method_30_code
def yX6_otherSpots : MethodName := ⟨RX6, "otherSpots", "()I"⟩
abbrev cX6_move : ByteArray := prog_8_method_31_code
def yX6_move : MethodName := ⟨RX6, "move", "(I)I"⟩
abbrev cX6_kill : ByteArray := prog_8_method_32_code
def yX6_kill : MethodName := ⟨RX6, "kill", "(IZ)I"⟩
abbrev cX6_frame : ByteArray := prog_8_method_33_code
def yX6_frame : MethodName := ⟨RX6, "frame", "()V"⟩
abbrev cX6_pass : ByteArray := prog_8_method_34_code
def yX6_pass : MethodName := ⟨RX6, "pass", "(I)I"⟩
abbrev cX6_isSetting : ByteArray := prog_8_method_35_code
def yX6_isSetting : MethodName := ⟨RX6, "isSetting", "(II)Z"⟩
abbrev cX6_set : ByteArray := prog_8_method_36_code
def yX6_set : MethodName := ⟨RX6, "set", "(II)I"⟩
abbrev cX6_type : ByteArray := prog_8_method_37_code
def yX6_type : MethodName := ⟨RX6, "type", "(C)I"⟩
abbrev cX6_clearText : ByteArray := prog_8_method_38_code
def yX6_clearText : MethodName := ⟨RX6, "clearText", "()I"⟩
abbrev cX6_isHere : ByteArray := prog_8_method_39_code
def yX6_isHere : MethodName := ⟨RX6, "isHere", "(II)Z"⟩
abbrev cX6_takes : ByteArray := prog_8_method_40_code
def yX6_takes : MethodName := ⟨RX6, "takes", "(I)Z"⟩
abbrev cX6_readsNumber : ByteArray := prog_8_method_41_code
def yX6_readsNumber : MethodName := ⟨RX6, "readsNumber", "(III)Z"⟩
abbrev cX6_readsPart : ByteArray := prog_8_method_42_code
def yX6_readsPart : MethodName := ⟨RX6, "readsPart", "()Z"⟩
abbrev cX6_fault : ByteArray := prog_8_method_43_code
def yX6_fault : MethodName := ⟨RX6, "fault", "()I"⟩
abbrev cX6_asksPart : ByteArray := prog_8_method_44_code
def yX6_asksPart : MethodName := ⟨RX6, "asksPart", "()V"⟩
abbrev cX6_askAll : ByteArray := prog_8_method_45_code
def yX6_askAll : MethodName := ⟨RX6, "askAll", "()I"⟩
abbrev cX6_undo : ByteArray := prog_8_method_46_code
def yX6_undo : MethodName := ⟨RX6, "undo", "()I"⟩
abbrev cX6_keep : ByteArray := prog_8_method_47_code
def yX6_keep : MethodName := ⟨RX6, "keep", "()I"⟩
abbrev cX6_restore : ByteArray := prog_8_method_48_code
def yX6_restore : MethodName := ⟨RX6, "restore", "()I"⟩
abbrev cX6_spot : ByteArray := prog_8_method_49_code
def yX6_spot : MethodName := ⟨RX6, "spot", "(III)I"⟩
abbrev cX6_wantedFor : ByteArray := prog_8_method_50_code
def yX6_wantedFor : MethodName := ⟨RX6, "wantedFor", "(I)I"⟩
abbrev cX6_zone : ByteArray := prog_8_method_51_code
def yX6_zone : MethodName := ⟨RX6, "zone", "(II)I"⟩
abbrev cX6_deadZones : ByteArray := prog_8_method_52_code
def yX6_deadZones : MethodName := ⟨RX6, "deadZones", "()I"⟩
abbrev cX6_count : ByteArray := prog_8_method_53_code
def yX6_count : MethodName := ⟨RX6, "count", "(I)I"⟩
abbrev cX6_meanShown : ByteArray := prog_8_method_54_code
def yX6_meanShown : MethodName := ⟨RX6, "meanShown", "()D"⟩
abbrev cX6_restsIn : ByteArray := prog_8_method_55_code
def yX6_restsIn : MethodName := ⟨RX6, "restsIn", "()I"⟩
abbrev cX6_rested : ByteArray := prog_8_method_56_code
def yX6_rested : MethodName := ⟨RX6, "rested", "(I)I"⟩
abbrev cX6_ifRule : ByteArray := prog_8_method_57_code
def yX6_ifRule : MethodName := ⟨RX6, "ifRule", "(II)I"⟩
abbrev cX6_bestRule : ByteArray := prog_8_method_58_code
def yX6_bestRule : MethodName := ⟨RX6, "bestRule", "()I"⟩
abbrev cX6_leastStep : ByteArray := prog_8_method_59_code
def yX6_leastStep : MethodName := ⟨RX6, "leastStep", "(I)I"⟩
abbrev cX6_dearest : ByteArray := prog_8_method_60_code
def yX6_dearest : MethodName := ⟨RX6, "dearest", "(I)I"⟩
def RJ9 : String := "java/lang/Math"
def TJ9 : u_T := fun k => match k with
  | _ => ("", "", "", false)
def tyJ9 : Nat → FieldType := fun k => match k with
  | _ => .int
abbrev wsJ90 : List Cond := u_ws RJ9 TJ9 0
theorem nmJ9 : ∀ a, a < 0 → ∀ b, b < 0 → a ≠ b → (TJ9 a).2.1 ≠ (TJ9 b).2.1 := by decide +kernel
theorem tyJ9_ok : ∀ k, k < 0 → parseFieldDescriptor (TJ9 k).2.2.1 = some (tyJ9 k) := by decide +kernel
abbrev cJ9_abs_0f7a4 : ByteArray := prog_9_method_59_code
def yJ9_abs_0f7a4 : MethodName := ⟨RJ9, "abs", "(I)I"⟩
abbrev cJ9_max_7cf53 : ByteArray := prog_9_method_65_code
def yJ9_max_7cf53 : MethodName := ⟨RJ9, "max", "(II)I"⟩
abbrev cJ9_min_7cf53 : ByteArray := prog_9_method_69_code
def yJ9_min_7cf53 : MethodName := ⟨RJ9, "min", "(II)I"⟩
def RJ10 : String := "java/lang/System"
def TJ10 : u_T := fun k => match k with
  | _ => ("", "", "", false)
def tyJ10 : Nat → FieldType := fun k => match k with
  | _ => .int
abbrev wsJ100 : List Cond := u_ws RJ10 TJ10 0
theorem nmJ10 : ∀ a, a < 0 → ∀ b, b < 0 → a ≠ b → (TJ10 a).2.1 ≠ (TJ10 b).2.1 := by decide +kernel
theorem tyJ10_ok : ∀ k, k < 0 → parseFieldDescriptor (TJ10 k).2.2.1 = some (tyJ10 k) := by decide +kernel
def RL : String := "ZonedLightLaw"
abbrev cL_law : ByteArray := code
def yL_law : MethodName := ⟨RL, "law", "([I)Z"⟩
def wsX3_init : List Cond := .code yX3_init cX3_init 1 none :: ([.methodLink RX3 3 objectInit, .instanceMethod objectInit, .code objectInit ⟨#[0xb1]⟩ 1 none, .arrayClass .int, .fieldLink RX3 9 "ZonedLight$Screen" "asked" "[I", .fieldLink RX3 15 "ZonedLight$Screen" "level" "[I", .arrayClass .boolean, .fieldLink RX3 18 "ZonedLight$Screen" "dead" "[Z", .fieldLink RX3 22 "ZonedLight$Screen" "setting" "[I", .fieldLink RX3 25 "ZonedLight$Screen" "frames" "I", .fieldLink RX3 29 "ZonedLight$Screen" "flicker" "I", .fieldLink RX3 32 "ZonedLight$Screen" "powerSoFar" "I", .methodLink RX3 38 arraycopyName, .native arraycopyName, .static arraycopyName, .initialized "java/lang/System"] ++ wsX30)
def wsX0_init_r1 : List Cond := [Cond.methodLink RX0 1 objectInit, Cond.instanceMethod objectInit, Cond.code objectInit ⟨#[0xb1]⟩ 1 none, Cond.classLink RX0 9 RX3, Cond.fieldLink RX0 11 "ZonedLight$History" "ring" "[LZonedLight$Screen;", Cond.fieldLink RX0 15 "ZonedLight$History" "oldest" "I", Cond.fieldLink RX0 19 "ZonedLight$History" "size" "I", Cond.instantiable RX3 7, Cond.initialized RX3, Cond.methodLink RX0 22 yX3_init, Cond.instanceMethod yX3_init, Cond.code yX3_init cX3_init 1 none, Cond.methodLink RX3 3 objectInit, Cond.arrayClass .int, Cond.fieldLink RX3 9 "ZonedLight$Screen" "asked" "[I", Cond.fieldLink RX3 15 "ZonedLight$Screen" "level" "[I", Cond.arrayClass .boolean, Cond.fieldLink RX3 18 "ZonedLight$Screen" "dead" "[Z", Cond.fieldLink RX3 22 "ZonedLight$Screen" "setting" "[I", Cond.fieldLink RX3 25 "ZonedLight$Screen" "frames" "I", Cond.fieldLink RX3 29 "ZonedLight$Screen" "flicker" "I", Cond.fieldLink RX3 32 "ZonedLight$Screen" "powerSoFar" "I", Cond.methodLink RX3 38 arraycopyName, Cond.native arraycopyName]
def wsX0_init_r2 : List Cond := [Cond.static arraycopyName, Cond.initialized "java/lang/System"]
def wsX0_init : List Cond := .code yX0_init cX0_init 2 none :: ((wsX0_init_r1 ++ wsX0_init_r2) ++ wsX00 ++ wsX30)
def wsX3_copyFrom : List Cond := .code yX3_copyFrom cX3_copyFrom 3 none :: ([.fieldLink RX3 9 "ZonedLight$Screen" "asked" "[I", .methodLink RX3 38 arraycopyName, .native arraycopyName, .static arraycopyName, .initialized "java/lang/System", .fieldLink RX3 15 "ZonedLight$Screen" "level" "[I", .fieldLink RX3 22 "ZonedLight$Screen" "setting" "[I", .fieldLink RX3 18 "ZonedLight$Screen" "dead" "[Z", .fieldLink RX3 25 "ZonedLight$Screen" "frames" "I", .fieldLink RX3 29 "ZonedLight$Screen" "flicker" "I", .fieldLink RX3 32 "ZonedLight$Screen" "powerSoFar" "I"] ++ wsX30)
def wsX0_record : List Cond := .code yX0_record cX0_record 2 none :: ([.fieldLink RX0 19 "ZonedLight$History" "size" "I", .fieldLink RX0 15 "ZonedLight$History" "oldest" "I", .fieldLink RX0 11 "ZonedLight$History" "ring" "[LZonedLight$Screen;", .methodLink RX0 23 yX3_copyFrom, .instanceMethod yX3_copyFrom, .selects RX3 yX3_copyFrom yX3_copyFrom, .initialized RX3, .code yX3_copyFrom cX3_copyFrom 3 none, .fieldLink RX3 9 "ZonedLight$Screen" "asked" "[I", .methodLink RX3 38 arraycopyName, .native arraycopyName, .static arraycopyName, .initialized "java/lang/System", .fieldLink RX3 15 "ZonedLight$Screen" "level" "[I", .fieldLink RX3 22 "ZonedLight$Screen" "setting" "[I", .fieldLink RX3 18 "ZonedLight$Screen" "dead" "[Z", .fieldLink RX3 25 "ZonedLight$Screen" "frames" "I", .fieldLink RX3 29 "ZonedLight$Screen" "flicker" "I", .fieldLink RX3 32 "ZonedLight$Screen" "powerSoFar" "I"] ++ wsX00 ++ wsX30)
def wsX0_takeLatest : List Cond := .code yX0_takeLatest cX0_takeLatest 2 (some .boolean) :: ([.fieldLink RX0 19 "ZonedLight$History" "size" "I", .fieldLink RX0 11 "ZonedLight$History" "ring" "[LZonedLight$Screen;", .fieldLink RX0 15 "ZonedLight$History" "oldest" "I", .methodLink RX0 23 yX3_copyFrom, .instanceMethod yX3_copyFrom, .selects RX3 yX3_copyFrom yX3_copyFrom, .initialized RX3, .code yX3_copyFrom cX3_copyFrom 3 none, .fieldLink RX3 9 "ZonedLight$Screen" "asked" "[I", .methodLink RX3 38 arraycopyName, .native arraycopyName, .static arraycopyName, .initialized "java/lang/System", .fieldLink RX3 15 "ZonedLight$Screen" "level" "[I", .fieldLink RX3 22 "ZonedLight$Screen" "setting" "[I", .fieldLink RX3 18 "ZonedLight$Screen" "dead" "[Z", .fieldLink RX3 25 "ZonedLight$Screen" "frames" "I", .fieldLink RX3 29 "ZonedLight$Screen" "flicker" "I", .fieldLink RX3 32 "ZonedLight$Screen" "powerSoFar" "I"] ++ wsX00 ++ wsX30)
def wsX1_init : List Cond := .code yX1_init cX1_init 1 none :: ([.methodLink RX1 5 objectInit, .instanceMethod objectInit, .code objectInit ⟨#[0xb1]⟩ 1 none, .arrayClass .char, .fieldLink RX1 11 "ZonedLight$PictureText" "characters" "[C", .fieldLink RX1 15 "ZonedLight$PictureText" "length" "I", .arrayClass .int, .fieldLink RX1 19 "ZonedLight$PictureText" "numbers" "[I", .fieldLink RX1 23 "ZonedLight$PictureText" "numbersRead" "I"] ++ wsX10)
def wsX1_append : List Cond := .code yX1_append cX1_append 2 (some .boolean) :: ([.fieldLink RX1 15 "ZonedLight$PictureText" "length" "I", .fieldLink RX1 11 "ZonedLight$PictureText" "characters" "[C"] ++ wsX10)
def wsX1_addNumber : List Cond := .code yX1_addNumber cX1_addNumber 2 none :: ([.fieldLink RX1 23 "ZonedLight$PictureText" "numbersRead" "I", .fieldLink RX1 19 "ZonedLight$PictureText" "numbers" "[I"] ++ wsX10)
def wsX1_withDigit : List Cond := .code yX1_withDigit cX1_withDigit 6 (some .int) :: ([.fieldLink RX1 37 "ZonedLight$PictureText" "LEAST" "[I", .fieldLink RX1 40 "ZonedLight$PictureText" "GREATEST" "[I"])
def wsX1_read : List Cond := .code yX1_read cX1_read 5 (some .int) :: ([.fieldLink RX1 23 "ZonedLight$PictureText" "numbersRead" "I", .fieldLink RX1 15 "ZonedLight$PictureText" "length" "I", .fieldLink RX1 11 "ZonedLight$PictureText" "characters" "[C", .fieldLink RX1 26 "ZonedLight$PictureText" "END" "[C", .methodLink RX1 29 yX1_addNumber, .instanceMethod yX1_addNumber, .selects RX1 yX1_addNumber yX1_addNumber, .initialized RX1, .code yX1_addNumber cX1_addNumber 2 none, .fieldLink RX1 19 "ZonedLight$PictureText" "numbers" "[I", .methodLink RX1 33 yX1_withDigit, .static yX1_withDigit, .code yX1_withDigit cX1_withDigit 6 (some .int), .fieldLink RX1 37 "ZonedLight$PictureText" "LEAST" "[I", .fieldLink RX1 40 "ZonedLight$PictureText" "GREATEST" "[I"] ++ wsX10)
def wsX1_parts : List Cond := .code yX1_parts cX1_parts 1 (some .int) :: ([.fieldLink RX1 23 "ZonedLight$PictureText" "numbersRead" "I"] ++ wsX10)
def wsX1_number : List Cond := .code yX1_number cX1_number 3 (some .int) :: ([.fieldLink RX1 19 "ZonedLight$PictureText" "numbers" "[I"] ++ wsX10)
def wsX2_init : List Cond := .code yX2_init cX2_init 1 none :: ([.methodLink RX2 3 objectInit, .instanceMethod objectInit, .code objectInit ⟨#[0xb1]⟩ 1 none, .arrayClass .int, .fieldLink RX2 9 "ZonedLight$Plan" "level" "[I", .fieldLink RX2 15 "ZonedLight$Plan" "peak" "[I"] ++ wsX20)
def wsX5_spotAt : List Cond := .code yX5_spotAt cX5_spotAt 2 (some .int) :: ([])
def wsX5_spotOfZone : List Cond := .code yX5_spotOfZone cX5_spotOfZone 4 (some .int) :: ([.methodLink RX5 62 yX5_spotAt, .static yX5_spotAt, .initialized RX5, .code yX5_spotAt cX5_spotAt 2 (some .int)])
def wsX3_peak : List Cond := .code yX3_peak cX3_peak 4 (some .int) :: ([.fieldLink RX3 9 "ZonedLight$Screen" "asked" "[I", .methodLink RX3 50 Lib.Math.max.name, .static Lib.Math.max.name, .initialized "java/lang/Math", .code Lib.Math.max.name Lib.Math.max.code 2 (some .int), .static yX5_spotOfZone, .initialized RX5, .code yX5_spotOfZone cX5_spotOfZone 4 (some .int), .methodLink RX5 62 yX5_spotAt, .static yX5_spotAt, .code yX5_spotAt cX5_spotAt 2 (some .int)] ++ wsX30)
def wsX3_mean : List Cond := .code yX3_mean cX3_mean 4 (some .int) :: ([.fieldLink RX3 9 "ZonedLight$Screen" "asked" "[I", .static yX5_spotOfZone, .initialized RX5, .code yX5_spotOfZone cX5_spotOfZone 4 (some .int), .methodLink RX5 62 yX5_spotAt, .static yX5_spotAt, .code yX5_spotAt cX5_spotAt 2 (some .int)] ++ wsX30)
def wsX2_aim : List Cond := .code yX2_aim cX2_aim 3 (some .int) :: ([.fieldLink RX2 31 "ZonedLight$Screen" "setting" "[I", .fieldLink RX2 15 "ZonedLight$Plan" "peak" "[I", .methodLink RX2 55 yX3_mean, .instanceMethod yX3_mean, .selects RX3 yX3_mean yX3_mean, .initialized RX3, .code yX3_mean cX3_mean 4 (some .int), .fieldLink RX3 9 "ZonedLight$Screen" "asked" "[I", .static yX5_spotOfZone, .initialized RX5, .code yX5_spotOfZone cX5_spotOfZone 4 (some .int), .methodLink RX5 62 yX5_spotAt, .static yX5_spotAt, .code yX5_spotAt cX5_spotAt 2 (some .int)] ++ wsX30 ++ wsX20)
def wsX2_levelByRule : List Cond := .code yX2_levelByRule cX2_levelByRule 5 (some .int) :: ([.fieldLink RX2 31 "ZonedLight$Screen" "setting" "[I", .methodLink RX2 49 Lib.Math.min.name, .static Lib.Math.min.name, .initialized "java/lang/Math", .code Lib.Math.min.name Lib.Math.min.code 2 (some .int), .methodLink RX2 46 yX2_aim, .instanceMethod yX2_aim, .selects RX2 yX2_aim yX2_aim, .initialized RX2, .code yX2_aim cX2_aim 3 (some .int), .fieldLink RX2 15 "ZonedLight$Plan" "peak" "[I", .methodLink RX2 55 yX3_mean, .instanceMethod yX3_mean, .selects RX3 yX3_mean yX3_mean, .initialized RX3, .code yX3_mean cX3_mean 4 (some .int), .fieldLink RX3 9 "ZonedLight$Screen" "asked" "[I", .static yX5_spotOfZone, .initialized RX5, .code yX5_spotOfZone cX5_spotOfZone 4 (some .int), .methodLink RX5 62 yX5_spotAt, .static yX5_spotAt, .code yX5_spotAt cX5_spotAt 2 (some .int)] ++ wsX30 ++ wsX20)
def wsX5_zonesApart : List Cond := .code yX5_zonesApart cX5_zonesApart 4 (some .int) :: ([.methodLink RX5 227 Lib.Math.abs.name, .static Lib.Math.abs.name, .initialized "java/lang/Math", .code Lib.Math.abs.name Lib.Math.abs.code 1 (some .int), .methodLink RX5 232 Lib.Math.max.name, .static Lib.Math.max.name, .code Lib.Math.max.name Lib.Math.max.code 2 (some .int)])
def wsX3_glow : List Cond := .code yX3_glow cX3_glow 6 (some .int) :: ([.fieldLink RX3 22 "ZonedLight$Screen" "setting" "[I", .static yX5_zonesApart, .initialized RX5, .code yX5_zonesApart cX5_zonesApart 4 (some .int), .methodLink RX5 227 Lib.Math.abs.name, .static Lib.Math.abs.name, .initialized "java/lang/Math", .code Lib.Math.abs.name Lib.Math.abs.code 1 (some .int), .methodLink RX5 232 Lib.Math.max.name, .static Lib.Math.max.name, .code Lib.Math.max.name Lib.Math.max.code 2 (some .int)] ++ wsX30)
def wsX5_lightOf : List Cond := .code yX5_lightOf cX5_lightOf 1 (some .int) :: ([.methodLink RX5 235 Lib.Math.min.name, .static Lib.Math.min.name, .initialized "java/lang/Math", .code Lib.Math.min.name Lib.Math.min.code 2 (some .int)])
def wsX2_helps : List Cond := .code yX2_helps cX2_helps 3 (some .boolean) :: ([.fieldLink RX2 23 "ZonedLight$Screen" "dead" "[Z", .static yX5_zonesApart, .initialized RX5, .code yX5_zonesApart cX5_zonesApart 4 (some .int), .methodLink RX5 227 Lib.Math.abs.name, .static Lib.Math.abs.name, .initialized "java/lang/Math", .code Lib.Math.abs.name Lib.Math.abs.code 1 (some .int), .methodLink RX5 232 Lib.Math.max.name, .static Lib.Math.max.name, .code Lib.Math.max.name Lib.Math.max.code 2 (some .int)] ++ wsX30)
def wsX5_roundedUp : List Cond := .code yX5_roundedUp cX5_roundedUp 2 (some .int) :: ([])
def wsX2_raise : List Cond := .code yX2_raise cX2_raise 3 none :: ([.fieldLink RX2 9 "ZonedLight$Plan" "level" "[I", .methodLink RX2 49 Lib.Math.min.name, .static Lib.Math.min.name, .initialized "java/lang/Math", .code Lib.Math.min.name Lib.Math.min.code 2 (some .int)] ++ wsX20)
def wsX2_raiseNeighbours_r1 : List Cond := [Cond.fieldLink RX2 31 "ZonedLight$Screen" "setting" "[I", Cond.methodLink RX2 79 yX2_helps, Cond.static yX2_helps, Cond.initialized RX2, Cond.code yX2_helps cX2_helps 3 (some .boolean), Cond.fieldLink RX2 23 "ZonedLight$Screen" "dead" "[Z", Cond.static yX5_zonesApart, Cond.initialized RX5, Cond.code yX5_zonesApart cX5_zonesApart 4 (some .int), Cond.methodLink RX5 227 Lib.Math.abs.name, Cond.static Lib.Math.abs.name, Cond.initialized "java/lang/Math", Cond.code Lib.Math.abs.name Lib.Math.abs.code 1 (some .int), Cond.methodLink RX5 232 Lib.Math.max.name, Cond.static Lib.Math.max.name, Cond.code Lib.Math.max.name Lib.Math.max.code 2 (some .int), Cond.static yX5_roundedUp, Cond.code yX5_roundedUp cX5_roundedUp 2 (some .int), Cond.methodLink RX2 75 yX2_raise, Cond.instanceMethod yX2_raise, Cond.selects RX2 yX2_raise yX2_raise, Cond.code yX2_raise cX2_raise 3 none, Cond.fieldLink RX2 9 "ZonedLight$Plan" "level" "[I", Cond.methodLink RX2 49 Lib.Math.min.name]
def wsX2_raiseNeighbours_r2 : List Cond := [Cond.static Lib.Math.min.name, Cond.code Lib.Math.min.name Lib.Math.min.code 2 (some .int)]
def wsX2_raiseNeighbours : List Cond := .code yX2_raiseNeighbours cX2_raiseNeighbours 7 none :: ((wsX2_raiseNeighbours_r1 ++ wsX2_raiseNeighbours_r2) ++ wsX30 ++ wsX20)
def wsX2_raiseAll_r1 : List Cond := [Cond.fieldLink RX2 15 "ZonedLight$Plan" "peak" "[I", Cond.fieldLink RX2 9 "ZonedLight$Plan" "level" "[I", Cond.methodLink RX2 65 Lib.Math.max.name, Cond.static Lib.Math.max.name, Cond.initialized "java/lang/Math", Cond.code Lib.Math.max.name Lib.Math.max.code 2 (some .int), Cond.fieldLink RX2 23 "ZonedLight$Screen" "dead" "[Z", Cond.fieldLink RX2 31 "ZonedLight$Screen" "setting" "[I", Cond.methodLink RX2 58 yX3_glow, Cond.instanceMethod yX3_glow, Cond.selects RX3 yX3_glow yX3_glow, Cond.initialized RX3, Cond.code yX3_glow cX3_glow 6 (some .int), Cond.fieldLink RX3 22 "ZonedLight$Screen" "setting" "[I", Cond.static yX5_zonesApart, Cond.initialized RX5, Cond.code yX5_zonesApart cX5_zonesApart 4 (some .int), Cond.methodLink RX5 227 Lib.Math.abs.name, Cond.static Lib.Math.abs.name, Cond.code Lib.Math.abs.name Lib.Math.abs.code 1 (some .int), Cond.methodLink RX5 232 Lib.Math.max.name, Cond.static yX5_lightOf, Cond.code yX5_lightOf cX5_lightOf 1 (some .int), Cond.methodLink RX5 235 Lib.Math.min.name]
def wsX2_raiseAll_r2 : List Cond := [Cond.static Lib.Math.min.name, Cond.code Lib.Math.min.name Lib.Math.min.code 2 (some .int), Cond.methodLink RX2 68 yX2_raiseNeighbours, Cond.instanceMethod yX2_raiseNeighbours, Cond.selects RX2 yX2_raiseNeighbours yX2_raiseNeighbours, Cond.initialized RX2, Cond.code yX2_raiseNeighbours cX2_raiseNeighbours 7 none, Cond.methodLink RX2 79 yX2_helps, Cond.static yX2_helps, Cond.code yX2_helps cX2_helps 3 (some .boolean), Cond.static yX5_roundedUp, Cond.code yX5_roundedUp cX5_roundedUp 2 (some .int), Cond.methodLink RX2 75 yX2_raise, Cond.instanceMethod yX2_raise, Cond.selects RX2 yX2_raise yX2_raise, Cond.code yX2_raise cX2_raise 3 none, Cond.methodLink RX2 49 Lib.Math.min.name]
def wsX2_raiseAll : List Cond := .code yX2_raiseAll cX2_raiseAll 4 none :: ((wsX2_raiseAll_r1 ++ wsX2_raiseAll_r2) ++ wsX20 ++ wsX30)
def wsX3_asksBlack : List Cond := .code yX3_asksBlack cX3_asksBlack 3 (some .boolean) :: ([.fieldLink RX3 9 "ZonedLight$Screen" "asked" "[I", .static yX5_spotOfZone, .initialized RX5, .code yX5_spotOfZone cX5_spotOfZone 4 (some .int), .methodLink RX5 62 yX5_spotAt, .static yX5_spotAt, .code yX5_spotAt cX5_spotAt 2 (some .int)] ++ wsX30)
def wsX3_leakOf : List Cond := .code yX3_leakOf cX3_leakOf 2 (some .int) :: ([.fieldLink RX3 22 "ZonedLight$Screen" "setting" "[I"] ++ wsX30)
def wsX2_lowerForBlack_r1 : List Cond := [Cond.fieldLink RX2 9 "ZonedLight$Plan" "level" "[I", Cond.fieldLink RX2 31 "ZonedLight$Screen" "setting" "[I", Cond.methodLink RX2 58 yX3_glow, Cond.instanceMethod yX3_glow, Cond.selects RX3 yX3_glow yX3_glow, Cond.initialized RX3, Cond.code yX3_glow cX3_glow 6 (some .int), Cond.fieldLink RX3 22 "ZonedLight$Screen" "setting" "[I", Cond.static yX5_zonesApart, Cond.initialized RX5, Cond.code yX5_zonesApart cX5_zonesApart 4 (some .int), Cond.methodLink RX5 227 Lib.Math.abs.name, Cond.static Lib.Math.abs.name, Cond.initialized "java/lang/Math", Cond.code Lib.Math.abs.name Lib.Math.abs.code 1 (some .int), Cond.methodLink RX5 232 Lib.Math.max.name, Cond.static Lib.Math.max.name, Cond.code Lib.Math.max.name Lib.Math.max.code 2 (some .int), Cond.static yX5_lightOf, Cond.code yX5_lightOf cX5_lightOf 1 (some .int), Cond.methodLink RX5 235 Lib.Math.min.name, Cond.static Lib.Math.min.name, Cond.code Lib.Math.min.name Lib.Math.min.code 2 (some .int), Cond.methodLink RX2 86 yX3_leakOf]
def wsX2_lowerForBlack_r2 : List Cond := [Cond.instanceMethod yX3_leakOf, Cond.selects RX3 yX3_leakOf yX3_leakOf, Cond.code yX3_leakOf cX3_leakOf 2 (some .int)]
def wsX2_lowerForBlack : List Cond := .code yX2_lowerForBlack cX2_lowerForBlack 4 none :: ((wsX2_lowerForBlack_r1 ++ wsX2_lowerForBlack_r2) ++ wsX20 ++ wsX30)
def wsX2_make_r1 : List Cond := [Cond.fieldLink RX2 15 "ZonedLight$Plan" "peak" "[I", Cond.fieldLink RX2 9 "ZonedLight$Plan" "level" "[I", Cond.fieldLink RX2 23 "ZonedLight$Screen" "dead" "[Z", Cond.fieldLink RX2 31 "ZonedLight$Screen" "setting" "[I", Cond.methodLink RX2 18 yX3_peak, Cond.instanceMethod yX3_peak, Cond.selects RX3 yX3_peak yX3_peak, Cond.initialized RX3, Cond.code yX3_peak cX3_peak 4 (some .int), Cond.fieldLink RX3 9 "ZonedLight$Screen" "asked" "[I", Cond.methodLink RX3 50 Lib.Math.max.name, Cond.static Lib.Math.max.name, Cond.initialized "java/lang/Math", Cond.code Lib.Math.max.name Lib.Math.max.code 2 (some .int), Cond.static yX5_spotOfZone, Cond.initialized RX5, Cond.code yX5_spotOfZone cX5_spotOfZone 4 (some .int), Cond.methodLink RX5 62 yX5_spotAt, Cond.static yX5_spotAt, Cond.code yX5_spotAt cX5_spotAt 2 (some .int), Cond.methodLink RX2 27 yX2_levelByRule, Cond.instanceMethod yX2_levelByRule, Cond.selects RX2 yX2_levelByRule yX2_levelByRule, Cond.initialized RX2]
def wsX2_make_r2 : List Cond := [Cond.code yX2_levelByRule cX2_levelByRule 5 (some .int), Cond.methodLink RX2 49 Lib.Math.min.name, Cond.static Lib.Math.min.name, Cond.code Lib.Math.min.name Lib.Math.min.code 2 (some .int), Cond.methodLink RX2 46 yX2_aim, Cond.instanceMethod yX2_aim, Cond.selects RX2 yX2_aim yX2_aim, Cond.code yX2_aim cX2_aim 3 (some .int), Cond.methodLink RX2 55 yX3_mean, Cond.instanceMethod yX3_mean, Cond.selects RX3 yX3_mean yX3_mean, Cond.code yX3_mean cX3_mean 4 (some .int), Cond.methodLink RX2 34 yX2_raiseAll, Cond.instanceMethod yX2_raiseAll, Cond.selects RX2 yX2_raiseAll yX2_raiseAll, Cond.code yX2_raiseAll cX2_raiseAll 4 none, Cond.methodLink RX2 65 Lib.Math.max.name, Cond.methodLink RX2 58 yX3_glow, Cond.instanceMethod yX3_glow, Cond.selects RX3 yX3_glow yX3_glow, Cond.code yX3_glow cX3_glow 6 (some .int), Cond.fieldLink RX3 22 "ZonedLight$Screen" "setting" "[I", Cond.static yX5_zonesApart, Cond.code yX5_zonesApart cX5_zonesApart 4 (some .int)]
def wsX2_make_r3 : List Cond := [Cond.methodLink RX5 227 Lib.Math.abs.name, Cond.static Lib.Math.abs.name, Cond.code Lib.Math.abs.name Lib.Math.abs.code 1 (some .int), Cond.methodLink RX5 232 Lib.Math.max.name, Cond.static yX5_lightOf, Cond.code yX5_lightOf cX5_lightOf 1 (some .int), Cond.methodLink RX5 235 Lib.Math.min.name, Cond.methodLink RX2 68 yX2_raiseNeighbours, Cond.instanceMethod yX2_raiseNeighbours, Cond.selects RX2 yX2_raiseNeighbours yX2_raiseNeighbours, Cond.code yX2_raiseNeighbours cX2_raiseNeighbours 7 none, Cond.methodLink RX2 79 yX2_helps, Cond.static yX2_helps, Cond.code yX2_helps cX2_helps 3 (some .boolean), Cond.static yX5_roundedUp, Cond.code yX5_roundedUp cX5_roundedUp 2 (some .int), Cond.methodLink RX2 75 yX2_raise, Cond.instanceMethod yX2_raise, Cond.selects RX2 yX2_raise yX2_raise, Cond.code yX2_raise cX2_raise 3 none, Cond.methodLink RX2 38 yX3_asksBlack, Cond.instanceMethod yX3_asksBlack, Cond.selects RX3 yX3_asksBlack yX3_asksBlack, Cond.code yX3_asksBlack cX3_asksBlack 3 (some .boolean)]
def wsX2_make_r4 : List Cond := [Cond.methodLink RX2 42 yX2_lowerForBlack, Cond.instanceMethod yX2_lowerForBlack, Cond.selects RX2 yX2_lowerForBlack yX2_lowerForBlack, Cond.code yX2_lowerForBlack cX2_lowerForBlack 4 none, Cond.methodLink RX2 86 yX3_leakOf, Cond.instanceMethod yX3_leakOf, Cond.selects RX3 yX3_leakOf yX3_leakOf, Cond.code yX3_leakOf cX3_leakOf 2 (some .int)]
def wsX2_make : List Cond := .code yX2_make cX2_make 3 none :: ((wsX2_make_r1 ++ (wsX2_make_r2 ++ (wsX2_make_r3 ++ wsX2_make_r4))) ++ wsX20 ++ wsX30)
def wsX3_paint : List Cond := .code yX3_paint cX3_paint 10 none :: ([.methodLink RX3 44 Lib.Math.min.name, .static Lib.Math.min.name, .initialized "java/lang/Math", .code Lib.Math.min.name Lib.Math.min.code 2 (some .int), .methodLink RX3 50 Lib.Math.max.name, .static Lib.Math.max.name, .code Lib.Math.max.name Lib.Math.max.code 2 (some .int), .fieldLink RX3 9 "ZonedLight$Screen" "asked" "[I", .static yX5_spotAt, .initialized RX5, .code yX5_spotAt cX5_spotAt 2 (some .int)] ++ wsX30)
def wsX5_onScreen : List Cond := .code yX5_onScreen cX5_onScreen 2 (some .boolean) :: ([])
def wsX3_takeShifted : List Cond := .code yX3_takeShifted cX3_takeShifted 7 none :: ([.fieldLink RX3 9 "ZonedLight$Screen" "asked" "[I", .static yX5_onScreen, .initialized RX5, .code yX5_onScreen cX5_onScreen 2 (some .boolean), .static yX5_spotAt, .code yX5_spotAt cX5_spotAt 2 (some .int)] ++ wsX30)
def wsX3_light : List Cond := .code yX3_light cX3_light 2 (some .int) :: ([.fieldLink RX3 15 "ZonedLight$Screen" "level" "[I", .methodLink RX3 66 yX3_glow, .instanceMethod yX3_glow, .selects RX3 yX3_glow yX3_glow, .initialized RX3, .code yX3_glow cX3_glow 6 (some .int), .fieldLink RX3 22 "ZonedLight$Screen" "setting" "[I", .static yX5_zonesApart, .initialized RX5, .code yX5_zonesApart cX5_zonesApart 4 (some .int), .methodLink RX5 227 Lib.Math.abs.name, .static Lib.Math.abs.name, .initialized "java/lang/Math", .code Lib.Math.abs.name Lib.Math.abs.code 1 (some .int), .methodLink RX5 232 Lib.Math.max.name, .static Lib.Math.max.name, .code Lib.Math.max.name Lib.Math.max.code 2 (some .int), .static yX5_lightOf, .code yX5_lightOf cX5_lightOf 1 (some .int), .methodLink RX5 235 Lib.Math.min.name, .static Lib.Math.min.name, .code Lib.Math.min.name Lib.Math.min.code 2 (some .int)] ++ wsX30)
def wsX5_glassFor : List Cond := .code yX5_glassFor cX5_glassFor 2 (some .int) :: ([.methodLink RX5 235 Lib.Math.min.name, .static Lib.Math.min.name, .initialized "java/lang/Math", .code Lib.Math.min.name Lib.Math.min.code 2 (some .int), .methodLink RX5 209 yX5_roundedUp, .static yX5_roundedUp, .initialized RX5, .code yX5_roundedUp cX5_roundedUp 2 (some .int)])
def wsX3_shown : List Cond := .code yX3_shown cX3_shown 3 (some .int) :: ([.methodLink RX3 50 Lib.Math.max.name, .static Lib.Math.max.name, .initialized "java/lang/Math", .code Lib.Math.max.name Lib.Math.max.code 2 (some .int), .static yX5_glassFor, .initialized RX5, .code yX5_glassFor cX5_glassFor 2 (some .int), .methodLink RX5 235 Lib.Math.min.name, .static Lib.Math.min.name, .code Lib.Math.min.name Lib.Math.min.code 2 (some .int), .methodLink RX5 209 yX5_roundedUp, .static yX5_roundedUp, .code yX5_roundedUp cX5_roundedUp 2 (some .int), .methodLink RX3 77 yX3_leakOf, .instanceMethod yX3_leakOf, .selects RX3 yX3_leakOf yX3_leakOf, .initialized RX3, .code yX3_leakOf cX3_leakOf 2 (some .int), .fieldLink RX3 22 "ZonedLight$Screen" "setting" "[I"] ++ wsX30)
def wsX3_power : List Cond := .code yX3_power cX3_power 3 (some .int) :: ([.fieldLink RX3 15 "ZonedLight$Screen" "level" "[I"] ++ wsX30)
def wsX3_deadZones : List Cond := .code yX3_deadZones cX3_deadZones 3 (some .int) :: ([.fieldLink RX3 18 "ZonedLight$Screen" "dead" "[Z"] ++ wsX30)
def wsX3_passFrame : List Cond := .code yX3_passFrame cX3_passFrame 5 none :: ([.fieldLink RX3 18 "ZonedLight$Screen" "dead" "[Z", .fieldLink RX3 15 "ZonedLight$Screen" "level" "[I", .fieldLink RX3 22 "ZonedLight$Screen" "setting" "[I", .methodLink RX3 44 Lib.Math.min.name, .static Lib.Math.min.name, .initialized "java/lang/Math", .code Lib.Math.min.name Lib.Math.min.code 2 (some .int), .methodLink RX3 50 Lib.Math.max.name, .static Lib.Math.max.name, .code Lib.Math.max.name Lib.Math.max.code 2 (some .int), .fieldLink RX3 29 "ZonedLight$Screen" "flicker" "I", .methodLink RX3 80 Lib.Math.abs.name, .static Lib.Math.abs.name, .code Lib.Math.abs.name Lib.Math.abs.code 1 (some .int), .fieldLink RX3 25 "ZonedLight$Screen" "frames" "I", .fieldLink RX3 32 "ZonedLight$Screen" "powerSoFar" "I", .methodLink RX3 83 yX3_power, .instanceMethod yX3_power, .selects RX3 yX3_power yX3_power, .initialized RX3, .code yX3_power cX3_power 3 (some .int)] ++ wsX30)
def wsX4_init : List Cond := .code yX4_init cX4_init 1 none :: ([.methodLink RX4 3 objectInit, .instanceMethod objectInit, .code objectInit ⟨#[0xb1]⟩ 1 none, .fieldLink RX4 9 "ZonedLight$Tally" "tooDark" "I", .fieldLink RX4 15 "ZonedLight$Tally" "tooBright" "I", .fieldLink RX4 18 "ZonedLight$Tally" "off" "I", .fieldLink RX4 21 "ZonedLight$Tally" "greatestOff" "I", .fieldLink RX4 24 "ZonedLight$Tally" "shown" "I"] ++ wsX40)
def wsX4_clear : List Cond := .code yX4_clear cX4_clear 1 none :: ([.fieldLink RX4 9 "ZonedLight$Tally" "tooDark" "I", .fieldLink RX4 15 "ZonedLight$Tally" "tooBright" "I", .fieldLink RX4 18 "ZonedLight$Tally" "off" "I", .fieldLink RX4 21 "ZonedLight$Tally" "greatestOff" "I", .fieldLink RX4 24 "ZonedLight$Tally" "shown" "I"] ++ wsX40)
def wsX5_verdict : List Cond := .code yX5_verdict cX5_verdict 2 (some .int) :: ([])
def wsX4_addSpot : List Cond := .code yX4_addSpot cX4_addSpot 5 none :: ([.fieldLink RX4 9 "ZonedLight$Tally" "tooDark" "I", .fieldLink RX4 15 "ZonedLight$Tally" "tooBright" "I", .methodLink RX4 57 Lib.Math.abs.name, .static Lib.Math.abs.name, .initialized "java/lang/Math", .code Lib.Math.abs.name Lib.Math.abs.code 1 (some .int), .fieldLink RX4 18 "ZonedLight$Tally" "off" "I", .fieldLink RX4 21 "ZonedLight$Tally" "greatestOff" "I", .methodLink RX4 62 Lib.Math.max.name, .static Lib.Math.max.name, .code Lib.Math.max.name Lib.Math.max.code 2 (some .int), .fieldLink RX4 24 "ZonedLight$Tally" "shown" "I", .static yX5_verdict, .initialized RX5, .code yX5_verdict cX5_verdict 2 (some .int)] ++ wsX40)
def wsX4_addZone_r1 : List Cond := [Cond.fieldLink RX4 40 "ZonedLight$Screen" "asked" "[I", Cond.methodLink RX4 34 yX3_light, Cond.instanceMethod yX3_light, Cond.selects RX3 yX3_light yX3_light, Cond.initialized RX3, Cond.code yX3_light cX3_light 2 (some .int), Cond.fieldLink RX3 15 "ZonedLight$Screen" "level" "[I", Cond.methodLink RX3 66 yX3_glow, Cond.instanceMethod yX3_glow, Cond.selects RX3 yX3_glow yX3_glow, Cond.code yX3_glow cX3_glow 6 (some .int), Cond.fieldLink RX3 22 "ZonedLight$Screen" "setting" "[I", Cond.static yX5_zonesApart, Cond.initialized RX5, Cond.code yX5_zonesApart cX5_zonesApart 4 (some .int), Cond.methodLink RX5 227 Lib.Math.abs.name, Cond.static Lib.Math.abs.name, Cond.initialized "java/lang/Math", Cond.code Lib.Math.abs.name Lib.Math.abs.code 1 (some .int), Cond.methodLink RX5 232 Lib.Math.max.name, Cond.static Lib.Math.max.name, Cond.code Lib.Math.max.name Lib.Math.max.code 2 (some .int), Cond.static yX5_lightOf, Cond.code yX5_lightOf cX5_lightOf 1 (some .int)]
def wsX4_addZone_r2 : List Cond := [Cond.methodLink RX5 235 Lib.Math.min.name, Cond.static Lib.Math.min.name, Cond.code Lib.Math.min.name Lib.Math.min.code 2 (some .int), Cond.static yX5_spotOfZone, Cond.code yX5_spotOfZone cX5_spotOfZone 4 (some .int), Cond.methodLink RX5 62 yX5_spotAt, Cond.static yX5_spotAt, Cond.code yX5_spotAt cX5_spotAt 2 (some .int), Cond.methodLink RX4 48 yX3_shown, Cond.instanceMethod yX3_shown, Cond.selects RX3 yX3_shown yX3_shown, Cond.code yX3_shown cX3_shown 3 (some .int), Cond.methodLink RX3 50 Lib.Math.max.name, Cond.static yX5_glassFor, Cond.code yX5_glassFor cX5_glassFor 2 (some .int), Cond.methodLink RX5 209 yX5_roundedUp, Cond.static yX5_roundedUp, Cond.code yX5_roundedUp cX5_roundedUp 2 (some .int), Cond.methodLink RX3 77 yX3_leakOf, Cond.instanceMethod yX3_leakOf, Cond.selects RX3 yX3_leakOf yX3_leakOf, Cond.code yX3_leakOf cX3_leakOf 2 (some .int), Cond.methodLink RX4 50 yX4_addSpot, Cond.instanceMethod yX4_addSpot]
def wsX4_addZone_r3 : List Cond := [Cond.selects RX4 yX4_addSpot yX4_addSpot, Cond.initialized RX4, Cond.code yX4_addSpot cX4_addSpot 5 none, Cond.fieldLink RX4 9 "ZonedLight$Tally" "tooDark" "I", Cond.fieldLink RX4 15 "ZonedLight$Tally" "tooBright" "I", Cond.methodLink RX4 57 Lib.Math.abs.name, Cond.fieldLink RX4 18 "ZonedLight$Tally" "off" "I", Cond.fieldLink RX4 21 "ZonedLight$Tally" "greatestOff" "I", Cond.methodLink RX4 62 Lib.Math.max.name, Cond.fieldLink RX4 24 "ZonedLight$Tally" "shown" "I", Cond.static yX5_verdict, Cond.code yX5_verdict cX5_verdict 2 (some .int)]
def wsX4_addZone : List Cond := .code yX4_addZone cX4_addZone 6 none :: ((wsX4_addZone_r1 ++ (wsX4_addZone_r2 ++ wsX4_addZone_r3)) ++ wsX30 ++ wsX40)
def wsX4_takeAll_r1 : List Cond := [Cond.methodLink RX4 27 yX4_clear, Cond.instanceMethod yX4_clear, Cond.selects RX4 yX4_clear yX4_clear, Cond.initialized RX4, Cond.code yX4_clear cX4_clear 1 none, Cond.fieldLink RX4 9 "ZonedLight$Tally" "tooDark" "I", Cond.fieldLink RX4 15 "ZonedLight$Tally" "tooBright" "I", Cond.fieldLink RX4 18 "ZonedLight$Tally" "off" "I", Cond.fieldLink RX4 21 "ZonedLight$Tally" "greatestOff" "I", Cond.fieldLink RX4 24 "ZonedLight$Tally" "shown" "I", Cond.methodLink RX4 30 yX4_addZone, Cond.instanceMethod yX4_addZone, Cond.selects RX4 yX4_addZone yX4_addZone, Cond.code yX4_addZone cX4_addZone 6 none, Cond.fieldLink RX4 40 "ZonedLight$Screen" "asked" "[I", Cond.methodLink RX4 34 yX3_light, Cond.instanceMethod yX3_light, Cond.selects RX3 yX3_light yX3_light, Cond.initialized RX3, Cond.code yX3_light cX3_light 2 (some .int), Cond.fieldLink RX3 15 "ZonedLight$Screen" "level" "[I", Cond.methodLink RX3 66 yX3_glow, Cond.instanceMethod yX3_glow, Cond.selects RX3 yX3_glow yX3_glow]
def wsX4_takeAll_r2 : List Cond := [Cond.code yX3_glow cX3_glow 6 (some .int), Cond.fieldLink RX3 22 "ZonedLight$Screen" "setting" "[I", Cond.static yX5_zonesApart, Cond.initialized RX5, Cond.code yX5_zonesApart cX5_zonesApart 4 (some .int), Cond.methodLink RX5 227 Lib.Math.abs.name, Cond.static Lib.Math.abs.name, Cond.initialized "java/lang/Math", Cond.code Lib.Math.abs.name Lib.Math.abs.code 1 (some .int), Cond.methodLink RX5 232 Lib.Math.max.name, Cond.static Lib.Math.max.name, Cond.code Lib.Math.max.name Lib.Math.max.code 2 (some .int), Cond.static yX5_lightOf, Cond.code yX5_lightOf cX5_lightOf 1 (some .int), Cond.methodLink RX5 235 Lib.Math.min.name, Cond.static Lib.Math.min.name, Cond.code Lib.Math.min.name Lib.Math.min.code 2 (some .int), Cond.static yX5_spotOfZone, Cond.code yX5_spotOfZone cX5_spotOfZone 4 (some .int), Cond.methodLink RX5 62 yX5_spotAt, Cond.static yX5_spotAt, Cond.code yX5_spotAt cX5_spotAt 2 (some .int), Cond.methodLink RX4 48 yX3_shown, Cond.instanceMethod yX3_shown]
def wsX4_takeAll_r3 : List Cond := [Cond.selects RX3 yX3_shown yX3_shown, Cond.code yX3_shown cX3_shown 3 (some .int), Cond.methodLink RX3 50 Lib.Math.max.name, Cond.static yX5_glassFor, Cond.code yX5_glassFor cX5_glassFor 2 (some .int), Cond.methodLink RX5 209 yX5_roundedUp, Cond.static yX5_roundedUp, Cond.code yX5_roundedUp cX5_roundedUp 2 (some .int), Cond.methodLink RX3 77 yX3_leakOf, Cond.instanceMethod yX3_leakOf, Cond.selects RX3 yX3_leakOf yX3_leakOf, Cond.code yX3_leakOf cX3_leakOf 2 (some .int), Cond.methodLink RX4 50 yX4_addSpot, Cond.instanceMethod yX4_addSpot, Cond.selects RX4 yX4_addSpot yX4_addSpot, Cond.code yX4_addSpot cX4_addSpot 5 none, Cond.methodLink RX4 57 Lib.Math.abs.name, Cond.methodLink RX4 62 Lib.Math.max.name, Cond.static yX5_verdict, Cond.code yX5_verdict cX5_verdict 2 (some .int)]
def wsX4_takeAll : List Cond := .code yX4_takeAll cX4_takeAll 3 none :: ((wsX4_takeAll_r1 ++ (wsX4_takeAll_r2 ++ wsX4_takeAll_r3)) ++ wsX40 ++ wsX30)
def wsX4_takeZone_r1 : List Cond := [Cond.methodLink RX4 27 yX4_clear, Cond.instanceMethod yX4_clear, Cond.selects RX4 yX4_clear yX4_clear, Cond.initialized RX4, Cond.code yX4_clear cX4_clear 1 none, Cond.fieldLink RX4 9 "ZonedLight$Tally" "tooDark" "I", Cond.fieldLink RX4 15 "ZonedLight$Tally" "tooBright" "I", Cond.fieldLink RX4 18 "ZonedLight$Tally" "off" "I", Cond.fieldLink RX4 21 "ZonedLight$Tally" "greatestOff" "I", Cond.fieldLink RX4 24 "ZonedLight$Tally" "shown" "I", Cond.methodLink RX4 30 yX4_addZone, Cond.instanceMethod yX4_addZone, Cond.selects RX4 yX4_addZone yX4_addZone, Cond.code yX4_addZone cX4_addZone 6 none, Cond.fieldLink RX4 40 "ZonedLight$Screen" "asked" "[I", Cond.methodLink RX4 34 yX3_light, Cond.instanceMethod yX3_light, Cond.selects RX3 yX3_light yX3_light, Cond.initialized RX3, Cond.code yX3_light cX3_light 2 (some .int), Cond.fieldLink RX3 15 "ZonedLight$Screen" "level" "[I", Cond.methodLink RX3 66 yX3_glow, Cond.instanceMethod yX3_glow, Cond.selects RX3 yX3_glow yX3_glow]
def wsX4_takeZone_r2 : List Cond := [Cond.code yX3_glow cX3_glow 6 (some .int), Cond.fieldLink RX3 22 "ZonedLight$Screen" "setting" "[I", Cond.static yX5_zonesApart, Cond.initialized RX5, Cond.code yX5_zonesApart cX5_zonesApart 4 (some .int), Cond.methodLink RX5 227 Lib.Math.abs.name, Cond.static Lib.Math.abs.name, Cond.initialized "java/lang/Math", Cond.code Lib.Math.abs.name Lib.Math.abs.code 1 (some .int), Cond.methodLink RX5 232 Lib.Math.max.name, Cond.static Lib.Math.max.name, Cond.code Lib.Math.max.name Lib.Math.max.code 2 (some .int), Cond.static yX5_lightOf, Cond.code yX5_lightOf cX5_lightOf 1 (some .int), Cond.methodLink RX5 235 Lib.Math.min.name, Cond.static Lib.Math.min.name, Cond.code Lib.Math.min.name Lib.Math.min.code 2 (some .int), Cond.static yX5_spotOfZone, Cond.code yX5_spotOfZone cX5_spotOfZone 4 (some .int), Cond.methodLink RX5 62 yX5_spotAt, Cond.static yX5_spotAt, Cond.code yX5_spotAt cX5_spotAt 2 (some .int), Cond.methodLink RX4 48 yX3_shown, Cond.instanceMethod yX3_shown]
def wsX4_takeZone_r3 : List Cond := [Cond.selects RX3 yX3_shown yX3_shown, Cond.code yX3_shown cX3_shown 3 (some .int), Cond.methodLink RX3 50 Lib.Math.max.name, Cond.static yX5_glassFor, Cond.code yX5_glassFor cX5_glassFor 2 (some .int), Cond.methodLink RX5 209 yX5_roundedUp, Cond.static yX5_roundedUp, Cond.code yX5_roundedUp cX5_roundedUp 2 (some .int), Cond.methodLink RX3 77 yX3_leakOf, Cond.instanceMethod yX3_leakOf, Cond.selects RX3 yX3_leakOf yX3_leakOf, Cond.code yX3_leakOf cX3_leakOf 2 (some .int), Cond.methodLink RX4 50 yX4_addSpot, Cond.instanceMethod yX4_addSpot, Cond.selects RX4 yX4_addSpot yX4_addSpot, Cond.code yX4_addSpot cX4_addSpot 5 none, Cond.methodLink RX4 57 Lib.Math.abs.name, Cond.methodLink RX4 62 Lib.Math.max.name, Cond.static yX5_verdict, Cond.code yX5_verdict cX5_verdict 2 (some .int)]
def wsX4_takeZone : List Cond := .code yX4_takeZone cX4_takeZone 3 none :: ((wsX4_takeZone_r1 ++ (wsX4_takeZone_r2 ++ wsX4_takeZone_r3)) ++ wsX40 ++ wsX30)
def wsX5_init_r1 : List Cond := [Cond.methodLink RX5 3 objectInit, Cond.instanceMethod objectInit, Cond.code objectInit ⟨#[0xb1]⟩ 1 none, Cond.classLink RX5 9 RX3, Cond.instantiable RX3 7, Cond.initialized RX3, Cond.fieldLink RX5 12 "ZonedLight" "now" "LZonedLight$Screen;", Cond.fieldLink RX5 16 "ZonedLight" "snapshot" "LZonedLight$Screen;", Cond.fieldLink RX5 19 "ZonedLight" "hasSnapshot" "Z", Cond.classLink RX5 23 RX0, Cond.instantiable RX0 3, Cond.initialized RX0, Cond.fieldLink RX5 26 "ZonedLight" "history" "LZonedLight$History;", Cond.classLink RX5 30 RX1, Cond.instantiable RX1 4, Cond.initialized RX1, Cond.fieldLink RX5 33 "ZonedLight" "text" "LZonedLight$PictureText;", Cond.fieldLink RX5 37 "ZonedLight" "trial" "LZonedLight$Screen;", Cond.classLink RX5 40 RX2, Cond.instantiable RX2 2, Cond.initialized RX2, Cond.fieldLink RX5 43 "ZonedLight" "plan" "LZonedLight$Plan;", Cond.classLink RX5 47 RX4, Cond.instantiable RX4 5]
def wsX5_init_r2 : List Cond := [Cond.initialized RX4, Cond.fieldLink RX5 50 "ZonedLight" "tally" "LZonedLight$Tally;", Cond.arrayClass .int, Cond.fieldLink RX5 54 "ZonedLight" "pictureBefore" "[I", Cond.methodLink RX5 11 yX3_init, Cond.instanceMethod yX3_init, Cond.code yX3_init cX3_init 1 none, Cond.methodLink RX3 3 objectInit, Cond.fieldLink RX3 9 "ZonedLight$Screen" "asked" "[I", Cond.fieldLink RX3 15 "ZonedLight$Screen" "level" "[I", Cond.arrayClass .boolean, Cond.fieldLink RX3 18 "ZonedLight$Screen" "dead" "[Z", Cond.fieldLink RX3 22 "ZonedLight$Screen" "setting" "[I", Cond.fieldLink RX3 25 "ZonedLight$Screen" "frames" "I", Cond.fieldLink RX3 29 "ZonedLight$Screen" "flicker" "I", Cond.fieldLink RX3 32 "ZonedLight$Screen" "powerSoFar" "I", Cond.methodLink RX3 38 arraycopyName, Cond.native arraycopyName, Cond.static arraycopyName, Cond.initialized "java/lang/System", Cond.methodLink RX5 25 yX0_init, Cond.instanceMethod yX0_init, Cond.code yX0_init cX0_init 2 none, Cond.methodLink RX0 1 objectInit]
def wsX5_init_r3 : List Cond := [Cond.classLink RX0 9 RX3, Cond.fieldLink RX0 11 "ZonedLight$History" "ring" "[LZonedLight$Screen;", Cond.fieldLink RX0 15 "ZonedLight$History" "oldest" "I", Cond.fieldLink RX0 19 "ZonedLight$History" "size" "I", Cond.methodLink RX0 22 yX3_init, Cond.instanceMethod yX1_init, Cond.code yX1_init cX1_init 1 none, Cond.methodLink RX1 5 objectInit, Cond.arrayClass .char, Cond.fieldLink RX1 11 "ZonedLight$PictureText" "characters" "[C", Cond.fieldLink RX1 15 "ZonedLight$PictureText" "length" "I", Cond.fieldLink RX1 19 "ZonedLight$PictureText" "numbers" "[I", Cond.fieldLink RX1 23 "ZonedLight$PictureText" "numbersRead" "I", Cond.instanceMethod yX2_init, Cond.code yX2_init cX2_init 1 none, Cond.methodLink RX2 3 objectInit, Cond.fieldLink RX2 9 "ZonedLight$Plan" "level" "[I", Cond.fieldLink RX2 15 "ZonedLight$Plan" "peak" "[I", Cond.instanceMethod yX4_init, Cond.code yX4_init cX4_init 1 none, Cond.methodLink RX4 3 objectInit, Cond.fieldLink RX4 9 "ZonedLight$Tally" "tooDark" "I", Cond.fieldLink RX4 15 "ZonedLight$Tally" "tooBright" "I", Cond.fieldLink RX4 18 "ZonedLight$Tally" "off" "I"]
def wsX5_init_r4 : List Cond := [Cond.fieldLink RX4 21 "ZonedLight$Tally" "greatestOff" "I", Cond.fieldLink RX4 24 "ZonedLight$Tally" "shown" "I"]
def wsX5_init : List Cond := .code yX5_init cX5_init 1 none :: ((wsX5_init_r1 ++ (wsX5_init_r2 ++ (wsX5_init_r3 ++ wsX5_init_r4))) ++ wsX30 ++ wsX50 ++ wsX00 ++ wsX10 ++ wsX20 ++ wsX40)
def wsX5_ask_r1 : List Cond := [Cond.fieldLink RX5 12 "ZonedLight" "now" "LZonedLight$Screen;", Cond.fieldLink RX5 66 "ZonedLight$Screen" "asked" "[I", Cond.fieldLink RX5 26 "ZonedLight" "history" "LZonedLight$History;", Cond.methodLink RX5 58 yX5_onScreen, Cond.static yX5_onScreen, Cond.initialized RX5, Cond.code yX5_onScreen cX5_onScreen 2 (some .boolean), Cond.methodLink RX5 62 yX5_spotAt, Cond.static yX5_spotAt, Cond.code yX5_spotAt cX5_spotAt 2 (some .int), Cond.methodLink RX5 69 yX0_record, Cond.instanceMethod yX0_record, Cond.selects RX0 yX0_record yX0_record, Cond.initialized RX0, Cond.code yX0_record cX0_record 2 none, Cond.fieldLink RX0 19 "ZonedLight$History" "size" "I", Cond.fieldLink RX0 15 "ZonedLight$History" "oldest" "I", Cond.fieldLink RX0 11 "ZonedLight$History" "ring" "[LZonedLight$Screen;", Cond.methodLink RX0 23 yX3_copyFrom, Cond.instanceMethod yX3_copyFrom, Cond.selects RX3 yX3_copyFrom yX3_copyFrom, Cond.initialized RX3, Cond.code yX3_copyFrom cX3_copyFrom 3 none, Cond.fieldLink RX3 9 "ZonedLight$Screen" "asked" "[I"]
def wsX5_ask_r2 : List Cond := [Cond.methodLink RX3 38 arraycopyName, Cond.native arraycopyName, Cond.static arraycopyName, Cond.initialized "java/lang/System", Cond.fieldLink RX3 15 "ZonedLight$Screen" "level" "[I", Cond.fieldLink RX3 22 "ZonedLight$Screen" "setting" "[I", Cond.fieldLink RX3 18 "ZonedLight$Screen" "dead" "[Z", Cond.fieldLink RX3 25 "ZonedLight$Screen" "frames" "I", Cond.fieldLink RX3 29 "ZonedLight$Screen" "flicker" "I", Cond.fieldLink RX3 32 "ZonedLight$Screen" "powerSoFar" "I"]
def wsX5_ask : List Cond := .code yX5_ask cX5_ask 6 (some .int) :: ((wsX5_ask_r1 ++ wsX5_ask_r2) ++ wsX50 ++ wsX30 ++ wsX00)
def wsX5_rememberPicture : List Cond := .code yX5_rememberPicture cX5_rememberPicture 1 none :: ([.fieldLink RX5 12 "ZonedLight" "now" "LZonedLight$Screen;", .fieldLink RX5 66 "ZonedLight$Screen" "asked" "[I", .fieldLink RX5 54 "ZonedLight" "pictureBefore" "[I", .methodLink RX5 218 arraycopyName, .native arraycopyName, .static arraycopyName, .initialized "java/lang/System"] ++ wsX50 ++ wsX30)
def wsX5_changedSpots : List Cond := .code yX5_changedSpots cX5_changedSpots 3 (some .int) :: ([.fieldLink RX5 12 "ZonedLight" "now" "LZonedLight$Screen;", .fieldLink RX5 66 "ZonedLight$Screen" "asked" "[I", .fieldLink RX5 54 "ZonedLight" "pictureBefore" "[I"] ++ wsX50 ++ wsX30)
def wsX5_askAll_r1 : List Cond := [Cond.fieldLink RX5 33 "ZonedLight" "text" "LZonedLight$PictureText;", Cond.fieldLink RX5 26 "ZonedLight" "history" "LZonedLight$History;", Cond.fieldLink RX5 12 "ZonedLight" "now" "LZonedLight$Screen;", Cond.methodLink RX5 73 yX1_read, Cond.instanceMethod yX1_read, Cond.selects RX1 yX1_read yX1_read, Cond.initialized RX1, Cond.code yX1_read cX1_read 5 (some .int), Cond.fieldLink RX1 23 "ZonedLight$PictureText" "numbersRead" "I", Cond.fieldLink RX1 15 "ZonedLight$PictureText" "length" "I", Cond.fieldLink RX1 11 "ZonedLight$PictureText" "characters" "[C", Cond.fieldLink RX1 26 "ZonedLight$PictureText" "END" "[C", Cond.methodLink RX1 29 yX1_addNumber, Cond.instanceMethod yX1_addNumber, Cond.selects RX1 yX1_addNumber yX1_addNumber, Cond.code yX1_addNumber cX1_addNumber 2 none, Cond.fieldLink RX1 19 "ZonedLight$PictureText" "numbers" "[I", Cond.methodLink RX1 33 yX1_withDigit, Cond.static yX1_withDigit, Cond.code yX1_withDigit cX1_withDigit 6 (some .int), Cond.fieldLink RX1 37 "ZonedLight$PictureText" "LEAST" "[I", Cond.fieldLink RX1 40 "ZonedLight$PictureText" "GREATEST" "[I", Cond.methodLink RX5 69 yX0_record, Cond.instanceMethod yX0_record]
def wsX5_askAll_r2 : List Cond := [Cond.selects RX0 yX0_record yX0_record, Cond.initialized RX0, Cond.code yX0_record cX0_record 2 none, Cond.fieldLink RX0 19 "ZonedLight$History" "size" "I", Cond.fieldLink RX0 15 "ZonedLight$History" "oldest" "I", Cond.fieldLink RX0 11 "ZonedLight$History" "ring" "[LZonedLight$Screen;", Cond.methodLink RX0 23 yX3_copyFrom, Cond.instanceMethod yX3_copyFrom, Cond.selects RX3 yX3_copyFrom yX3_copyFrom, Cond.initialized RX3, Cond.code yX3_copyFrom cX3_copyFrom 3 none, Cond.fieldLink RX3 9 "ZonedLight$Screen" "asked" "[I", Cond.methodLink RX3 38 arraycopyName, Cond.native arraycopyName, Cond.static arraycopyName, Cond.initialized "java/lang/System", Cond.fieldLink RX3 15 "ZonedLight$Screen" "level" "[I", Cond.fieldLink RX3 22 "ZonedLight$Screen" "setting" "[I", Cond.fieldLink RX3 18 "ZonedLight$Screen" "dead" "[Z", Cond.fieldLink RX3 25 "ZonedLight$Screen" "frames" "I", Cond.fieldLink RX3 29 "ZonedLight$Screen" "flicker" "I", Cond.fieldLink RX3 32 "ZonedLight$Screen" "powerSoFar" "I", Cond.methodLink RX5 77 yX5_rememberPicture, Cond.instanceMethod yX5_rememberPicture]
def wsX5_askAll_r3 : List Cond := [Cond.selects RX5 yX5_rememberPicture yX5_rememberPicture, Cond.initialized RX5, Cond.code yX5_rememberPicture cX5_rememberPicture 1 none, Cond.fieldLink RX5 66 "ZonedLight$Screen" "asked" "[I", Cond.fieldLink RX5 54 "ZonedLight" "pictureBefore" "[I", Cond.methodLink RX5 218 arraycopyName, Cond.methodLink RX5 80 yX1_parts, Cond.instanceMethod yX1_parts, Cond.selects RX1 yX1_parts yX1_parts, Cond.code yX1_parts cX1_parts 1 (some .int), Cond.methodLink RX5 83 yX1_number, Cond.instanceMethod yX1_number, Cond.selects RX1 yX1_number yX1_number, Cond.code yX1_number cX1_number 3 (some .int), Cond.methodLink RX5 86 yX3_paint, Cond.instanceMethod yX3_paint, Cond.selects RX3 yX3_paint yX3_paint, Cond.code yX3_paint cX3_paint 10 none, Cond.methodLink RX3 44 Lib.Math.min.name, Cond.static Lib.Math.min.name, Cond.initialized "java/lang/Math", Cond.code Lib.Math.min.name Lib.Math.min.code 2 (some .int), Cond.methodLink RX3 50 Lib.Math.max.name, Cond.static Lib.Math.max.name]
def wsX5_askAll_r4 : List Cond := [Cond.code Lib.Math.max.name Lib.Math.max.code 2 (some .int), Cond.static yX5_spotAt, Cond.code yX5_spotAt cX5_spotAt 2 (some .int), Cond.methodLink RX5 90 yX5_changedSpots, Cond.instanceMethod yX5_changedSpots, Cond.selects RX5 yX5_changedSpots yX5_changedSpots, Cond.code yX5_changedSpots cX5_changedSpots 3 (some .int)]
def wsX5_askAll : List Cond := .code yX5_askAll cX5_askAll 3 (some .int) :: ((wsX5_askAll_r1 ++ (wsX5_askAll_r2 ++ (wsX5_askAll_r3 ++ wsX5_askAll_r4))) ++ wsX50 ++ wsX10 ++ wsX00 ++ wsX30)
def wsX5_move_r1 : List Cond := [Cond.fieldLink RX5 26 "ZonedLight" "history" "LZonedLight$History;", Cond.fieldLink RX5 12 "ZonedLight" "now" "LZonedLight$Screen;", Cond.fieldLink RX5 54 "ZonedLight" "pictureBefore" "[I", Cond.fieldLink RX5 93 "ZonedLight" "FROM_X" "[I", Cond.fieldLink RX5 96 "ZonedLight" "FROM_Y" "[I", Cond.methodLink RX5 69 yX0_record, Cond.instanceMethod yX0_record, Cond.selects RX0 yX0_record yX0_record, Cond.initialized RX0, Cond.code yX0_record cX0_record 2 none, Cond.fieldLink RX0 19 "ZonedLight$History" "size" "I", Cond.fieldLink RX0 15 "ZonedLight$History" "oldest" "I", Cond.fieldLink RX0 11 "ZonedLight$History" "ring" "[LZonedLight$Screen;", Cond.methodLink RX0 23 yX3_copyFrom, Cond.instanceMethod yX3_copyFrom, Cond.selects RX3 yX3_copyFrom yX3_copyFrom, Cond.initialized RX3, Cond.code yX3_copyFrom cX3_copyFrom 3 none, Cond.fieldLink RX3 9 "ZonedLight$Screen" "asked" "[I", Cond.methodLink RX3 38 arraycopyName, Cond.native arraycopyName, Cond.static arraycopyName, Cond.initialized "java/lang/System", Cond.fieldLink RX3 15 "ZonedLight$Screen" "level" "[I"]
def wsX5_move_r2 : List Cond := [Cond.fieldLink RX3 22 "ZonedLight$Screen" "setting" "[I", Cond.fieldLink RX3 18 "ZonedLight$Screen" "dead" "[Z", Cond.fieldLink RX3 25 "ZonedLight$Screen" "frames" "I", Cond.fieldLink RX3 29 "ZonedLight$Screen" "flicker" "I", Cond.fieldLink RX3 32 "ZonedLight$Screen" "powerSoFar" "I", Cond.methodLink RX5 77 yX5_rememberPicture, Cond.instanceMethod yX5_rememberPicture, Cond.selects RX5 yX5_rememberPicture yX5_rememberPicture, Cond.initialized RX5, Cond.code yX5_rememberPicture cX5_rememberPicture 1 none, Cond.fieldLink RX5 66 "ZonedLight$Screen" "asked" "[I", Cond.methodLink RX5 218 arraycopyName, Cond.methodLink RX5 99 yX3_takeShifted, Cond.instanceMethod yX3_takeShifted, Cond.selects RX3 yX3_takeShifted yX3_takeShifted, Cond.code yX3_takeShifted cX3_takeShifted 7 none, Cond.static yX5_onScreen, Cond.code yX5_onScreen cX5_onScreen 2 (some .boolean), Cond.static yX5_spotAt, Cond.code yX5_spotAt cX5_spotAt 2 (some .int), Cond.methodLink RX5 90 yX5_changedSpots, Cond.instanceMethod yX5_changedSpots, Cond.selects RX5 yX5_changedSpots yX5_changedSpots, Cond.code yX5_changedSpots cX5_changedSpots 3 (some .int)]
def wsX5_move : List Cond := .code yX5_move cX5_move 2 (some .int) :: ((wsX5_move_r1 ++ wsX5_move_r2) ++ wsX50 ++ wsX00 ++ wsX30)
def wsX5_isZone : List Cond := .code yX5_isZone cX5_isZone 1 (some .boolean) :: ([])
def wsX5_kill_r1 : List Cond := [Cond.fieldLink RX5 12 "ZonedLight" "now" "LZonedLight$Screen;", Cond.fieldLink RX5 107 "ZonedLight$Screen" "dead" "[Z", Cond.fieldLink RX5 26 "ZonedLight" "history" "LZonedLight$History;", Cond.fieldLink RX5 111 "ZonedLight$Screen" "level" "[I", Cond.methodLink RX5 103 yX5_isZone, Cond.static yX5_isZone, Cond.initialized RX5, Cond.code yX5_isZone cX5_isZone 1 (some .boolean), Cond.methodLink RX5 69 yX0_record, Cond.instanceMethod yX0_record, Cond.selects RX0 yX0_record yX0_record, Cond.initialized RX0, Cond.code yX0_record cX0_record 2 none, Cond.fieldLink RX0 19 "ZonedLight$History" "size" "I", Cond.fieldLink RX0 15 "ZonedLight$History" "oldest" "I", Cond.fieldLink RX0 11 "ZonedLight$History" "ring" "[LZonedLight$Screen;", Cond.methodLink RX0 23 yX3_copyFrom, Cond.instanceMethod yX3_copyFrom, Cond.selects RX3 yX3_copyFrom yX3_copyFrom, Cond.initialized RX3, Cond.code yX3_copyFrom cX3_copyFrom 3 none, Cond.fieldLink RX3 9 "ZonedLight$Screen" "asked" "[I", Cond.methodLink RX3 38 arraycopyName, Cond.native arraycopyName]
def wsX5_kill_r2 : List Cond := [Cond.static arraycopyName, Cond.initialized "java/lang/System", Cond.fieldLink RX3 15 "ZonedLight$Screen" "level" "[I", Cond.fieldLink RX3 22 "ZonedLight$Screen" "setting" "[I", Cond.fieldLink RX3 18 "ZonedLight$Screen" "dead" "[Z", Cond.fieldLink RX3 25 "ZonedLight$Screen" "frames" "I", Cond.fieldLink RX3 29 "ZonedLight$Screen" "flicker" "I", Cond.fieldLink RX3 32 "ZonedLight$Screen" "powerSoFar" "I"]
def wsX5_kill : List Cond := .code yX5_kill cX5_kill 4 (some .int) :: ((wsX5_kill_r1 ++ wsX5_kill_r2) ++ wsX50 ++ wsX30 ++ wsX00)
def wsX5_pass_r1 : List Cond := [Cond.fieldLink RX5 26 "ZonedLight" "history" "LZonedLight$History;", Cond.fieldLink RX5 12 "ZonedLight" "now" "LZonedLight$Screen;", Cond.fieldLink RX5 43 "ZonedLight" "plan" "LZonedLight$Plan;", Cond.fieldLink RX5 117 "ZonedLight$Plan" "level" "[I", Cond.methodLink RX5 69 yX0_record, Cond.instanceMethod yX0_record, Cond.selects RX0 yX0_record yX0_record, Cond.initialized RX0, Cond.code yX0_record cX0_record 2 none, Cond.fieldLink RX0 19 "ZonedLight$History" "size" "I", Cond.fieldLink RX0 15 "ZonedLight$History" "oldest" "I", Cond.fieldLink RX0 11 "ZonedLight$History" "ring" "[LZonedLight$Screen;", Cond.methodLink RX0 23 yX3_copyFrom, Cond.instanceMethod yX3_copyFrom, Cond.selects RX3 yX3_copyFrom yX3_copyFrom, Cond.initialized RX3, Cond.code yX3_copyFrom cX3_copyFrom 3 none, Cond.fieldLink RX3 9 "ZonedLight$Screen" "asked" "[I", Cond.methodLink RX3 38 arraycopyName, Cond.native arraycopyName, Cond.static arraycopyName, Cond.initialized "java/lang/System", Cond.fieldLink RX3 15 "ZonedLight$Screen" "level" "[I", Cond.fieldLink RX3 22 "ZonedLight$Screen" "setting" "[I"]
def wsX5_pass_r2 : List Cond := [Cond.fieldLink RX3 18 "ZonedLight$Screen" "dead" "[Z", Cond.fieldLink RX3 25 "ZonedLight$Screen" "frames" "I", Cond.fieldLink RX3 29 "ZonedLight$Screen" "flicker" "I", Cond.fieldLink RX3 32 "ZonedLight$Screen" "powerSoFar" "I", Cond.methodLink RX5 114 yX2_make, Cond.instanceMethod yX2_make, Cond.selects RX2 yX2_make yX2_make, Cond.initialized RX2, Cond.code yX2_make cX2_make 3 none, Cond.fieldLink RX2 15 "ZonedLight$Plan" "peak" "[I", Cond.fieldLink RX2 9 "ZonedLight$Plan" "level" "[I", Cond.fieldLink RX2 23 "ZonedLight$Screen" "dead" "[Z", Cond.fieldLink RX2 31 "ZonedLight$Screen" "setting" "[I", Cond.methodLink RX2 18 yX3_peak, Cond.instanceMethod yX3_peak, Cond.selects RX3 yX3_peak yX3_peak, Cond.code yX3_peak cX3_peak 4 (some .int), Cond.methodLink RX3 50 Lib.Math.max.name, Cond.static Lib.Math.max.name, Cond.initialized "java/lang/Math", Cond.code Lib.Math.max.name Lib.Math.max.code 2 (some .int), Cond.static yX5_spotOfZone, Cond.initialized RX5, Cond.code yX5_spotOfZone cX5_spotOfZone 4 (some .int)]
def wsX5_pass_r3 : List Cond := [Cond.methodLink RX5 62 yX5_spotAt, Cond.static yX5_spotAt, Cond.code yX5_spotAt cX5_spotAt 2 (some .int), Cond.methodLink RX2 27 yX2_levelByRule, Cond.instanceMethod yX2_levelByRule, Cond.selects RX2 yX2_levelByRule yX2_levelByRule, Cond.code yX2_levelByRule cX2_levelByRule 5 (some .int), Cond.methodLink RX2 49 Lib.Math.min.name, Cond.static Lib.Math.min.name, Cond.code Lib.Math.min.name Lib.Math.min.code 2 (some .int), Cond.methodLink RX2 46 yX2_aim, Cond.instanceMethod yX2_aim, Cond.selects RX2 yX2_aim yX2_aim, Cond.code yX2_aim cX2_aim 3 (some .int), Cond.methodLink RX2 55 yX3_mean, Cond.instanceMethod yX3_mean, Cond.selects RX3 yX3_mean yX3_mean, Cond.code yX3_mean cX3_mean 4 (some .int), Cond.methodLink RX2 34 yX2_raiseAll, Cond.instanceMethod yX2_raiseAll, Cond.selects RX2 yX2_raiseAll yX2_raiseAll, Cond.code yX2_raiseAll cX2_raiseAll 4 none, Cond.methodLink RX2 65 Lib.Math.max.name, Cond.methodLink RX2 58 yX3_glow]
def wsX5_pass_r4 : List Cond := [Cond.instanceMethod yX3_glow, Cond.selects RX3 yX3_glow yX3_glow, Cond.code yX3_glow cX3_glow 6 (some .int), Cond.static yX5_zonesApart, Cond.code yX5_zonesApart cX5_zonesApart 4 (some .int), Cond.methodLink RX5 227 Lib.Math.abs.name, Cond.static Lib.Math.abs.name, Cond.code Lib.Math.abs.name Lib.Math.abs.code 1 (some .int), Cond.methodLink RX5 232 Lib.Math.max.name, Cond.static yX5_lightOf, Cond.code yX5_lightOf cX5_lightOf 1 (some .int), Cond.methodLink RX5 235 Lib.Math.min.name, Cond.methodLink RX2 68 yX2_raiseNeighbours, Cond.instanceMethod yX2_raiseNeighbours, Cond.selects RX2 yX2_raiseNeighbours yX2_raiseNeighbours, Cond.code yX2_raiseNeighbours cX2_raiseNeighbours 7 none, Cond.methodLink RX2 79 yX2_helps, Cond.static yX2_helps, Cond.code yX2_helps cX2_helps 3 (some .boolean), Cond.static yX5_roundedUp, Cond.code yX5_roundedUp cX5_roundedUp 2 (some .int), Cond.methodLink RX2 75 yX2_raise, Cond.instanceMethod yX2_raise, Cond.selects RX2 yX2_raise yX2_raise]
def wsX5_pass_r5 : List Cond := [Cond.code yX2_raise cX2_raise 3 none, Cond.methodLink RX2 38 yX3_asksBlack, Cond.instanceMethod yX3_asksBlack, Cond.selects RX3 yX3_asksBlack yX3_asksBlack, Cond.code yX3_asksBlack cX3_asksBlack 3 (some .boolean), Cond.methodLink RX2 42 yX2_lowerForBlack, Cond.instanceMethod yX2_lowerForBlack, Cond.selects RX2 yX2_lowerForBlack yX2_lowerForBlack, Cond.code yX2_lowerForBlack cX2_lowerForBlack 4 none, Cond.methodLink RX2 86 yX3_leakOf, Cond.instanceMethod yX3_leakOf, Cond.selects RX3 yX3_leakOf yX3_leakOf, Cond.code yX3_leakOf cX3_leakOf 2 (some .int), Cond.methodLink RX5 118 yX3_passFrame, Cond.instanceMethod yX3_passFrame, Cond.selects RX3 yX3_passFrame yX3_passFrame, Cond.code yX3_passFrame cX3_passFrame 5 none, Cond.methodLink RX3 44 Lib.Math.min.name, Cond.methodLink RX3 80 Lib.Math.abs.name, Cond.methodLink RX3 83 yX3_power, Cond.instanceMethod yX3_power, Cond.selects RX3 yX3_power yX3_power, Cond.code yX3_power cX3_power 3 (some .int), Cond.methodLink RX5 122 yX3_power]
def wsX5_pass : List Cond := .code yX5_pass cX5_pass 3 (some .int) :: ((wsX5_pass_r1 ++ (wsX5_pass_r2 ++ (wsX5_pass_r3 ++ (wsX5_pass_r4 ++ wsX5_pass_r5)))) ++ wsX50 ++ wsX20 ++ wsX00 ++ wsX30)
def wsX5_set_r1 : List Cond := [Cond.fieldLink RX5 125 "ZonedLight" "LEAST_SETTING" "[I", Cond.fieldLink RX5 128 "ZonedLight" "GREATEST_SETTING" "[I", Cond.fieldLink RX5 12 "ZonedLight" "now" "LZonedLight$Screen;", Cond.fieldLink RX5 131 "ZonedLight$Screen" "setting" "[I", Cond.fieldLink RX5 26 "ZonedLight" "history" "LZonedLight$History;", Cond.methodLink RX5 69 yX0_record, Cond.instanceMethod yX0_record, Cond.selects RX0 yX0_record yX0_record, Cond.initialized RX0, Cond.code yX0_record cX0_record 2 none, Cond.fieldLink RX0 19 "ZonedLight$History" "size" "I", Cond.fieldLink RX0 15 "ZonedLight$History" "oldest" "I", Cond.fieldLink RX0 11 "ZonedLight$History" "ring" "[LZonedLight$Screen;", Cond.methodLink RX0 23 yX3_copyFrom, Cond.instanceMethod yX3_copyFrom, Cond.selects RX3 yX3_copyFrom yX3_copyFrom, Cond.initialized RX3, Cond.code yX3_copyFrom cX3_copyFrom 3 none, Cond.fieldLink RX3 9 "ZonedLight$Screen" "asked" "[I", Cond.methodLink RX3 38 arraycopyName, Cond.native arraycopyName, Cond.static arraycopyName, Cond.initialized "java/lang/System", Cond.fieldLink RX3 15 "ZonedLight$Screen" "level" "[I"]
def wsX5_set_r2 : List Cond := [Cond.fieldLink RX3 22 "ZonedLight$Screen" "setting" "[I", Cond.fieldLink RX3 18 "ZonedLight$Screen" "dead" "[Z", Cond.fieldLink RX3 25 "ZonedLight$Screen" "frames" "I", Cond.fieldLink RX3 29 "ZonedLight$Screen" "flicker" "I", Cond.fieldLink RX3 32 "ZonedLight$Screen" "powerSoFar" "I"]
def wsX5_set : List Cond := .code yX5_set cX5_set 4 (some .int) :: ((wsX5_set_r1 ++ wsX5_set_r2) ++ wsX50 ++ wsX30 ++ wsX00)
def wsX5_type : List Cond := .code yX5_type cX5_type 2 (some .int) :: ([.fieldLink RX5 33 "ZonedLight" "text" "LZonedLight$PictureText;", .fieldLink RX5 138 "ZonedLight$PictureText" "length" "I", .methodLink RX5 134 yX1_append, .instanceMethod yX1_append, .selects RX1 yX1_append yX1_append, .initialized RX1, .code yX1_append cX1_append 2 (some .boolean), .fieldLink RX1 15 "ZonedLight$PictureText" "length" "I", .fieldLink RX1 11 "ZonedLight$PictureText" "characters" "[C"] ++ wsX50 ++ wsX10)
def wsX5_clearText : List Cond := .code yX5_clearText cX5_clearText 2 (some .int) :: ([.fieldLink RX5 33 "ZonedLight" "text" "LZonedLight$PictureText;", .fieldLink RX5 138 "ZonedLight$PictureText" "length" "I"] ++ wsX50 ++ wsX10)
def wsX5_fault : List Cond := .code yX5_fault cX5_fault 1 (some .int) :: ([.fieldLink RX5 33 "ZonedLight" "text" "LZonedLight$PictureText;", .methodLink RX5 73 yX1_read, .instanceMethod yX1_read, .selects RX1 yX1_read yX1_read, .initialized RX1, .code yX1_read cX1_read 5 (some .int), .fieldLink RX1 23 "ZonedLight$PictureText" "numbersRead" "I", .fieldLink RX1 15 "ZonedLight$PictureText" "length" "I", .fieldLink RX1 11 "ZonedLight$PictureText" "characters" "[C", .fieldLink RX1 26 "ZonedLight$PictureText" "END" "[C", .methodLink RX1 29 yX1_addNumber, .instanceMethod yX1_addNumber, .selects RX1 yX1_addNumber yX1_addNumber, .code yX1_addNumber cX1_addNumber 2 none, .fieldLink RX1 19 "ZonedLight$PictureText" "numbers" "[I", .methodLink RX1 33 yX1_withDigit, .static yX1_withDigit, .code yX1_withDigit cX1_withDigit 6 (some .int), .fieldLink RX1 37 "ZonedLight$PictureText" "LEAST" "[I", .fieldLink RX1 40 "ZonedLight$PictureText" "GREATEST" "[I"] ++ wsX50 ++ wsX10)
def wsX5_undo_r1 : List Cond := [Cond.fieldLink RX5 26 "ZonedLight" "history" "LZonedLight$History;", Cond.fieldLink RX5 12 "ZonedLight" "now" "LZonedLight$Screen;", Cond.fieldLink RX5 146 "ZonedLight$History" "size" "I", Cond.methodLink RX5 142 yX0_takeLatest, Cond.instanceMethod yX0_takeLatest, Cond.selects RX0 yX0_takeLatest yX0_takeLatest, Cond.initialized RX0, Cond.code yX0_takeLatest cX0_takeLatest 2 (some .boolean), Cond.fieldLink RX0 19 "ZonedLight$History" "size" "I", Cond.fieldLink RX0 11 "ZonedLight$History" "ring" "[LZonedLight$Screen;", Cond.fieldLink RX0 15 "ZonedLight$History" "oldest" "I", Cond.methodLink RX0 23 yX3_copyFrom, Cond.instanceMethod yX3_copyFrom, Cond.selects RX3 yX3_copyFrom yX3_copyFrom, Cond.initialized RX3, Cond.code yX3_copyFrom cX3_copyFrom 3 none, Cond.fieldLink RX3 9 "ZonedLight$Screen" "asked" "[I", Cond.methodLink RX3 38 arraycopyName, Cond.native arraycopyName, Cond.static arraycopyName, Cond.initialized "java/lang/System", Cond.fieldLink RX3 15 "ZonedLight$Screen" "level" "[I", Cond.fieldLink RX3 22 "ZonedLight$Screen" "setting" "[I", Cond.fieldLink RX3 18 "ZonedLight$Screen" "dead" "[Z"]
def wsX5_undo_r2 : List Cond := [Cond.fieldLink RX3 25 "ZonedLight$Screen" "frames" "I", Cond.fieldLink RX3 29 "ZonedLight$Screen" "flicker" "I", Cond.fieldLink RX3 32 "ZonedLight$Screen" "powerSoFar" "I"]
def wsX5_undo : List Cond := .code yX5_undo cX5_undo 1 (some .int) :: ((wsX5_undo_r1 ++ wsX5_undo_r2) ++ wsX50 ++ wsX00 ++ wsX30)
def wsX5_keep : List Cond := .code yX5_keep cX5_keep 1 (some .int) :: ([.fieldLink RX5 16 "ZonedLight" "snapshot" "LZonedLight$Screen;", .fieldLink RX5 12 "ZonedLight" "now" "LZonedLight$Screen;", .fieldLink RX5 19 "ZonedLight" "hasSnapshot" "Z", .fieldLink RX5 152 "ZonedLight$Screen" "frames" "I", .methodLink RX5 149 yX3_copyFrom, .instanceMethod yX3_copyFrom, .selects RX3 yX3_copyFrom yX3_copyFrom, .initialized RX3, .code yX3_copyFrom cX3_copyFrom 3 none, .fieldLink RX3 9 "ZonedLight$Screen" "asked" "[I", .methodLink RX3 38 arraycopyName, .native arraycopyName, .static arraycopyName, .initialized "java/lang/System", .fieldLink RX3 15 "ZonedLight$Screen" "level" "[I", .fieldLink RX3 22 "ZonedLight$Screen" "setting" "[I", .fieldLink RX3 18 "ZonedLight$Screen" "dead" "[Z", .fieldLink RX3 25 "ZonedLight$Screen" "frames" "I", .fieldLink RX3 29 "ZonedLight$Screen" "flicker" "I", .fieldLink RX3 32 "ZonedLight$Screen" "powerSoFar" "I"] ++ wsX50 ++ wsX30)
def wsX5_restore_r1 : List Cond := [Cond.fieldLink RX5 19 "ZonedLight" "hasSnapshot" "Z", Cond.fieldLink RX5 26 "ZonedLight" "history" "LZonedLight$History;", Cond.fieldLink RX5 12 "ZonedLight" "now" "LZonedLight$Screen;", Cond.fieldLink RX5 16 "ZonedLight" "snapshot" "LZonedLight$Screen;", Cond.fieldLink RX5 152 "ZonedLight$Screen" "frames" "I", Cond.methodLink RX5 69 yX0_record, Cond.instanceMethod yX0_record, Cond.selects RX0 yX0_record yX0_record, Cond.initialized RX0, Cond.code yX0_record cX0_record 2 none, Cond.fieldLink RX0 19 "ZonedLight$History" "size" "I", Cond.fieldLink RX0 15 "ZonedLight$History" "oldest" "I", Cond.fieldLink RX0 11 "ZonedLight$History" "ring" "[LZonedLight$Screen;", Cond.methodLink RX0 23 yX3_copyFrom, Cond.instanceMethod yX3_copyFrom, Cond.selects RX3 yX3_copyFrom yX3_copyFrom, Cond.initialized RX3, Cond.code yX3_copyFrom cX3_copyFrom 3 none, Cond.fieldLink RX3 9 "ZonedLight$Screen" "asked" "[I", Cond.methodLink RX3 38 arraycopyName, Cond.native arraycopyName, Cond.static arraycopyName, Cond.initialized "java/lang/System", Cond.fieldLink RX3 15 "ZonedLight$Screen" "level" "[I"]
def wsX5_restore_r2 : List Cond := [Cond.fieldLink RX3 22 "ZonedLight$Screen" "setting" "[I", Cond.fieldLink RX3 18 "ZonedLight$Screen" "dead" "[Z", Cond.fieldLink RX3 25 "ZonedLight$Screen" "frames" "I", Cond.fieldLink RX3 29 "ZonedLight$Screen" "flicker" "I", Cond.fieldLink RX3 32 "ZonedLight$Screen" "powerSoFar" "I", Cond.methodLink RX5 149 yX3_copyFrom]
def wsX5_restore : List Cond := .code yX5_restore cX5_restore 1 (some .int) :: ((wsX5_restore_r1 ++ wsX5_restore_r2) ++ wsX50 ++ wsX30 ++ wsX00)
def wsX5_spot_r1 : List Cond := [Cond.fieldLink RX5 12 "ZonedLight" "now" "LZonedLight$Screen;", Cond.fieldLink RX5 66 "ZonedLight$Screen" "asked" "[I", Cond.methodLink RX5 58 yX5_onScreen, Cond.static yX5_onScreen, Cond.initialized RX5, Cond.code yX5_onScreen cX5_onScreen 2 (some .boolean), Cond.methodLink RX5 62 yX5_spotAt, Cond.static yX5_spotAt, Cond.code yX5_spotAt cX5_spotAt 2 (some .int), Cond.methodLink RX5 155 yX3_light, Cond.instanceMethod yX3_light, Cond.selects RX3 yX3_light yX3_light, Cond.initialized RX3, Cond.code yX3_light cX3_light 2 (some .int), Cond.fieldLink RX3 15 "ZonedLight$Screen" "level" "[I", Cond.methodLink RX3 66 yX3_glow, Cond.instanceMethod yX3_glow, Cond.selects RX3 yX3_glow yX3_glow, Cond.code yX3_glow cX3_glow 6 (some .int), Cond.fieldLink RX3 22 "ZonedLight$Screen" "setting" "[I", Cond.static yX5_zonesApart, Cond.code yX5_zonesApart cX5_zonesApart 4 (some .int), Cond.methodLink RX5 227 Lib.Math.abs.name, Cond.static Lib.Math.abs.name]
def wsX5_spot_r2 : List Cond := [Cond.initialized "java/lang/Math", Cond.code Lib.Math.abs.name Lib.Math.abs.code 1 (some .int), Cond.methodLink RX5 232 Lib.Math.max.name, Cond.static Lib.Math.max.name, Cond.code Lib.Math.max.name Lib.Math.max.code 2 (some .int), Cond.static yX5_lightOf, Cond.code yX5_lightOf cX5_lightOf 1 (some .int), Cond.methodLink RX5 235 Lib.Math.min.name, Cond.static Lib.Math.min.name, Cond.code Lib.Math.min.name Lib.Math.min.code 2 (some .int), Cond.methodLink RX5 159 yX5_glassFor, Cond.static yX5_glassFor, Cond.code yX5_glassFor cX5_glassFor 2 (some .int), Cond.methodLink RX5 209 yX5_roundedUp, Cond.static yX5_roundedUp, Cond.code yX5_roundedUp cX5_roundedUp 2 (some .int), Cond.methodLink RX5 162 yX3_shown, Cond.instanceMethod yX3_shown, Cond.selects RX3 yX3_shown yX3_shown, Cond.code yX3_shown cX3_shown 3 (some .int), Cond.methodLink RX3 50 Lib.Math.max.name, Cond.methodLink RX3 77 yX3_leakOf, Cond.instanceMethod yX3_leakOf, Cond.selects RX3 yX3_leakOf yX3_leakOf]
def wsX5_spot_r3 : List Cond := [Cond.code yX3_leakOf cX3_leakOf 2 (some .int), Cond.methodLink RX5 165 yX5_verdict, Cond.static yX5_verdict, Cond.code yX5_verdict cX5_verdict 2 (some .int)]
def wsX5_spot : List Cond := .code yX5_spot cX5_spot 6 (some .int) :: ((wsX5_spot_r1 ++ (wsX5_spot_r2 ++ wsX5_spot_r3)) ++ wsX50 ++ wsX30)
def wsX5_zone_r1 : List Cond := [Cond.fieldLink RX5 12 "ZonedLight" "now" "LZonedLight$Screen;", Cond.fieldLink RX5 111 "ZonedLight$Screen" "level" "[I", Cond.fieldLink RX5 43 "ZonedLight" "plan" "LZonedLight$Plan;", Cond.fieldLink RX5 117 "ZonedLight$Plan" "level" "[I", Cond.fieldLink RX5 107 "ZonedLight$Screen" "dead" "[Z", Cond.fieldLink RX5 50 "ZonedLight" "tally" "LZonedLight$Tally;", Cond.fieldLink RX5 181 "ZonedLight$Tally" "tooDark" "I", Cond.fieldLink RX5 184 "ZonedLight$Tally" "tooBright" "I", Cond.methodLink RX5 103 yX5_isZone, Cond.static yX5_isZone, Cond.initialized RX5, Cond.code yX5_isZone cX5_isZone 1 (some .boolean), Cond.methodLink RX5 114 yX2_make, Cond.instanceMethod yX2_make, Cond.selects RX2 yX2_make yX2_make, Cond.initialized RX2, Cond.code yX2_make cX2_make 3 none, Cond.fieldLink RX2 15 "ZonedLight$Plan" "peak" "[I", Cond.fieldLink RX2 9 "ZonedLight$Plan" "level" "[I", Cond.fieldLink RX2 23 "ZonedLight$Screen" "dead" "[Z", Cond.fieldLink RX2 31 "ZonedLight$Screen" "setting" "[I", Cond.methodLink RX2 18 yX3_peak, Cond.instanceMethod yX3_peak, Cond.selects RX3 yX3_peak yX3_peak]
def wsX5_zone_r2 : List Cond := [Cond.initialized RX3, Cond.code yX3_peak cX3_peak 4 (some .int), Cond.fieldLink RX3 9 "ZonedLight$Screen" "asked" "[I", Cond.methodLink RX3 50 Lib.Math.max.name, Cond.static Lib.Math.max.name, Cond.initialized "java/lang/Math", Cond.code Lib.Math.max.name Lib.Math.max.code 2 (some .int), Cond.static yX5_spotOfZone, Cond.code yX5_spotOfZone cX5_spotOfZone 4 (some .int), Cond.methodLink RX5 62 yX5_spotAt, Cond.static yX5_spotAt, Cond.code yX5_spotAt cX5_spotAt 2 (some .int), Cond.methodLink RX2 27 yX2_levelByRule, Cond.instanceMethod yX2_levelByRule, Cond.selects RX2 yX2_levelByRule yX2_levelByRule, Cond.code yX2_levelByRule cX2_levelByRule 5 (some .int), Cond.methodLink RX2 49 Lib.Math.min.name, Cond.static Lib.Math.min.name, Cond.code Lib.Math.min.name Lib.Math.min.code 2 (some .int), Cond.methodLink RX2 46 yX2_aim, Cond.instanceMethod yX2_aim, Cond.selects RX2 yX2_aim yX2_aim, Cond.code yX2_aim cX2_aim 3 (some .int), Cond.methodLink RX2 55 yX3_mean]
def wsX5_zone_r3 : List Cond := [Cond.instanceMethod yX3_mean, Cond.selects RX3 yX3_mean yX3_mean, Cond.code yX3_mean cX3_mean 4 (some .int), Cond.methodLink RX2 34 yX2_raiseAll, Cond.instanceMethod yX2_raiseAll, Cond.selects RX2 yX2_raiseAll yX2_raiseAll, Cond.code yX2_raiseAll cX2_raiseAll 4 none, Cond.methodLink RX2 65 Lib.Math.max.name, Cond.methodLink RX2 58 yX3_glow, Cond.instanceMethod yX3_glow, Cond.selects RX3 yX3_glow yX3_glow, Cond.code yX3_glow cX3_glow 6 (some .int), Cond.fieldLink RX3 22 "ZonedLight$Screen" "setting" "[I", Cond.static yX5_zonesApart, Cond.code yX5_zonesApart cX5_zonesApart 4 (some .int), Cond.methodLink RX5 227 Lib.Math.abs.name, Cond.static Lib.Math.abs.name, Cond.code Lib.Math.abs.name Lib.Math.abs.code 1 (some .int), Cond.methodLink RX5 232 Lib.Math.max.name, Cond.static yX5_lightOf, Cond.code yX5_lightOf cX5_lightOf 1 (some .int), Cond.methodLink RX5 235 Lib.Math.min.name, Cond.methodLink RX2 68 yX2_raiseNeighbours, Cond.instanceMethod yX2_raiseNeighbours]
def wsX5_zone_r4 : List Cond := [Cond.selects RX2 yX2_raiseNeighbours yX2_raiseNeighbours, Cond.code yX2_raiseNeighbours cX2_raiseNeighbours 7 none, Cond.methodLink RX2 79 yX2_helps, Cond.static yX2_helps, Cond.code yX2_helps cX2_helps 3 (some .boolean), Cond.static yX5_roundedUp, Cond.code yX5_roundedUp cX5_roundedUp 2 (some .int), Cond.methodLink RX2 75 yX2_raise, Cond.instanceMethod yX2_raise, Cond.selects RX2 yX2_raise yX2_raise, Cond.code yX2_raise cX2_raise 3 none, Cond.methodLink RX2 38 yX3_asksBlack, Cond.instanceMethod yX3_asksBlack, Cond.selects RX3 yX3_asksBlack yX3_asksBlack, Cond.code yX3_asksBlack cX3_asksBlack 3 (some .boolean), Cond.methodLink RX2 42 yX2_lowerForBlack, Cond.instanceMethod yX2_lowerForBlack, Cond.selects RX2 yX2_lowerForBlack yX2_lowerForBlack, Cond.code yX2_lowerForBlack cX2_lowerForBlack 4 none, Cond.methodLink RX2 86 yX3_leakOf, Cond.instanceMethod yX3_leakOf, Cond.selects RX3 yX3_leakOf yX3_leakOf, Cond.code yX3_leakOf cX3_leakOf 2 (some .int), Cond.methodLink RX5 155 yX3_light]
def wsX5_zone_r5 : List Cond := [Cond.instanceMethod yX3_light, Cond.selects RX3 yX3_light yX3_light, Cond.code yX3_light cX3_light 2 (some .int), Cond.fieldLink RX3 15 "ZonedLight$Screen" "level" "[I", Cond.methodLink RX3 66 yX3_glow, Cond.methodLink RX5 168 yX3_peak, Cond.methodLink RX5 171 yX3_mean, Cond.methodLink RX5 174 yX3_leakOf, Cond.methodLink RX5 177 yX4_takeZone, Cond.instanceMethod yX4_takeZone, Cond.selects RX4 yX4_takeZone yX4_takeZone, Cond.initialized RX4, Cond.code yX4_takeZone cX4_takeZone 3 none, Cond.methodLink RX4 27 yX4_clear, Cond.instanceMethod yX4_clear, Cond.selects RX4 yX4_clear yX4_clear, Cond.code yX4_clear cX4_clear 1 none, Cond.fieldLink RX4 9 "ZonedLight$Tally" "tooDark" "I", Cond.fieldLink RX4 15 "ZonedLight$Tally" "tooBright" "I", Cond.fieldLink RX4 18 "ZonedLight$Tally" "off" "I", Cond.fieldLink RX4 21 "ZonedLight$Tally" "greatestOff" "I", Cond.fieldLink RX4 24 "ZonedLight$Tally" "shown" "I", Cond.methodLink RX4 30 yX4_addZone, Cond.instanceMethod yX4_addZone]
def wsX5_zone_r6 : List Cond := [Cond.selects RX4 yX4_addZone yX4_addZone, Cond.code yX4_addZone cX4_addZone 6 none, Cond.fieldLink RX4 40 "ZonedLight$Screen" "asked" "[I", Cond.methodLink RX4 34 yX3_light, Cond.methodLink RX4 48 yX3_shown, Cond.instanceMethod yX3_shown, Cond.selects RX3 yX3_shown yX3_shown, Cond.code yX3_shown cX3_shown 3 (some .int), Cond.static yX5_glassFor, Cond.code yX5_glassFor cX5_glassFor 2 (some .int), Cond.methodLink RX5 209 yX5_roundedUp, Cond.methodLink RX3 77 yX3_leakOf, Cond.methodLink RX4 50 yX4_addSpot, Cond.instanceMethod yX4_addSpot, Cond.selects RX4 yX4_addSpot yX4_addSpot, Cond.code yX4_addSpot cX4_addSpot 5 none, Cond.methodLink RX4 57 Lib.Math.abs.name, Cond.methodLink RX4 62 Lib.Math.max.name, Cond.static yX5_verdict, Cond.code yX5_verdict cX5_verdict 2 (some .int)]
def wsX5_zone : List Cond := .code yX5_zone cX5_zone 3 (some .int) :: ((wsX5_zone_r1 ++ (wsX5_zone_r2 ++ (wsX5_zone_r3 ++ (wsX5_zone_r4 ++ (wsX5_zone_r5 ++ wsX5_zone_r6))))) ++ wsX50 ++ wsX30 ++ wsX20 ++ wsX40)
def wsX5_greatestGap_r1 : List Cond := [Cond.fieldLink RX5 43 "ZonedLight" "plan" "LZonedLight$Plan;", Cond.fieldLink RX5 12 "ZonedLight" "now" "LZonedLight$Screen;", Cond.fieldLink RX5 117 "ZonedLight$Plan" "level" "[I", Cond.fieldLink RX5 111 "ZonedLight$Screen" "level" "[I", Cond.methodLink RX5 227 Lib.Math.abs.name, Cond.static Lib.Math.abs.name, Cond.initialized "java/lang/Math", Cond.code Lib.Math.abs.name Lib.Math.abs.code 1 (some .int), Cond.methodLink RX5 232 Lib.Math.max.name, Cond.static Lib.Math.max.name, Cond.code Lib.Math.max.name Lib.Math.max.code 2 (some .int), Cond.methodLink RX5 114 yX2_make, Cond.instanceMethod yX2_make, Cond.selects RX2 yX2_make yX2_make, Cond.initialized RX2, Cond.code yX2_make cX2_make 3 none, Cond.fieldLink RX2 15 "ZonedLight$Plan" "peak" "[I", Cond.fieldLink RX2 9 "ZonedLight$Plan" "level" "[I", Cond.fieldLink RX2 23 "ZonedLight$Screen" "dead" "[Z", Cond.fieldLink RX2 31 "ZonedLight$Screen" "setting" "[I", Cond.methodLink RX2 18 yX3_peak, Cond.instanceMethod yX3_peak, Cond.selects RX3 yX3_peak yX3_peak, Cond.initialized RX3]
def wsX5_greatestGap_r2 : List Cond := [Cond.code yX3_peak cX3_peak 4 (some .int), Cond.fieldLink RX3 9 "ZonedLight$Screen" "asked" "[I", Cond.methodLink RX3 50 Lib.Math.max.name, Cond.static yX5_spotOfZone, Cond.initialized RX5, Cond.code yX5_spotOfZone cX5_spotOfZone 4 (some .int), Cond.methodLink RX5 62 yX5_spotAt, Cond.static yX5_spotAt, Cond.code yX5_spotAt cX5_spotAt 2 (some .int), Cond.methodLink RX2 27 yX2_levelByRule, Cond.instanceMethod yX2_levelByRule, Cond.selects RX2 yX2_levelByRule yX2_levelByRule, Cond.code yX2_levelByRule cX2_levelByRule 5 (some .int), Cond.methodLink RX2 49 Lib.Math.min.name, Cond.static Lib.Math.min.name, Cond.code Lib.Math.min.name Lib.Math.min.code 2 (some .int), Cond.methodLink RX2 46 yX2_aim, Cond.instanceMethod yX2_aim, Cond.selects RX2 yX2_aim yX2_aim, Cond.code yX2_aim cX2_aim 3 (some .int), Cond.methodLink RX2 55 yX3_mean, Cond.instanceMethod yX3_mean, Cond.selects RX3 yX3_mean yX3_mean, Cond.code yX3_mean cX3_mean 4 (some .int)]
def wsX5_greatestGap_r3 : List Cond := [Cond.methodLink RX2 34 yX2_raiseAll, Cond.instanceMethod yX2_raiseAll, Cond.selects RX2 yX2_raiseAll yX2_raiseAll, Cond.code yX2_raiseAll cX2_raiseAll 4 none, Cond.methodLink RX2 65 Lib.Math.max.name, Cond.methodLink RX2 58 yX3_glow, Cond.instanceMethod yX3_glow, Cond.selects RX3 yX3_glow yX3_glow, Cond.code yX3_glow cX3_glow 6 (some .int), Cond.fieldLink RX3 22 "ZonedLight$Screen" "setting" "[I", Cond.static yX5_zonesApart, Cond.code yX5_zonesApart cX5_zonesApart 4 (some .int), Cond.static yX5_lightOf, Cond.code yX5_lightOf cX5_lightOf 1 (some .int), Cond.methodLink RX5 235 Lib.Math.min.name, Cond.methodLink RX2 68 yX2_raiseNeighbours, Cond.instanceMethod yX2_raiseNeighbours, Cond.selects RX2 yX2_raiseNeighbours yX2_raiseNeighbours, Cond.code yX2_raiseNeighbours cX2_raiseNeighbours 7 none, Cond.methodLink RX2 79 yX2_helps, Cond.static yX2_helps, Cond.code yX2_helps cX2_helps 3 (some .boolean), Cond.static yX5_roundedUp, Cond.code yX5_roundedUp cX5_roundedUp 2 (some .int)]
def wsX5_greatestGap_r4 : List Cond := [Cond.methodLink RX2 75 yX2_raise, Cond.instanceMethod yX2_raise, Cond.selects RX2 yX2_raise yX2_raise, Cond.code yX2_raise cX2_raise 3 none, Cond.methodLink RX2 38 yX3_asksBlack, Cond.instanceMethod yX3_asksBlack, Cond.selects RX3 yX3_asksBlack yX3_asksBlack, Cond.code yX3_asksBlack cX3_asksBlack 3 (some .boolean), Cond.methodLink RX2 42 yX2_lowerForBlack, Cond.instanceMethod yX2_lowerForBlack, Cond.selects RX2 yX2_lowerForBlack yX2_lowerForBlack, Cond.code yX2_lowerForBlack cX2_lowerForBlack 4 none, Cond.methodLink RX2 86 yX3_leakOf, Cond.instanceMethod yX3_leakOf, Cond.selects RX3 yX3_leakOf yX3_leakOf, Cond.code yX3_leakOf cX3_leakOf 2 (some .int)]
def wsX5_greatestGap : List Cond := .code yX5_greatestGap cX5_greatestGap 3 (some .int) :: ((wsX5_greatestGap_r1 ++ (wsX5_greatestGap_r2 ++ (wsX5_greatestGap_r3 ++ wsX5_greatestGap_r4))) ++ wsX50 ++ wsX20 ++ wsX30)
def wsX5_countSpots_r1 : List Cond := [Cond.fieldLink RX5 50 "ZonedLight" "tally" "LZonedLight$Tally;", Cond.fieldLink RX5 12 "ZonedLight" "now" "LZonedLight$Screen;", Cond.fieldLink RX5 181 "ZonedLight$Tally" "tooDark" "I", Cond.fieldLink RX5 184 "ZonedLight$Tally" "tooBright" "I", Cond.fieldLink RX5 215 "ZonedLight$Tally" "off" "I", Cond.fieldLink RX5 224 "ZonedLight$Tally" "greatestOff" "I", Cond.methodLink RX5 202 yX4_takeAll, Cond.instanceMethod yX4_takeAll, Cond.selects RX4 yX4_takeAll yX4_takeAll, Cond.initialized RX4, Cond.code yX4_takeAll cX4_takeAll 3 none, Cond.methodLink RX4 27 yX4_clear, Cond.instanceMethod yX4_clear, Cond.selects RX4 yX4_clear yX4_clear, Cond.code yX4_clear cX4_clear 1 none, Cond.fieldLink RX4 9 "ZonedLight$Tally" "tooDark" "I", Cond.fieldLink RX4 15 "ZonedLight$Tally" "tooBright" "I", Cond.fieldLink RX4 18 "ZonedLight$Tally" "off" "I", Cond.fieldLink RX4 21 "ZonedLight$Tally" "greatestOff" "I", Cond.fieldLink RX4 24 "ZonedLight$Tally" "shown" "I", Cond.methodLink RX4 30 yX4_addZone, Cond.instanceMethod yX4_addZone, Cond.selects RX4 yX4_addZone yX4_addZone, Cond.code yX4_addZone cX4_addZone 6 none]
def wsX5_countSpots_r2 : List Cond := [Cond.fieldLink RX4 40 "ZonedLight$Screen" "asked" "[I", Cond.methodLink RX4 34 yX3_light, Cond.instanceMethod yX3_light, Cond.selects RX3 yX3_light yX3_light, Cond.initialized RX3, Cond.code yX3_light cX3_light 2 (some .int), Cond.fieldLink RX3 15 "ZonedLight$Screen" "level" "[I", Cond.methodLink RX3 66 yX3_glow, Cond.instanceMethod yX3_glow, Cond.selects RX3 yX3_glow yX3_glow, Cond.code yX3_glow cX3_glow 6 (some .int), Cond.fieldLink RX3 22 "ZonedLight$Screen" "setting" "[I", Cond.static yX5_zonesApart, Cond.initialized RX5, Cond.code yX5_zonesApart cX5_zonesApart 4 (some .int), Cond.methodLink RX5 227 Lib.Math.abs.name, Cond.static Lib.Math.abs.name, Cond.initialized "java/lang/Math", Cond.code Lib.Math.abs.name Lib.Math.abs.code 1 (some .int), Cond.methodLink RX5 232 Lib.Math.max.name, Cond.static Lib.Math.max.name, Cond.code Lib.Math.max.name Lib.Math.max.code 2 (some .int), Cond.static yX5_lightOf, Cond.code yX5_lightOf cX5_lightOf 1 (some .int)]
def wsX5_countSpots_r3 : List Cond := [Cond.methodLink RX5 235 Lib.Math.min.name, Cond.static Lib.Math.min.name, Cond.code Lib.Math.min.name Lib.Math.min.code 2 (some .int), Cond.static yX5_spotOfZone, Cond.code yX5_spotOfZone cX5_spotOfZone 4 (some .int), Cond.methodLink RX5 62 yX5_spotAt, Cond.static yX5_spotAt, Cond.code yX5_spotAt cX5_spotAt 2 (some .int), Cond.methodLink RX4 48 yX3_shown, Cond.instanceMethod yX3_shown, Cond.selects RX3 yX3_shown yX3_shown, Cond.code yX3_shown cX3_shown 3 (some .int), Cond.methodLink RX3 50 Lib.Math.max.name, Cond.static yX5_glassFor, Cond.code yX5_glassFor cX5_glassFor 2 (some .int), Cond.methodLink RX5 209 yX5_roundedUp, Cond.static yX5_roundedUp, Cond.code yX5_roundedUp cX5_roundedUp 2 (some .int), Cond.methodLink RX3 77 yX3_leakOf, Cond.instanceMethod yX3_leakOf, Cond.selects RX3 yX3_leakOf yX3_leakOf, Cond.code yX3_leakOf cX3_leakOf 2 (some .int), Cond.methodLink RX4 50 yX4_addSpot, Cond.instanceMethod yX4_addSpot]
def wsX5_countSpots_r4 : List Cond := [Cond.selects RX4 yX4_addSpot yX4_addSpot, Cond.code yX4_addSpot cX4_addSpot 5 none, Cond.methodLink RX4 57 Lib.Math.abs.name, Cond.methodLink RX4 62 Lib.Math.max.name, Cond.static yX5_verdict, Cond.code yX5_verdict cX5_verdict 2 (some .int)]
def wsX5_countSpots : List Cond := .code yX5_countSpots cX5_countSpots 2 (some .int) :: ((wsX5_countSpots_r1 ++ (wsX5_countSpots_r2 ++ (wsX5_countSpots_r3 ++ wsX5_countSpots_r4))) ++ wsX50 ++ wsX40 ++ wsX30)
def wsX5_count_r1 : List Cond := [Cond.fieldLink RX5 12 "ZonedLight" "now" "LZonedLight$Screen;", Cond.fieldLink RX5 131 "ZonedLight$Screen" "setting" "[I", Cond.fieldLink RX5 152 "ZonedLight$Screen" "frames" "I", Cond.fieldLink RX5 187 "ZonedLight$Screen" "flicker" "I", Cond.fieldLink RX5 190 "ZonedLight$Screen" "powerSoFar" "I", Cond.fieldLink RX5 26 "ZonedLight" "history" "LZonedLight$History;", Cond.fieldLink RX5 146 "ZonedLight$History" "size" "I", Cond.fieldLink RX5 33 "ZonedLight" "text" "LZonedLight$PictureText;", Cond.fieldLink RX5 138 "ZonedLight$PictureText" "length" "I", Cond.methodLink RX5 122 yX3_power, Cond.instanceMethod yX3_power, Cond.selects RX3 yX3_power yX3_power, Cond.initialized RX3, Cond.code yX3_power cX3_power 3 (some .int), Cond.fieldLink RX3 15 "ZonedLight$Screen" "level" "[I", Cond.methodLink RX5 193 yX3_deadZones, Cond.instanceMethod yX3_deadZones, Cond.selects RX3 yX3_deadZones yX3_deadZones, Cond.code yX3_deadZones cX3_deadZones 3 (some .int), Cond.fieldLink RX3 18 "ZonedLight$Screen" "dead" "[Z", Cond.methodLink RX5 196 yX5_greatestGap, Cond.instanceMethod yX5_greatestGap, Cond.selects RX5 yX5_greatestGap yX5_greatestGap, Cond.initialized RX5]
def wsX5_count_r2 : List Cond := [Cond.code yX5_greatestGap cX5_greatestGap 3 (some .int), Cond.fieldLink RX5 43 "ZonedLight" "plan" "LZonedLight$Plan;", Cond.fieldLink RX5 117 "ZonedLight$Plan" "level" "[I", Cond.fieldLink RX5 111 "ZonedLight$Screen" "level" "[I", Cond.methodLink RX5 227 Lib.Math.abs.name, Cond.static Lib.Math.abs.name, Cond.initialized "java/lang/Math", Cond.code Lib.Math.abs.name Lib.Math.abs.code 1 (some .int), Cond.methodLink RX5 232 Lib.Math.max.name, Cond.static Lib.Math.max.name, Cond.code Lib.Math.max.name Lib.Math.max.code 2 (some .int), Cond.methodLink RX5 114 yX2_make, Cond.instanceMethod yX2_make, Cond.selects RX2 yX2_make yX2_make, Cond.initialized RX2, Cond.code yX2_make cX2_make 3 none, Cond.fieldLink RX2 15 "ZonedLight$Plan" "peak" "[I", Cond.fieldLink RX2 9 "ZonedLight$Plan" "level" "[I", Cond.fieldLink RX2 23 "ZonedLight$Screen" "dead" "[Z", Cond.fieldLink RX2 31 "ZonedLight$Screen" "setting" "[I", Cond.methodLink RX2 18 yX3_peak, Cond.instanceMethod yX3_peak, Cond.selects RX3 yX3_peak yX3_peak, Cond.code yX3_peak cX3_peak 4 (some .int)]
def wsX5_count_r3 : List Cond := [Cond.fieldLink RX3 9 "ZonedLight$Screen" "asked" "[I", Cond.methodLink RX3 50 Lib.Math.max.name, Cond.static yX5_spotOfZone, Cond.code yX5_spotOfZone cX5_spotOfZone 4 (some .int), Cond.methodLink RX5 62 yX5_spotAt, Cond.static yX5_spotAt, Cond.code yX5_spotAt cX5_spotAt 2 (some .int), Cond.methodLink RX2 27 yX2_levelByRule, Cond.instanceMethod yX2_levelByRule, Cond.selects RX2 yX2_levelByRule yX2_levelByRule, Cond.code yX2_levelByRule cX2_levelByRule 5 (some .int), Cond.methodLink RX2 49 Lib.Math.min.name, Cond.static Lib.Math.min.name, Cond.code Lib.Math.min.name Lib.Math.min.code 2 (some .int), Cond.methodLink RX2 46 yX2_aim, Cond.instanceMethod yX2_aim, Cond.selects RX2 yX2_aim yX2_aim, Cond.code yX2_aim cX2_aim 3 (some .int), Cond.methodLink RX2 55 yX3_mean, Cond.instanceMethod yX3_mean, Cond.selects RX3 yX3_mean yX3_mean, Cond.code yX3_mean cX3_mean 4 (some .int), Cond.methodLink RX2 34 yX2_raiseAll, Cond.instanceMethod yX2_raiseAll]
def wsX5_count_r4 : List Cond := [Cond.selects RX2 yX2_raiseAll yX2_raiseAll, Cond.code yX2_raiseAll cX2_raiseAll 4 none, Cond.methodLink RX2 65 Lib.Math.max.name, Cond.methodLink RX2 58 yX3_glow, Cond.instanceMethod yX3_glow, Cond.selects RX3 yX3_glow yX3_glow, Cond.code yX3_glow cX3_glow 6 (some .int), Cond.fieldLink RX3 22 "ZonedLight$Screen" "setting" "[I", Cond.static yX5_zonesApart, Cond.code yX5_zonesApart cX5_zonesApart 4 (some .int), Cond.static yX5_lightOf, Cond.code yX5_lightOf cX5_lightOf 1 (some .int), Cond.methodLink RX5 235 Lib.Math.min.name, Cond.methodLink RX2 68 yX2_raiseNeighbours, Cond.instanceMethod yX2_raiseNeighbours, Cond.selects RX2 yX2_raiseNeighbours yX2_raiseNeighbours, Cond.code yX2_raiseNeighbours cX2_raiseNeighbours 7 none, Cond.methodLink RX2 79 yX2_helps, Cond.static yX2_helps, Cond.code yX2_helps cX2_helps 3 (some .boolean), Cond.static yX5_roundedUp, Cond.code yX5_roundedUp cX5_roundedUp 2 (some .int), Cond.methodLink RX2 75 yX2_raise, Cond.instanceMethod yX2_raise]
def wsX5_count_r5 : List Cond := [Cond.selects RX2 yX2_raise yX2_raise, Cond.code yX2_raise cX2_raise 3 none, Cond.methodLink RX2 38 yX3_asksBlack, Cond.instanceMethod yX3_asksBlack, Cond.selects RX3 yX3_asksBlack yX3_asksBlack, Cond.code yX3_asksBlack cX3_asksBlack 3 (some .boolean), Cond.methodLink RX2 42 yX2_lowerForBlack, Cond.instanceMethod yX2_lowerForBlack, Cond.selects RX2 yX2_lowerForBlack yX2_lowerForBlack, Cond.code yX2_lowerForBlack cX2_lowerForBlack 4 none, Cond.methodLink RX2 86 yX3_leakOf, Cond.instanceMethod yX3_leakOf, Cond.selects RX3 yX3_leakOf yX3_leakOf, Cond.code yX3_leakOf cX3_leakOf 2 (some .int), Cond.methodLink RX5 199 yX5_countSpots, Cond.instanceMethod yX5_countSpots, Cond.selects RX5 yX5_countSpots yX5_countSpots, Cond.code yX5_countSpots cX5_countSpots 2 (some .int), Cond.fieldLink RX5 50 "ZonedLight" "tally" "LZonedLight$Tally;", Cond.fieldLink RX5 181 "ZonedLight$Tally" "tooDark" "I", Cond.fieldLink RX5 184 "ZonedLight$Tally" "tooBright" "I", Cond.fieldLink RX5 215 "ZonedLight$Tally" "off" "I", Cond.fieldLink RX5 224 "ZonedLight$Tally" "greatestOff" "I", Cond.methodLink RX5 202 yX4_takeAll]
def wsX5_count_r6 : List Cond := [Cond.instanceMethod yX4_takeAll, Cond.selects RX4 yX4_takeAll yX4_takeAll, Cond.initialized RX4, Cond.code yX4_takeAll cX4_takeAll 3 none, Cond.methodLink RX4 27 yX4_clear, Cond.instanceMethod yX4_clear, Cond.selects RX4 yX4_clear yX4_clear, Cond.code yX4_clear cX4_clear 1 none, Cond.fieldLink RX4 9 "ZonedLight$Tally" "tooDark" "I", Cond.fieldLink RX4 15 "ZonedLight$Tally" "tooBright" "I", Cond.fieldLink RX4 18 "ZonedLight$Tally" "off" "I", Cond.fieldLink RX4 21 "ZonedLight$Tally" "greatestOff" "I", Cond.fieldLink RX4 24 "ZonedLight$Tally" "shown" "I", Cond.methodLink RX4 30 yX4_addZone, Cond.instanceMethod yX4_addZone, Cond.selects RX4 yX4_addZone yX4_addZone, Cond.code yX4_addZone cX4_addZone 6 none, Cond.fieldLink RX4 40 "ZonedLight$Screen" "asked" "[I", Cond.methodLink RX4 34 yX3_light, Cond.instanceMethod yX3_light, Cond.selects RX3 yX3_light yX3_light, Cond.code yX3_light cX3_light 2 (some .int), Cond.methodLink RX3 66 yX3_glow, Cond.methodLink RX4 48 yX3_shown]
def wsX5_count_r7 : List Cond := [Cond.instanceMethod yX3_shown, Cond.selects RX3 yX3_shown yX3_shown, Cond.code yX3_shown cX3_shown 3 (some .int), Cond.static yX5_glassFor, Cond.code yX5_glassFor cX5_glassFor 2 (some .int), Cond.methodLink RX5 209 yX5_roundedUp, Cond.methodLink RX3 77 yX3_leakOf, Cond.methodLink RX4 50 yX4_addSpot, Cond.instanceMethod yX4_addSpot, Cond.selects RX4 yX4_addSpot yX4_addSpot, Cond.code yX4_addSpot cX4_addSpot 5 none, Cond.methodLink RX4 57 Lib.Math.abs.name, Cond.methodLink RX4 62 Lib.Math.max.name, Cond.static yX5_verdict, Cond.code yX5_verdict cX5_verdict 2 (some .int)]
def wsX5_count : List Cond := .code yX5_count cX5_count 2 (some .int) :: ((wsX5_count_r1 ++ (wsX5_count_r2 ++ (wsX5_count_r3 ++ (wsX5_count_r4 ++ (wsX5_count_r5 ++ (wsX5_count_r6 ++ wsX5_count_r7)))))) ++ wsX50 ++ wsX30 ++ wsX00 ++ wsX10 ++ wsX20 ++ wsX40)
def wsX5_meanShown_r1 : List Cond := [Cond.fieldLink RX5 50 "ZonedLight" "tally" "LZonedLight$Tally;", Cond.fieldLink RX5 12 "ZonedLight" "now" "LZonedLight$Screen;", Cond.fieldLink RX5 205 "ZonedLight$Tally" "shown" "I", Cond.constantDouble RX5 207 (4643774165772402688), Cond.methodLink RX5 202 yX4_takeAll, Cond.instanceMethod yX4_takeAll, Cond.selects RX4 yX4_takeAll yX4_takeAll, Cond.initialized RX4, Cond.code yX4_takeAll cX4_takeAll 3 none, Cond.methodLink RX4 27 yX4_clear, Cond.instanceMethod yX4_clear, Cond.selects RX4 yX4_clear yX4_clear, Cond.code yX4_clear cX4_clear 1 none, Cond.fieldLink RX4 9 "ZonedLight$Tally" "tooDark" "I", Cond.fieldLink RX4 15 "ZonedLight$Tally" "tooBright" "I", Cond.fieldLink RX4 18 "ZonedLight$Tally" "off" "I", Cond.fieldLink RX4 21 "ZonedLight$Tally" "greatestOff" "I", Cond.fieldLink RX4 24 "ZonedLight$Tally" "shown" "I", Cond.methodLink RX4 30 yX4_addZone, Cond.instanceMethod yX4_addZone, Cond.selects RX4 yX4_addZone yX4_addZone, Cond.code yX4_addZone cX4_addZone 6 none, Cond.fieldLink RX4 40 "ZonedLight$Screen" "asked" "[I", Cond.methodLink RX4 34 yX3_light]
def wsX5_meanShown_r2 : List Cond := [Cond.instanceMethod yX3_light, Cond.selects RX3 yX3_light yX3_light, Cond.initialized RX3, Cond.code yX3_light cX3_light 2 (some .int), Cond.fieldLink RX3 15 "ZonedLight$Screen" "level" "[I", Cond.methodLink RX3 66 yX3_glow, Cond.instanceMethod yX3_glow, Cond.selects RX3 yX3_glow yX3_glow, Cond.code yX3_glow cX3_glow 6 (some .int), Cond.fieldLink RX3 22 "ZonedLight$Screen" "setting" "[I", Cond.static yX5_zonesApart, Cond.initialized RX5, Cond.code yX5_zonesApart cX5_zonesApart 4 (some .int), Cond.methodLink RX5 227 Lib.Math.abs.name, Cond.static Lib.Math.abs.name, Cond.initialized "java/lang/Math", Cond.code Lib.Math.abs.name Lib.Math.abs.code 1 (some .int), Cond.methodLink RX5 232 Lib.Math.max.name, Cond.static Lib.Math.max.name, Cond.code Lib.Math.max.name Lib.Math.max.code 2 (some .int), Cond.static yX5_lightOf, Cond.code yX5_lightOf cX5_lightOf 1 (some .int), Cond.methodLink RX5 235 Lib.Math.min.name, Cond.static Lib.Math.min.name]
def wsX5_meanShown_r3 : List Cond := [Cond.code Lib.Math.min.name Lib.Math.min.code 2 (some .int), Cond.static yX5_spotOfZone, Cond.code yX5_spotOfZone cX5_spotOfZone 4 (some .int), Cond.methodLink RX5 62 yX5_spotAt, Cond.static yX5_spotAt, Cond.code yX5_spotAt cX5_spotAt 2 (some .int), Cond.methodLink RX4 48 yX3_shown, Cond.instanceMethod yX3_shown, Cond.selects RX3 yX3_shown yX3_shown, Cond.code yX3_shown cX3_shown 3 (some .int), Cond.methodLink RX3 50 Lib.Math.max.name, Cond.static yX5_glassFor, Cond.code yX5_glassFor cX5_glassFor 2 (some .int), Cond.methodLink RX5 209 yX5_roundedUp, Cond.static yX5_roundedUp, Cond.code yX5_roundedUp cX5_roundedUp 2 (some .int), Cond.methodLink RX3 77 yX3_leakOf, Cond.instanceMethod yX3_leakOf, Cond.selects RX3 yX3_leakOf yX3_leakOf, Cond.code yX3_leakOf cX3_leakOf 2 (some .int), Cond.methodLink RX4 50 yX4_addSpot, Cond.instanceMethod yX4_addSpot, Cond.selects RX4 yX4_addSpot yX4_addSpot, Cond.code yX4_addSpot cX4_addSpot 5 none]
def wsX5_meanShown_r4 : List Cond := [Cond.methodLink RX4 57 Lib.Math.abs.name, Cond.methodLink RX4 62 Lib.Math.max.name, Cond.static yX5_verdict, Cond.code yX5_verdict cX5_verdict 2 (some .int)]
def wsX5_meanShown : List Cond := .code yX5_meanShown cX5_meanShown 1 (some .double) :: ((wsX5_meanShown_r1 ++ (wsX5_meanShown_r2 ++ (wsX5_meanShown_r3 ++ wsX5_meanShown_r4))) ++ wsX50 ++ wsX40 ++ wsX30)
def wsX5_restsIn_r1 : List Cond := [Cond.fieldLink RX5 12 "ZonedLight" "now" "LZonedLight$Screen;", Cond.fieldLink RX5 131 "ZonedLight$Screen" "setting" "[I", Cond.methodLink RX5 196 yX5_greatestGap, Cond.instanceMethod yX5_greatestGap, Cond.selects RX5 yX5_greatestGap yX5_greatestGap, Cond.initialized RX5, Cond.code yX5_greatestGap cX5_greatestGap 3 (some .int), Cond.fieldLink RX5 43 "ZonedLight" "plan" "LZonedLight$Plan;", Cond.fieldLink RX5 117 "ZonedLight$Plan" "level" "[I", Cond.fieldLink RX5 111 "ZonedLight$Screen" "level" "[I", Cond.methodLink RX5 227 Lib.Math.abs.name, Cond.static Lib.Math.abs.name, Cond.initialized "java/lang/Math", Cond.code Lib.Math.abs.name Lib.Math.abs.code 1 (some .int), Cond.methodLink RX5 232 Lib.Math.max.name, Cond.static Lib.Math.max.name, Cond.code Lib.Math.max.name Lib.Math.max.code 2 (some .int), Cond.methodLink RX5 114 yX2_make, Cond.instanceMethod yX2_make, Cond.selects RX2 yX2_make yX2_make, Cond.initialized RX2, Cond.code yX2_make cX2_make 3 none, Cond.fieldLink RX2 15 "ZonedLight$Plan" "peak" "[I", Cond.fieldLink RX2 9 "ZonedLight$Plan" "level" "[I"]
def wsX5_restsIn_r2 : List Cond := [Cond.fieldLink RX2 23 "ZonedLight$Screen" "dead" "[Z", Cond.fieldLink RX2 31 "ZonedLight$Screen" "setting" "[I", Cond.methodLink RX2 18 yX3_peak, Cond.instanceMethod yX3_peak, Cond.selects RX3 yX3_peak yX3_peak, Cond.initialized RX3, Cond.code yX3_peak cX3_peak 4 (some .int), Cond.fieldLink RX3 9 "ZonedLight$Screen" "asked" "[I", Cond.methodLink RX3 50 Lib.Math.max.name, Cond.static yX5_spotOfZone, Cond.code yX5_spotOfZone cX5_spotOfZone 4 (some .int), Cond.methodLink RX5 62 yX5_spotAt, Cond.static yX5_spotAt, Cond.code yX5_spotAt cX5_spotAt 2 (some .int), Cond.methodLink RX2 27 yX2_levelByRule, Cond.instanceMethod yX2_levelByRule, Cond.selects RX2 yX2_levelByRule yX2_levelByRule, Cond.code yX2_levelByRule cX2_levelByRule 5 (some .int), Cond.methodLink RX2 49 Lib.Math.min.name, Cond.static Lib.Math.min.name, Cond.code Lib.Math.min.name Lib.Math.min.code 2 (some .int), Cond.methodLink RX2 46 yX2_aim, Cond.instanceMethod yX2_aim, Cond.selects RX2 yX2_aim yX2_aim]
def wsX5_restsIn_r3 : List Cond := [Cond.code yX2_aim cX2_aim 3 (some .int), Cond.methodLink RX2 55 yX3_mean, Cond.instanceMethod yX3_mean, Cond.selects RX3 yX3_mean yX3_mean, Cond.code yX3_mean cX3_mean 4 (some .int), Cond.methodLink RX2 34 yX2_raiseAll, Cond.instanceMethod yX2_raiseAll, Cond.selects RX2 yX2_raiseAll yX2_raiseAll, Cond.code yX2_raiseAll cX2_raiseAll 4 none, Cond.methodLink RX2 65 Lib.Math.max.name, Cond.methodLink RX2 58 yX3_glow, Cond.instanceMethod yX3_glow, Cond.selects RX3 yX3_glow yX3_glow, Cond.code yX3_glow cX3_glow 6 (some .int), Cond.fieldLink RX3 22 "ZonedLight$Screen" "setting" "[I", Cond.static yX5_zonesApart, Cond.code yX5_zonesApart cX5_zonesApart 4 (some .int), Cond.static yX5_lightOf, Cond.code yX5_lightOf cX5_lightOf 1 (some .int), Cond.methodLink RX5 235 Lib.Math.min.name, Cond.methodLink RX2 68 yX2_raiseNeighbours, Cond.instanceMethod yX2_raiseNeighbours, Cond.selects RX2 yX2_raiseNeighbours yX2_raiseNeighbours, Cond.code yX2_raiseNeighbours cX2_raiseNeighbours 7 none]
def wsX5_restsIn_r4 : List Cond := [Cond.methodLink RX2 79 yX2_helps, Cond.static yX2_helps, Cond.code yX2_helps cX2_helps 3 (some .boolean), Cond.static yX5_roundedUp, Cond.code yX5_roundedUp cX5_roundedUp 2 (some .int), Cond.methodLink RX2 75 yX2_raise, Cond.instanceMethod yX2_raise, Cond.selects RX2 yX2_raise yX2_raise, Cond.code yX2_raise cX2_raise 3 none, Cond.methodLink RX2 38 yX3_asksBlack, Cond.instanceMethod yX3_asksBlack, Cond.selects RX3 yX3_asksBlack yX3_asksBlack, Cond.code yX3_asksBlack cX3_asksBlack 3 (some .boolean), Cond.methodLink RX2 42 yX2_lowerForBlack, Cond.instanceMethod yX2_lowerForBlack, Cond.selects RX2 yX2_lowerForBlack yX2_lowerForBlack, Cond.code yX2_lowerForBlack cX2_lowerForBlack 4 none, Cond.methodLink RX2 86 yX3_leakOf, Cond.instanceMethod yX3_leakOf, Cond.selects RX3 yX3_leakOf yX3_leakOf, Cond.code yX3_leakOf cX3_leakOf 2 (some .int), Cond.methodLink RX5 209 yX5_roundedUp]
def wsX5_restsIn : List Cond := .code yX5_restsIn cX5_restsIn 1 (some .int) :: ((wsX5_restsIn_r1 ++ (wsX5_restsIn_r2 ++ (wsX5_restsIn_r3 ++ wsX5_restsIn_r4))) ++ wsX50 ++ wsX30 ++ wsX20)
def wsX5_settleTrial_r1 : List Cond := [Cond.fieldLink RX5 43 "ZonedLight" "plan" "LZonedLight$Plan;", Cond.fieldLink RX5 37 "ZonedLight" "trial" "LZonedLight$Screen;", Cond.fieldLink RX5 117 "ZonedLight$Plan" "level" "[I", Cond.fieldLink RX5 111 "ZonedLight$Screen" "level" "[I", Cond.methodLink RX5 218 arraycopyName, Cond.native arraycopyName, Cond.static arraycopyName, Cond.initialized "java/lang/System", Cond.fieldLink RX5 50 "ZonedLight" "tally" "LZonedLight$Tally;", Cond.methodLink RX5 114 yX2_make, Cond.instanceMethod yX2_make, Cond.selects RX2 yX2_make yX2_make, Cond.initialized RX2, Cond.code yX2_make cX2_make 3 none, Cond.fieldLink RX2 15 "ZonedLight$Plan" "peak" "[I", Cond.fieldLink RX2 9 "ZonedLight$Plan" "level" "[I", Cond.fieldLink RX2 23 "ZonedLight$Screen" "dead" "[Z", Cond.fieldLink RX2 31 "ZonedLight$Screen" "setting" "[I", Cond.methodLink RX2 18 yX3_peak, Cond.instanceMethod yX3_peak, Cond.selects RX3 yX3_peak yX3_peak, Cond.initialized RX3, Cond.code yX3_peak cX3_peak 4 (some .int), Cond.fieldLink RX3 9 "ZonedLight$Screen" "asked" "[I"]
def wsX5_settleTrial_r2 : List Cond := [Cond.methodLink RX3 50 Lib.Math.max.name, Cond.static Lib.Math.max.name, Cond.initialized "java/lang/Math", Cond.code Lib.Math.max.name Lib.Math.max.code 2 (some .int), Cond.static yX5_spotOfZone, Cond.initialized RX5, Cond.code yX5_spotOfZone cX5_spotOfZone 4 (some .int), Cond.methodLink RX5 62 yX5_spotAt, Cond.static yX5_spotAt, Cond.code yX5_spotAt cX5_spotAt 2 (some .int), Cond.methodLink RX2 27 yX2_levelByRule, Cond.instanceMethod yX2_levelByRule, Cond.selects RX2 yX2_levelByRule yX2_levelByRule, Cond.code yX2_levelByRule cX2_levelByRule 5 (some .int), Cond.methodLink RX2 49 Lib.Math.min.name, Cond.static Lib.Math.min.name, Cond.code Lib.Math.min.name Lib.Math.min.code 2 (some .int), Cond.methodLink RX2 46 yX2_aim, Cond.instanceMethod yX2_aim, Cond.selects RX2 yX2_aim yX2_aim, Cond.code yX2_aim cX2_aim 3 (some .int), Cond.methodLink RX2 55 yX3_mean, Cond.instanceMethod yX3_mean, Cond.selects RX3 yX3_mean yX3_mean]
def wsX5_settleTrial_r3 : List Cond := [Cond.code yX3_mean cX3_mean 4 (some .int), Cond.methodLink RX2 34 yX2_raiseAll, Cond.instanceMethod yX2_raiseAll, Cond.selects RX2 yX2_raiseAll yX2_raiseAll, Cond.code yX2_raiseAll cX2_raiseAll 4 none, Cond.methodLink RX2 65 Lib.Math.max.name, Cond.methodLink RX2 58 yX3_glow, Cond.instanceMethod yX3_glow, Cond.selects RX3 yX3_glow yX3_glow, Cond.code yX3_glow cX3_glow 6 (some .int), Cond.fieldLink RX3 22 "ZonedLight$Screen" "setting" "[I", Cond.static yX5_zonesApart, Cond.code yX5_zonesApart cX5_zonesApart 4 (some .int), Cond.methodLink RX5 227 Lib.Math.abs.name, Cond.static Lib.Math.abs.name, Cond.code Lib.Math.abs.name Lib.Math.abs.code 1 (some .int), Cond.methodLink RX5 232 Lib.Math.max.name, Cond.static yX5_lightOf, Cond.code yX5_lightOf cX5_lightOf 1 (some .int), Cond.methodLink RX5 235 Lib.Math.min.name, Cond.methodLink RX2 68 yX2_raiseNeighbours, Cond.instanceMethod yX2_raiseNeighbours, Cond.selects RX2 yX2_raiseNeighbours yX2_raiseNeighbours, Cond.code yX2_raiseNeighbours cX2_raiseNeighbours 7 none]
def wsX5_settleTrial_r4 : List Cond := [Cond.methodLink RX2 79 yX2_helps, Cond.static yX2_helps, Cond.code yX2_helps cX2_helps 3 (some .boolean), Cond.static yX5_roundedUp, Cond.code yX5_roundedUp cX5_roundedUp 2 (some .int), Cond.methodLink RX2 75 yX2_raise, Cond.instanceMethod yX2_raise, Cond.selects RX2 yX2_raise yX2_raise, Cond.code yX2_raise cX2_raise 3 none, Cond.methodLink RX2 38 yX3_asksBlack, Cond.instanceMethod yX3_asksBlack, Cond.selects RX3 yX3_asksBlack yX3_asksBlack, Cond.code yX3_asksBlack cX3_asksBlack 3 (some .boolean), Cond.methodLink RX2 42 yX2_lowerForBlack, Cond.instanceMethod yX2_lowerForBlack, Cond.selects RX2 yX2_lowerForBlack yX2_lowerForBlack, Cond.code yX2_lowerForBlack cX2_lowerForBlack 4 none, Cond.methodLink RX2 86 yX3_leakOf, Cond.instanceMethod yX3_leakOf, Cond.selects RX3 yX3_leakOf yX3_leakOf, Cond.code yX3_leakOf cX3_leakOf 2 (some .int), Cond.methodLink RX5 202 yX4_takeAll, Cond.instanceMethod yX4_takeAll, Cond.selects RX4 yX4_takeAll yX4_takeAll]
def wsX5_settleTrial_r5 : List Cond := [Cond.initialized RX4, Cond.code yX4_takeAll cX4_takeAll 3 none, Cond.methodLink RX4 27 yX4_clear, Cond.instanceMethod yX4_clear, Cond.selects RX4 yX4_clear yX4_clear, Cond.code yX4_clear cX4_clear 1 none, Cond.fieldLink RX4 9 "ZonedLight$Tally" "tooDark" "I", Cond.fieldLink RX4 15 "ZonedLight$Tally" "tooBright" "I", Cond.fieldLink RX4 18 "ZonedLight$Tally" "off" "I", Cond.fieldLink RX4 21 "ZonedLight$Tally" "greatestOff" "I", Cond.fieldLink RX4 24 "ZonedLight$Tally" "shown" "I", Cond.methodLink RX4 30 yX4_addZone, Cond.instanceMethod yX4_addZone, Cond.selects RX4 yX4_addZone yX4_addZone, Cond.code yX4_addZone cX4_addZone 6 none, Cond.fieldLink RX4 40 "ZonedLight$Screen" "asked" "[I", Cond.methodLink RX4 34 yX3_light, Cond.instanceMethod yX3_light, Cond.selects RX3 yX3_light yX3_light, Cond.code yX3_light cX3_light 2 (some .int), Cond.fieldLink RX3 15 "ZonedLight$Screen" "level" "[I", Cond.methodLink RX3 66 yX3_glow, Cond.methodLink RX4 48 yX3_shown, Cond.instanceMethod yX3_shown]
def wsX5_settleTrial_r6 : List Cond := [Cond.selects RX3 yX3_shown yX3_shown, Cond.code yX3_shown cX3_shown 3 (some .int), Cond.static yX5_glassFor, Cond.code yX5_glassFor cX5_glassFor 2 (some .int), Cond.methodLink RX5 209 yX5_roundedUp, Cond.methodLink RX3 77 yX3_leakOf, Cond.methodLink RX4 50 yX4_addSpot, Cond.instanceMethod yX4_addSpot, Cond.selects RX4 yX4_addSpot yX4_addSpot, Cond.code yX4_addSpot cX4_addSpot 5 none, Cond.methodLink RX4 57 Lib.Math.abs.name, Cond.methodLink RX4 62 Lib.Math.max.name, Cond.static yX5_verdict, Cond.code yX5_verdict cX5_verdict 2 (some .int)]
def wsX5_settleTrial : List Cond := .code yX5_settleTrial cX5_settleTrial 1 none :: ((wsX5_settleTrial_r1 ++ (wsX5_settleTrial_r2 ++ (wsX5_settleTrial_r3 ++ (wsX5_settleTrial_r4 ++ (wsX5_settleTrial_r5 ++ wsX5_settleTrial_r6))))) ++ wsX50 ++ wsX20 ++ wsX30 ++ wsX40)
def wsX5_ifRule_r1 : List Cond := [Cond.fieldLink RX5 37 "ZonedLight" "trial" "LZonedLight$Screen;", Cond.fieldLink RX5 12 "ZonedLight" "now" "LZonedLight$Screen;", Cond.fieldLink RX5 131 "ZonedLight$Screen" "setting" "[I", Cond.fieldLink RX5 50 "ZonedLight" "tally" "LZonedLight$Tally;", Cond.fieldLink RX5 215 "ZonedLight$Tally" "off" "I", Cond.fieldLink RX5 181 "ZonedLight$Tally" "tooDark" "I", Cond.fieldLink RX5 184 "ZonedLight$Tally" "tooBright" "I", Cond.methodLink RX5 149 yX3_copyFrom, Cond.instanceMethod yX3_copyFrom, Cond.selects RX3 yX3_copyFrom yX3_copyFrom, Cond.initialized RX3, Cond.code yX3_copyFrom cX3_copyFrom 3 none, Cond.fieldLink RX3 9 "ZonedLight$Screen" "asked" "[I", Cond.methodLink RX3 38 arraycopyName, Cond.native arraycopyName, Cond.static arraycopyName, Cond.initialized "java/lang/System", Cond.fieldLink RX3 15 "ZonedLight$Screen" "level" "[I", Cond.fieldLink RX3 22 "ZonedLight$Screen" "setting" "[I", Cond.fieldLink RX3 18 "ZonedLight$Screen" "dead" "[Z", Cond.fieldLink RX3 25 "ZonedLight$Screen" "frames" "I", Cond.fieldLink RX3 29 "ZonedLight$Screen" "flicker" "I", Cond.fieldLink RX3 32 "ZonedLight$Screen" "powerSoFar" "I", Cond.methodLink RX5 212 yX5_settleTrial]
def wsX5_ifRule_r2 : List Cond := [Cond.instanceMethod yX5_settleTrial, Cond.selects RX5 yX5_settleTrial yX5_settleTrial, Cond.initialized RX5, Cond.code yX5_settleTrial cX5_settleTrial 1 none, Cond.fieldLink RX5 43 "ZonedLight" "plan" "LZonedLight$Plan;", Cond.fieldLink RX5 117 "ZonedLight$Plan" "level" "[I", Cond.fieldLink RX5 111 "ZonedLight$Screen" "level" "[I", Cond.methodLink RX5 218 arraycopyName, Cond.methodLink RX5 114 yX2_make, Cond.instanceMethod yX2_make, Cond.selects RX2 yX2_make yX2_make, Cond.initialized RX2, Cond.code yX2_make cX2_make 3 none, Cond.fieldLink RX2 15 "ZonedLight$Plan" "peak" "[I", Cond.fieldLink RX2 9 "ZonedLight$Plan" "level" "[I", Cond.fieldLink RX2 23 "ZonedLight$Screen" "dead" "[Z", Cond.fieldLink RX2 31 "ZonedLight$Screen" "setting" "[I", Cond.methodLink RX2 18 yX3_peak, Cond.instanceMethod yX3_peak, Cond.selects RX3 yX3_peak yX3_peak, Cond.code yX3_peak cX3_peak 4 (some .int), Cond.methodLink RX3 50 Lib.Math.max.name, Cond.static Lib.Math.max.name, Cond.initialized "java/lang/Math"]
def wsX5_ifRule_r3 : List Cond := [Cond.code Lib.Math.max.name Lib.Math.max.code 2 (some .int), Cond.static yX5_spotOfZone, Cond.code yX5_spotOfZone cX5_spotOfZone 4 (some .int), Cond.methodLink RX5 62 yX5_spotAt, Cond.static yX5_spotAt, Cond.code yX5_spotAt cX5_spotAt 2 (some .int), Cond.methodLink RX2 27 yX2_levelByRule, Cond.instanceMethod yX2_levelByRule, Cond.selects RX2 yX2_levelByRule yX2_levelByRule, Cond.code yX2_levelByRule cX2_levelByRule 5 (some .int), Cond.methodLink RX2 49 Lib.Math.min.name, Cond.static Lib.Math.min.name, Cond.code Lib.Math.min.name Lib.Math.min.code 2 (some .int), Cond.methodLink RX2 46 yX2_aim, Cond.instanceMethod yX2_aim, Cond.selects RX2 yX2_aim yX2_aim, Cond.code yX2_aim cX2_aim 3 (some .int), Cond.methodLink RX2 55 yX3_mean, Cond.instanceMethod yX3_mean, Cond.selects RX3 yX3_mean yX3_mean, Cond.code yX3_mean cX3_mean 4 (some .int), Cond.methodLink RX2 34 yX2_raiseAll, Cond.instanceMethod yX2_raiseAll, Cond.selects RX2 yX2_raiseAll yX2_raiseAll]
def wsX5_ifRule_r4 : List Cond := [Cond.code yX2_raiseAll cX2_raiseAll 4 none, Cond.methodLink RX2 65 Lib.Math.max.name, Cond.methodLink RX2 58 yX3_glow, Cond.instanceMethod yX3_glow, Cond.selects RX3 yX3_glow yX3_glow, Cond.code yX3_glow cX3_glow 6 (some .int), Cond.static yX5_zonesApart, Cond.code yX5_zonesApart cX5_zonesApart 4 (some .int), Cond.methodLink RX5 227 Lib.Math.abs.name, Cond.static Lib.Math.abs.name, Cond.code Lib.Math.abs.name Lib.Math.abs.code 1 (some .int), Cond.methodLink RX5 232 Lib.Math.max.name, Cond.static yX5_lightOf, Cond.code yX5_lightOf cX5_lightOf 1 (some .int), Cond.methodLink RX5 235 Lib.Math.min.name, Cond.methodLink RX2 68 yX2_raiseNeighbours, Cond.instanceMethod yX2_raiseNeighbours, Cond.selects RX2 yX2_raiseNeighbours yX2_raiseNeighbours, Cond.code yX2_raiseNeighbours cX2_raiseNeighbours 7 none, Cond.methodLink RX2 79 yX2_helps, Cond.static yX2_helps, Cond.code yX2_helps cX2_helps 3 (some .boolean), Cond.static yX5_roundedUp, Cond.code yX5_roundedUp cX5_roundedUp 2 (some .int)]
def wsX5_ifRule_r5 : List Cond := [Cond.methodLink RX2 75 yX2_raise, Cond.instanceMethod yX2_raise, Cond.selects RX2 yX2_raise yX2_raise, Cond.code yX2_raise cX2_raise 3 none, Cond.methodLink RX2 38 yX3_asksBlack, Cond.instanceMethod yX3_asksBlack, Cond.selects RX3 yX3_asksBlack yX3_asksBlack, Cond.code yX3_asksBlack cX3_asksBlack 3 (some .boolean), Cond.methodLink RX2 42 yX2_lowerForBlack, Cond.instanceMethod yX2_lowerForBlack, Cond.selects RX2 yX2_lowerForBlack yX2_lowerForBlack, Cond.code yX2_lowerForBlack cX2_lowerForBlack 4 none, Cond.methodLink RX2 86 yX3_leakOf, Cond.instanceMethod yX3_leakOf, Cond.selects RX3 yX3_leakOf yX3_leakOf, Cond.code yX3_leakOf cX3_leakOf 2 (some .int), Cond.methodLink RX5 202 yX4_takeAll, Cond.instanceMethod yX4_takeAll, Cond.selects RX4 yX4_takeAll yX4_takeAll, Cond.initialized RX4, Cond.code yX4_takeAll cX4_takeAll 3 none, Cond.methodLink RX4 27 yX4_clear, Cond.instanceMethod yX4_clear, Cond.selects RX4 yX4_clear yX4_clear]
def wsX5_ifRule_r6 : List Cond := [Cond.code yX4_clear cX4_clear 1 none, Cond.fieldLink RX4 9 "ZonedLight$Tally" "tooDark" "I", Cond.fieldLink RX4 15 "ZonedLight$Tally" "tooBright" "I", Cond.fieldLink RX4 18 "ZonedLight$Tally" "off" "I", Cond.fieldLink RX4 21 "ZonedLight$Tally" "greatestOff" "I", Cond.fieldLink RX4 24 "ZonedLight$Tally" "shown" "I", Cond.methodLink RX4 30 yX4_addZone, Cond.instanceMethod yX4_addZone, Cond.selects RX4 yX4_addZone yX4_addZone, Cond.code yX4_addZone cX4_addZone 6 none, Cond.fieldLink RX4 40 "ZonedLight$Screen" "asked" "[I", Cond.methodLink RX4 34 yX3_light, Cond.instanceMethod yX3_light, Cond.selects RX3 yX3_light yX3_light, Cond.code yX3_light cX3_light 2 (some .int), Cond.methodLink RX3 66 yX3_glow, Cond.methodLink RX4 48 yX3_shown, Cond.instanceMethod yX3_shown, Cond.selects RX3 yX3_shown yX3_shown, Cond.code yX3_shown cX3_shown 3 (some .int), Cond.static yX5_glassFor, Cond.code yX5_glassFor cX5_glassFor 2 (some .int), Cond.methodLink RX5 209 yX5_roundedUp, Cond.methodLink RX3 77 yX3_leakOf]
def wsX5_ifRule_r7 : List Cond := [Cond.methodLink RX4 50 yX4_addSpot, Cond.instanceMethod yX4_addSpot, Cond.selects RX4 yX4_addSpot yX4_addSpot, Cond.code yX4_addSpot cX4_addSpot 5 none, Cond.methodLink RX4 57 Lib.Math.abs.name, Cond.methodLink RX4 62 Lib.Math.max.name, Cond.static yX5_verdict, Cond.code yX5_verdict cX5_verdict 2 (some .int), Cond.methodLink RX5 122 yX3_power, Cond.instanceMethod yX3_power, Cond.selects RX3 yX3_power yX3_power, Cond.code yX3_power cX3_power 3 (some .int)]
def wsX5_ifRule : List Cond := .code yX5_ifRule cX5_ifRule 3 (some .int) :: ((wsX5_ifRule_r1 ++ (wsX5_ifRule_r2 ++ (wsX5_ifRule_r3 ++ (wsX5_ifRule_r4 ++ (wsX5_ifRule_r5 ++ (wsX5_ifRule_r6 ++ wsX5_ifRule_r7)))))) ++ wsX50 ++ wsX30 ++ wsX40 ++ wsX20)
def wsX5_bestRule_r1 : List Cond := [Cond.fieldLink RX5 37 "ZonedLight" "trial" "LZonedLight$Screen;", Cond.fieldLink RX5 12 "ZonedLight" "now" "LZonedLight$Screen;", Cond.fieldLink RX5 131 "ZonedLight$Screen" "setting" "[I", Cond.fieldLink RX5 50 "ZonedLight" "tally" "LZonedLight$Tally;", Cond.fieldLink RX5 215 "ZonedLight$Tally" "off" "I", Cond.methodLink RX5 149 yX3_copyFrom, Cond.instanceMethod yX3_copyFrom, Cond.selects RX3 yX3_copyFrom yX3_copyFrom, Cond.initialized RX3, Cond.code yX3_copyFrom cX3_copyFrom 3 none, Cond.fieldLink RX3 9 "ZonedLight$Screen" "asked" "[I", Cond.methodLink RX3 38 arraycopyName, Cond.native arraycopyName, Cond.static arraycopyName, Cond.initialized "java/lang/System", Cond.fieldLink RX3 15 "ZonedLight$Screen" "level" "[I", Cond.fieldLink RX3 22 "ZonedLight$Screen" "setting" "[I", Cond.fieldLink RX3 18 "ZonedLight$Screen" "dead" "[Z", Cond.fieldLink RX3 25 "ZonedLight$Screen" "frames" "I", Cond.fieldLink RX3 29 "ZonedLight$Screen" "flicker" "I", Cond.fieldLink RX3 32 "ZonedLight$Screen" "powerSoFar" "I", Cond.methodLink RX5 212 yX5_settleTrial, Cond.instanceMethod yX5_settleTrial, Cond.selects RX5 yX5_settleTrial yX5_settleTrial]
def wsX5_bestRule_r2 : List Cond := [Cond.initialized RX5, Cond.code yX5_settleTrial cX5_settleTrial 1 none, Cond.fieldLink RX5 43 "ZonedLight" "plan" "LZonedLight$Plan;", Cond.fieldLink RX5 117 "ZonedLight$Plan" "level" "[I", Cond.fieldLink RX5 111 "ZonedLight$Screen" "level" "[I", Cond.methodLink RX5 218 arraycopyName, Cond.methodLink RX5 114 yX2_make, Cond.instanceMethod yX2_make, Cond.selects RX2 yX2_make yX2_make, Cond.initialized RX2, Cond.code yX2_make cX2_make 3 none, Cond.fieldLink RX2 15 "ZonedLight$Plan" "peak" "[I", Cond.fieldLink RX2 9 "ZonedLight$Plan" "level" "[I", Cond.fieldLink RX2 23 "ZonedLight$Screen" "dead" "[Z", Cond.fieldLink RX2 31 "ZonedLight$Screen" "setting" "[I", Cond.methodLink RX2 18 yX3_peak, Cond.instanceMethod yX3_peak, Cond.selects RX3 yX3_peak yX3_peak, Cond.code yX3_peak cX3_peak 4 (some .int), Cond.methodLink RX3 50 Lib.Math.max.name, Cond.static Lib.Math.max.name, Cond.initialized "java/lang/Math", Cond.code Lib.Math.max.name Lib.Math.max.code 2 (some .int), Cond.static yX5_spotOfZone]
def wsX5_bestRule_r3 : List Cond := [Cond.code yX5_spotOfZone cX5_spotOfZone 4 (some .int), Cond.methodLink RX5 62 yX5_spotAt, Cond.static yX5_spotAt, Cond.code yX5_spotAt cX5_spotAt 2 (some .int), Cond.methodLink RX2 27 yX2_levelByRule, Cond.instanceMethod yX2_levelByRule, Cond.selects RX2 yX2_levelByRule yX2_levelByRule, Cond.code yX2_levelByRule cX2_levelByRule 5 (some .int), Cond.methodLink RX2 49 Lib.Math.min.name, Cond.static Lib.Math.min.name, Cond.code Lib.Math.min.name Lib.Math.min.code 2 (some .int), Cond.methodLink RX2 46 yX2_aim, Cond.instanceMethod yX2_aim, Cond.selects RX2 yX2_aim yX2_aim, Cond.code yX2_aim cX2_aim 3 (some .int), Cond.methodLink RX2 55 yX3_mean, Cond.instanceMethod yX3_mean, Cond.selects RX3 yX3_mean yX3_mean, Cond.code yX3_mean cX3_mean 4 (some .int), Cond.methodLink RX2 34 yX2_raiseAll, Cond.instanceMethod yX2_raiseAll, Cond.selects RX2 yX2_raiseAll yX2_raiseAll, Cond.code yX2_raiseAll cX2_raiseAll 4 none, Cond.methodLink RX2 65 Lib.Math.max.name]
def wsX5_bestRule_r4 : List Cond := [Cond.methodLink RX2 58 yX3_glow, Cond.instanceMethod yX3_glow, Cond.selects RX3 yX3_glow yX3_glow, Cond.code yX3_glow cX3_glow 6 (some .int), Cond.static yX5_zonesApart, Cond.code yX5_zonesApart cX5_zonesApart 4 (some .int), Cond.methodLink RX5 227 Lib.Math.abs.name, Cond.static Lib.Math.abs.name, Cond.code Lib.Math.abs.name Lib.Math.abs.code 1 (some .int), Cond.methodLink RX5 232 Lib.Math.max.name, Cond.static yX5_lightOf, Cond.code yX5_lightOf cX5_lightOf 1 (some .int), Cond.methodLink RX5 235 Lib.Math.min.name, Cond.methodLink RX2 68 yX2_raiseNeighbours, Cond.instanceMethod yX2_raiseNeighbours, Cond.selects RX2 yX2_raiseNeighbours yX2_raiseNeighbours, Cond.code yX2_raiseNeighbours cX2_raiseNeighbours 7 none, Cond.methodLink RX2 79 yX2_helps, Cond.static yX2_helps, Cond.code yX2_helps cX2_helps 3 (some .boolean), Cond.static yX5_roundedUp, Cond.code yX5_roundedUp cX5_roundedUp 2 (some .int), Cond.methodLink RX2 75 yX2_raise, Cond.instanceMethod yX2_raise]
def wsX5_bestRule_r5 : List Cond := [Cond.selects RX2 yX2_raise yX2_raise, Cond.code yX2_raise cX2_raise 3 none, Cond.methodLink RX2 38 yX3_asksBlack, Cond.instanceMethod yX3_asksBlack, Cond.selects RX3 yX3_asksBlack yX3_asksBlack, Cond.code yX3_asksBlack cX3_asksBlack 3 (some .boolean), Cond.methodLink RX2 42 yX2_lowerForBlack, Cond.instanceMethod yX2_lowerForBlack, Cond.selects RX2 yX2_lowerForBlack yX2_lowerForBlack, Cond.code yX2_lowerForBlack cX2_lowerForBlack 4 none, Cond.methodLink RX2 86 yX3_leakOf, Cond.instanceMethod yX3_leakOf, Cond.selects RX3 yX3_leakOf yX3_leakOf, Cond.code yX3_leakOf cX3_leakOf 2 (some .int), Cond.methodLink RX5 202 yX4_takeAll, Cond.instanceMethod yX4_takeAll, Cond.selects RX4 yX4_takeAll yX4_takeAll, Cond.initialized RX4, Cond.code yX4_takeAll cX4_takeAll 3 none, Cond.methodLink RX4 27 yX4_clear, Cond.instanceMethod yX4_clear, Cond.selects RX4 yX4_clear yX4_clear, Cond.code yX4_clear cX4_clear 1 none, Cond.fieldLink RX4 9 "ZonedLight$Tally" "tooDark" "I"]
def wsX5_bestRule_r6 : List Cond := [Cond.fieldLink RX4 15 "ZonedLight$Tally" "tooBright" "I", Cond.fieldLink RX4 18 "ZonedLight$Tally" "off" "I", Cond.fieldLink RX4 21 "ZonedLight$Tally" "greatestOff" "I", Cond.fieldLink RX4 24 "ZonedLight$Tally" "shown" "I", Cond.methodLink RX4 30 yX4_addZone, Cond.instanceMethod yX4_addZone, Cond.selects RX4 yX4_addZone yX4_addZone, Cond.code yX4_addZone cX4_addZone 6 none, Cond.fieldLink RX4 40 "ZonedLight$Screen" "asked" "[I", Cond.methodLink RX4 34 yX3_light, Cond.instanceMethod yX3_light, Cond.selects RX3 yX3_light yX3_light, Cond.code yX3_light cX3_light 2 (some .int), Cond.methodLink RX3 66 yX3_glow, Cond.methodLink RX4 48 yX3_shown, Cond.instanceMethod yX3_shown, Cond.selects RX3 yX3_shown yX3_shown, Cond.code yX3_shown cX3_shown 3 (some .int), Cond.static yX5_glassFor, Cond.code yX5_glassFor cX5_glassFor 2 (some .int), Cond.methodLink RX5 209 yX5_roundedUp, Cond.methodLink RX3 77 yX3_leakOf, Cond.methodLink RX4 50 yX4_addSpot, Cond.instanceMethod yX4_addSpot]
def wsX5_bestRule_r7 : List Cond := [Cond.selects RX4 yX4_addSpot yX4_addSpot, Cond.code yX4_addSpot cX4_addSpot 5 none, Cond.methodLink RX4 57 Lib.Math.abs.name, Cond.methodLink RX4 62 Lib.Math.max.name, Cond.static yX5_verdict, Cond.code yX5_verdict cX5_verdict 2 (some .int), Cond.methodLink RX5 122 yX3_power, Cond.instanceMethod yX3_power, Cond.selects RX3 yX3_power yX3_power, Cond.code yX3_power cX3_power 3 (some .int)]
def wsX5_bestRule : List Cond := .code yX5_bestRule cX5_bestRule 7 (some .int) :: ((wsX5_bestRule_r1 ++ (wsX5_bestRule_r2 ++ (wsX5_bestRule_r3 ++ (wsX5_bestRule_r4 ++ (wsX5_bestRule_r5 ++ (wsX5_bestRule_r6 ++ wsX5_bestRule_r7)))))) ++ wsX50 ++ wsX30 ++ wsX40 ++ wsX20)
def wsX5_leastStep_r1 : List Cond := [Cond.methodLink RX5 196 yX5_greatestGap, Cond.instanceMethod yX5_greatestGap, Cond.selects RX5 yX5_greatestGap yX5_greatestGap, Cond.initialized RX5, Cond.code yX5_greatestGap cX5_greatestGap 3 (some .int), Cond.fieldLink RX5 43 "ZonedLight" "plan" "LZonedLight$Plan;", Cond.fieldLink RX5 12 "ZonedLight" "now" "LZonedLight$Screen;", Cond.fieldLink RX5 117 "ZonedLight$Plan" "level" "[I", Cond.fieldLink RX5 111 "ZonedLight$Screen" "level" "[I", Cond.methodLink RX5 227 Lib.Math.abs.name, Cond.static Lib.Math.abs.name, Cond.initialized "java/lang/Math", Cond.code Lib.Math.abs.name Lib.Math.abs.code 1 (some .int), Cond.methodLink RX5 232 Lib.Math.max.name, Cond.static Lib.Math.max.name, Cond.code Lib.Math.max.name Lib.Math.max.code 2 (some .int), Cond.methodLink RX5 114 yX2_make, Cond.instanceMethod yX2_make, Cond.selects RX2 yX2_make yX2_make, Cond.initialized RX2, Cond.code yX2_make cX2_make 3 none, Cond.fieldLink RX2 15 "ZonedLight$Plan" "peak" "[I", Cond.fieldLink RX2 9 "ZonedLight$Plan" "level" "[I", Cond.fieldLink RX2 23 "ZonedLight$Screen" "dead" "[Z"]
def wsX5_leastStep_r2 : List Cond := [Cond.fieldLink RX2 31 "ZonedLight$Screen" "setting" "[I", Cond.methodLink RX2 18 yX3_peak, Cond.instanceMethod yX3_peak, Cond.selects RX3 yX3_peak yX3_peak, Cond.initialized RX3, Cond.code yX3_peak cX3_peak 4 (some .int), Cond.fieldLink RX3 9 "ZonedLight$Screen" "asked" "[I", Cond.methodLink RX3 50 Lib.Math.max.name, Cond.static yX5_spotOfZone, Cond.code yX5_spotOfZone cX5_spotOfZone 4 (some .int), Cond.methodLink RX5 62 yX5_spotAt, Cond.static yX5_spotAt, Cond.code yX5_spotAt cX5_spotAt 2 (some .int), Cond.methodLink RX2 27 yX2_levelByRule, Cond.instanceMethod yX2_levelByRule, Cond.selects RX2 yX2_levelByRule yX2_levelByRule, Cond.code yX2_levelByRule cX2_levelByRule 5 (some .int), Cond.methodLink RX2 49 Lib.Math.min.name, Cond.static Lib.Math.min.name, Cond.code Lib.Math.min.name Lib.Math.min.code 2 (some .int), Cond.methodLink RX2 46 yX2_aim, Cond.instanceMethod yX2_aim, Cond.selects RX2 yX2_aim yX2_aim, Cond.code yX2_aim cX2_aim 3 (some .int)]
def wsX5_leastStep_r3 : List Cond := [Cond.methodLink RX2 55 yX3_mean, Cond.instanceMethod yX3_mean, Cond.selects RX3 yX3_mean yX3_mean, Cond.code yX3_mean cX3_mean 4 (some .int), Cond.methodLink RX2 34 yX2_raiseAll, Cond.instanceMethod yX2_raiseAll, Cond.selects RX2 yX2_raiseAll yX2_raiseAll, Cond.code yX2_raiseAll cX2_raiseAll 4 none, Cond.methodLink RX2 65 Lib.Math.max.name, Cond.methodLink RX2 58 yX3_glow, Cond.instanceMethod yX3_glow, Cond.selects RX3 yX3_glow yX3_glow, Cond.code yX3_glow cX3_glow 6 (some .int), Cond.fieldLink RX3 22 "ZonedLight$Screen" "setting" "[I", Cond.static yX5_zonesApart, Cond.code yX5_zonesApart cX5_zonesApart 4 (some .int), Cond.static yX5_lightOf, Cond.code yX5_lightOf cX5_lightOf 1 (some .int), Cond.methodLink RX5 235 Lib.Math.min.name, Cond.methodLink RX2 68 yX2_raiseNeighbours, Cond.instanceMethod yX2_raiseNeighbours, Cond.selects RX2 yX2_raiseNeighbours yX2_raiseNeighbours, Cond.code yX2_raiseNeighbours cX2_raiseNeighbours 7 none, Cond.methodLink RX2 79 yX2_helps]
def wsX5_leastStep_r4 : List Cond := [Cond.static yX2_helps, Cond.code yX2_helps cX2_helps 3 (some .boolean), Cond.static yX5_roundedUp, Cond.code yX5_roundedUp cX5_roundedUp 2 (some .int), Cond.methodLink RX2 75 yX2_raise, Cond.instanceMethod yX2_raise, Cond.selects RX2 yX2_raise yX2_raise, Cond.code yX2_raise cX2_raise 3 none, Cond.methodLink RX2 38 yX3_asksBlack, Cond.instanceMethod yX3_asksBlack, Cond.selects RX3 yX3_asksBlack yX3_asksBlack, Cond.code yX3_asksBlack cX3_asksBlack 3 (some .boolean), Cond.methodLink RX2 42 yX2_lowerForBlack, Cond.instanceMethod yX2_lowerForBlack, Cond.selects RX2 yX2_lowerForBlack yX2_lowerForBlack, Cond.code yX2_lowerForBlack cX2_lowerForBlack 4 none, Cond.methodLink RX2 86 yX3_leakOf, Cond.instanceMethod yX3_leakOf, Cond.selects RX3 yX3_leakOf yX3_leakOf, Cond.code yX3_leakOf cX3_leakOf 2 (some .int), Cond.methodLink RX5 209 yX5_roundedUp]
def wsX5_leastStep : List Cond := .code yX5_leastStep cX5_leastStep 2 (some .int) :: ((wsX5_leastStep_r1 ++ (wsX5_leastStep_r2 ++ (wsX5_leastStep_r3 ++ wsX5_leastStep_r4))) ++ wsX50 ++ wsX20 ++ wsX30)
def wsX5_dearest_r1 : List Cond := [Cond.fieldLink RX5 12 "ZonedLight" "now" "LZonedLight$Screen;", Cond.fieldLink RX5 107 "ZonedLight$Screen" "dead" "[Z", Cond.fieldLink RX5 37 "ZonedLight" "trial" "LZonedLight$Screen;", Cond.fieldLink RX5 50 "ZonedLight" "tally" "LZonedLight$Tally;", Cond.fieldLink RX5 215 "ZonedLight$Tally" "off" "I", Cond.methodLink RX5 149 yX3_copyFrom, Cond.instanceMethod yX3_copyFrom, Cond.selects RX3 yX3_copyFrom yX3_copyFrom, Cond.initialized RX3, Cond.code yX3_copyFrom cX3_copyFrom 3 none, Cond.fieldLink RX3 9 "ZonedLight$Screen" "asked" "[I", Cond.methodLink RX3 38 arraycopyName, Cond.native arraycopyName, Cond.static arraycopyName, Cond.initialized "java/lang/System", Cond.fieldLink RX3 15 "ZonedLight$Screen" "level" "[I", Cond.fieldLink RX3 22 "ZonedLight$Screen" "setting" "[I", Cond.fieldLink RX3 18 "ZonedLight$Screen" "dead" "[Z", Cond.fieldLink RX3 25 "ZonedLight$Screen" "frames" "I", Cond.fieldLink RX3 29 "ZonedLight$Screen" "flicker" "I", Cond.fieldLink RX3 32 "ZonedLight$Screen" "powerSoFar" "I", Cond.methodLink RX5 212 yX5_settleTrial, Cond.instanceMethod yX5_settleTrial, Cond.selects RX5 yX5_settleTrial yX5_settleTrial]
def wsX5_dearest_r2 : List Cond := [Cond.initialized RX5, Cond.code yX5_settleTrial cX5_settleTrial 1 none, Cond.fieldLink RX5 43 "ZonedLight" "plan" "LZonedLight$Plan;", Cond.fieldLink RX5 117 "ZonedLight$Plan" "level" "[I", Cond.fieldLink RX5 111 "ZonedLight$Screen" "level" "[I", Cond.methodLink RX5 218 arraycopyName, Cond.methodLink RX5 114 yX2_make, Cond.instanceMethod yX2_make, Cond.selects RX2 yX2_make yX2_make, Cond.initialized RX2, Cond.code yX2_make cX2_make 3 none, Cond.fieldLink RX2 15 "ZonedLight$Plan" "peak" "[I", Cond.fieldLink RX2 9 "ZonedLight$Plan" "level" "[I", Cond.fieldLink RX2 23 "ZonedLight$Screen" "dead" "[Z", Cond.fieldLink RX2 31 "ZonedLight$Screen" "setting" "[I", Cond.methodLink RX2 18 yX3_peak, Cond.instanceMethod yX3_peak, Cond.selects RX3 yX3_peak yX3_peak, Cond.code yX3_peak cX3_peak 4 (some .int), Cond.methodLink RX3 50 Lib.Math.max.name, Cond.static Lib.Math.max.name, Cond.initialized "java/lang/Math", Cond.code Lib.Math.max.name Lib.Math.max.code 2 (some .int), Cond.static yX5_spotOfZone]
def wsX5_dearest_r3 : List Cond := [Cond.code yX5_spotOfZone cX5_spotOfZone 4 (some .int), Cond.methodLink RX5 62 yX5_spotAt, Cond.static yX5_spotAt, Cond.code yX5_spotAt cX5_spotAt 2 (some .int), Cond.methodLink RX2 27 yX2_levelByRule, Cond.instanceMethod yX2_levelByRule, Cond.selects RX2 yX2_levelByRule yX2_levelByRule, Cond.code yX2_levelByRule cX2_levelByRule 5 (some .int), Cond.methodLink RX2 49 Lib.Math.min.name, Cond.static Lib.Math.min.name, Cond.code Lib.Math.min.name Lib.Math.min.code 2 (some .int), Cond.methodLink RX2 46 yX2_aim, Cond.instanceMethod yX2_aim, Cond.selects RX2 yX2_aim yX2_aim, Cond.code yX2_aim cX2_aim 3 (some .int), Cond.methodLink RX2 55 yX3_mean, Cond.instanceMethod yX3_mean, Cond.selects RX3 yX3_mean yX3_mean, Cond.code yX3_mean cX3_mean 4 (some .int), Cond.methodLink RX2 34 yX2_raiseAll, Cond.instanceMethod yX2_raiseAll, Cond.selects RX2 yX2_raiseAll yX2_raiseAll, Cond.code yX2_raiseAll cX2_raiseAll 4 none, Cond.methodLink RX2 65 Lib.Math.max.name]
def wsX5_dearest_r4 : List Cond := [Cond.methodLink RX2 58 yX3_glow, Cond.instanceMethod yX3_glow, Cond.selects RX3 yX3_glow yX3_glow, Cond.code yX3_glow cX3_glow 6 (some .int), Cond.static yX5_zonesApart, Cond.code yX5_zonesApart cX5_zonesApart 4 (some .int), Cond.methodLink RX5 227 Lib.Math.abs.name, Cond.static Lib.Math.abs.name, Cond.code Lib.Math.abs.name Lib.Math.abs.code 1 (some .int), Cond.methodLink RX5 232 Lib.Math.max.name, Cond.static yX5_lightOf, Cond.code yX5_lightOf cX5_lightOf 1 (some .int), Cond.methodLink RX5 235 Lib.Math.min.name, Cond.methodLink RX2 68 yX2_raiseNeighbours, Cond.instanceMethod yX2_raiseNeighbours, Cond.selects RX2 yX2_raiseNeighbours yX2_raiseNeighbours, Cond.code yX2_raiseNeighbours cX2_raiseNeighbours 7 none, Cond.methodLink RX2 79 yX2_helps, Cond.static yX2_helps, Cond.code yX2_helps cX2_helps 3 (some .boolean), Cond.static yX5_roundedUp, Cond.code yX5_roundedUp cX5_roundedUp 2 (some .int), Cond.methodLink RX2 75 yX2_raise, Cond.instanceMethod yX2_raise]
def wsX5_dearest_r5 : List Cond := [Cond.selects RX2 yX2_raise yX2_raise, Cond.code yX2_raise cX2_raise 3 none, Cond.methodLink RX2 38 yX3_asksBlack, Cond.instanceMethod yX3_asksBlack, Cond.selects RX3 yX3_asksBlack yX3_asksBlack, Cond.code yX3_asksBlack cX3_asksBlack 3 (some .boolean), Cond.methodLink RX2 42 yX2_lowerForBlack, Cond.instanceMethod yX2_lowerForBlack, Cond.selects RX2 yX2_lowerForBlack yX2_lowerForBlack, Cond.code yX2_lowerForBlack cX2_lowerForBlack 4 none, Cond.methodLink RX2 86 yX3_leakOf, Cond.instanceMethod yX3_leakOf, Cond.selects RX3 yX3_leakOf yX3_leakOf, Cond.code yX3_leakOf cX3_leakOf 2 (some .int), Cond.methodLink RX5 202 yX4_takeAll, Cond.instanceMethod yX4_takeAll, Cond.selects RX4 yX4_takeAll yX4_takeAll, Cond.initialized RX4, Cond.code yX4_takeAll cX4_takeAll 3 none, Cond.methodLink RX4 27 yX4_clear, Cond.instanceMethod yX4_clear, Cond.selects RX4 yX4_clear yX4_clear, Cond.code yX4_clear cX4_clear 1 none, Cond.fieldLink RX4 9 "ZonedLight$Tally" "tooDark" "I"]
def wsX5_dearest_r6 : List Cond := [Cond.fieldLink RX4 15 "ZonedLight$Tally" "tooBright" "I", Cond.fieldLink RX4 18 "ZonedLight$Tally" "off" "I", Cond.fieldLink RX4 21 "ZonedLight$Tally" "greatestOff" "I", Cond.fieldLink RX4 24 "ZonedLight$Tally" "shown" "I", Cond.methodLink RX4 30 yX4_addZone, Cond.instanceMethod yX4_addZone, Cond.selects RX4 yX4_addZone yX4_addZone, Cond.code yX4_addZone cX4_addZone 6 none, Cond.fieldLink RX4 40 "ZonedLight$Screen" "asked" "[I", Cond.methodLink RX4 34 yX3_light, Cond.instanceMethod yX3_light, Cond.selects RX3 yX3_light yX3_light, Cond.code yX3_light cX3_light 2 (some .int), Cond.methodLink RX3 66 yX3_glow, Cond.methodLink RX4 48 yX3_shown, Cond.instanceMethod yX3_shown, Cond.selects RX3 yX3_shown yX3_shown, Cond.code yX3_shown cX3_shown 3 (some .int), Cond.static yX5_glassFor, Cond.code yX5_glassFor cX5_glassFor 2 (some .int), Cond.methodLink RX5 209 yX5_roundedUp, Cond.methodLink RX3 77 yX3_leakOf, Cond.methodLink RX4 50 yX4_addSpot, Cond.instanceMethod yX4_addSpot]
def wsX5_dearest_r7 : List Cond := [Cond.selects RX4 yX4_addSpot yX4_addSpot, Cond.code yX4_addSpot cX4_addSpot 5 none, Cond.methodLink RX4 57 Lib.Math.abs.name, Cond.methodLink RX4 62 Lib.Math.max.name, Cond.static yX5_verdict, Cond.code yX5_verdict cX5_verdict 2 (some .int)]
def wsX5_dearest : List Cond := .code yX5_dearest cX5_dearest 5 (some .int) :: ((wsX5_dearest_r1 ++ (wsX5_dearest_r2 ++ (wsX5_dearest_r3 ++ (wsX5_dearest_r4 ++ (wsX5_dearest_r5 ++ (wsX5_dearest_r6 ++ wsX5_dearest_r7)))))) ++ wsX50 ++ wsX30 ++ wsX40 ++ wsX20)
def wsX6_init : List Cond := .code yX6_init cX6_init 1 none :: ([.methodLink RX6 1 objectInit, .instanceMethod objectInit, .code objectInit ⟨#[0xb1]⟩ 1 none, .arrayClass .int, .fieldLink RX6 7 "ZonedLightModel" "all" "[I", .fieldLink RX6 13 "ZonedLightModel" "history" "[I", .fieldLink RX6 16 "ZonedLightModel" "snapshot" "[I", .fieldLink RX6 19 "ZonedLightModel" "wanted" "[I", .fieldLink RX6 22 "ZonedLightModel" "text" "[I", .fieldLink RX6 25 "ZonedLightModel" "part" "[I"] ++ wsX60)
def wsX6_in : List Cond := .code yX6_in cX6_in 6 (some .boolean) :: ([])
def wsX6_lesser : List Cond := .code yX6_lesser cX6_lesser 2 (some .int) :: ([])
def wsX6_off : List Cond := .code yX6_off cX6_off 1 (some .int) :: ([])
def wsX6_acts : List Cond := .code yX6_acts cX6_acts 2 none :: ([.fieldLink RX6 28 "ZonedLightModel" "historyLong" "I", .fieldLink RX6 13 "ZonedLightModel" "history" "[I", .fieldLink RX6 7 "ZonedLightModel" "all" "[I"] ++ wsX60)
def wsX6_isSpot : List Cond := .code yX6_isSpot cX6_isSpot 2 (some .boolean) :: ([.constantLong RX6 32 (23), .constantLong RX6 38 (11), .methodLink RX6 34 yX6_in, .static yX6_in, .initialized RX6, .code yX6_in cX6_in 6 (some .boolean)])
def wsX6_isZone : List Cond := .code yX6_isZone cX6_isZone 1 (some .boolean) :: ([.constantLong RX6 40 (17), .methodLink RX6 34 yX6_in, .static yX6_in, .initialized RX6, .code yX6_in cX6_in 6 (some .boolean)])
def wsX6_spotIn : List Cond := .code yX6_spotIn cX6_spotIn 2 (some .int) :: ([])
def wsX6_zoneOf : List Cond := .code yX6_zoneOf cX6_zoneOf 1 (some .int) :: ([])
def wsX6_apart : List Cond := .code yX6_apart cX6_apart 4 (some .int) :: ([.methodLink RX6 42 yX6_off, .static yX6_off, .initialized RX6, .code yX6_off cX6_off 1 (some .int)])
def wsX6_shareAt : List Cond := .code yX6_shareAt cX6_shareAt 2 (some .int) :: ([.fieldLink RX6 7 "ZonedLightModel" "all" "[I"] ++ wsX60)
def wsX6_light : List Cond := .code yX6_light cX6_light 5 (some .int) :: ([.fieldLink RX6 19 "ZonedLightModel" "wanted" "[I", .fieldLink RX6 7 "ZonedLightModel" "all" "[I", .methodLink RX6 46 yX6_apart, .static yX6_apart, .initialized RX6, .code yX6_apart cX6_apart 4 (some .int), .methodLink RX6 42 yX6_off, .static yX6_off, .code yX6_off cX6_off 1 (some .int), .methodLink RX6 50 yX6_shareAt, .instanceMethod yX6_shareAt, .selects RX6 yX6_shareAt yX6_shareAt, .code yX6_shareAt cX6_shareAt 2 (some .int), .methodLink RX6 53 yX6_lesser, .static yX6_lesser, .code yX6_lesser cX6_lesser 2 (some .int)] ++ wsX60)
def wsX6_leakOf : List Cond := .code yX6_leakOf cX6_leakOf 2 (some .int) :: ([.fieldLink RX6 7 "ZonedLightModel" "all" "[I"] ++ wsX60)
def wsX6_glass : List Cond := .code yX6_glass cX6_glass 2 (some .int) :: ([.methodLink RX6 53 yX6_lesser, .static yX6_lesser, .initialized RX6, .code yX6_lesser cX6_lesser 2 (some .int)])
def wsX6_shown : List Cond := .code yX6_shown cX6_shown 4 (some .int) :: ([.methodLink RX6 56 yX6_glass, .static yX6_glass, .initialized RX6, .code yX6_glass cX6_glass 2 (some .int), .methodLink RX6 53 yX6_lesser, .static yX6_lesser, .code yX6_lesser cX6_lesser 2 (some .int), .methodLink RX6 59 yX6_leakOf, .instanceMethod yX6_leakOf, .selects RX6 yX6_leakOf yX6_leakOf, .code yX6_leakOf cX6_leakOf 2 (some .int), .fieldLink RX6 7 "ZonedLightModel" "all" "[I"] ++ wsX60)
def wsX6_greatestIn : List Cond := .code yX6_greatestIn cX6_greatestIn 5 (some .int) :: ([.fieldLink RX6 7 "ZonedLightModel" "all" "[I", .methodLink RX6 62 yX6_spotIn, .static yX6_spotIn, .initialized RX6, .code yX6_spotIn cX6_spotIn 2 (some .int)] ++ wsX60)
def wsX6_meanIn : List Cond := .code yX6_meanIn cX6_meanIn 4 (some .int) :: ([.fieldLink RX6 7 "ZonedLightModel" "all" "[I", .methodLink RX6 62 yX6_spotIn, .static yX6_spotIn, .initialized RX6, .code yX6_spotIn cX6_spotIn 2 (some .int)] ++ wsX60)
def wsX6_hasBlack : List Cond := .code yX6_hasBlack cX6_hasBlack 4 (some .boolean) :: ([.fieldLink RX6 7 "ZonedLightModel" "all" "[I", .methodLink RX6 62 yX6_spotIn, .static yX6_spotIn, .initialized RX6, .code yX6_spotIn cX6_spotIn 2 (some .int)] ++ wsX60)
def wsX6_beginning : List Cond := .code yX6_beginning cX6_beginning 5 (some .int) :: ([.fieldLink RX6 7 "ZonedLightModel" "all" "[I", .methodLink RX6 65 yX6_greatestIn, .instanceMethod yX6_greatestIn, .selects RX6 yX6_greatestIn yX6_greatestIn, .initialized RX6, .code yX6_greatestIn cX6_greatestIn 5 (some .int), .methodLink RX6 62 yX6_spotIn, .static yX6_spotIn, .code yX6_spotIn cX6_spotIn 2 (some .int), .methodLink RX6 68 yX6_meanIn, .instanceMethod yX6_meanIn, .selects RX6 yX6_meanIn yX6_meanIn, .code yX6_meanIn cX6_meanIn 4 (some .int), .methodLink RX6 53 yX6_lesser, .static yX6_lesser, .code yX6_lesser cX6_lesser 2 (some .int)] ++ wsX60)
def wsX6_raises : List Cond := .code yX6_raises cX6_raises 4 none :: ([.fieldLink RX6 19 "ZonedLightModel" "wanted" "[I", .methodLink RX6 53 yX6_lesser, .static yX6_lesser, .initialized RX6, .code yX6_lesser cX6_lesser 2 (some .int)] ++ wsX60)
def wsX6_isLiveBeside : List Cond := .code yX6_isLiveBeside cX6_isLiveBeside 3 (some .boolean) :: ([.fieldLink RX6 7 "ZonedLightModel" "all" "[I", .methodLink RX6 46 yX6_apart, .static yX6_apart, .initialized RX6, .code yX6_apart cX6_apart 4 (some .int), .methodLink RX6 42 yX6_off, .static yX6_off, .code yX6_off cX6_off 1 (some .int)] ++ wsX60)
def wsX6_raisesBeside : List Cond := .code yX6_raisesBeside cX6_raisesBeside 6 none :: ([.fieldLink RX6 7 "ZonedLightModel" "all" "[I", .methodLink RX6 71 yX6_isLiveBeside, .instanceMethod yX6_isLiveBeside, .selects RX6 yX6_isLiveBeside yX6_isLiveBeside, .initialized RX6, .code yX6_isLiveBeside cX6_isLiveBeside 3 (some .boolean), .methodLink RX6 46 yX6_apart, .static yX6_apart, .code yX6_apart cX6_apart 4 (some .int), .methodLink RX6 42 yX6_off, .static yX6_off, .code yX6_off cX6_off 1 (some .int), .methodLink RX6 75 yX6_raises, .instanceMethod yX6_raises, .selects RX6 yX6_raises yX6_raises, .code yX6_raises cX6_raises 4 none, .fieldLink RX6 19 "ZonedLightModel" "wanted" "[I", .methodLink RX6 53 yX6_lesser, .static yX6_lesser, .code yX6_lesser cX6_lesser 2 (some .int)] ++ wsX60)
def wsX6_round_r1 : List Cond := [Cond.fieldLink RX6 7 "ZonedLightModel" "all" "[I", Cond.methodLink RX6 65 yX6_greatestIn, Cond.instanceMethod yX6_greatestIn, Cond.selects RX6 yX6_greatestIn yX6_greatestIn, Cond.initialized RX6, Cond.code yX6_greatestIn cX6_greatestIn 5 (some .int), Cond.methodLink RX6 62 yX6_spotIn, Cond.static yX6_spotIn, Cond.code yX6_spotIn cX6_spotIn 2 (some .int), Cond.methodLink RX6 79 yX6_light, Cond.instanceMethod yX6_light, Cond.selects RX6 yX6_light yX6_light, Cond.code yX6_light cX6_light 5 (some .int), Cond.fieldLink RX6 19 "ZonedLightModel" "wanted" "[I", Cond.methodLink RX6 46 yX6_apart, Cond.static yX6_apart, Cond.code yX6_apart cX6_apart 4 (some .int), Cond.methodLink RX6 42 yX6_off, Cond.static yX6_off, Cond.code yX6_off cX6_off 1 (some .int), Cond.methodLink RX6 50 yX6_shareAt, Cond.instanceMethod yX6_shareAt, Cond.selects RX6 yX6_shareAt yX6_shareAt, Cond.code yX6_shareAt cX6_shareAt 2 (some .int)]
def wsX6_round_r2 : List Cond := [Cond.methodLink RX6 53 yX6_lesser, Cond.static yX6_lesser, Cond.code yX6_lesser cX6_lesser 2 (some .int), Cond.methodLink RX6 75 yX6_raises, Cond.instanceMethod yX6_raises, Cond.selects RX6 yX6_raises yX6_raises, Cond.code yX6_raises cX6_raises 4 none, Cond.methodLink RX6 83 yX6_raisesBeside, Cond.instanceMethod yX6_raisesBeside, Cond.selects RX6 yX6_raisesBeside yX6_raisesBeside, Cond.code yX6_raisesBeside cX6_raisesBeside 6 none, Cond.methodLink RX6 71 yX6_isLiveBeside, Cond.instanceMethod yX6_isLiveBeside, Cond.selects RX6 yX6_isLiveBeside yX6_isLiveBeside, Cond.code yX6_isLiveBeside cX6_isLiveBeside 3 (some .boolean)]
def wsX6_round : List Cond := .code yX6_round cX6_round 3 none :: ((wsX6_round_r1 ++ wsX6_round_r2) ++ wsX60)
def wsX6_wants_r1 : List Cond := [Cond.fieldLink RX6 19 "ZonedLightModel" "wanted" "[I", Cond.fieldLink RX6 7 "ZonedLightModel" "all" "[I", Cond.methodLink RX6 87 yX6_beginning, Cond.instanceMethod yX6_beginning, Cond.selects RX6 yX6_beginning yX6_beginning, Cond.initialized RX6, Cond.code yX6_beginning cX6_beginning 5 (some .int), Cond.methodLink RX6 65 yX6_greatestIn, Cond.instanceMethod yX6_greatestIn, Cond.selects RX6 yX6_greatestIn yX6_greatestIn, Cond.code yX6_greatestIn cX6_greatestIn 5 (some .int), Cond.methodLink RX6 62 yX6_spotIn, Cond.static yX6_spotIn, Cond.code yX6_spotIn cX6_spotIn 2 (some .int), Cond.methodLink RX6 68 yX6_meanIn, Cond.instanceMethod yX6_meanIn, Cond.selects RX6 yX6_meanIn yX6_meanIn, Cond.code yX6_meanIn cX6_meanIn 4 (some .int), Cond.methodLink RX6 53 yX6_lesser, Cond.static yX6_lesser, Cond.code yX6_lesser cX6_lesser 2 (some .int), Cond.methodLink RX6 90 yX6_round, Cond.instanceMethod yX6_round, Cond.selects RX6 yX6_round yX6_round]
def wsX6_wants_r2 : List Cond := [Cond.code yX6_round cX6_round 3 none, Cond.methodLink RX6 79 yX6_light, Cond.instanceMethod yX6_light, Cond.selects RX6 yX6_light yX6_light, Cond.code yX6_light cX6_light 5 (some .int), Cond.methodLink RX6 46 yX6_apart, Cond.static yX6_apart, Cond.code yX6_apart cX6_apart 4 (some .int), Cond.methodLink RX6 42 yX6_off, Cond.static yX6_off, Cond.code yX6_off cX6_off 1 (some .int), Cond.methodLink RX6 50 yX6_shareAt, Cond.instanceMethod yX6_shareAt, Cond.selects RX6 yX6_shareAt yX6_shareAt, Cond.code yX6_shareAt cX6_shareAt 2 (some .int), Cond.methodLink RX6 75 yX6_raises, Cond.instanceMethod yX6_raises, Cond.selects RX6 yX6_raises yX6_raises, Cond.code yX6_raises cX6_raises 4 none, Cond.methodLink RX6 83 yX6_raisesBeside, Cond.instanceMethod yX6_raisesBeside, Cond.selects RX6 yX6_raisesBeside yX6_raisesBeside, Cond.code yX6_raisesBeside cX6_raisesBeside 6 none, Cond.methodLink RX6 71 yX6_isLiveBeside]
def wsX6_wants_r3 : List Cond := [Cond.instanceMethod yX6_isLiveBeside, Cond.selects RX6 yX6_isLiveBeside yX6_isLiveBeside, Cond.code yX6_isLiveBeside cX6_isLiveBeside 3 (some .boolean), Cond.methodLink RX6 93 yX6_hasBlack, Cond.instanceMethod yX6_hasBlack, Cond.selects RX6 yX6_hasBlack yX6_hasBlack, Cond.code yX6_hasBlack cX6_hasBlack 4 (some .boolean), Cond.methodLink RX6 59 yX6_leakOf, Cond.instanceMethod yX6_leakOf, Cond.selects RX6 yX6_leakOf yX6_leakOf, Cond.code yX6_leakOf cX6_leakOf 2 (some .int)]
def wsX6_wants : List Cond := .code yX6_wants cX6_wants 4 none :: ((wsX6_wants_r1 ++ (wsX6_wants_r2 ++ wsX6_wants_r3)) ++ wsX60)
def wsX6_over_r1 : List Cond := [Cond.fieldLink RX6 7 "ZonedLightModel" "all" "[I", Cond.methodLink RX6 79 yX6_light, Cond.instanceMethod yX6_light, Cond.selects RX6 yX6_light yX6_light, Cond.initialized RX6, Cond.code yX6_light cX6_light 5 (some .int), Cond.fieldLink RX6 19 "ZonedLightModel" "wanted" "[I", Cond.methodLink RX6 46 yX6_apart, Cond.static yX6_apart, Cond.code yX6_apart cX6_apart 4 (some .int), Cond.methodLink RX6 42 yX6_off, Cond.static yX6_off, Cond.code yX6_off cX6_off 1 (some .int), Cond.methodLink RX6 50 yX6_shareAt, Cond.instanceMethod yX6_shareAt, Cond.selects RX6 yX6_shareAt yX6_shareAt, Cond.code yX6_shareAt cX6_shareAt 2 (some .int), Cond.methodLink RX6 53 yX6_lesser, Cond.static yX6_lesser, Cond.code yX6_lesser cX6_lesser 2 (some .int), Cond.methodLink RX6 62 yX6_spotIn, Cond.static yX6_spotIn, Cond.code yX6_spotIn cX6_spotIn 2 (some .int), Cond.methodLink RX6 97 yX6_shown]
def wsX6_over_r2 : List Cond := [Cond.instanceMethod yX6_shown, Cond.selects RX6 yX6_shown yX6_shown, Cond.code yX6_shown cX6_shown 4 (some .int), Cond.methodLink RX6 56 yX6_glass, Cond.static yX6_glass, Cond.code yX6_glass cX6_glass 2 (some .int), Cond.methodLink RX6 59 yX6_leakOf, Cond.instanceMethod yX6_leakOf, Cond.selects RX6 yX6_leakOf yX6_leakOf, Cond.code yX6_leakOf cX6_leakOf 2 (some .int)]
def wsX6_over : List Cond := .code yX6_over cX6_over 12 (some .int) :: ((wsX6_over_r1 ++ wsX6_over_r2) ++ wsX60)
def wsX6_power : List Cond := .code yX6_power cX6_power 4 (some .int) :: ([.fieldLink RX6 19 "ZonedLightModel" "wanted" "[I", .fieldLink RX6 7 "ZonedLightModel" "all" "[I"] ++ wsX60)
def wsX6_farthest_r1 : List Cond := [Cond.fieldLink RX6 7 "ZonedLightModel" "all" "[I", Cond.fieldLink RX6 19 "ZonedLightModel" "wanted" "[I", Cond.methodLink RX6 100 yX6_wants, Cond.instanceMethod yX6_wants, Cond.selects RX6 yX6_wants yX6_wants, Cond.initialized RX6, Cond.code yX6_wants cX6_wants 4 none, Cond.methodLink RX6 87 yX6_beginning, Cond.instanceMethod yX6_beginning, Cond.selects RX6 yX6_beginning yX6_beginning, Cond.code yX6_beginning cX6_beginning 5 (some .int), Cond.methodLink RX6 65 yX6_greatestIn, Cond.instanceMethod yX6_greatestIn, Cond.selects RX6 yX6_greatestIn yX6_greatestIn, Cond.code yX6_greatestIn cX6_greatestIn 5 (some .int), Cond.methodLink RX6 62 yX6_spotIn, Cond.static yX6_spotIn, Cond.code yX6_spotIn cX6_spotIn 2 (some .int), Cond.methodLink RX6 68 yX6_meanIn, Cond.instanceMethod yX6_meanIn, Cond.selects RX6 yX6_meanIn yX6_meanIn, Cond.code yX6_meanIn cX6_meanIn 4 (some .int), Cond.methodLink RX6 53 yX6_lesser, Cond.static yX6_lesser]
def wsX6_farthest_r2 : List Cond := [Cond.code yX6_lesser cX6_lesser 2 (some .int), Cond.methodLink RX6 90 yX6_round, Cond.instanceMethod yX6_round, Cond.selects RX6 yX6_round yX6_round, Cond.code yX6_round cX6_round 3 none, Cond.methodLink RX6 79 yX6_light, Cond.instanceMethod yX6_light, Cond.selects RX6 yX6_light yX6_light, Cond.code yX6_light cX6_light 5 (some .int), Cond.methodLink RX6 46 yX6_apart, Cond.static yX6_apart, Cond.code yX6_apart cX6_apart 4 (some .int), Cond.methodLink RX6 42 yX6_off, Cond.static yX6_off, Cond.code yX6_off cX6_off 1 (some .int), Cond.methodLink RX6 50 yX6_shareAt, Cond.instanceMethod yX6_shareAt, Cond.selects RX6 yX6_shareAt yX6_shareAt, Cond.code yX6_shareAt cX6_shareAt 2 (some .int), Cond.methodLink RX6 75 yX6_raises, Cond.instanceMethod yX6_raises, Cond.selects RX6 yX6_raises yX6_raises, Cond.code yX6_raises cX6_raises 4 none, Cond.methodLink RX6 83 yX6_raisesBeside]
def wsX6_farthest_r3 : List Cond := [Cond.instanceMethod yX6_raisesBeside, Cond.selects RX6 yX6_raisesBeside yX6_raisesBeside, Cond.code yX6_raisesBeside cX6_raisesBeside 6 none, Cond.methodLink RX6 71 yX6_isLiveBeside, Cond.instanceMethod yX6_isLiveBeside, Cond.selects RX6 yX6_isLiveBeside yX6_isLiveBeside, Cond.code yX6_isLiveBeside cX6_isLiveBeside 3 (some .boolean), Cond.methodLink RX6 93 yX6_hasBlack, Cond.instanceMethod yX6_hasBlack, Cond.selects RX6 yX6_hasBlack yX6_hasBlack, Cond.code yX6_hasBlack cX6_hasBlack 4 (some .boolean), Cond.methodLink RX6 59 yX6_leakOf, Cond.instanceMethod yX6_leakOf, Cond.selects RX6 yX6_leakOf yX6_leakOf, Cond.code yX6_leakOf cX6_leakOf 2 (some .int)]
def wsX6_farthest : List Cond := .code yX6_farthest cX6_farthest 4 (some .int) :: ((wsX6_farthest_r1 ++ (wsX6_farthest_r2 ++ wsX6_farthest_r3)) ++ wsX60)
def wsX6_ask : List Cond := .code yX6_ask cX6_ask 5 (some .int) :: ([.constantLong RX6 107 (255), .fieldLink RX6 7 "ZonedLightModel" "all" "[I", .methodLink RX6 104 yX6_isSpot, .static yX6_isSpot, .initialized RX6, .code yX6_isSpot cX6_isSpot 2 (some .boolean), .constantLong RX6 32 (23), .constantLong RX6 38 (11), .methodLink RX6 34 yX6_in, .static yX6_in, .code yX6_in cX6_in 6 (some .boolean), .methodLink RX6 109 yX6_acts, .instanceMethod yX6_acts, .selects RX6 yX6_acts yX6_acts, .code yX6_acts cX6_acts 2 none, .fieldLink RX6 28 "ZonedLightModel" "historyLong" "I", .fieldLink RX6 13 "ZonedLightModel" "history" "[I"] ++ wsX60)
def wsX6_otherSpots : List Cond := .code yX6_otherSpots cX6_otherSpots 3 (some .int) :: ([.fieldLink RX6 7 "ZonedLightModel" "all" "[I", .fieldLink RX6 13 "ZonedLightModel" "history" "[I", .fieldLink RX6 28 "ZonedLightModel" "historyLong" "I"] ++ wsX60)
def wsX6_move : List Cond := .code yX6_move cX6_move 6 (some .int) :: ([.constantLong RX6 112 (3), .fieldLink RX6 28 "ZonedLightModel" "historyLong" "I", .fieldLink RX6 7 "ZonedLightModel" "all" "[I", .fieldLink RX6 13 "ZonedLightModel" "history" "[I", .methodLink RX6 34 yX6_in, .static yX6_in, .initialized RX6, .code yX6_in cX6_in 6 (some .boolean), .methodLink RX6 109 yX6_acts, .instanceMethod yX6_acts, .selects RX6 yX6_acts yX6_acts, .code yX6_acts cX6_acts 2 none, .methodLink RX6 104 yX6_isSpot, .static yX6_isSpot, .code yX6_isSpot cX6_isSpot 2 (some .boolean), .constantLong RX6 32 (23), .constantLong RX6 38 (11), .methodLink RX6 114 yX6_otherSpots, .instanceMethod yX6_otherSpots, .selects RX6 yX6_otherSpots yX6_otherSpots, .code yX6_otherSpots cX6_otherSpots 3 (some .int)] ++ wsX60)
def wsX6_kill : List Cond := .code yX6_kill cX6_kill 5 (some .int) :: ([.fieldLink RX6 7 "ZonedLightModel" "all" "[I", .methodLink RX6 118 yX6_isZone, .static yX6_isZone, .initialized RX6, .code yX6_isZone cX6_isZone 1 (some .boolean), .constantLong RX6 40 (17), .methodLink RX6 34 yX6_in, .static yX6_in, .code yX6_in cX6_in 6 (some .boolean), .methodLink RX6 109 yX6_acts, .instanceMethod yX6_acts, .selects RX6 yX6_acts yX6_acts, .code yX6_acts cX6_acts 2 none, .fieldLink RX6 28 "ZonedLightModel" "historyLong" "I", .fieldLink RX6 13 "ZonedLightModel" "history" "[I"] ++ wsX60)
def wsX6_frame : List Cond := .code yX6_frame cX6_frame 4 none :: ([.fieldLink RX6 19 "ZonedLightModel" "wanted" "[I", .fieldLink RX6 7 "ZonedLightModel" "all" "[I", .methodLink RX6 42 yX6_off, .static yX6_off, .initialized RX6, .code yX6_off cX6_off 1 (some .int), .methodLink RX6 121 yX6_power, .instanceMethod yX6_power, .selects RX6 yX6_power yX6_power, .code yX6_power cX6_power 4 (some .int)] ++ wsX60)
def wsX6_pass_r1 : List Cond := [Cond.constantLong RX6 125 (99), Cond.fieldLink RX6 7 "ZonedLightModel" "all" "[I", Cond.methodLink RX6 34 yX6_in, Cond.static yX6_in, Cond.initialized RX6, Cond.code yX6_in cX6_in 6 (some .boolean), Cond.methodLink RX6 109 yX6_acts, Cond.instanceMethod yX6_acts, Cond.selects RX6 yX6_acts yX6_acts, Cond.code yX6_acts cX6_acts 2 none, Cond.fieldLink RX6 28 "ZonedLightModel" "historyLong" "I", Cond.fieldLink RX6 13 "ZonedLightModel" "history" "[I", Cond.methodLink RX6 100 yX6_wants, Cond.instanceMethod yX6_wants, Cond.selects RX6 yX6_wants yX6_wants, Cond.code yX6_wants cX6_wants 4 none, Cond.fieldLink RX6 19 "ZonedLightModel" "wanted" "[I", Cond.methodLink RX6 87 yX6_beginning, Cond.instanceMethod yX6_beginning, Cond.selects RX6 yX6_beginning yX6_beginning, Cond.code yX6_beginning cX6_beginning 5 (some .int), Cond.methodLink RX6 65 yX6_greatestIn, Cond.instanceMethod yX6_greatestIn, Cond.selects RX6 yX6_greatestIn yX6_greatestIn]
def wsX6_pass_r2 : List Cond := [Cond.code yX6_greatestIn cX6_greatestIn 5 (some .int), Cond.methodLink RX6 62 yX6_spotIn, Cond.static yX6_spotIn, Cond.code yX6_spotIn cX6_spotIn 2 (some .int), Cond.methodLink RX6 68 yX6_meanIn, Cond.instanceMethod yX6_meanIn, Cond.selects RX6 yX6_meanIn yX6_meanIn, Cond.code yX6_meanIn cX6_meanIn 4 (some .int), Cond.methodLink RX6 53 yX6_lesser, Cond.static yX6_lesser, Cond.code yX6_lesser cX6_lesser 2 (some .int), Cond.methodLink RX6 90 yX6_round, Cond.instanceMethod yX6_round, Cond.selects RX6 yX6_round yX6_round, Cond.code yX6_round cX6_round 3 none, Cond.methodLink RX6 79 yX6_light, Cond.instanceMethod yX6_light, Cond.selects RX6 yX6_light yX6_light, Cond.code yX6_light cX6_light 5 (some .int), Cond.methodLink RX6 46 yX6_apart, Cond.static yX6_apart, Cond.code yX6_apart cX6_apart 4 (some .int), Cond.methodLink RX6 42 yX6_off, Cond.static yX6_off]
def wsX6_pass_r3 : List Cond := [Cond.code yX6_off cX6_off 1 (some .int), Cond.methodLink RX6 50 yX6_shareAt, Cond.instanceMethod yX6_shareAt, Cond.selects RX6 yX6_shareAt yX6_shareAt, Cond.code yX6_shareAt cX6_shareAt 2 (some .int), Cond.methodLink RX6 75 yX6_raises, Cond.instanceMethod yX6_raises, Cond.selects RX6 yX6_raises yX6_raises, Cond.code yX6_raises cX6_raises 4 none, Cond.methodLink RX6 83 yX6_raisesBeside, Cond.instanceMethod yX6_raisesBeside, Cond.selects RX6 yX6_raisesBeside yX6_raisesBeside, Cond.code yX6_raisesBeside cX6_raisesBeside 6 none, Cond.methodLink RX6 71 yX6_isLiveBeside, Cond.instanceMethod yX6_isLiveBeside, Cond.selects RX6 yX6_isLiveBeside yX6_isLiveBeside, Cond.code yX6_isLiveBeside cX6_isLiveBeside 3 (some .boolean), Cond.methodLink RX6 93 yX6_hasBlack, Cond.instanceMethod yX6_hasBlack, Cond.selects RX6 yX6_hasBlack yX6_hasBlack, Cond.code yX6_hasBlack cX6_hasBlack 4 (some .boolean), Cond.methodLink RX6 59 yX6_leakOf, Cond.instanceMethod yX6_leakOf, Cond.selects RX6 yX6_leakOf yX6_leakOf]
def wsX6_pass_r4 : List Cond := [Cond.code yX6_leakOf cX6_leakOf 2 (some .int), Cond.methodLink RX6 127 yX6_frame, Cond.instanceMethod yX6_frame, Cond.selects RX6 yX6_frame yX6_frame, Cond.code yX6_frame cX6_frame 4 none, Cond.methodLink RX6 121 yX6_power, Cond.instanceMethod yX6_power, Cond.selects RX6 yX6_power yX6_power, Cond.code yX6_power cX6_power 4 (some .int)]
def wsX6_pass : List Cond := .code yX6_pass cX6_pass 3 (some .int) :: ((wsX6_pass_r1 ++ (wsX6_pass_r2 ++ (wsX6_pass_r3 ++ wsX6_pass_r4))) ++ wsX60)
def wsX6_isSetting : List Cond := .code yX6_isSetting cX6_isSetting 2 (some .boolean) :: ([.constantLong RX6 130 (100), .constantLong RX6 132 (256), .constantLong RX6 134 (30), .constantLong RX6 136 (9), .constantLong RX6 138 (2), .constantLong RX6 140 (50), .constantLong RX6 142 (20), .constantLong RX6 107 (255), .methodLink RX6 34 yX6_in, .static yX6_in, .initialized RX6, .code yX6_in cX6_in 6 (some .boolean)])
def wsX6_set : List Cond := .code yX6_set cX6_set 4 (some .int) :: ([.fieldLink RX6 7 "ZonedLightModel" "all" "[I", .methodLink RX6 144 yX6_isSetting, .static yX6_isSetting, .initialized RX6, .code yX6_isSetting cX6_isSetting 2 (some .boolean), .constantLong RX6 130 (100), .constantLong RX6 132 (256), .constantLong RX6 134 (30), .constantLong RX6 136 (9), .constantLong RX6 138 (2), .constantLong RX6 140 (50), .constantLong RX6 142 (20), .constantLong RX6 107 (255), .methodLink RX6 34 yX6_in, .static yX6_in, .code yX6_in cX6_in 6 (some .boolean), .methodLink RX6 109 yX6_acts, .instanceMethod yX6_acts, .selects RX6 yX6_acts yX6_acts, .code yX6_acts cX6_acts 2 none, .fieldLink RX6 28 "ZonedLightModel" "historyLong" "I", .fieldLink RX6 13 "ZonedLightModel" "history" "[I"] ++ wsX60)
def wsX6_type : List Cond := .code yX6_type cX6_type 2 (some .int) :: ([.fieldLink RX6 147 "ZonedLightModel" "textLong" "I", .fieldLink RX6 22 "ZonedLightModel" "text" "[I"] ++ wsX60)
def wsX6_clearText : List Cond := .code yX6_clearText cX6_clearText 2 (some .int) :: ([.fieldLink RX6 147 "ZonedLightModel" "textLong" "I"] ++ wsX60)
def wsX6_isHere : List Cond := .code yX6_isHere cX6_isHere 3 (some .boolean) :: ([.fieldLink RX6 150 "ZonedLightModel" "spot" "I", .fieldLink RX6 147 "ZonedLightModel" "textLong" "I", .fieldLink RX6 22 "ZonedLightModel" "text" "[I", .methodLink RX6 34 yX6_in, .static yX6_in, .initialized RX6, .code yX6_in cX6_in 6 (some .boolean)] ++ wsX60)
def wsX6_takes : List Cond := .code yX6_takes cX6_takes 3 (some .boolean) :: ([.fieldLink RX6 150 "ZonedLightModel" "spot" "I", .methodLink RX6 153 yX6_isHere, .instanceMethod yX6_isHere, .selects RX6 yX6_isHere yX6_isHere, .initialized RX6, .code yX6_isHere cX6_isHere 3 (some .boolean), .fieldLink RX6 147 "ZonedLightModel" "textLong" "I", .fieldLink RX6 22 "ZonedLightModel" "text" "[I", .methodLink RX6 34 yX6_in, .static yX6_in, .code yX6_in cX6_in 6 (some .boolean)] ++ wsX60)
def wsX6_readsNumber : List Cond := .code yX6_readsNumber cX6_readsNumber 5 (some .boolean) :: ([.fieldLink RX6 22 "ZonedLightModel" "text" "[I", .fieldLink RX6 150 "ZonedLightModel" "spot" "I", .fieldLink RX6 25 "ZonedLightModel" "part" "[I", .methodLink RX6 153 yX6_isHere, .instanceMethod yX6_isHere, .selects RX6 yX6_isHere yX6_isHere, .initialized RX6, .code yX6_isHere cX6_isHere 3 (some .boolean), .fieldLink RX6 147 "ZonedLightModel" "textLong" "I", .methodLink RX6 34 yX6_in, .static yX6_in, .code yX6_in cX6_in 6 (some .boolean)] ++ wsX60)
def wsX6_readsPart : List Cond := .code yX6_readsPart cX6_readsPart 1 (some .boolean) :: ([.methodLink RX6 156 yX6_readsNumber, .instanceMethod yX6_readsNumber, .selects RX6 yX6_readsNumber yX6_readsNumber, .initialized RX6, .code yX6_readsNumber cX6_readsNumber 5 (some .boolean), .fieldLink RX6 22 "ZonedLightModel" "text" "[I", .fieldLink RX6 150 "ZonedLightModel" "spot" "I", .fieldLink RX6 25 "ZonedLightModel" "part" "[I", .methodLink RX6 153 yX6_isHere, .instanceMethod yX6_isHere, .selects RX6 yX6_isHere yX6_isHere, .code yX6_isHere cX6_isHere 3 (some .boolean), .fieldLink RX6 147 "ZonedLightModel" "textLong" "I", .methodLink RX6 34 yX6_in, .static yX6_in, .code yX6_in cX6_in 6 (some .boolean), .methodLink RX6 160 yX6_takes, .instanceMethod yX6_takes, .selects RX6 yX6_takes yX6_takes, .code yX6_takes cX6_takes 3 (some .boolean)] ++ wsX60)
def wsX6_fault : List Cond := .code yX6_fault cX6_fault 2 (some .int) :: ([.fieldLink RX6 150 "ZonedLightModel" "spot" "I", .fieldLink RX6 147 "ZonedLightModel" "textLong" "I", .methodLink RX6 163 yX6_readsPart, .instanceMethod yX6_readsPart, .selects RX6 yX6_readsPart yX6_readsPart, .initialized RX6, .code yX6_readsPart cX6_readsPart 1 (some .boolean), .methodLink RX6 156 yX6_readsNumber, .instanceMethod yX6_readsNumber, .selects RX6 yX6_readsNumber yX6_readsNumber, .code yX6_readsNumber cX6_readsNumber 5 (some .boolean), .fieldLink RX6 22 "ZonedLightModel" "text" "[I", .fieldLink RX6 25 "ZonedLightModel" "part" "[I", .methodLink RX6 153 yX6_isHere, .instanceMethod yX6_isHere, .selects RX6 yX6_isHere yX6_isHere, .code yX6_isHere cX6_isHere 3 (some .boolean), .methodLink RX6 34 yX6_in, .static yX6_in, .code yX6_in cX6_in 6 (some .boolean), .methodLink RX6 160 yX6_takes, .instanceMethod yX6_takes, .selects RX6 yX6_takes yX6_takes, .code yX6_takes cX6_takes 3 (some .boolean)] ++ wsX60)
def wsX6_asksPart : List Cond := .code yX6_asksPart cX6_asksPart 3 none :: ([.fieldLink RX6 25 "ZonedLightModel" "part" "[I", .fieldLink RX6 7 "ZonedLightModel" "all" "[I"] ++ wsX60)
def wsX6_askAll_r1 : List Cond := [Cond.fieldLink RX6 150 "ZonedLightModel" "spot" "I", Cond.methodLink RX6 167 yX6_fault, Cond.instanceMethod yX6_fault, Cond.selects RX6 yX6_fault yX6_fault, Cond.initialized RX6, Cond.code yX6_fault cX6_fault 2 (some .int), Cond.fieldLink RX6 147 "ZonedLightModel" "textLong" "I", Cond.methodLink RX6 163 yX6_readsPart, Cond.instanceMethod yX6_readsPart, Cond.selects RX6 yX6_readsPart yX6_readsPart, Cond.code yX6_readsPart cX6_readsPart 1 (some .boolean), Cond.methodLink RX6 156 yX6_readsNumber, Cond.instanceMethod yX6_readsNumber, Cond.selects RX6 yX6_readsNumber yX6_readsNumber, Cond.code yX6_readsNumber cX6_readsNumber 5 (some .boolean), Cond.fieldLink RX6 22 "ZonedLightModel" "text" "[I", Cond.fieldLink RX6 25 "ZonedLightModel" "part" "[I", Cond.methodLink RX6 153 yX6_isHere, Cond.instanceMethod yX6_isHere, Cond.selects RX6 yX6_isHere yX6_isHere, Cond.code yX6_isHere cX6_isHere 3 (some .boolean), Cond.methodLink RX6 34 yX6_in, Cond.static yX6_in, Cond.code yX6_in cX6_in 6 (some .boolean)]
def wsX6_askAll_r2 : List Cond := [Cond.methodLink RX6 160 yX6_takes, Cond.instanceMethod yX6_takes, Cond.selects RX6 yX6_takes yX6_takes, Cond.code yX6_takes cX6_takes 3 (some .boolean), Cond.methodLink RX6 109 yX6_acts, Cond.instanceMethod yX6_acts, Cond.selects RX6 yX6_acts yX6_acts, Cond.code yX6_acts cX6_acts 2 none, Cond.fieldLink RX6 28 "ZonedLightModel" "historyLong" "I", Cond.fieldLink RX6 13 "ZonedLightModel" "history" "[I", Cond.fieldLink RX6 7 "ZonedLightModel" "all" "[I", Cond.methodLink RX6 170 yX6_asksPart, Cond.instanceMethod yX6_asksPart, Cond.selects RX6 yX6_asksPart yX6_asksPart, Cond.code yX6_asksPart cX6_asksPart 3 none, Cond.methodLink RX6 114 yX6_otherSpots, Cond.instanceMethod yX6_otherSpots, Cond.selects RX6 yX6_otherSpots yX6_otherSpots, Cond.code yX6_otherSpots cX6_otherSpots 3 (some .int)]
def wsX6_askAll : List Cond := .code yX6_askAll cX6_askAll 4 (some .int) :: ((wsX6_askAll_r1 ++ wsX6_askAll_r2) ++ wsX60)
def wsX6_undo : List Cond := .code yX6_undo cX6_undo 2 (some .int) :: ([.fieldLink RX6 28 "ZonedLightModel" "historyLong" "I", .fieldLink RX6 7 "ZonedLightModel" "all" "[I", .fieldLink RX6 13 "ZonedLightModel" "history" "[I"] ++ wsX60)
def wsX6_keep : List Cond := .code yX6_keep cX6_keep 2 (some .int) :: ([.fieldLink RX6 16 "ZonedLightModel" "snapshot" "[I", .fieldLink RX6 7 "ZonedLightModel" "all" "[I", .fieldLink RX6 173 "ZonedLightModel" "isKept" "I"] ++ wsX60)
def wsX6_restore : List Cond := .code yX6_restore cX6_restore 2 (some .int) :: ([.fieldLink RX6 173 "ZonedLightModel" "isKept" "I", .fieldLink RX6 7 "ZonedLightModel" "all" "[I", .fieldLink RX6 16 "ZonedLightModel" "snapshot" "[I", .methodLink RX6 109 yX6_acts, .instanceMethod yX6_acts, .selects RX6 yX6_acts yX6_acts, .initialized RX6, .code yX6_acts cX6_acts 2 none, .fieldLink RX6 28 "ZonedLightModel" "historyLong" "I", .fieldLink RX6 13 "ZonedLightModel" "history" "[I"] ++ wsX60)
def wsX6_spot_r1 : List Cond := [Cond.fieldLink RX6 7 "ZonedLightModel" "all" "[I", Cond.methodLink RX6 104 yX6_isSpot, Cond.static yX6_isSpot, Cond.initialized RX6, Cond.code yX6_isSpot cX6_isSpot 2 (some .boolean), Cond.constantLong RX6 32 (23), Cond.constantLong RX6 38 (11), Cond.methodLink RX6 34 yX6_in, Cond.static yX6_in, Cond.code yX6_in cX6_in 6 (some .boolean), Cond.methodLink RX6 176 yX6_zoneOf, Cond.static yX6_zoneOf, Cond.code yX6_zoneOf cX6_zoneOf 1 (some .int), Cond.methodLink RX6 79 yX6_light, Cond.instanceMethod yX6_light, Cond.selects RX6 yX6_light yX6_light, Cond.code yX6_light cX6_light 5 (some .int), Cond.fieldLink RX6 19 "ZonedLightModel" "wanted" "[I", Cond.methodLink RX6 46 yX6_apart, Cond.static yX6_apart, Cond.code yX6_apart cX6_apart 4 (some .int), Cond.methodLink RX6 42 yX6_off, Cond.static yX6_off, Cond.code yX6_off cX6_off 1 (some .int)]
def wsX6_spot_r2 : List Cond := [Cond.methodLink RX6 50 yX6_shareAt, Cond.instanceMethod yX6_shareAt, Cond.selects RX6 yX6_shareAt yX6_shareAt, Cond.code yX6_shareAt cX6_shareAt 2 (some .int), Cond.methodLink RX6 53 yX6_lesser, Cond.static yX6_lesser, Cond.code yX6_lesser cX6_lesser 2 (some .int), Cond.methodLink RX6 97 yX6_shown, Cond.instanceMethod yX6_shown, Cond.selects RX6 yX6_shown yX6_shown, Cond.code yX6_shown cX6_shown 4 (some .int), Cond.methodLink RX6 56 yX6_glass, Cond.static yX6_glass, Cond.code yX6_glass cX6_glass 2 (some .int), Cond.methodLink RX6 59 yX6_leakOf, Cond.instanceMethod yX6_leakOf, Cond.selects RX6 yX6_leakOf yX6_leakOf, Cond.code yX6_leakOf cX6_leakOf 2 (some .int)]
def wsX6_spot : List Cond := .code yX6_spot cX6_spot 7 (some .int) :: ((wsX6_spot_r1 ++ wsX6_spot_r2) ++ wsX60)
def wsX6_wantedFor_r1 : List Cond := [Cond.fieldLink RX6 7 "ZonedLightModel" "all" "[I", Cond.fieldLink RX6 19 "ZonedLightModel" "wanted" "[I", Cond.methodLink RX6 100 yX6_wants, Cond.instanceMethod yX6_wants, Cond.selects RX6 yX6_wants yX6_wants, Cond.initialized RX6, Cond.code yX6_wants cX6_wants 4 none, Cond.methodLink RX6 87 yX6_beginning, Cond.instanceMethod yX6_beginning, Cond.selects RX6 yX6_beginning yX6_beginning, Cond.code yX6_beginning cX6_beginning 5 (some .int), Cond.methodLink RX6 65 yX6_greatestIn, Cond.instanceMethod yX6_greatestIn, Cond.selects RX6 yX6_greatestIn yX6_greatestIn, Cond.code yX6_greatestIn cX6_greatestIn 5 (some .int), Cond.methodLink RX6 62 yX6_spotIn, Cond.static yX6_spotIn, Cond.code yX6_spotIn cX6_spotIn 2 (some .int), Cond.methodLink RX6 68 yX6_meanIn, Cond.instanceMethod yX6_meanIn, Cond.selects RX6 yX6_meanIn yX6_meanIn, Cond.code yX6_meanIn cX6_meanIn 4 (some .int), Cond.methodLink RX6 53 yX6_lesser, Cond.static yX6_lesser]
def wsX6_wantedFor_r2 : List Cond := [Cond.code yX6_lesser cX6_lesser 2 (some .int), Cond.methodLink RX6 90 yX6_round, Cond.instanceMethod yX6_round, Cond.selects RX6 yX6_round yX6_round, Cond.code yX6_round cX6_round 3 none, Cond.methodLink RX6 79 yX6_light, Cond.instanceMethod yX6_light, Cond.selects RX6 yX6_light yX6_light, Cond.code yX6_light cX6_light 5 (some .int), Cond.methodLink RX6 46 yX6_apart, Cond.static yX6_apart, Cond.code yX6_apart cX6_apart 4 (some .int), Cond.methodLink RX6 42 yX6_off, Cond.static yX6_off, Cond.code yX6_off cX6_off 1 (some .int), Cond.methodLink RX6 50 yX6_shareAt, Cond.instanceMethod yX6_shareAt, Cond.selects RX6 yX6_shareAt yX6_shareAt, Cond.code yX6_shareAt cX6_shareAt 2 (some .int), Cond.methodLink RX6 75 yX6_raises, Cond.instanceMethod yX6_raises, Cond.selects RX6 yX6_raises yX6_raises, Cond.code yX6_raises cX6_raises 4 none, Cond.methodLink RX6 83 yX6_raisesBeside]
def wsX6_wantedFor_r3 : List Cond := [Cond.instanceMethod yX6_raisesBeside, Cond.selects RX6 yX6_raisesBeside yX6_raisesBeside, Cond.code yX6_raisesBeside cX6_raisesBeside 6 none, Cond.methodLink RX6 71 yX6_isLiveBeside, Cond.instanceMethod yX6_isLiveBeside, Cond.selects RX6 yX6_isLiveBeside yX6_isLiveBeside, Cond.code yX6_isLiveBeside cX6_isLiveBeside 3 (some .boolean), Cond.methodLink RX6 93 yX6_hasBlack, Cond.instanceMethod yX6_hasBlack, Cond.selects RX6 yX6_hasBlack yX6_hasBlack, Cond.code yX6_hasBlack cX6_hasBlack 4 (some .boolean), Cond.methodLink RX6 59 yX6_leakOf, Cond.instanceMethod yX6_leakOf, Cond.selects RX6 yX6_leakOf yX6_leakOf, Cond.code yX6_leakOf cX6_leakOf 2 (some .int)]
def wsX6_wantedFor : List Cond := .code yX6_wantedFor cX6_wantedFor 2 (some .int) :: ((wsX6_wantedFor_r1 ++ (wsX6_wantedFor_r2 ++ wsX6_wantedFor_r3)) ++ wsX60)
def wsX6_zone_r1 : List Cond := [Cond.fieldLink RX6 7 "ZonedLightModel" "all" "[I", Cond.methodLink RX6 118 yX6_isZone, Cond.static yX6_isZone, Cond.initialized RX6, Cond.code yX6_isZone cX6_isZone 1 (some .boolean), Cond.constantLong RX6 40 (17), Cond.methodLink RX6 34 yX6_in, Cond.static yX6_in, Cond.code yX6_in cX6_in 6 (some .boolean), Cond.methodLink RX6 179 yX6_wantedFor, Cond.instanceMethod yX6_wantedFor, Cond.selects RX6 yX6_wantedFor yX6_wantedFor, Cond.code yX6_wantedFor cX6_wantedFor 2 (some .int), Cond.fieldLink RX6 19 "ZonedLightModel" "wanted" "[I", Cond.methodLink RX6 100 yX6_wants, Cond.instanceMethod yX6_wants, Cond.selects RX6 yX6_wants yX6_wants, Cond.code yX6_wants cX6_wants 4 none, Cond.methodLink RX6 87 yX6_beginning, Cond.instanceMethod yX6_beginning, Cond.selects RX6 yX6_beginning yX6_beginning, Cond.code yX6_beginning cX6_beginning 5 (some .int), Cond.methodLink RX6 65 yX6_greatestIn, Cond.instanceMethod yX6_greatestIn]
def wsX6_zone_r2 : List Cond := [Cond.selects RX6 yX6_greatestIn yX6_greatestIn, Cond.code yX6_greatestIn cX6_greatestIn 5 (some .int), Cond.methodLink RX6 62 yX6_spotIn, Cond.static yX6_spotIn, Cond.code yX6_spotIn cX6_spotIn 2 (some .int), Cond.methodLink RX6 68 yX6_meanIn, Cond.instanceMethod yX6_meanIn, Cond.selects RX6 yX6_meanIn yX6_meanIn, Cond.code yX6_meanIn cX6_meanIn 4 (some .int), Cond.methodLink RX6 53 yX6_lesser, Cond.static yX6_lesser, Cond.code yX6_lesser cX6_lesser 2 (some .int), Cond.methodLink RX6 90 yX6_round, Cond.instanceMethod yX6_round, Cond.selects RX6 yX6_round yX6_round, Cond.code yX6_round cX6_round 3 none, Cond.methodLink RX6 79 yX6_light, Cond.instanceMethod yX6_light, Cond.selects RX6 yX6_light yX6_light, Cond.code yX6_light cX6_light 5 (some .int), Cond.methodLink RX6 46 yX6_apart, Cond.static yX6_apart, Cond.code yX6_apart cX6_apart 4 (some .int), Cond.methodLink RX6 42 yX6_off]
def wsX6_zone_r3 : List Cond := [Cond.static yX6_off, Cond.code yX6_off cX6_off 1 (some .int), Cond.methodLink RX6 50 yX6_shareAt, Cond.instanceMethod yX6_shareAt, Cond.selects RX6 yX6_shareAt yX6_shareAt, Cond.code yX6_shareAt cX6_shareAt 2 (some .int), Cond.methodLink RX6 75 yX6_raises, Cond.instanceMethod yX6_raises, Cond.selects RX6 yX6_raises yX6_raises, Cond.code yX6_raises cX6_raises 4 none, Cond.methodLink RX6 83 yX6_raisesBeside, Cond.instanceMethod yX6_raisesBeside, Cond.selects RX6 yX6_raisesBeside yX6_raisesBeside, Cond.code yX6_raisesBeside cX6_raisesBeside 6 none, Cond.methodLink RX6 71 yX6_isLiveBeside, Cond.instanceMethod yX6_isLiveBeside, Cond.selects RX6 yX6_isLiveBeside yX6_isLiveBeside, Cond.code yX6_isLiveBeside cX6_isLiveBeside 3 (some .boolean), Cond.methodLink RX6 93 yX6_hasBlack, Cond.instanceMethod yX6_hasBlack, Cond.selects RX6 yX6_hasBlack yX6_hasBlack, Cond.code yX6_hasBlack cX6_hasBlack 4 (some .boolean), Cond.methodLink RX6 59 yX6_leakOf, Cond.instanceMethod yX6_leakOf]
def wsX6_zone_r4 : List Cond := [Cond.selects RX6 yX6_leakOf yX6_leakOf, Cond.code yX6_leakOf cX6_leakOf 2 (some .int), Cond.methodLink RX6 182 yX6_over, Cond.instanceMethod yX6_over, Cond.selects RX6 yX6_over yX6_over, Cond.code yX6_over cX6_over 12 (some .int), Cond.methodLink RX6 97 yX6_shown, Cond.instanceMethod yX6_shown, Cond.selects RX6 yX6_shown yX6_shown, Cond.code yX6_shown cX6_shown 4 (some .int), Cond.methodLink RX6 56 yX6_glass, Cond.static yX6_glass, Cond.code yX6_glass cX6_glass 2 (some .int)]
def wsX6_zone : List Cond := .code yX6_zone cX6_zone 3 (some .int) :: ((wsX6_zone_r1 ++ (wsX6_zone_r2 ++ (wsX6_zone_r3 ++ wsX6_zone_r4))) ++ wsX60)
def wsX6_deadZones : List Cond := .code yX6_deadZones cX6_deadZones 3 (some .int) :: ([.fieldLink RX6 7 "ZonedLightModel" "all" "[I"] ++ wsX60)
def wsX6_count_r1 : List Cond := [Cond.fieldLink RX6 7 "ZonedLightModel" "all" "[I", Cond.fieldLink RX6 28 "ZonedLightModel" "historyLong" "I", Cond.fieldLink RX6 147 "ZonedLightModel" "textLong" "I", Cond.constantLong RX6 192 (13), Cond.constantLong RX6 142 (20), Cond.methodLink RX6 121 yX6_power, Cond.instanceMethod yX6_power, Cond.selects RX6 yX6_power yX6_power, Cond.initialized RX6, Cond.code yX6_power cX6_power 4 (some .int), Cond.fieldLink RX6 19 "ZonedLightModel" "wanted" "[I", Cond.methodLink RX6 182 yX6_over, Cond.instanceMethod yX6_over, Cond.selects RX6 yX6_over yX6_over, Cond.code yX6_over cX6_over 12 (some .int), Cond.methodLink RX6 79 yX6_light, Cond.instanceMethod yX6_light, Cond.selects RX6 yX6_light yX6_light, Cond.code yX6_light cX6_light 5 (some .int), Cond.methodLink RX6 46 yX6_apart, Cond.static yX6_apart, Cond.code yX6_apart cX6_apart 4 (some .int), Cond.methodLink RX6 42 yX6_off, Cond.static yX6_off]
def wsX6_count_r2 : List Cond := [Cond.code yX6_off cX6_off 1 (some .int), Cond.methodLink RX6 50 yX6_shareAt, Cond.instanceMethod yX6_shareAt, Cond.selects RX6 yX6_shareAt yX6_shareAt, Cond.code yX6_shareAt cX6_shareAt 2 (some .int), Cond.methodLink RX6 53 yX6_lesser, Cond.static yX6_lesser, Cond.code yX6_lesser cX6_lesser 2 (some .int), Cond.methodLink RX6 62 yX6_spotIn, Cond.static yX6_spotIn, Cond.code yX6_spotIn cX6_spotIn 2 (some .int), Cond.methodLink RX6 97 yX6_shown, Cond.instanceMethod yX6_shown, Cond.selects RX6 yX6_shown yX6_shown, Cond.code yX6_shown cX6_shown 4 (some .int), Cond.methodLink RX6 56 yX6_glass, Cond.static yX6_glass, Cond.code yX6_glass cX6_glass 2 (some .int), Cond.methodLink RX6 59 yX6_leakOf, Cond.instanceMethod yX6_leakOf, Cond.selects RX6 yX6_leakOf yX6_leakOf, Cond.code yX6_leakOf cX6_leakOf 2 (some .int), Cond.methodLink RX6 186 yX6_deadZones, Cond.instanceMethod yX6_deadZones]
def wsX6_count_r3 : List Cond := [Cond.selects RX6 yX6_deadZones yX6_deadZones, Cond.code yX6_deadZones cX6_deadZones 3 (some .int), Cond.methodLink RX6 189 yX6_farthest, Cond.instanceMethod yX6_farthest, Cond.selects RX6 yX6_farthest yX6_farthest, Cond.code yX6_farthest cX6_farthest 4 (some .int), Cond.methodLink RX6 100 yX6_wants, Cond.instanceMethod yX6_wants, Cond.selects RX6 yX6_wants yX6_wants, Cond.code yX6_wants cX6_wants 4 none, Cond.methodLink RX6 87 yX6_beginning, Cond.instanceMethod yX6_beginning, Cond.selects RX6 yX6_beginning yX6_beginning, Cond.code yX6_beginning cX6_beginning 5 (some .int), Cond.methodLink RX6 65 yX6_greatestIn, Cond.instanceMethod yX6_greatestIn, Cond.selects RX6 yX6_greatestIn yX6_greatestIn, Cond.code yX6_greatestIn cX6_greatestIn 5 (some .int), Cond.methodLink RX6 68 yX6_meanIn, Cond.instanceMethod yX6_meanIn, Cond.selects RX6 yX6_meanIn yX6_meanIn, Cond.code yX6_meanIn cX6_meanIn 4 (some .int), Cond.methodLink RX6 90 yX6_round, Cond.instanceMethod yX6_round]
def wsX6_count_r4 : List Cond := [Cond.selects RX6 yX6_round yX6_round, Cond.code yX6_round cX6_round 3 none, Cond.methodLink RX6 75 yX6_raises, Cond.instanceMethod yX6_raises, Cond.selects RX6 yX6_raises yX6_raises, Cond.code yX6_raises cX6_raises 4 none, Cond.methodLink RX6 83 yX6_raisesBeside, Cond.instanceMethod yX6_raisesBeside, Cond.selects RX6 yX6_raisesBeside yX6_raisesBeside, Cond.code yX6_raisesBeside cX6_raisesBeside 6 none, Cond.methodLink RX6 71 yX6_isLiveBeside, Cond.instanceMethod yX6_isLiveBeside, Cond.selects RX6 yX6_isLiveBeside yX6_isLiveBeside, Cond.code yX6_isLiveBeside cX6_isLiveBeside 3 (some .boolean), Cond.methodLink RX6 93 yX6_hasBlack, Cond.instanceMethod yX6_hasBlack, Cond.selects RX6 yX6_hasBlack yX6_hasBlack, Cond.code yX6_hasBlack cX6_hasBlack 4 (some .boolean), Cond.methodLink RX6 34 yX6_in, Cond.static yX6_in, Cond.code yX6_in cX6_in 6 (some .boolean)]
def wsX6_count : List Cond := .code yX6_count cX6_count 2 (some .int) :: ((wsX6_count_r1 ++ (wsX6_count_r2 ++ (wsX6_count_r3 ++ wsX6_count_r4))) ++ wsX60)
def wsX6_meanShown_r1 : List Cond := [Cond.constantDouble RX6 194 (4643774165772402688), Cond.methodLink RX6 182 yX6_over, Cond.instanceMethod yX6_over, Cond.selects RX6 yX6_over yX6_over, Cond.initialized RX6, Cond.code yX6_over cX6_over 12 (some .int), Cond.fieldLink RX6 7 "ZonedLightModel" "all" "[I", Cond.methodLink RX6 79 yX6_light, Cond.instanceMethod yX6_light, Cond.selects RX6 yX6_light yX6_light, Cond.code yX6_light cX6_light 5 (some .int), Cond.fieldLink RX6 19 "ZonedLightModel" "wanted" "[I", Cond.methodLink RX6 46 yX6_apart, Cond.static yX6_apart, Cond.code yX6_apart cX6_apart 4 (some .int), Cond.methodLink RX6 42 yX6_off, Cond.static yX6_off, Cond.code yX6_off cX6_off 1 (some .int), Cond.methodLink RX6 50 yX6_shareAt, Cond.instanceMethod yX6_shareAt, Cond.selects RX6 yX6_shareAt yX6_shareAt, Cond.code yX6_shareAt cX6_shareAt 2 (some .int), Cond.methodLink RX6 53 yX6_lesser, Cond.static yX6_lesser]
def wsX6_meanShown_r2 : List Cond := [Cond.code yX6_lesser cX6_lesser 2 (some .int), Cond.methodLink RX6 62 yX6_spotIn, Cond.static yX6_spotIn, Cond.code yX6_spotIn cX6_spotIn 2 (some .int), Cond.methodLink RX6 97 yX6_shown, Cond.instanceMethod yX6_shown, Cond.selects RX6 yX6_shown yX6_shown, Cond.code yX6_shown cX6_shown 4 (some .int), Cond.methodLink RX6 56 yX6_glass, Cond.static yX6_glass, Cond.code yX6_glass cX6_glass 2 (some .int), Cond.methodLink RX6 59 yX6_leakOf, Cond.instanceMethod yX6_leakOf, Cond.selects RX6 yX6_leakOf yX6_leakOf, Cond.code yX6_leakOf cX6_leakOf 2 (some .int)]
def wsX6_meanShown : List Cond := .code yX6_meanShown cX6_meanShown 1 (some .double) :: ((wsX6_meanShown_r1 ++ wsX6_meanShown_r2) ++ wsX60)
def wsX6_restsIn_r1 : List Cond := [Cond.fieldLink RX6 7 "ZonedLightModel" "all" "[I", Cond.methodLink RX6 189 yX6_farthest, Cond.instanceMethod yX6_farthest, Cond.selects RX6 yX6_farthest yX6_farthest, Cond.initialized RX6, Cond.code yX6_farthest cX6_farthest 4 (some .int), Cond.fieldLink RX6 19 "ZonedLightModel" "wanted" "[I", Cond.methodLink RX6 100 yX6_wants, Cond.instanceMethod yX6_wants, Cond.selects RX6 yX6_wants yX6_wants, Cond.code yX6_wants cX6_wants 4 none, Cond.methodLink RX6 87 yX6_beginning, Cond.instanceMethod yX6_beginning, Cond.selects RX6 yX6_beginning yX6_beginning, Cond.code yX6_beginning cX6_beginning 5 (some .int), Cond.methodLink RX6 65 yX6_greatestIn, Cond.instanceMethod yX6_greatestIn, Cond.selects RX6 yX6_greatestIn yX6_greatestIn, Cond.code yX6_greatestIn cX6_greatestIn 5 (some .int), Cond.methodLink RX6 62 yX6_spotIn, Cond.static yX6_spotIn, Cond.code yX6_spotIn cX6_spotIn 2 (some .int), Cond.methodLink RX6 68 yX6_meanIn, Cond.instanceMethod yX6_meanIn]
def wsX6_restsIn_r2 : List Cond := [Cond.selects RX6 yX6_meanIn yX6_meanIn, Cond.code yX6_meanIn cX6_meanIn 4 (some .int), Cond.methodLink RX6 53 yX6_lesser, Cond.static yX6_lesser, Cond.code yX6_lesser cX6_lesser 2 (some .int), Cond.methodLink RX6 90 yX6_round, Cond.instanceMethod yX6_round, Cond.selects RX6 yX6_round yX6_round, Cond.code yX6_round cX6_round 3 none, Cond.methodLink RX6 79 yX6_light, Cond.instanceMethod yX6_light, Cond.selects RX6 yX6_light yX6_light, Cond.code yX6_light cX6_light 5 (some .int), Cond.methodLink RX6 46 yX6_apart, Cond.static yX6_apart, Cond.code yX6_apart cX6_apart 4 (some .int), Cond.methodLink RX6 42 yX6_off, Cond.static yX6_off, Cond.code yX6_off cX6_off 1 (some .int), Cond.methodLink RX6 50 yX6_shareAt, Cond.instanceMethod yX6_shareAt, Cond.selects RX6 yX6_shareAt yX6_shareAt, Cond.code yX6_shareAt cX6_shareAt 2 (some .int), Cond.methodLink RX6 75 yX6_raises]
def wsX6_restsIn_r3 : List Cond := [Cond.instanceMethod yX6_raises, Cond.selects RX6 yX6_raises yX6_raises, Cond.code yX6_raises cX6_raises 4 none, Cond.methodLink RX6 83 yX6_raisesBeside, Cond.instanceMethod yX6_raisesBeside, Cond.selects RX6 yX6_raisesBeside yX6_raisesBeside, Cond.code yX6_raisesBeside cX6_raisesBeside 6 none, Cond.methodLink RX6 71 yX6_isLiveBeside, Cond.instanceMethod yX6_isLiveBeside, Cond.selects RX6 yX6_isLiveBeside yX6_isLiveBeside, Cond.code yX6_isLiveBeside cX6_isLiveBeside 3 (some .boolean), Cond.methodLink RX6 93 yX6_hasBlack, Cond.instanceMethod yX6_hasBlack, Cond.selects RX6 yX6_hasBlack yX6_hasBlack, Cond.code yX6_hasBlack cX6_hasBlack 4 (some .boolean), Cond.methodLink RX6 59 yX6_leakOf, Cond.instanceMethod yX6_leakOf, Cond.selects RX6 yX6_leakOf yX6_leakOf, Cond.code yX6_leakOf cX6_leakOf 2 (some .int)]
def wsX6_restsIn : List Cond := .code yX6_restsIn cX6_restsIn 1 (some .int) :: ((wsX6_restsIn_r1 ++ (wsX6_restsIn_r2 ++ wsX6_restsIn_r3)) ++ wsX60)
def wsX6_rested_r1 : List Cond := [Cond.methodLink RX6 121 yX6_power, Cond.instanceMethod yX6_power, Cond.selects RX6 yX6_power yX6_power, Cond.initialized RX6, Cond.code yX6_power cX6_power 4 (some .int), Cond.fieldLink RX6 19 "ZonedLightModel" "wanted" "[I", Cond.fieldLink RX6 7 "ZonedLightModel" "all" "[I", Cond.methodLink RX6 182 yX6_over, Cond.instanceMethod yX6_over, Cond.selects RX6 yX6_over yX6_over, Cond.code yX6_over cX6_over 12 (some .int), Cond.methodLink RX6 79 yX6_light, Cond.instanceMethod yX6_light, Cond.selects RX6 yX6_light yX6_light, Cond.code yX6_light cX6_light 5 (some .int), Cond.methodLink RX6 46 yX6_apart, Cond.static yX6_apart, Cond.code yX6_apart cX6_apart 4 (some .int), Cond.methodLink RX6 42 yX6_off, Cond.static yX6_off, Cond.code yX6_off cX6_off 1 (some .int), Cond.methodLink RX6 50 yX6_shareAt, Cond.instanceMethod yX6_shareAt, Cond.selects RX6 yX6_shareAt yX6_shareAt]
def wsX6_rested_r2 : List Cond := [Cond.code yX6_shareAt cX6_shareAt 2 (some .int), Cond.methodLink RX6 53 yX6_lesser, Cond.static yX6_lesser, Cond.code yX6_lesser cX6_lesser 2 (some .int), Cond.methodLink RX6 62 yX6_spotIn, Cond.static yX6_spotIn, Cond.code yX6_spotIn cX6_spotIn 2 (some .int), Cond.methodLink RX6 97 yX6_shown, Cond.instanceMethod yX6_shown, Cond.selects RX6 yX6_shown yX6_shown, Cond.code yX6_shown cX6_shown 4 (some .int), Cond.methodLink RX6 56 yX6_glass, Cond.static yX6_glass, Cond.code yX6_glass cX6_glass 2 (some .int), Cond.methodLink RX6 59 yX6_leakOf, Cond.instanceMethod yX6_leakOf, Cond.selects RX6 yX6_leakOf yX6_leakOf, Cond.code yX6_leakOf cX6_leakOf 2 (some .int)]
def wsX6_rested : List Cond := .code yX6_rested cX6_rested 2 (some .int) :: ((wsX6_rested_r1 ++ wsX6_rested_r2) ++ wsX60)
def wsX6_ifRule_r1 : List Cond := [Cond.constantLong RX6 138 (2), Cond.constantLong RX6 112 (3), Cond.methodLink RX6 34 yX6_in, Cond.static yX6_in, Cond.initialized RX6, Cond.code yX6_in cX6_in 6 (some .boolean), Cond.methodLink RX6 100 yX6_wants, Cond.instanceMethod yX6_wants, Cond.selects RX6 yX6_wants yX6_wants, Cond.code yX6_wants cX6_wants 4 none, Cond.fieldLink RX6 19 "ZonedLightModel" "wanted" "[I", Cond.fieldLink RX6 7 "ZonedLightModel" "all" "[I", Cond.methodLink RX6 87 yX6_beginning, Cond.instanceMethod yX6_beginning, Cond.selects RX6 yX6_beginning yX6_beginning, Cond.code yX6_beginning cX6_beginning 5 (some .int), Cond.methodLink RX6 65 yX6_greatestIn, Cond.instanceMethod yX6_greatestIn, Cond.selects RX6 yX6_greatestIn yX6_greatestIn, Cond.code yX6_greatestIn cX6_greatestIn 5 (some .int), Cond.methodLink RX6 62 yX6_spotIn, Cond.static yX6_spotIn, Cond.code yX6_spotIn cX6_spotIn 2 (some .int), Cond.methodLink RX6 68 yX6_meanIn]
def wsX6_ifRule_r2 : List Cond := [Cond.instanceMethod yX6_meanIn, Cond.selects RX6 yX6_meanIn yX6_meanIn, Cond.code yX6_meanIn cX6_meanIn 4 (some .int), Cond.methodLink RX6 53 yX6_lesser, Cond.static yX6_lesser, Cond.code yX6_lesser cX6_lesser 2 (some .int), Cond.methodLink RX6 90 yX6_round, Cond.instanceMethod yX6_round, Cond.selects RX6 yX6_round yX6_round, Cond.code yX6_round cX6_round 3 none, Cond.methodLink RX6 79 yX6_light, Cond.instanceMethod yX6_light, Cond.selects RX6 yX6_light yX6_light, Cond.code yX6_light cX6_light 5 (some .int), Cond.methodLink RX6 46 yX6_apart, Cond.static yX6_apart, Cond.code yX6_apart cX6_apart 4 (some .int), Cond.methodLink RX6 42 yX6_off, Cond.static yX6_off, Cond.code yX6_off cX6_off 1 (some .int), Cond.methodLink RX6 50 yX6_shareAt, Cond.instanceMethod yX6_shareAt, Cond.selects RX6 yX6_shareAt yX6_shareAt, Cond.code yX6_shareAt cX6_shareAt 2 (some .int)]
def wsX6_ifRule_r3 : List Cond := [Cond.methodLink RX6 75 yX6_raises, Cond.instanceMethod yX6_raises, Cond.selects RX6 yX6_raises yX6_raises, Cond.code yX6_raises cX6_raises 4 none, Cond.methodLink RX6 83 yX6_raisesBeside, Cond.instanceMethod yX6_raisesBeside, Cond.selects RX6 yX6_raisesBeside yX6_raisesBeside, Cond.code yX6_raisesBeside cX6_raisesBeside 6 none, Cond.methodLink RX6 71 yX6_isLiveBeside, Cond.instanceMethod yX6_isLiveBeside, Cond.selects RX6 yX6_isLiveBeside yX6_isLiveBeside, Cond.code yX6_isLiveBeside cX6_isLiveBeside 3 (some .boolean), Cond.methodLink RX6 93 yX6_hasBlack, Cond.instanceMethod yX6_hasBlack, Cond.selects RX6 yX6_hasBlack yX6_hasBlack, Cond.code yX6_hasBlack cX6_hasBlack 4 (some .boolean), Cond.methodLink RX6 59 yX6_leakOf, Cond.instanceMethod yX6_leakOf, Cond.selects RX6 yX6_leakOf yX6_leakOf, Cond.code yX6_leakOf cX6_leakOf 2 (some .int), Cond.methodLink RX6 196 yX6_rested, Cond.instanceMethod yX6_rested, Cond.selects RX6 yX6_rested yX6_rested, Cond.code yX6_rested cX6_rested 2 (some .int)]
def wsX6_ifRule_r4 : List Cond := [Cond.methodLink RX6 121 yX6_power, Cond.instanceMethod yX6_power, Cond.selects RX6 yX6_power yX6_power, Cond.code yX6_power cX6_power 4 (some .int), Cond.methodLink RX6 182 yX6_over, Cond.instanceMethod yX6_over, Cond.selects RX6 yX6_over yX6_over, Cond.code yX6_over cX6_over 12 (some .int), Cond.methodLink RX6 97 yX6_shown, Cond.instanceMethod yX6_shown, Cond.selects RX6 yX6_shown yX6_shown, Cond.code yX6_shown cX6_shown 4 (some .int), Cond.methodLink RX6 56 yX6_glass, Cond.static yX6_glass, Cond.code yX6_glass cX6_glass 2 (some .int)]
def wsX6_ifRule : List Cond := .code yX6_ifRule cX6_ifRule 3 (some .int) :: ((wsX6_ifRule_r1 ++ (wsX6_ifRule_r2 ++ (wsX6_ifRule_r3 ++ wsX6_ifRule_r4))) ++ wsX60)
def wsX6_bestRule_r1 : List Cond := [Cond.methodLink RX6 100 yX6_wants, Cond.instanceMethod yX6_wants, Cond.selects RX6 yX6_wants yX6_wants, Cond.initialized RX6, Cond.code yX6_wants cX6_wants 4 none, Cond.fieldLink RX6 19 "ZonedLightModel" "wanted" "[I", Cond.fieldLink RX6 7 "ZonedLightModel" "all" "[I", Cond.methodLink RX6 87 yX6_beginning, Cond.instanceMethod yX6_beginning, Cond.selects RX6 yX6_beginning yX6_beginning, Cond.code yX6_beginning cX6_beginning 5 (some .int), Cond.methodLink RX6 65 yX6_greatestIn, Cond.instanceMethod yX6_greatestIn, Cond.selects RX6 yX6_greatestIn yX6_greatestIn, Cond.code yX6_greatestIn cX6_greatestIn 5 (some .int), Cond.methodLink RX6 62 yX6_spotIn, Cond.static yX6_spotIn, Cond.code yX6_spotIn cX6_spotIn 2 (some .int), Cond.methodLink RX6 68 yX6_meanIn, Cond.instanceMethod yX6_meanIn, Cond.selects RX6 yX6_meanIn yX6_meanIn, Cond.code yX6_meanIn cX6_meanIn 4 (some .int), Cond.methodLink RX6 53 yX6_lesser, Cond.static yX6_lesser]
def wsX6_bestRule_r2 : List Cond := [Cond.code yX6_lesser cX6_lesser 2 (some .int), Cond.methodLink RX6 90 yX6_round, Cond.instanceMethod yX6_round, Cond.selects RX6 yX6_round yX6_round, Cond.code yX6_round cX6_round 3 none, Cond.methodLink RX6 79 yX6_light, Cond.instanceMethod yX6_light, Cond.selects RX6 yX6_light yX6_light, Cond.code yX6_light cX6_light 5 (some .int), Cond.methodLink RX6 46 yX6_apart, Cond.static yX6_apart, Cond.code yX6_apart cX6_apart 4 (some .int), Cond.methodLink RX6 42 yX6_off, Cond.static yX6_off, Cond.code yX6_off cX6_off 1 (some .int), Cond.methodLink RX6 50 yX6_shareAt, Cond.instanceMethod yX6_shareAt, Cond.selects RX6 yX6_shareAt yX6_shareAt, Cond.code yX6_shareAt cX6_shareAt 2 (some .int), Cond.methodLink RX6 75 yX6_raises, Cond.instanceMethod yX6_raises, Cond.selects RX6 yX6_raises yX6_raises, Cond.code yX6_raises cX6_raises 4 none, Cond.methodLink RX6 83 yX6_raisesBeside]
def wsX6_bestRule_r3 : List Cond := [Cond.instanceMethod yX6_raisesBeside, Cond.selects RX6 yX6_raisesBeside yX6_raisesBeside, Cond.code yX6_raisesBeside cX6_raisesBeside 6 none, Cond.methodLink RX6 71 yX6_isLiveBeside, Cond.instanceMethod yX6_isLiveBeside, Cond.selects RX6 yX6_isLiveBeside yX6_isLiveBeside, Cond.code yX6_isLiveBeside cX6_isLiveBeside 3 (some .boolean), Cond.methodLink RX6 93 yX6_hasBlack, Cond.instanceMethod yX6_hasBlack, Cond.selects RX6 yX6_hasBlack yX6_hasBlack, Cond.code yX6_hasBlack cX6_hasBlack 4 (some .boolean), Cond.methodLink RX6 59 yX6_leakOf, Cond.instanceMethod yX6_leakOf, Cond.selects RX6 yX6_leakOf yX6_leakOf, Cond.code yX6_leakOf cX6_leakOf 2 (some .int), Cond.methodLink RX6 196 yX6_rested, Cond.instanceMethod yX6_rested, Cond.selects RX6 yX6_rested yX6_rested, Cond.code yX6_rested cX6_rested 2 (some .int), Cond.methodLink RX6 121 yX6_power, Cond.instanceMethod yX6_power, Cond.selects RX6 yX6_power yX6_power, Cond.code yX6_power cX6_power 4 (some .int), Cond.methodLink RX6 182 yX6_over]
def wsX6_bestRule_r4 : List Cond := [Cond.instanceMethod yX6_over, Cond.selects RX6 yX6_over yX6_over, Cond.code yX6_over cX6_over 12 (some .int), Cond.methodLink RX6 97 yX6_shown, Cond.instanceMethod yX6_shown, Cond.selects RX6 yX6_shown yX6_shown, Cond.code yX6_shown cX6_shown 4 (some .int), Cond.methodLink RX6 56 yX6_glass, Cond.static yX6_glass, Cond.code yX6_glass cX6_glass 2 (some .int)]
def wsX6_bestRule : List Cond := .code yX6_bestRule cX6_bestRule 8 (some .int) :: ((wsX6_bestRule_r1 ++ (wsX6_bestRule_r2 ++ (wsX6_bestRule_r3 ++ wsX6_bestRule_r4))) ++ wsX60)
def wsX6_leastStep_r1 : List Cond := [Cond.constantLong RX6 107 (255), Cond.methodLink RX6 34 yX6_in, Cond.static yX6_in, Cond.initialized RX6, Cond.code yX6_in cX6_in 6 (some .boolean), Cond.methodLink RX6 189 yX6_farthest, Cond.instanceMethod yX6_farthest, Cond.selects RX6 yX6_farthest yX6_farthest, Cond.code yX6_farthest cX6_farthest 4 (some .int), Cond.fieldLink RX6 7 "ZonedLightModel" "all" "[I", Cond.fieldLink RX6 19 "ZonedLightModel" "wanted" "[I", Cond.methodLink RX6 100 yX6_wants, Cond.instanceMethod yX6_wants, Cond.selects RX6 yX6_wants yX6_wants, Cond.code yX6_wants cX6_wants 4 none, Cond.methodLink RX6 87 yX6_beginning, Cond.instanceMethod yX6_beginning, Cond.selects RX6 yX6_beginning yX6_beginning, Cond.code yX6_beginning cX6_beginning 5 (some .int), Cond.methodLink RX6 65 yX6_greatestIn, Cond.instanceMethod yX6_greatestIn, Cond.selects RX6 yX6_greatestIn yX6_greatestIn, Cond.code yX6_greatestIn cX6_greatestIn 5 (some .int), Cond.methodLink RX6 62 yX6_spotIn]
def wsX6_leastStep_r2 : List Cond := [Cond.static yX6_spotIn, Cond.code yX6_spotIn cX6_spotIn 2 (some .int), Cond.methodLink RX6 68 yX6_meanIn, Cond.instanceMethod yX6_meanIn, Cond.selects RX6 yX6_meanIn yX6_meanIn, Cond.code yX6_meanIn cX6_meanIn 4 (some .int), Cond.methodLink RX6 53 yX6_lesser, Cond.static yX6_lesser, Cond.code yX6_lesser cX6_lesser 2 (some .int), Cond.methodLink RX6 90 yX6_round, Cond.instanceMethod yX6_round, Cond.selects RX6 yX6_round yX6_round, Cond.code yX6_round cX6_round 3 none, Cond.methodLink RX6 79 yX6_light, Cond.instanceMethod yX6_light, Cond.selects RX6 yX6_light yX6_light, Cond.code yX6_light cX6_light 5 (some .int), Cond.methodLink RX6 46 yX6_apart, Cond.static yX6_apart, Cond.code yX6_apart cX6_apart 4 (some .int), Cond.methodLink RX6 42 yX6_off, Cond.static yX6_off, Cond.code yX6_off cX6_off 1 (some .int), Cond.methodLink RX6 50 yX6_shareAt]
def wsX6_leastStep_r3 : List Cond := [Cond.instanceMethod yX6_shareAt, Cond.selects RX6 yX6_shareAt yX6_shareAt, Cond.code yX6_shareAt cX6_shareAt 2 (some .int), Cond.methodLink RX6 75 yX6_raises, Cond.instanceMethod yX6_raises, Cond.selects RX6 yX6_raises yX6_raises, Cond.code yX6_raises cX6_raises 4 none, Cond.methodLink RX6 83 yX6_raisesBeside, Cond.instanceMethod yX6_raisesBeside, Cond.selects RX6 yX6_raisesBeside yX6_raisesBeside, Cond.code yX6_raisesBeside cX6_raisesBeside 6 none, Cond.methodLink RX6 71 yX6_isLiveBeside, Cond.instanceMethod yX6_isLiveBeside, Cond.selects RX6 yX6_isLiveBeside yX6_isLiveBeside, Cond.code yX6_isLiveBeside cX6_isLiveBeside 3 (some .boolean), Cond.methodLink RX6 93 yX6_hasBlack, Cond.instanceMethod yX6_hasBlack, Cond.selects RX6 yX6_hasBlack yX6_hasBlack, Cond.code yX6_hasBlack cX6_hasBlack 4 (some .boolean), Cond.methodLink RX6 59 yX6_leakOf, Cond.instanceMethod yX6_leakOf, Cond.selects RX6 yX6_leakOf yX6_leakOf, Cond.code yX6_leakOf cX6_leakOf 2 (some .int)]
def wsX6_leastStep : List Cond := .code yX6_leastStep cX6_leastStep 2 (some .int) :: ((wsX6_leastStep_r1 ++ (wsX6_leastStep_r2 ++ wsX6_leastStep_r3)) ++ wsX60)
def wsX6_dearest_r1 : List Cond := [Cond.fieldLink RX6 7 "ZonedLightModel" "all" "[I", Cond.methodLink RX6 34 yX6_in, Cond.static yX6_in, Cond.initialized RX6, Cond.code yX6_in cX6_in 6 (some .boolean), Cond.methodLink RX6 100 yX6_wants, Cond.instanceMethod yX6_wants, Cond.selects RX6 yX6_wants yX6_wants, Cond.code yX6_wants cX6_wants 4 none, Cond.fieldLink RX6 19 "ZonedLightModel" "wanted" "[I", Cond.methodLink RX6 87 yX6_beginning, Cond.instanceMethod yX6_beginning, Cond.selects RX6 yX6_beginning yX6_beginning, Cond.code yX6_beginning cX6_beginning 5 (some .int), Cond.methodLink RX6 65 yX6_greatestIn, Cond.instanceMethod yX6_greatestIn, Cond.selects RX6 yX6_greatestIn yX6_greatestIn, Cond.code yX6_greatestIn cX6_greatestIn 5 (some .int), Cond.methodLink RX6 62 yX6_spotIn, Cond.static yX6_spotIn, Cond.code yX6_spotIn cX6_spotIn 2 (some .int), Cond.methodLink RX6 68 yX6_meanIn, Cond.instanceMethod yX6_meanIn, Cond.selects RX6 yX6_meanIn yX6_meanIn]
def wsX6_dearest_r2 : List Cond := [Cond.code yX6_meanIn cX6_meanIn 4 (some .int), Cond.methodLink RX6 53 yX6_lesser, Cond.static yX6_lesser, Cond.code yX6_lesser cX6_lesser 2 (some .int), Cond.methodLink RX6 90 yX6_round, Cond.instanceMethod yX6_round, Cond.selects RX6 yX6_round yX6_round, Cond.code yX6_round cX6_round 3 none, Cond.methodLink RX6 79 yX6_light, Cond.instanceMethod yX6_light, Cond.selects RX6 yX6_light yX6_light, Cond.code yX6_light cX6_light 5 (some .int), Cond.methodLink RX6 46 yX6_apart, Cond.static yX6_apart, Cond.code yX6_apart cX6_apart 4 (some .int), Cond.methodLink RX6 42 yX6_off, Cond.static yX6_off, Cond.code yX6_off cX6_off 1 (some .int), Cond.methodLink RX6 50 yX6_shareAt, Cond.instanceMethod yX6_shareAt, Cond.selects RX6 yX6_shareAt yX6_shareAt, Cond.code yX6_shareAt cX6_shareAt 2 (some .int), Cond.methodLink RX6 75 yX6_raises, Cond.instanceMethod yX6_raises]
def wsX6_dearest_r3 : List Cond := [Cond.selects RX6 yX6_raises yX6_raises, Cond.code yX6_raises cX6_raises 4 none, Cond.methodLink RX6 83 yX6_raisesBeside, Cond.instanceMethod yX6_raisesBeside, Cond.selects RX6 yX6_raisesBeside yX6_raisesBeside, Cond.code yX6_raisesBeside cX6_raisesBeside 6 none, Cond.methodLink RX6 71 yX6_isLiveBeside, Cond.instanceMethod yX6_isLiveBeside, Cond.selects RX6 yX6_isLiveBeside yX6_isLiveBeside, Cond.code yX6_isLiveBeside cX6_isLiveBeside 3 (some .boolean), Cond.methodLink RX6 93 yX6_hasBlack, Cond.instanceMethod yX6_hasBlack, Cond.selects RX6 yX6_hasBlack yX6_hasBlack, Cond.code yX6_hasBlack cX6_hasBlack 4 (some .boolean), Cond.methodLink RX6 59 yX6_leakOf, Cond.instanceMethod yX6_leakOf, Cond.selects RX6 yX6_leakOf yX6_leakOf, Cond.code yX6_leakOf cX6_leakOf 2 (some .int), Cond.methodLink RX6 196 yX6_rested, Cond.instanceMethod yX6_rested, Cond.selects RX6 yX6_rested yX6_rested, Cond.code yX6_rested cX6_rested 2 (some .int), Cond.methodLink RX6 121 yX6_power, Cond.instanceMethod yX6_power]
def wsX6_dearest_r4 : List Cond := [Cond.selects RX6 yX6_power yX6_power, Cond.code yX6_power cX6_power 4 (some .int), Cond.methodLink RX6 182 yX6_over, Cond.instanceMethod yX6_over, Cond.selects RX6 yX6_over yX6_over, Cond.code yX6_over cX6_over 12 (some .int), Cond.methodLink RX6 97 yX6_shown, Cond.instanceMethod yX6_shown, Cond.selects RX6 yX6_shown yX6_shown, Cond.code yX6_shown cX6_shown 4 (some .int), Cond.methodLink RX6 56 yX6_glass, Cond.static yX6_glass, Cond.code yX6_glass cX6_glass 2 (some .int)]
def wsX6_dearest : List Cond := .code yX6_dearest cX6_dearest 7 (some .int) :: ((wsX6_dearest_r1 ++ (wsX6_dearest_r2 ++ (wsX6_dearest_r3 ++ wsX6_dearest_r4))) ++ wsX60)
def wsJ9_abs_0f7a4 : List Cond := .code yJ9_abs_0f7a4 cJ9_abs_0f7a4 1 (some .int) :: ([])
def wsJ9_max_7cf53 : List Cond := .code yJ9_max_7cf53 cJ9_max_7cf53 2 (some .int) :: ([])
def wsJ9_min_7cf53 : List Cond := .code yJ9_min_7cf53 cJ9_min_7cf53 2 (some .int) :: ([])
def wsL_law_r1 : List Cond := [Cond.classLink RL 7 RX5, Cond.instantiable RX5 9, Cond.initialized RX5, Cond.classLink RL 10 RX6, Cond.instantiable RX6 10, Cond.initialized RX6, Cond.methodLink RL 9 yX5_init, Cond.instanceMethod yX5_init, Cond.code yX5_init cX5_init 1 none, Cond.methodLink RX5 3 objectInit, Cond.instanceMethod objectInit, Cond.code objectInit ⟨#[0xb1]⟩ 1 none, Cond.classLink RX5 9 RX3, Cond.instantiable RX3 7, Cond.initialized RX3, Cond.fieldLink RX5 12 "ZonedLight" "now" "LZonedLight$Screen;", Cond.fieldLink RX5 16 "ZonedLight" "snapshot" "LZonedLight$Screen;", Cond.fieldLink RX5 19 "ZonedLight" "hasSnapshot" "Z", Cond.classLink RX5 23 RX0, Cond.instantiable RX0 3, Cond.initialized RX0, Cond.fieldLink RX5 26 "ZonedLight" "history" "LZonedLight$History;", Cond.classLink RX5 30 RX1, Cond.instantiable RX1 4]
def wsL_law_r2 : List Cond := [Cond.initialized RX1, Cond.fieldLink RX5 33 "ZonedLight" "text" "LZonedLight$PictureText;", Cond.fieldLink RX5 37 "ZonedLight" "trial" "LZonedLight$Screen;", Cond.classLink RX5 40 RX2, Cond.instantiable RX2 2, Cond.initialized RX2, Cond.fieldLink RX5 43 "ZonedLight" "plan" "LZonedLight$Plan;", Cond.classLink RX5 47 RX4, Cond.instantiable RX4 5, Cond.initialized RX4, Cond.fieldLink RX5 50 "ZonedLight" "tally" "LZonedLight$Tally;", Cond.arrayClass .int, Cond.fieldLink RX5 54 "ZonedLight" "pictureBefore" "[I", Cond.methodLink RX5 11 yX3_init, Cond.instanceMethod yX3_init, Cond.code yX3_init cX3_init 1 none, Cond.methodLink RX3 3 objectInit, Cond.fieldLink RX3 9 "ZonedLight$Screen" "asked" "[I", Cond.fieldLink RX3 15 "ZonedLight$Screen" "level" "[I", Cond.arrayClass .boolean, Cond.fieldLink RX3 18 "ZonedLight$Screen" "dead" "[Z", Cond.fieldLink RX3 22 "ZonedLight$Screen" "setting" "[I", Cond.fieldLink RX3 25 "ZonedLight$Screen" "frames" "I", Cond.fieldLink RX3 29 "ZonedLight$Screen" "flicker" "I"]
def wsL_law_r3 : List Cond := [Cond.fieldLink RX3 32 "ZonedLight$Screen" "powerSoFar" "I", Cond.methodLink RX3 38 arraycopyName, Cond.native arraycopyName, Cond.static arraycopyName, Cond.initialized "java/lang/System", Cond.methodLink RX5 25 yX0_init, Cond.instanceMethod yX0_init, Cond.code yX0_init cX0_init 2 none, Cond.methodLink RX0 1 objectInit, Cond.classLink RX0 9 RX3, Cond.fieldLink RX0 11 "ZonedLight$History" "ring" "[LZonedLight$Screen;", Cond.fieldLink RX0 15 "ZonedLight$History" "oldest" "I", Cond.fieldLink RX0 19 "ZonedLight$History" "size" "I", Cond.methodLink RX0 22 yX3_init, Cond.instanceMethod yX1_init, Cond.code yX1_init cX1_init 1 none, Cond.methodLink RX1 5 objectInit, Cond.arrayClass .char, Cond.fieldLink RX1 11 "ZonedLight$PictureText" "characters" "[C", Cond.fieldLink RX1 15 "ZonedLight$PictureText" "length" "I", Cond.fieldLink RX1 19 "ZonedLight$PictureText" "numbers" "[I", Cond.fieldLink RX1 23 "ZonedLight$PictureText" "numbersRead" "I", Cond.instanceMethod yX2_init, Cond.code yX2_init cX2_init 1 none]
def wsL_law_r4 : List Cond := [Cond.methodLink RX2 3 objectInit, Cond.fieldLink RX2 9 "ZonedLight$Plan" "level" "[I", Cond.fieldLink RX2 15 "ZonedLight$Plan" "peak" "[I", Cond.instanceMethod yX4_init, Cond.code yX4_init cX4_init 1 none, Cond.methodLink RX4 3 objectInit, Cond.fieldLink RX4 9 "ZonedLight$Tally" "tooDark" "I", Cond.fieldLink RX4 15 "ZonedLight$Tally" "tooBright" "I", Cond.fieldLink RX4 18 "ZonedLight$Tally" "off" "I", Cond.fieldLink RX4 21 "ZonedLight$Tally" "greatestOff" "I", Cond.fieldLink RX4 24 "ZonedLight$Tally" "shown" "I", Cond.methodLink RL 12 yX6_init, Cond.instanceMethod yX6_init, Cond.code yX6_init cX6_init 1 none, Cond.methodLink RX6 1 objectInit, Cond.fieldLink RX6 7 "ZonedLightModel" "all" "[I", Cond.fieldLink RX6 13 "ZonedLightModel" "history" "[I", Cond.fieldLink RX6 16 "ZonedLightModel" "snapshot" "[I", Cond.fieldLink RX6 19 "ZonedLightModel" "wanted" "[I", Cond.fieldLink RX6 22 "ZonedLightModel" "text" "[I", Cond.fieldLink RX6 25 "ZonedLightModel" "part" "[I", Cond.methodLink RL 13 yX5_ask, Cond.instanceMethod yX5_ask, Cond.selects RX5 yX5_ask yX5_ask]
def wsL_law_r5 : List Cond := [Cond.code yX5_ask cX5_ask 6 (some .int), Cond.fieldLink RX5 66 "ZonedLight$Screen" "asked" "[I", Cond.methodLink RX5 58 yX5_onScreen, Cond.static yX5_onScreen, Cond.code yX5_onScreen cX5_onScreen 2 (some .boolean), Cond.methodLink RX5 62 yX5_spotAt, Cond.static yX5_spotAt, Cond.code yX5_spotAt cX5_spotAt 2 (some .int), Cond.methodLink RX5 69 yX0_record, Cond.instanceMethod yX0_record, Cond.selects RX0 yX0_record yX0_record, Cond.code yX0_record cX0_record 2 none, Cond.methodLink RX0 23 yX3_copyFrom, Cond.instanceMethod yX3_copyFrom, Cond.selects RX3 yX3_copyFrom yX3_copyFrom, Cond.code yX3_copyFrom cX3_copyFrom 3 none, Cond.methodLink RL 17 yX6_ask, Cond.instanceMethod yX6_ask, Cond.selects RX6 yX6_ask yX6_ask, Cond.code yX6_ask cX6_ask 5 (some .int), Cond.constantLong RX6 107 (255), Cond.methodLink RX6 104 yX6_isSpot, Cond.static yX6_isSpot, Cond.code yX6_isSpot cX6_isSpot 2 (some .boolean)]
def wsL_law_r6 : List Cond := [Cond.constantLong RX6 32 (23), Cond.constantLong RX6 38 (11), Cond.methodLink RX6 34 yX6_in, Cond.static yX6_in, Cond.code yX6_in cX6_in 6 (some .boolean), Cond.methodLink RX6 109 yX6_acts, Cond.instanceMethod yX6_acts, Cond.selects RX6 yX6_acts yX6_acts, Cond.code yX6_acts cX6_acts 2 none, Cond.fieldLink RX6 28 "ZonedLightModel" "historyLong" "I", Cond.methodLink RL 18 yX5_askAll, Cond.instanceMethod yX5_askAll, Cond.selects RX5 yX5_askAll yX5_askAll, Cond.code yX5_askAll cX5_askAll 3 (some .int), Cond.methodLink RX5 73 yX1_read, Cond.instanceMethod yX1_read, Cond.selects RX1 yX1_read yX1_read, Cond.code yX1_read cX1_read 5 (some .int), Cond.fieldLink RX1 26 "ZonedLight$PictureText" "END" "[C", Cond.methodLink RX1 29 yX1_addNumber, Cond.instanceMethod yX1_addNumber, Cond.selects RX1 yX1_addNumber yX1_addNumber, Cond.code yX1_addNumber cX1_addNumber 2 none, Cond.methodLink RX1 33 yX1_withDigit]
def wsL_law_r7 : List Cond := [Cond.static yX1_withDigit, Cond.code yX1_withDigit cX1_withDigit 6 (some .int), Cond.fieldLink RX1 37 "ZonedLight$PictureText" "LEAST" "[I", Cond.fieldLink RX1 40 "ZonedLight$PictureText" "GREATEST" "[I", Cond.methodLink RX5 77 yX5_rememberPicture, Cond.instanceMethod yX5_rememberPicture, Cond.selects RX5 yX5_rememberPicture yX5_rememberPicture, Cond.code yX5_rememberPicture cX5_rememberPicture 1 none, Cond.methodLink RX5 218 arraycopyName, Cond.methodLink RX5 80 yX1_parts, Cond.instanceMethod yX1_parts, Cond.selects RX1 yX1_parts yX1_parts, Cond.code yX1_parts cX1_parts 1 (some .int), Cond.methodLink RX5 83 yX1_number, Cond.instanceMethod yX1_number, Cond.selects RX1 yX1_number yX1_number, Cond.code yX1_number cX1_number 3 (some .int), Cond.methodLink RX5 86 yX3_paint, Cond.instanceMethod yX3_paint, Cond.selects RX3 yX3_paint yX3_paint, Cond.code yX3_paint cX3_paint 10 none, Cond.methodLink RX3 44 Lib.Math.min.name, Cond.static Lib.Math.min.name, Cond.initialized "java/lang/Math"]
def wsL_law_r8 : List Cond := [Cond.code Lib.Math.min.name Lib.Math.min.code 2 (some .int), Cond.methodLink RX3 50 Lib.Math.max.name, Cond.static Lib.Math.max.name, Cond.code Lib.Math.max.name Lib.Math.max.code 2 (some .int), Cond.methodLink RX5 90 yX5_changedSpots, Cond.instanceMethod yX5_changedSpots, Cond.selects RX5 yX5_changedSpots yX5_changedSpots, Cond.code yX5_changedSpots cX5_changedSpots 3 (some .int), Cond.methodLink RL 22 yX6_askAll, Cond.instanceMethod yX6_askAll, Cond.selects RX6 yX6_askAll yX6_askAll, Cond.code yX6_askAll cX6_askAll 4 (some .int), Cond.fieldLink RX6 150 "ZonedLightModel" "spot" "I", Cond.methodLink RX6 167 yX6_fault, Cond.instanceMethod yX6_fault, Cond.selects RX6 yX6_fault yX6_fault, Cond.code yX6_fault cX6_fault 2 (some .int), Cond.fieldLink RX6 147 "ZonedLightModel" "textLong" "I", Cond.methodLink RX6 163 yX6_readsPart, Cond.instanceMethod yX6_readsPart, Cond.selects RX6 yX6_readsPart yX6_readsPart, Cond.code yX6_readsPart cX6_readsPart 1 (some .boolean), Cond.methodLink RX6 156 yX6_readsNumber, Cond.instanceMethod yX6_readsNumber]
def wsL_law_r9 : List Cond := [Cond.selects RX6 yX6_readsNumber yX6_readsNumber, Cond.code yX6_readsNumber cX6_readsNumber 5 (some .boolean), Cond.methodLink RX6 153 yX6_isHere, Cond.instanceMethod yX6_isHere, Cond.selects RX6 yX6_isHere yX6_isHere, Cond.code yX6_isHere cX6_isHere 3 (some .boolean), Cond.methodLink RX6 160 yX6_takes, Cond.instanceMethod yX6_takes, Cond.selects RX6 yX6_takes yX6_takes, Cond.code yX6_takes cX6_takes 3 (some .boolean), Cond.methodLink RX6 170 yX6_asksPart, Cond.instanceMethod yX6_asksPart, Cond.selects RX6 yX6_asksPart yX6_asksPart, Cond.code yX6_asksPart cX6_asksPart 3 none, Cond.methodLink RX6 114 yX6_otherSpots, Cond.instanceMethod yX6_otherSpots, Cond.selects RX6 yX6_otherSpots yX6_otherSpots, Cond.code yX6_otherSpots cX6_otherSpots 3 (some .int), Cond.methodLink RL 23 yX5_move, Cond.instanceMethod yX5_move, Cond.selects RX5 yX5_move yX5_move, Cond.code yX5_move cX5_move 2 (some .int), Cond.fieldLink RX5 93 "ZonedLight" "FROM_X" "[I", Cond.fieldLink RX5 96 "ZonedLight" "FROM_Y" "[I"]
def wsL_law_r10 : List Cond := [Cond.methodLink RX5 99 yX3_takeShifted, Cond.instanceMethod yX3_takeShifted, Cond.selects RX3 yX3_takeShifted yX3_takeShifted, Cond.code yX3_takeShifted cX3_takeShifted 7 none, Cond.methodLink RL 27 yX6_move, Cond.instanceMethod yX6_move, Cond.selects RX6 yX6_move yX6_move, Cond.code yX6_move cX6_move 6 (some .int), Cond.constantLong RX6 112 (3), Cond.methodLink RL 28 yX5_kill, Cond.instanceMethod yX5_kill, Cond.selects RX5 yX5_kill yX5_kill, Cond.code yX5_kill cX5_kill 4 (some .int), Cond.fieldLink RX5 107 "ZonedLight$Screen" "dead" "[Z", Cond.fieldLink RX5 111 "ZonedLight$Screen" "level" "[I", Cond.methodLink RX5 103 yX5_isZone, Cond.static yX5_isZone, Cond.code yX5_isZone cX5_isZone 1 (some .boolean), Cond.methodLink RL 32 yX6_kill, Cond.instanceMethod yX6_kill, Cond.selects RX6 yX6_kill yX6_kill, Cond.code yX6_kill cX6_kill 5 (some .int), Cond.methodLink RX6 118 yX6_isZone, Cond.static yX6_isZone]
def wsL_law_r11 : List Cond := [Cond.code yX6_isZone cX6_isZone 1 (some .boolean), Cond.constantLong RX6 40 (17), Cond.methodLink RL 33 yX5_pass, Cond.instanceMethod yX5_pass, Cond.selects RX5 yX5_pass yX5_pass, Cond.code yX5_pass cX5_pass 3 (some .int), Cond.fieldLink RX5 117 "ZonedLight$Plan" "level" "[I", Cond.methodLink RX5 114 yX2_make, Cond.instanceMethod yX2_make, Cond.selects RX2 yX2_make yX2_make, Cond.code yX2_make cX2_make 3 none, Cond.fieldLink RX2 23 "ZonedLight$Screen" "dead" "[Z", Cond.fieldLink RX2 31 "ZonedLight$Screen" "setting" "[I", Cond.methodLink RX2 18 yX3_peak, Cond.instanceMethod yX3_peak, Cond.selects RX3 yX3_peak yX3_peak, Cond.code yX3_peak cX3_peak 4 (some .int), Cond.static yX5_spotOfZone, Cond.code yX5_spotOfZone cX5_spotOfZone 4 (some .int), Cond.methodLink RX2 27 yX2_levelByRule, Cond.instanceMethod yX2_levelByRule, Cond.selects RX2 yX2_levelByRule yX2_levelByRule, Cond.code yX2_levelByRule cX2_levelByRule 5 (some .int), Cond.methodLink RX2 49 Lib.Math.min.name]
def wsL_law_r12 : List Cond := [Cond.methodLink RX2 46 yX2_aim, Cond.instanceMethod yX2_aim, Cond.selects RX2 yX2_aim yX2_aim, Cond.code yX2_aim cX2_aim 3 (some .int), Cond.methodLink RX2 55 yX3_mean, Cond.instanceMethod yX3_mean, Cond.selects RX3 yX3_mean yX3_mean, Cond.code yX3_mean cX3_mean 4 (some .int), Cond.methodLink RX2 34 yX2_raiseAll, Cond.instanceMethod yX2_raiseAll, Cond.selects RX2 yX2_raiseAll yX2_raiseAll, Cond.code yX2_raiseAll cX2_raiseAll 4 none, Cond.methodLink RX2 65 Lib.Math.max.name, Cond.methodLink RX2 58 yX3_glow, Cond.instanceMethod yX3_glow, Cond.selects RX3 yX3_glow yX3_glow, Cond.code yX3_glow cX3_glow 6 (some .int), Cond.static yX5_zonesApart, Cond.code yX5_zonesApart cX5_zonesApart 4 (some .int), Cond.methodLink RX5 227 Lib.Math.abs.name, Cond.static Lib.Math.abs.name, Cond.code Lib.Math.abs.name Lib.Math.abs.code 1 (some .int), Cond.methodLink RX5 232 Lib.Math.max.name, Cond.static yX5_lightOf]
def wsL_law_r13 : List Cond := [Cond.code yX5_lightOf cX5_lightOf 1 (some .int), Cond.methodLink RX5 235 Lib.Math.min.name, Cond.methodLink RX2 68 yX2_raiseNeighbours, Cond.instanceMethod yX2_raiseNeighbours, Cond.selects RX2 yX2_raiseNeighbours yX2_raiseNeighbours, Cond.code yX2_raiseNeighbours cX2_raiseNeighbours 7 none, Cond.methodLink RX2 79 yX2_helps, Cond.static yX2_helps, Cond.code yX2_helps cX2_helps 3 (some .boolean), Cond.static yX5_roundedUp, Cond.code yX5_roundedUp cX5_roundedUp 2 (some .int), Cond.methodLink RX2 75 yX2_raise, Cond.instanceMethod yX2_raise, Cond.selects RX2 yX2_raise yX2_raise, Cond.code yX2_raise cX2_raise 3 none, Cond.methodLink RX2 38 yX3_asksBlack, Cond.instanceMethod yX3_asksBlack, Cond.selects RX3 yX3_asksBlack yX3_asksBlack, Cond.code yX3_asksBlack cX3_asksBlack 3 (some .boolean), Cond.methodLink RX2 42 yX2_lowerForBlack, Cond.instanceMethod yX2_lowerForBlack, Cond.selects RX2 yX2_lowerForBlack yX2_lowerForBlack, Cond.code yX2_lowerForBlack cX2_lowerForBlack 4 none, Cond.methodLink RX2 86 yX3_leakOf]
def wsL_law_r14 : List Cond := [Cond.instanceMethod yX3_leakOf, Cond.selects RX3 yX3_leakOf yX3_leakOf, Cond.code yX3_leakOf cX3_leakOf 2 (some .int), Cond.methodLink RX5 118 yX3_passFrame, Cond.instanceMethod yX3_passFrame, Cond.selects RX3 yX3_passFrame yX3_passFrame, Cond.code yX3_passFrame cX3_passFrame 5 none, Cond.methodLink RX3 80 Lib.Math.abs.name, Cond.methodLink RX3 83 yX3_power, Cond.instanceMethod yX3_power, Cond.selects RX3 yX3_power yX3_power, Cond.code yX3_power cX3_power 3 (some .int), Cond.methodLink RX5 122 yX3_power, Cond.methodLink RL 36 yX6_pass, Cond.instanceMethod yX6_pass, Cond.selects RX6 yX6_pass yX6_pass, Cond.code yX6_pass cX6_pass 3 (some .int), Cond.constantLong RX6 125 (99), Cond.methodLink RX6 100 yX6_wants, Cond.instanceMethod yX6_wants, Cond.selects RX6 yX6_wants yX6_wants, Cond.code yX6_wants cX6_wants 4 none, Cond.methodLink RX6 87 yX6_beginning, Cond.instanceMethod yX6_beginning]
def wsL_law_r15 : List Cond := [Cond.selects RX6 yX6_beginning yX6_beginning, Cond.code yX6_beginning cX6_beginning 5 (some .int), Cond.methodLink RX6 65 yX6_greatestIn, Cond.instanceMethod yX6_greatestIn, Cond.selects RX6 yX6_greatestIn yX6_greatestIn, Cond.code yX6_greatestIn cX6_greatestIn 5 (some .int), Cond.methodLink RX6 62 yX6_spotIn, Cond.static yX6_spotIn, Cond.code yX6_spotIn cX6_spotIn 2 (some .int), Cond.methodLink RX6 68 yX6_meanIn, Cond.instanceMethod yX6_meanIn, Cond.selects RX6 yX6_meanIn yX6_meanIn, Cond.code yX6_meanIn cX6_meanIn 4 (some .int), Cond.methodLink RX6 53 yX6_lesser, Cond.static yX6_lesser, Cond.code yX6_lesser cX6_lesser 2 (some .int), Cond.methodLink RX6 90 yX6_round, Cond.instanceMethod yX6_round, Cond.selects RX6 yX6_round yX6_round, Cond.code yX6_round cX6_round 3 none, Cond.methodLink RX6 79 yX6_light, Cond.instanceMethod yX6_light, Cond.selects RX6 yX6_light yX6_light, Cond.code yX6_light cX6_light 5 (some .int)]
def wsL_law_r16 : List Cond := [Cond.methodLink RX6 46 yX6_apart, Cond.static yX6_apart, Cond.code yX6_apart cX6_apart 4 (some .int), Cond.methodLink RX6 42 yX6_off, Cond.static yX6_off, Cond.code yX6_off cX6_off 1 (some .int), Cond.methodLink RX6 50 yX6_shareAt, Cond.instanceMethod yX6_shareAt, Cond.selects RX6 yX6_shareAt yX6_shareAt, Cond.code yX6_shareAt cX6_shareAt 2 (some .int), Cond.methodLink RX6 75 yX6_raises, Cond.instanceMethod yX6_raises, Cond.selects RX6 yX6_raises yX6_raises, Cond.code yX6_raises cX6_raises 4 none, Cond.methodLink RX6 83 yX6_raisesBeside, Cond.instanceMethod yX6_raisesBeside, Cond.selects RX6 yX6_raisesBeside yX6_raisesBeside, Cond.code yX6_raisesBeside cX6_raisesBeside 6 none, Cond.methodLink RX6 71 yX6_isLiveBeside, Cond.instanceMethod yX6_isLiveBeside, Cond.selects RX6 yX6_isLiveBeside yX6_isLiveBeside, Cond.code yX6_isLiveBeside cX6_isLiveBeside 3 (some .boolean), Cond.methodLink RX6 93 yX6_hasBlack, Cond.instanceMethod yX6_hasBlack]
def wsL_law_r17 : List Cond := [Cond.selects RX6 yX6_hasBlack yX6_hasBlack, Cond.code yX6_hasBlack cX6_hasBlack 4 (some .boolean), Cond.methodLink RX6 59 yX6_leakOf, Cond.instanceMethod yX6_leakOf, Cond.selects RX6 yX6_leakOf yX6_leakOf, Cond.code yX6_leakOf cX6_leakOf 2 (some .int), Cond.methodLink RX6 127 yX6_frame, Cond.instanceMethod yX6_frame, Cond.selects RX6 yX6_frame yX6_frame, Cond.code yX6_frame cX6_frame 4 none, Cond.methodLink RX6 121 yX6_power, Cond.instanceMethod yX6_power, Cond.selects RX6 yX6_power yX6_power, Cond.code yX6_power cX6_power 4 (some .int), Cond.methodLink RL 37 yX5_set, Cond.instanceMethod yX5_set, Cond.selects RX5 yX5_set yX5_set, Cond.code yX5_set cX5_set 4 (some .int), Cond.fieldLink RX5 125 "ZonedLight" "LEAST_SETTING" "[I", Cond.fieldLink RX5 128 "ZonedLight" "GREATEST_SETTING" "[I", Cond.fieldLink RX5 131 "ZonedLight$Screen" "setting" "[I", Cond.methodLink RL 41 yX6_set, Cond.instanceMethod yX6_set, Cond.selects RX6 yX6_set yX6_set]
def wsL_law_r18 : List Cond := [Cond.code yX6_set cX6_set 4 (some .int), Cond.methodLink RX6 144 yX6_isSetting, Cond.static yX6_isSetting, Cond.code yX6_isSetting cX6_isSetting 2 (some .boolean), Cond.constantLong RX6 130 (100), Cond.constantLong RX6 132 (256), Cond.constantLong RX6 134 (30), Cond.constantLong RX6 136 (9), Cond.constantLong RX6 138 (2), Cond.constantLong RX6 140 (50), Cond.constantLong RX6 142 (20), Cond.methodLink RL 42 yX5_type, Cond.instanceMethod yX5_type, Cond.selects RX5 yX5_type yX5_type, Cond.code yX5_type cX5_type 2 (some .int), Cond.fieldLink RX5 138 "ZonedLight$PictureText" "length" "I", Cond.methodLink RX5 134 yX1_append, Cond.instanceMethod yX1_append, Cond.selects RX1 yX1_append yX1_append, Cond.code yX1_append cX1_append 2 (some .boolean), Cond.methodLink RL 46 yX6_type, Cond.instanceMethod yX6_type, Cond.selects RX6 yX6_type yX6_type, Cond.code yX6_type cX6_type 2 (some .int)]
def wsL_law_r19 : List Cond := [Cond.methodLink RL 47 yX5_clearText, Cond.instanceMethod yX5_clearText, Cond.selects RX5 yX5_clearText yX5_clearText, Cond.code yX5_clearText cX5_clearText 2 (some .int), Cond.methodLink RL 50 yX6_clearText, Cond.instanceMethod yX6_clearText, Cond.selects RX6 yX6_clearText yX6_clearText, Cond.code yX6_clearText cX6_clearText 2 (some .int), Cond.methodLink RL 51 yX5_fault, Cond.instanceMethod yX5_fault, Cond.selects RX5 yX5_fault yX5_fault, Cond.code yX5_fault cX5_fault 1 (some .int), Cond.methodLink RL 54 yX6_fault, Cond.methodLink RL 55 yX5_undo, Cond.instanceMethod yX5_undo, Cond.selects RX5 yX5_undo yX5_undo, Cond.code yX5_undo cX5_undo 1 (some .int), Cond.fieldLink RX5 146 "ZonedLight$History" "size" "I", Cond.methodLink RX5 142 yX0_takeLatest, Cond.instanceMethod yX0_takeLatest, Cond.selects RX0 yX0_takeLatest yX0_takeLatest, Cond.code yX0_takeLatest cX0_takeLatest 2 (some .boolean), Cond.methodLink RL 58 yX6_undo, Cond.instanceMethod yX6_undo]
def wsL_law_r20 : List Cond := [Cond.selects RX6 yX6_undo yX6_undo, Cond.code yX6_undo cX6_undo 2 (some .int), Cond.methodLink RL 59 yX5_keep, Cond.instanceMethod yX5_keep, Cond.selects RX5 yX5_keep yX5_keep, Cond.code yX5_keep cX5_keep 1 (some .int), Cond.fieldLink RX5 152 "ZonedLight$Screen" "frames" "I", Cond.methodLink RX5 149 yX3_copyFrom, Cond.methodLink RL 62 yX6_keep, Cond.instanceMethod yX6_keep, Cond.selects RX6 yX6_keep yX6_keep, Cond.code yX6_keep cX6_keep 2 (some .int), Cond.fieldLink RX6 173 "ZonedLightModel" "isKept" "I", Cond.methodLink RL 63 yX5_restore, Cond.instanceMethod yX5_restore, Cond.selects RX5 yX5_restore yX5_restore, Cond.code yX5_restore cX5_restore 1 (some .int), Cond.methodLink RL 66 yX6_restore, Cond.instanceMethod yX6_restore, Cond.selects RX6 yX6_restore yX6_restore, Cond.code yX6_restore cX6_restore 2 (some .int), Cond.methodLink RL 67 yX5_spot, Cond.instanceMethod yX5_spot, Cond.selects RX5 yX5_spot yX5_spot]
def wsL_law_r21 : List Cond := [Cond.code yX5_spot cX5_spot 6 (some .int), Cond.methodLink RX5 155 yX3_light, Cond.instanceMethod yX3_light, Cond.selects RX3 yX3_light yX3_light, Cond.code yX3_light cX3_light 2 (some .int), Cond.methodLink RX3 66 yX3_glow, Cond.methodLink RX5 159 yX5_glassFor, Cond.static yX5_glassFor, Cond.code yX5_glassFor cX5_glassFor 2 (some .int), Cond.methodLink RX5 209 yX5_roundedUp, Cond.methodLink RX5 162 yX3_shown, Cond.instanceMethod yX3_shown, Cond.selects RX3 yX3_shown yX3_shown, Cond.code yX3_shown cX3_shown 3 (some .int), Cond.methodLink RX3 77 yX3_leakOf, Cond.methodLink RX5 165 yX5_verdict, Cond.static yX5_verdict, Cond.code yX5_verdict cX5_verdict 2 (some .int), Cond.methodLink RL 70 yX6_spot, Cond.instanceMethod yX6_spot, Cond.selects RX6 yX6_spot yX6_spot, Cond.code yX6_spot cX6_spot 7 (some .int), Cond.methodLink RX6 176 yX6_zoneOf, Cond.static yX6_zoneOf]
def wsL_law_r22 : List Cond := [Cond.code yX6_zoneOf cX6_zoneOf 1 (some .int), Cond.methodLink RX6 97 yX6_shown, Cond.instanceMethod yX6_shown, Cond.selects RX6 yX6_shown yX6_shown, Cond.code yX6_shown cX6_shown 4 (some .int), Cond.methodLink RX6 56 yX6_glass, Cond.static yX6_glass, Cond.code yX6_glass cX6_glass 2 (some .int), Cond.methodLink RL 71 yX5_zone, Cond.instanceMethod yX5_zone, Cond.selects RX5 yX5_zone yX5_zone, Cond.code yX5_zone cX5_zone 3 (some .int), Cond.fieldLink RX5 181 "ZonedLight$Tally" "tooDark" "I", Cond.fieldLink RX5 184 "ZonedLight$Tally" "tooBright" "I", Cond.methodLink RX5 168 yX3_peak, Cond.methodLink RX5 171 yX3_mean, Cond.methodLink RX5 174 yX3_leakOf, Cond.methodLink RX5 177 yX4_takeZone, Cond.instanceMethod yX4_takeZone, Cond.selects RX4 yX4_takeZone yX4_takeZone, Cond.code yX4_takeZone cX4_takeZone 3 none, Cond.methodLink RX4 27 yX4_clear, Cond.instanceMethod yX4_clear, Cond.selects RX4 yX4_clear yX4_clear]
def wsL_law_r23 : List Cond := [Cond.code yX4_clear cX4_clear 1 none, Cond.methodLink RX4 30 yX4_addZone, Cond.instanceMethod yX4_addZone, Cond.selects RX4 yX4_addZone yX4_addZone, Cond.code yX4_addZone cX4_addZone 6 none, Cond.fieldLink RX4 40 "ZonedLight$Screen" "asked" "[I", Cond.methodLink RX4 34 yX3_light, Cond.methodLink RX4 48 yX3_shown, Cond.methodLink RX4 50 yX4_addSpot, Cond.instanceMethod yX4_addSpot, Cond.selects RX4 yX4_addSpot yX4_addSpot, Cond.code yX4_addSpot cX4_addSpot 5 none, Cond.methodLink RX4 57 Lib.Math.abs.name, Cond.methodLink RX4 62 Lib.Math.max.name, Cond.methodLink RL 74 yX6_zone, Cond.instanceMethod yX6_zone, Cond.selects RX6 yX6_zone yX6_zone, Cond.code yX6_zone cX6_zone 3 (some .int), Cond.methodLink RX6 179 yX6_wantedFor, Cond.instanceMethod yX6_wantedFor, Cond.selects RX6 yX6_wantedFor yX6_wantedFor, Cond.code yX6_wantedFor cX6_wantedFor 2 (some .int), Cond.methodLink RX6 182 yX6_over, Cond.instanceMethod yX6_over]
def wsL_law_r24 : List Cond := [Cond.selects RX6 yX6_over yX6_over, Cond.code yX6_over cX6_over 12 (some .int), Cond.methodLink RL 75 yX5_count, Cond.instanceMethod yX5_count, Cond.selects RX5 yX5_count yX5_count, Cond.code yX5_count cX5_count 2 (some .int), Cond.fieldLink RX5 187 "ZonedLight$Screen" "flicker" "I", Cond.fieldLink RX5 190 "ZonedLight$Screen" "powerSoFar" "I", Cond.methodLink RX5 193 yX3_deadZones, Cond.instanceMethod yX3_deadZones, Cond.selects RX3 yX3_deadZones yX3_deadZones, Cond.code yX3_deadZones cX3_deadZones 3 (some .int), Cond.methodLink RX5 196 yX5_greatestGap, Cond.instanceMethod yX5_greatestGap, Cond.selects RX5 yX5_greatestGap yX5_greatestGap, Cond.code yX5_greatestGap cX5_greatestGap 3 (some .int), Cond.methodLink RX5 199 yX5_countSpots, Cond.instanceMethod yX5_countSpots, Cond.selects RX5 yX5_countSpots yX5_countSpots, Cond.code yX5_countSpots cX5_countSpots 2 (some .int), Cond.fieldLink RX5 215 "ZonedLight$Tally" "off" "I", Cond.fieldLink RX5 224 "ZonedLight$Tally" "greatestOff" "I", Cond.methodLink RX5 202 yX4_takeAll, Cond.instanceMethod yX4_takeAll]
def wsL_law_r25 : List Cond := [Cond.selects RX4 yX4_takeAll yX4_takeAll, Cond.code yX4_takeAll cX4_takeAll 3 none, Cond.methodLink RL 78 yX6_count, Cond.instanceMethod yX6_count, Cond.selects RX6 yX6_count yX6_count, Cond.code yX6_count cX6_count 2 (some .int), Cond.constantLong RX6 192 (13), Cond.methodLink RX6 186 yX6_deadZones, Cond.instanceMethod yX6_deadZones, Cond.selects RX6 yX6_deadZones yX6_deadZones, Cond.code yX6_deadZones cX6_deadZones 3 (some .int), Cond.methodLink RX6 189 yX6_farthest, Cond.instanceMethod yX6_farthest, Cond.selects RX6 yX6_farthest yX6_farthest, Cond.code yX6_farthest cX6_farthest 4 (some .int), Cond.methodLink RL 79 yX5_meanShown, Cond.instanceMethod yX5_meanShown, Cond.selects RX5 yX5_meanShown yX5_meanShown, Cond.code yX5_meanShown cX5_meanShown 1 (some .double), Cond.fieldLink RX5 205 "ZonedLight$Tally" "shown" "I", Cond.constantDouble RX5 207 (4643774165772402688), Cond.methodLink RL 83 yX6_meanShown, Cond.instanceMethod yX6_meanShown, Cond.selects RX6 yX6_meanShown yX6_meanShown]
def wsL_law_r26 : List Cond := [Cond.code yX6_meanShown cX6_meanShown 1 (some .double), Cond.constantDouble RX6 194 (4643774165772402688), Cond.methodLink RL 84 yX5_restsIn, Cond.instanceMethod yX5_restsIn, Cond.selects RX5 yX5_restsIn yX5_restsIn, Cond.code yX5_restsIn cX5_restsIn 1 (some .int), Cond.methodLink RL 87 yX6_restsIn, Cond.instanceMethod yX6_restsIn, Cond.selects RX6 yX6_restsIn yX6_restsIn, Cond.code yX6_restsIn cX6_restsIn 1 (some .int), Cond.methodLink RL 88 yX5_ifRule, Cond.instanceMethod yX5_ifRule, Cond.selects RX5 yX5_ifRule yX5_ifRule, Cond.code yX5_ifRule cX5_ifRule 3 (some .int), Cond.methodLink RX5 212 yX5_settleTrial, Cond.instanceMethod yX5_settleTrial, Cond.selects RX5 yX5_settleTrial yX5_settleTrial, Cond.code yX5_settleTrial cX5_settleTrial 1 none, Cond.methodLink RL 91 yX6_ifRule, Cond.instanceMethod yX6_ifRule, Cond.selects RX6 yX6_ifRule yX6_ifRule, Cond.code yX6_ifRule cX6_ifRule 3 (some .int), Cond.methodLink RX6 196 yX6_rested, Cond.instanceMethod yX6_rested]
def wsL_law_r27 : List Cond := [Cond.selects RX6 yX6_rested yX6_rested, Cond.code yX6_rested cX6_rested 2 (some .int), Cond.methodLink RL 92 yX5_bestRule, Cond.instanceMethod yX5_bestRule, Cond.selects RX5 yX5_bestRule yX5_bestRule, Cond.code yX5_bestRule cX5_bestRule 7 (some .int), Cond.methodLink RL 95 yX6_bestRule, Cond.instanceMethod yX6_bestRule, Cond.selects RX6 yX6_bestRule yX6_bestRule, Cond.code yX6_bestRule cX6_bestRule 8 (some .int), Cond.methodLink RL 96 yX5_leastStep, Cond.instanceMethod yX5_leastStep, Cond.selects RX5 yX5_leastStep yX5_leastStep, Cond.code yX5_leastStep cX5_leastStep 2 (some .int), Cond.methodLink RL 99 yX6_leastStep, Cond.instanceMethod yX6_leastStep, Cond.selects RX6 yX6_leastStep yX6_leastStep, Cond.code yX6_leastStep cX6_leastStep 2 (some .int), Cond.methodLink RL 100 yX5_dearest, Cond.instanceMethod yX5_dearest, Cond.selects RX5 yX5_dearest yX5_dearest, Cond.code yX5_dearest cX5_dearest 5 (some .int), Cond.methodLink RL 103 yX6_dearest, Cond.instanceMethod yX6_dearest]
def wsL_law_r28 : List Cond := [Cond.selects RX6 yX6_dearest yX6_dearest, Cond.code yX6_dearest cX6_dearest 7 (some .int)]
def wsL_law : List Cond := (wsL_law_r1 ++ (wsL_law_r2 ++ (wsL_law_r3 ++ (wsL_law_r4 ++ (wsL_law_r5 ++ (wsL_law_r6 ++ (wsL_law_r7 ++ (wsL_law_r8 ++ (wsL_law_r9 ++ (wsL_law_r10 ++ (wsL_law_r11 ++ (wsL_law_r12 ++ (wsL_law_r13 ++ (wsL_law_r14 ++ (wsL_law_r15 ++ (wsL_law_r16 ++ (wsL_law_r17 ++ (wsL_law_r18 ++ (wsL_law_r19 ++ (wsL_law_r20 ++ (wsL_law_r21 ++ (wsL_law_r22 ++ (wsL_law_r23 ++ (wsL_law_r24 ++ (wsL_law_r25 ++ (wsL_law_r26 ++ (wsL_law_r27 ++ wsL_law_r28))))))))))))))))))))))))))) ++ wsX50 ++ wsX60 ++ wsX30 ++ wsX00 ++ wsX10 ++ wsX20 ++ wsX40 ++ ([] : List Cond)
end
section
set_option maxRecDepth 100000 in
theorem wsL_law_in1 : ∀ w ∈ wsL_law_r1, w ∈ lw_tbl := by decide +kernel
set_option maxRecDepth 100000 in
theorem wsL_law_in2 : ∀ w ∈ wsL_law_r2, w ∈ lw_tbl := by decide +kernel
set_option maxRecDepth 100000 in
theorem wsL_law_in3 : ∀ w ∈ wsL_law_r3, w ∈ lw_tbl := by decide +kernel
set_option maxRecDepth 100000 in
theorem wsL_law_in4 : ∀ w ∈ wsL_law_r4, w ∈ lw_tbl := by decide +kernel
set_option maxRecDepth 100000 in
theorem wsL_law_in5 : ∀ w ∈ wsL_law_r5, w ∈ lw_tbl := by decide +kernel
set_option maxRecDepth 100000 in
theorem wsL_law_in6 : ∀ w ∈ wsL_law_r6, w ∈ lw_tbl := by decide +kernel
set_option maxRecDepth 100000 in
theorem wsL_law_in7 : ∀ w ∈ wsL_law_r7, w ∈ lw_tbl := by decide +kernel
set_option maxRecDepth 100000 in
theorem wsL_law_in8 : ∀ w ∈ wsL_law_r8, w ∈ lw_tbl := by decide +kernel
set_option maxRecDepth 100000 in
theorem wsL_law_in9 : ∀ w ∈ wsL_law_r9, w ∈ lw_tbl := by decide +kernel
set_option maxRecDepth 100000 in
theorem wsL_law_in10 : ∀ w ∈ wsL_law_r10, w ∈ lw_tbl := by decide +kernel
set_option maxRecDepth 100000 in
theorem wsL_law_in11 : ∀ w ∈ wsL_law_r11, w ∈ lw_tbl := by decide +kernel
set_option maxRecDepth 100000 in
theorem wsL_law_in12 : ∀ w ∈ wsL_law_r12, w ∈ lw_tbl := by decide +kernel
set_option maxRecDepth 100000 in
theorem wsL_law_in13 : ∀ w ∈ wsL_law_r13, w ∈ lw_tbl := by decide +kernel
set_option maxRecDepth 100000 in
theorem wsL_law_in14 : ∀ w ∈ wsL_law_r14, w ∈ lw_tbl := by decide +kernel
set_option maxRecDepth 100000 in
theorem wsL_law_in15 : ∀ w ∈ wsL_law_r15, w ∈ lw_tbl := by decide +kernel
set_option maxRecDepth 100000 in
theorem wsL_law_in16 : ∀ w ∈ wsL_law_r16, w ∈ lw_tbl := by decide +kernel
set_option maxRecDepth 100000 in
theorem wsL_law_in17 : ∀ w ∈ wsL_law_r17, w ∈ lw_tbl := by decide +kernel
set_option maxRecDepth 100000 in
theorem wsL_law_in18 : ∀ w ∈ wsL_law_r18, w ∈ lw_tbl := by decide +kernel
set_option maxRecDepth 100000 in
theorem wsL_law_in19 : ∀ w ∈ wsL_law_r19, w ∈ lw_tbl := by decide +kernel
set_option maxRecDepth 100000 in
theorem wsL_law_in20 : ∀ w ∈ wsL_law_r20, w ∈ lw_tbl := by decide +kernel
set_option maxRecDepth 100000 in
theorem wsL_law_in21 : ∀ w ∈ wsL_law_r21, w ∈ lw_tbl := by decide +kernel
set_option maxRecDepth 100000 in
theorem wsL_law_in22 : ∀ w ∈ wsL_law_r22, w ∈ lw_tbl := by decide +kernel
set_option maxRecDepth 100000 in
theorem wsL_law_in23 : ∀ w ∈ wsL_law_r23, w ∈ lw_tbl := by decide +kernel
set_option maxRecDepth 100000 in
theorem wsL_law_in24 : ∀ w ∈ wsL_law_r24, w ∈ lw_tbl := by decide +kernel
set_option maxRecDepth 100000 in
theorem wsL_law_in25 : ∀ w ∈ wsL_law_r25, w ∈ lw_tbl := by decide +kernel
set_option maxRecDepth 100000 in
theorem wsL_law_in26 : ∀ w ∈ wsL_law_r26, w ∈ lw_tbl := by decide +kernel
set_option maxRecDepth 100000 in
theorem wsL_law_in27 : ∀ w ∈ wsL_law_r27, w ∈ lw_tbl := by decide +kernel
set_option maxRecDepth 100000 in
theorem wsL_law_in28 : ∀ w ∈ wsL_law_r28, w ∈ lw_tbl := by decide +kernel
set_option maxRecDepth 100000 in
theorem wsL_lawX5_in : ∀ w ∈ wsX50, w ∈ lw_tbl := by decide +kernel
set_option maxRecDepth 100000 in
theorem wsL_lawX6_in : ∀ w ∈ wsX60, w ∈ lw_tbl := by decide +kernel
set_option maxRecDepth 100000 in
theorem wsL_lawX3_in : ∀ w ∈ wsX30, w ∈ lw_tbl := by decide +kernel
set_option maxRecDepth 100000 in
theorem wsL_lawX0_in : ∀ w ∈ wsX00, w ∈ lw_tbl := by decide +kernel
set_option maxRecDepth 100000 in
theorem wsL_lawX1_in : ∀ w ∈ wsX10, w ∈ lw_tbl := by decide +kernel
set_option maxRecDepth 100000 in
theorem wsL_lawX2_in : ∀ w ∈ wsX20, w ∈ lw_tbl := by decide +kernel
set_option maxRecDepth 100000 in
theorem wsL_lawX4_in : ∀ w ∈ wsX40, w ∈ lw_tbl := by decide +kernel
theorem wsL_law_in : ∀ w ∈ wsL_law, w ∈ lw_tbl := by
  unfold wsL_law
  exact (List.forall_mem_append.mpr ⟨(List.forall_mem_append.mpr ⟨(List.forall_mem_append.mpr ⟨(List.forall_mem_append.mpr ⟨(List.forall_mem_append.mpr ⟨(List.forall_mem_append.mpr ⟨(List.forall_mem_append.mpr ⟨(List.forall_mem_append.mpr ⟨(List.forall_mem_append.mpr ⟨wsL_law_in1, (List.forall_mem_append.mpr ⟨wsL_law_in2, (List.forall_mem_append.mpr ⟨wsL_law_in3, (List.forall_mem_append.mpr ⟨wsL_law_in4, (List.forall_mem_append.mpr ⟨wsL_law_in5, (List.forall_mem_append.mpr ⟨wsL_law_in6, (List.forall_mem_append.mpr ⟨wsL_law_in7, (List.forall_mem_append.mpr ⟨wsL_law_in8, (List.forall_mem_append.mpr ⟨wsL_law_in9, (List.forall_mem_append.mpr ⟨wsL_law_in10, (List.forall_mem_append.mpr ⟨wsL_law_in11, (List.forall_mem_append.mpr ⟨wsL_law_in12, (List.forall_mem_append.mpr ⟨wsL_law_in13, (List.forall_mem_append.mpr ⟨wsL_law_in14, (List.forall_mem_append.mpr ⟨wsL_law_in15, (List.forall_mem_append.mpr ⟨wsL_law_in16, (List.forall_mem_append.mpr ⟨wsL_law_in17, (List.forall_mem_append.mpr ⟨wsL_law_in18, (List.forall_mem_append.mpr ⟨wsL_law_in19, (List.forall_mem_append.mpr ⟨wsL_law_in20, (List.forall_mem_append.mpr ⟨wsL_law_in21, (List.forall_mem_append.mpr ⟨wsL_law_in22, (List.forall_mem_append.mpr ⟨wsL_law_in23, (List.forall_mem_append.mpr ⟨wsL_law_in24, (List.forall_mem_append.mpr ⟨wsL_law_in25, (List.forall_mem_append.mpr ⟨wsL_law_in26, (List.forall_mem_append.mpr ⟨wsL_law_in27, wsL_law_in28⟩)⟩)⟩)⟩)⟩)⟩)⟩)⟩)⟩)⟩)⟩)⟩)⟩)⟩)⟩)⟩)⟩)⟩)⟩)⟩)⟩)⟩)⟩)⟩)⟩)⟩)⟩), wsL_lawX5_in⟩), wsL_lawX6_in⟩), wsL_lawX3_in⟩), wsL_lawX0_in⟩), wsL_lawX1_in⟩), wsL_lawX2_in⟩), wsL_lawX4_in⟩), fun _ h => absurd h List.not_mem_nil⟩)
end
section
theorem inlX0 : ∀ w ∈ wsX00, w ∈ wsL_law := fun _ h => List.mem_append_left _ (List.mem_append_left _ (List.mem_append_left _ (List.mem_append_left _ (List.mem_append_right _ h))))
theorem inX0 : ∀ w ∈ wsX00, w ∈ lw_tbl := fun w h => wsL_law_in w (inlX0 w h)
theorem inlX1 : ∀ w ∈ wsX10, w ∈ wsL_law := fun _ h => List.mem_append_left _ (List.mem_append_left _ (List.mem_append_left _ (List.mem_append_right _ h)))
theorem inX1 : ∀ w ∈ wsX10, w ∈ lw_tbl := fun w h => wsL_law_in w (inlX1 w h)
theorem inlX2 : ∀ w ∈ wsX20, w ∈ wsL_law := fun _ h => List.mem_append_left _ (List.mem_append_left _ (List.mem_append_right _ h))
theorem inX2 : ∀ w ∈ wsX20, w ∈ lw_tbl := fun w h => wsL_law_in w (inlX2 w h)
theorem inlX3 : ∀ w ∈ wsX30, w ∈ wsL_law := fun _ h => List.mem_append_left _ (List.mem_append_left _ (List.mem_append_left _ (List.mem_append_left _ (List.mem_append_left _ (List.mem_append_right _ h)))))
theorem inX3 : ∀ w ∈ wsX30, w ∈ lw_tbl := fun w h => wsL_law_in w (inlX3 w h)
theorem inlX4 : ∀ w ∈ wsX40, w ∈ wsL_law := fun _ h => List.mem_append_left _ (List.mem_append_right _ h)
theorem inX4 : ∀ w ∈ wsX40, w ∈ lw_tbl := fun w h => wsL_law_in w (inlX4 w h)
theorem inlX5 : ∀ w ∈ wsX50, w ∈ wsL_law := fun _ h => List.mem_append_left _ (List.mem_append_left _ (List.mem_append_left _ (List.mem_append_left _ (List.mem_append_left _ (List.mem_append_left _ (List.mem_append_left _ (List.mem_append_right _ h)))))))
theorem inX5 : ∀ w ∈ wsX50, w ∈ lw_tbl := fun w h => wsL_law_in w (inlX5 w h)
theorem inlX6 : ∀ w ∈ wsX60, w ∈ wsL_law := fun _ h => List.mem_append_left _ (List.mem_append_left _ (List.mem_append_left _ (List.mem_append_left _ (List.mem_append_left _ (List.mem_append_left _ (List.mem_append_right _ h))))))
theorem inX6 : ∀ w ∈ wsX60, w ∈ lw_tbl := fun w h => wsL_law_in w (inlX6 w h)
theorem inJ9 : ∀ w ∈ wsJ90, w ∈ lw_tbl := by decide +kernel
theorem inJ10 : ∀ w ∈ wsJ100, w ∈ lw_tbl := by decide +kernel
set_option maxRecDepth 20000 in
theorem ggX0_init_X3_init : GoodIn wsX0_init wsX3_init := goodIn_r _ [12, 13, 2, 3, 14, 15, 16, 17, 18, 19, 20, 21, 22, 23, 24, 25, 26, 30, 31, 32, 33, 34, 35, 36] (by decide +kernel) (by decide +kernel)
set_option maxRecDepth 20000 in
theorem gX0_init_X3_init : GoodIn wsX0_init (wsX3_init) := ggX0_init_X3_init
theorem dX0_init_0 : decode cX0_init 0 = .ok (.aload_n 0, 1) := by decide +kernel
theorem dX0_init_1 : decode cX0_init 1 = .ok (.invokespecial 1, 3) := by decide +kernel
theorem dX0_init_4 : decode cX0_init 4 = .ok (.aload_n 0, 1) := by decide +kernel
theorem dX0_init_5 : decode cX0_init 5 = .ok (.iconst 4, 1) := by decide +kernel
theorem dX0_init_6 : decode cX0_init 6 = .ok (.anewarray 9, 3) := by decide +kernel
theorem dX0_init_9 : decode cX0_init 9 = .ok (.putfield 11, 3) := by decide +kernel
theorem dX0_init_12 : decode cX0_init 12 = .ok (.aload_n 0, 1) := by decide +kernel
theorem dX0_init_13 : decode cX0_init 13 = .ok (.iconst 0, 1) := by decide +kernel
theorem dX0_init_14 : decode cX0_init 14 = .ok (.putfield 15, 3) := by decide +kernel
theorem dX0_init_17 : decode cX0_init 17 = .ok (.aload_n 0, 1) := by decide +kernel
theorem dX0_init_18 : decode cX0_init 18 = .ok (.iconst 0, 1) := by decide +kernel
theorem dX0_init_19 : decode cX0_init 19 = .ok (.putfield 19, 3) := by decide +kernel
theorem dX0_init_22 : decode cX0_init 22 = .ok (.iconst 0, 1) := by decide +kernel
theorem dX0_init_23 : decode cX0_init 23 = .ok (.istore_n 1, 1) := by decide +kernel
theorem dX0_init_24 : decode cX0_init 24 = .ok (.iload_n 1, 1) := by decide +kernel
theorem dX0_init_25 : decode cX0_init 25 = .ok (.iconst 4, 1) := by decide +kernel
theorem dX0_init_26 : decode cX0_init 26 = .ok (.if_icmp .ge 22, 3) := by decide +kernel
theorem dX0_init_29 : decode cX0_init 29 = .ok (.aload_n 0, 1) := by decide +kernel
theorem dX0_init_30 : decode cX0_init 30 = .ok (.getfield 11, 3) := by decide +kernel
theorem dX0_init_33 : decode cX0_init 33 = .ok (.iload_n 1, 1) := by decide +kernel
theorem dX0_init_34 : decode cX0_init 34 = .ok (.new 9, 3) := by decide +kernel
theorem dX0_init_37 : decode cX0_init 37 = .ok (.dup, 1) := by decide +kernel
theorem dX0_init_38 : decode cX0_init 38 = .ok (.invokespecial 22, 3) := by decide +kernel
theorem dX0_init_41 : decode cX0_init 41 = .ok (.aastore, 1) := by decide +kernel
theorem dX0_init_42 : decode cX0_init 42 = .ok (.iinc 1 1, 3) := by decide +kernel
theorem dX0_init_45 : decode cX0_init 45 = .ok (.goto (-21), 3) := by decide +kernel
theorem dX0_init_48 : decode cX0_init 48 = .ok (.return_, 1) := by decide +kernel
set_option maxRecDepth 20000 in
theorem ggX0_record_X3_copyFrom : GoodIn wsX0_record wsX3_copyFrom := goodIn_r _ [8, 9, 10, 11, 12, 13, 14, 15, 16, 17, 18, 19, 23, 24, 25, 26, 27, 28, 29] (by decide +kernel) (by decide +kernel)
set_option maxRecDepth 20000 in
theorem gX0_record_X3_copyFrom : GoodIn wsX0_record (wsV RX0 23 RX3 yX3_copyFrom wsX3_copyFrom) := goodIn_app (goodIn_of _ (by decide +kernel)) ggX0_record_X3_copyFrom
theorem dX0_record_0 : decode cX0_record 0 = .ok (.aload_n 0, 1) := by decide +kernel
theorem dX0_record_1 : decode cX0_record 1 = .ok (.getfield 19, 3) := by decide +kernel
theorem dX0_record_4 : decode cX0_record 4 = .ok (.iconst 4, 1) := by decide +kernel
theorem dX0_record_5 : decode cX0_record 5 = .ok (.if_icmp .ne 25, 3) := by decide +kernel
theorem dX0_record_8 : decode cX0_record 8 = .ok (.aload_n 0, 1) := by decide +kernel
theorem dX0_record_9 : decode cX0_record 9 = .ok (.aload_n 0, 1) := by decide +kernel
theorem dX0_record_10 : decode cX0_record 10 = .ok (.getfield 15, 3) := by decide +kernel
theorem dX0_record_13 : decode cX0_record 13 = .ok (.iconst 1, 1) := by decide +kernel
theorem dX0_record_14 : decode cX0_record 14 = .ok (.iadd, 1) := by decide +kernel
theorem dX0_record_15 : decode cX0_record 15 = .ok (.iconst 4, 1) := by decide +kernel
theorem dX0_record_16 : decode cX0_record 16 = .ok (.irem, 1) := by decide +kernel
theorem dX0_record_17 : decode cX0_record 17 = .ok (.putfield 15, 3) := by decide +kernel
theorem dX0_record_20 : decode cX0_record 20 = .ok (.aload_n 0, 1) := by decide +kernel
theorem dX0_record_21 : decode cX0_record 21 = .ok (.dup, 1) := by decide +kernel
theorem dX0_record_22 : decode cX0_record 22 = .ok (.getfield 19, 3) := by decide +kernel
theorem dX0_record_25 : decode cX0_record 25 = .ok (.iconst 1, 1) := by decide +kernel
theorem dX0_record_26 : decode cX0_record 26 = .ok (.isub, 1) := by decide +kernel
theorem dX0_record_27 : decode cX0_record 27 = .ok (.putfield 19, 3) := by decide +kernel
theorem dX0_record_30 : decode cX0_record 30 = .ok (.aload_n 0, 1) := by decide +kernel
theorem dX0_record_31 : decode cX0_record 31 = .ok (.getfield 11, 3) := by decide +kernel
theorem dX0_record_34 : decode cX0_record 34 = .ok (.aload_n 0, 1) := by decide +kernel
theorem dX0_record_35 : decode cX0_record 35 = .ok (.getfield 15, 3) := by decide +kernel
theorem dX0_record_38 : decode cX0_record 38 = .ok (.aload_n 0, 1) := by decide +kernel
theorem dX0_record_39 : decode cX0_record 39 = .ok (.getfield 19, 3) := by decide +kernel
theorem dX0_record_42 : decode cX0_record 42 = .ok (.iadd, 1) := by decide +kernel
theorem dX0_record_43 : decode cX0_record 43 = .ok (.iconst 4, 1) := by decide +kernel
theorem dX0_record_44 : decode cX0_record 44 = .ok (.irem, 1) := by decide +kernel
theorem dX0_record_45 : decode cX0_record 45 = .ok (.aaload, 1) := by decide +kernel
theorem dX0_record_46 : decode cX0_record 46 = .ok (.aload_n 1, 1) := by decide +kernel
theorem dX0_record_47 : decode cX0_record 47 = .ok (.invokevirtual 23, 3) := by decide +kernel
theorem dX0_record_50 : decode cX0_record 50 = .ok (.aload_n 0, 1) := by decide +kernel
theorem dX0_record_51 : decode cX0_record 51 = .ok (.dup, 1) := by decide +kernel
theorem dX0_record_52 : decode cX0_record 52 = .ok (.getfield 19, 3) := by decide +kernel
theorem dX0_record_55 : decode cX0_record 55 = .ok (.iconst 1, 1) := by decide +kernel
theorem dX0_record_56 : decode cX0_record 56 = .ok (.iadd, 1) := by decide +kernel
theorem dX0_record_57 : decode cX0_record 57 = .ok (.putfield 19, 3) := by decide +kernel
theorem dX0_record_60 : decode cX0_record 60 = .ok (.return_, 1) := by decide +kernel
set_option maxRecDepth 20000 in
theorem ggX0_takeLatest_X3_copyFrom : GoodIn wsX0_takeLatest wsX3_copyFrom := goodIn_r _ [8, 9, 10, 11, 12, 13, 14, 15, 16, 17, 18, 19, 23, 24, 25, 26, 27, 28, 29] (by decide +kernel) (by decide +kernel)
set_option maxRecDepth 20000 in
theorem gX0_takeLatest_X3_copyFrom : GoodIn wsX0_takeLatest (wsV RX0 23 RX3 yX3_copyFrom wsX3_copyFrom) := goodIn_app (goodIn_of _ (by decide +kernel)) ggX0_takeLatest_X3_copyFrom
theorem dX0_takeLatest_0 : decode cX0_takeLatest 0 = .ok (.aload_n 0, 1) := by decide +kernel
theorem dX0_takeLatest_1 : decode cX0_takeLatest 1 = .ok (.getfield 19, 3) := by decide +kernel
theorem dX0_takeLatest_4 : decode cX0_takeLatest 4 = .ok (.ifCond .ne 5, 3) := by decide +kernel
theorem dX0_takeLatest_7 : decode cX0_takeLatest 7 = .ok (.iconst 0, 1) := by decide +kernel
theorem dX0_takeLatest_8 : decode cX0_takeLatest 8 = .ok (.ireturn, 1) := by decide +kernel
theorem dX0_takeLatest_9 : decode cX0_takeLatest 9 = .ok (.aload_n 0, 1) := by decide +kernel
theorem dX0_takeLatest_10 : decode cX0_takeLatest 10 = .ok (.dup, 1) := by decide +kernel
theorem dX0_takeLatest_11 : decode cX0_takeLatest 11 = .ok (.getfield 19, 3) := by decide +kernel
theorem dX0_takeLatest_14 : decode cX0_takeLatest 14 = .ok (.iconst 1, 1) := by decide +kernel
theorem dX0_takeLatest_15 : decode cX0_takeLatest 15 = .ok (.isub, 1) := by decide +kernel
theorem dX0_takeLatest_16 : decode cX0_takeLatest 16 = .ok (.putfield 19, 3) := by decide +kernel
theorem dX0_takeLatest_19 : decode cX0_takeLatest 19 = .ok (.aload_n 1, 1) := by decide +kernel
theorem dX0_takeLatest_20 : decode cX0_takeLatest 20 = .ok (.aload_n 0, 1) := by decide +kernel
theorem dX0_takeLatest_21 : decode cX0_takeLatest 21 = .ok (.getfield 11, 3) := by decide +kernel
theorem dX0_takeLatest_24 : decode cX0_takeLatest 24 = .ok (.aload_n 0, 1) := by decide +kernel
theorem dX0_takeLatest_25 : decode cX0_takeLatest 25 = .ok (.getfield 15, 3) := by decide +kernel
theorem dX0_takeLatest_28 : decode cX0_takeLatest 28 = .ok (.aload_n 0, 1) := by decide +kernel
theorem dX0_takeLatest_29 : decode cX0_takeLatest 29 = .ok (.getfield 19, 3) := by decide +kernel
theorem dX0_takeLatest_32 : decode cX0_takeLatest 32 = .ok (.iadd, 1) := by decide +kernel
theorem dX0_takeLatest_33 : decode cX0_takeLatest 33 = .ok (.iconst 4, 1) := by decide +kernel
theorem dX0_takeLatest_34 : decode cX0_takeLatest 34 = .ok (.irem, 1) := by decide +kernel
theorem dX0_takeLatest_35 : decode cX0_takeLatest 35 = .ok (.aaload, 1) := by decide +kernel
theorem dX0_takeLatest_36 : decode cX0_takeLatest 36 = .ok (.invokevirtual 23, 3) := by decide +kernel
theorem dX0_takeLatest_39 : decode cX0_takeLatest 39 = .ok (.iconst 1, 1) := by decide +kernel
theorem dX0_takeLatest_40 : decode cX0_takeLatest 40 = .ok (.ireturn, 1) := by decide +kernel
theorem dX1_init_0 : decode cX1_init 0 = .ok (.aload_n 0, 1) := by decide +kernel
theorem dX1_init_1 : decode cX1_init 1 = .ok (.invokespecial 5, 3) := by decide +kernel
theorem dX1_init_4 : decode cX1_init 4 = .ok (.aload_n 0, 1) := by decide +kernel
theorem dX1_init_5 : decode cX1_init 5 = .ok (.bipush 60, 2) := by decide +kernel
theorem dX1_init_7 : decode cX1_init 7 = .ok (.newarray .char, 2) := by decide +kernel
theorem dX1_init_9 : decode cX1_init 9 = .ok (.putfield 11, 3) := by decide +kernel
theorem dX1_init_12 : decode cX1_init 12 = .ok (.aload_n 0, 1) := by decide +kernel
theorem dX1_init_13 : decode cX1_init 13 = .ok (.iconst 0, 1) := by decide +kernel
theorem dX1_init_14 : decode cX1_init 14 = .ok (.putfield 15, 3) := by decide +kernel
theorem dX1_init_17 : decode cX1_init 17 = .ok (.aload_n 0, 1) := by decide +kernel
theorem dX1_init_18 : decode cX1_init 18 = .ok (.bipush 30, 2) := by decide +kernel
theorem dX1_init_20 : decode cX1_init 20 = .ok (.newarray .int, 2) := by decide +kernel
theorem dX1_init_22 : decode cX1_init 22 = .ok (.putfield 19, 3) := by decide +kernel
theorem dX1_init_25 : decode cX1_init 25 = .ok (.aload_n 0, 1) := by decide +kernel
theorem dX1_init_26 : decode cX1_init 26 = .ok (.iconst 0, 1) := by decide +kernel
theorem dX1_init_27 : decode cX1_init 27 = .ok (.putfield 23, 3) := by decide +kernel
theorem dX1_init_30 : decode cX1_init 30 = .ok (.return_, 1) := by decide +kernel
theorem dX1_append_0 : decode cX1_append 0 = .ok (.aload_n 0, 1) := by decide +kernel
theorem dX1_append_1 : decode cX1_append 1 = .ok (.getfield 15, 3) := by decide +kernel
theorem dX1_append_4 : decode cX1_append 4 = .ok (.bipush 60, 2) := by decide +kernel
theorem dX1_append_6 : decode cX1_append 6 = .ok (.if_icmp .lt 5, 3) := by decide +kernel
theorem dX1_append_9 : decode cX1_append 9 = .ok (.iconst 0, 1) := by decide +kernel
theorem dX1_append_10 : decode cX1_append 10 = .ok (.ireturn, 1) := by decide +kernel
theorem dX1_append_11 : decode cX1_append 11 = .ok (.aload_n 0, 1) := by decide +kernel
theorem dX1_append_12 : decode cX1_append 12 = .ok (.getfield 11, 3) := by decide +kernel
theorem dX1_append_15 : decode cX1_append 15 = .ok (.aload_n 0, 1) := by decide +kernel
theorem dX1_append_16 : decode cX1_append 16 = .ok (.getfield 15, 3) := by decide +kernel
theorem dX1_append_19 : decode cX1_append 19 = .ok (.iload_n 1, 1) := by decide +kernel
theorem dX1_append_20 : decode cX1_append 20 = .ok (.castore, 1) := by decide +kernel
theorem dX1_append_21 : decode cX1_append 21 = .ok (.aload_n 0, 1) := by decide +kernel
theorem dX1_append_22 : decode cX1_append 22 = .ok (.dup, 1) := by decide +kernel
theorem dX1_append_23 : decode cX1_append 23 = .ok (.getfield 15, 3) := by decide +kernel
theorem dX1_append_26 : decode cX1_append 26 = .ok (.iconst 1, 1) := by decide +kernel
theorem dX1_append_27 : decode cX1_append 27 = .ok (.iadd, 1) := by decide +kernel
theorem dX1_append_28 : decode cX1_append 28 = .ok (.putfield 15, 3) := by decide +kernel
theorem dX1_append_31 : decode cX1_append 31 = .ok (.iconst 1, 1) := by decide +kernel
theorem dX1_append_32 : decode cX1_append 32 = .ok (.ireturn, 1) := by decide +kernel
set_option maxRecDepth 20000 in
theorem ggX1_read_X1_addNumber : GoodIn wsX1_read wsX1_addNumber := goodIn_r _ [9, 1, 10, 16, 17, 18, 19] (by decide +kernel) (by decide +kernel)
set_option maxRecDepth 20000 in
theorem gX1_read_X1_addNumber : GoodIn wsX1_read (wsV RX1 29 RX1 yX1_addNumber wsX1_addNumber) := goodIn_app (goodIn_of _ (by decide +kernel)) ggX1_read_X1_addNumber
set_option maxRecDepth 20000 in
theorem ggX1_read_X1_withDigit : GoodIn wsX1_read wsX1_withDigit := goodIn_r _ [13, 14, 15] (by decide +kernel) (by decide +kernel)
set_option maxRecDepth 20000 in
theorem gX1_read_X1_withDigit : GoodIn wsX1_read (va_wsS RX1 33 yX1_withDigit wsX1_withDigit) := goodIn_app (goodIn_of _ (by decide +kernel)) ggX1_read_X1_withDigit
theorem dX1_read_0 : decode cX1_read 0 = .ok (.aload_n 0, 1) := by decide +kernel
theorem dX1_read_1 : decode cX1_read 1 = .ok (.iconst 0, 1) := by decide +kernel
theorem dX1_read_2 : decode cX1_read 2 = .ok (.putfield 23, 3) := by decide +kernel
theorem dX1_read_5 : decode cX1_read 5 = .ok (.iconst 0, 1) := by decide +kernel
theorem dX1_read_6 : decode cX1_read 6 = .ok (.istore_n 1, 1) := by decide +kernel
theorem dX1_read_7 : decode cX1_read 7 = .ok (.iconst (-1), 1) := by decide +kernel
theorem dX1_read_8 : decode cX1_read 8 = .ok (.istore_n 2, 1) := by decide +kernel
theorem dX1_read_9 : decode cX1_read 9 = .ok (.iconst 0, 1) := by decide +kernel
theorem dX1_read_10 : decode cX1_read 10 = .ok (.istore_n 3, 1) := by decide +kernel
theorem dX1_read_11 : decode cX1_read 11 = .ok (.iload_n 3, 1) := by decide +kernel
theorem dX1_read_12 : decode cX1_read 12 = .ok (.aload_n 0, 1) := by decide +kernel
theorem dX1_read_13 : decode cX1_read 13 = .ok (.getfield 15, 3) := by decide +kernel
theorem dX1_read_16 : decode cX1_read 16 = .ok (.if_icmp .ge 63, 3) := by decide +kernel
theorem dX1_read_19 : decode cX1_read 19 = .ok (.aload_n 0, 1) := by decide +kernel
theorem dX1_read_20 : decode cX1_read 20 = .ok (.getfield 11, 3) := by decide +kernel
theorem dX1_read_23 : decode cX1_read 23 = .ok (.iload_n 3, 1) := by decide +kernel
theorem dX1_read_24 : decode cX1_read 24 = .ok (.caload, 1) := by decide +kernel
theorem dX1_read_25 : decode cX1_read 25 = .ok (.istore 4, 2) := by decide +kernel
theorem dX1_read_27 : decode cX1_read 27 = .ok (.iload_n 2, 1) := by decide +kernel
theorem dX1_read_28 : decode cX1_read 28 = .ok (.iconst (-1), 1) := by decide +kernel
theorem dX1_read_29 : decode cX1_read 29 = .ok (.if_icmp .eq 29, 3) := by decide +kernel
theorem dX1_read_32 : decode cX1_read 32 = .ok (.iload 4, 2) := by decide +kernel
theorem dX1_read_34 : decode cX1_read 34 = .ok (.getstatic 26, 3) := by decide +kernel
theorem dX1_read_37 : decode cX1_read 37 = .ok (.iload_n 1, 1) := by decide +kernel
theorem dX1_read_38 : decode cX1_read 38 = .ok (.caload, 1) := by decide +kernel
theorem dX1_read_39 : decode cX1_read 39 = .ok (.if_icmp .ne 19, 3) := by decide +kernel
theorem dX1_read_42 : decode cX1_read 42 = .ok (.aload_n 0, 1) := by decide +kernel
theorem dX1_read_43 : decode cX1_read 43 = .ok (.iload_n 2, 1) := by decide +kernel
theorem dX1_read_44 : decode cX1_read 44 = .ok (.invokevirtual 29, 3) := by decide +kernel
theorem dX1_read_47 : decode cX1_read 47 = .ok (.iload_n 1, 1) := by decide +kernel
theorem dX1_read_48 : decode cX1_read 48 = .ok (.iconst 1, 1) := by decide +kernel
theorem dX1_read_49 : decode cX1_read 49 = .ok (.iadd, 1) := by decide +kernel
theorem dX1_read_50 : decode cX1_read 50 = .ok (.iconst 5, 1) := by decide +kernel
theorem dX1_read_51 : decode cX1_read 51 = .ok (.irem, 1) := by decide +kernel
theorem dX1_read_52 : decode cX1_read 52 = .ok (.istore_n 1, 1) := by decide +kernel
theorem dX1_read_53 : decode cX1_read 53 = .ok (.iconst (-1), 1) := by decide +kernel
theorem dX1_read_54 : decode cX1_read 54 = .ok (.istore_n 2, 1) := by decide +kernel
theorem dX1_read_55 : decode cX1_read 55 = .ok (.goto 18, 3) := by decide +kernel
theorem dX1_read_58 : decode cX1_read 58 = .ok (.iload_n 2, 1) := by decide +kernel
theorem dX1_read_59 : decode cX1_read 59 = .ok (.iload 4, 2) := by decide +kernel
theorem dX1_read_61 : decode cX1_read 61 = .ok (.iload_n 1, 1) := by decide +kernel
theorem dX1_read_62 : decode cX1_read 62 = .ok (.invokestatic 33, 3) := by decide +kernel
theorem dX1_read_65 : decode cX1_read 65 = .ok (.istore_n 2, 1) := by decide +kernel
theorem dX1_read_66 : decode cX1_read 66 = .ok (.iload_n 2, 1) := by decide +kernel
theorem dX1_read_67 : decode cX1_read 67 = .ok (.iconst (-1), 1) := by decide +kernel
theorem dX1_read_68 : decode cX1_read 68 = .ok (.if_icmp .ne 5, 3) := by decide +kernel
theorem dX1_read_71 : decode cX1_read 71 = .ok (.iload_n 3, 1) := by decide +kernel
theorem dX1_read_72 : decode cX1_read 72 = .ok (.ireturn, 1) := by decide +kernel
theorem dX1_read_73 : decode cX1_read 73 = .ok (.iinc 3 1, 3) := by decide +kernel
theorem dX1_read_76 : decode cX1_read 76 = .ok (.goto (-65), 3) := by decide +kernel
theorem dX1_read_79 : decode cX1_read 79 = .ok (.iload_n 1, 1) := by decide +kernel
theorem dX1_read_80 : decode cX1_read 80 = .ok (.iconst 4, 1) := by decide +kernel
theorem dX1_read_81 : decode cX1_read 81 = .ok (.if_icmp .ne 8, 3) := by decide +kernel
theorem dX1_read_84 : decode cX1_read 84 = .ok (.iload_n 2, 1) := by decide +kernel
theorem dX1_read_85 : decode cX1_read 85 = .ok (.iconst (-1), 1) := by decide +kernel
theorem dX1_read_86 : decode cX1_read 86 = .ok (.if_icmp .ne 8, 3) := by decide +kernel
theorem dX1_read_89 : decode cX1_read 89 = .ok (.aload_n 0, 1) := by decide +kernel
theorem dX1_read_90 : decode cX1_read 90 = .ok (.getfield 15, 3) := by decide +kernel
theorem dX1_read_93 : decode cX1_read 93 = .ok (.ireturn, 1) := by decide +kernel
theorem dX1_read_94 : decode cX1_read 94 = .ok (.aload_n 0, 1) := by decide +kernel
theorem dX1_read_95 : decode cX1_read 95 = .ok (.iload_n 2, 1) := by decide +kernel
theorem dX1_read_96 : decode cX1_read 96 = .ok (.invokevirtual 29, 3) := by decide +kernel
theorem dX1_read_99 : decode cX1_read 99 = .ok (.bipush (-5), 2) := by decide +kernel
theorem dX1_read_101 : decode cX1_read 101 = .ok (.ireturn, 1) := by decide +kernel
theorem dX1_parts_0 : decode cX1_parts 0 = .ok (.aload_n 0, 1) := by decide +kernel
theorem dX1_parts_1 : decode cX1_parts 1 = .ok (.getfield 23, 3) := by decide +kernel
theorem dX1_parts_4 : decode cX1_parts 4 = .ok (.iconst 5, 1) := by decide +kernel
theorem dX1_parts_5 : decode cX1_parts 5 = .ok (.idiv, 1) := by decide +kernel
theorem dX1_parts_6 : decode cX1_parts 6 = .ok (.ireturn, 1) := by decide +kernel
theorem dX1_number_0 : decode cX1_number 0 = .ok (.aload_n 0, 1) := by decide +kernel
theorem dX1_number_1 : decode cX1_number 1 = .ok (.getfield 19, 3) := by decide +kernel
theorem dX1_number_4 : decode cX1_number 4 = .ok (.iload_n 1, 1) := by decide +kernel
theorem dX1_number_5 : decode cX1_number 5 = .ok (.iconst 5, 1) := by decide +kernel
theorem dX1_number_6 : decode cX1_number 6 = .ok (.imul, 1) := by decide +kernel
theorem dX1_number_7 : decode cX1_number 7 = .ok (.iload_n 2, 1) := by decide +kernel
theorem dX1_number_8 : decode cX1_number 8 = .ok (.iadd, 1) := by decide +kernel
theorem dX1_number_9 : decode cX1_number 9 = .ok (.iaload, 1) := by decide +kernel
theorem dX1_number_10 : decode cX1_number 10 = .ok (.ireturn, 1) := by decide +kernel
theorem dX1_addNumber_0 : decode cX1_addNumber 0 = .ok (.aload_n 0, 1) := by decide +kernel
theorem dX1_addNumber_1 : decode cX1_addNumber 1 = .ok (.getfield 23, 3) := by decide +kernel
theorem dX1_addNumber_4 : decode cX1_addNumber 4 = .ok (.aload_n 0, 1) := by decide +kernel
theorem dX1_addNumber_5 : decode cX1_addNumber 5 = .ok (.getfield 19, 3) := by decide +kernel
theorem dX1_addNumber_8 : decode cX1_addNumber 8 = .ok (.arraylength, 1) := by decide +kernel
theorem dX1_addNumber_9 : decode cX1_addNumber 9 = .ok (.if_icmp .ge 23, 3) := by decide +kernel
theorem dX1_addNumber_12 : decode cX1_addNumber 12 = .ok (.aload_n 0, 1) := by decide +kernel
theorem dX1_addNumber_13 : decode cX1_addNumber 13 = .ok (.getfield 19, 3) := by decide +kernel
theorem dX1_addNumber_16 : decode cX1_addNumber 16 = .ok (.aload_n 0, 1) := by decide +kernel
theorem dX1_addNumber_17 : decode cX1_addNumber 17 = .ok (.getfield 23, 3) := by decide +kernel
theorem dX1_addNumber_20 : decode cX1_addNumber 20 = .ok (.iload_n 1, 1) := by decide +kernel
theorem dX1_addNumber_21 : decode cX1_addNumber 21 = .ok (.iastore, 1) := by decide +kernel
theorem dX1_addNumber_22 : decode cX1_addNumber 22 = .ok (.aload_n 0, 1) := by decide +kernel
theorem dX1_addNumber_23 : decode cX1_addNumber 23 = .ok (.dup, 1) := by decide +kernel
theorem dX1_addNumber_24 : decode cX1_addNumber 24 = .ok (.getfield 23, 3) := by decide +kernel
theorem dX1_addNumber_27 : decode cX1_addNumber 27 = .ok (.iconst 1, 1) := by decide +kernel
theorem dX1_addNumber_28 : decode cX1_addNumber 28 = .ok (.iadd, 1) := by decide +kernel
theorem dX1_addNumber_29 : decode cX1_addNumber 29 = .ok (.putfield 23, 3) := by decide +kernel
theorem dX1_addNumber_32 : decode cX1_addNumber 32 = .ok (.return_, 1) := by decide +kernel
theorem dX1_withDigit_0 : decode cX1_withDigit 0 = .ok (.iload_n 1, 1) := by decide +kernel
theorem dX1_withDigit_1 : decode cX1_withDigit 1 = .ok (.bipush 48, 2) := by decide +kernel
theorem dX1_withDigit_3 : decode cX1_withDigit 3 = .ok (.if_icmp .lt 13, 3) := by decide +kernel
theorem dX1_withDigit_6 : decode cX1_withDigit 6 = .ok (.iload_n 1, 1) := by decide +kernel
theorem dX1_withDigit_7 : decode cX1_withDigit 7 = .ok (.bipush 57, 2) := by decide +kernel
theorem dX1_withDigit_9 : decode cX1_withDigit 9 = .ok (.if_icmp .gt 7, 3) := by decide +kernel
theorem dX1_withDigit_12 : decode cX1_withDigit 12 = .ok (.iconst 1, 1) := by decide +kernel
theorem dX1_withDigit_13 : decode cX1_withDigit 13 = .ok (.goto 4, 3) := by decide +kernel
theorem dX1_withDigit_16 : decode cX1_withDigit 16 = .ok (.iconst 0, 1) := by decide +kernel
theorem dX1_withDigit_17 : decode cX1_withDigit 17 = .ok (.istore_n 3, 1) := by decide +kernel
theorem dX1_withDigit_18 : decode cX1_withDigit 18 = .ok (.iload_n 3, 1) := by decide +kernel
theorem dX1_withDigit_19 : decode cX1_withDigit 19 = .ok (.ifCond .eq 7, 3) := by decide +kernel
theorem dX1_withDigit_22 : decode cX1_withDigit 22 = .ok (.iload_n 0, 1) := by decide +kernel
theorem dX1_withDigit_23 : decode cX1_withDigit 23 = .ok (.ifCond .ne 5, 3) := by decide +kernel
theorem dX1_withDigit_26 : decode cX1_withDigit 26 = .ok (.iconst (-1), 1) := by decide +kernel
theorem dX1_withDigit_27 : decode cX1_withDigit 27 = .ok (.ireturn, 1) := by decide +kernel
theorem dX1_withDigit_28 : decode cX1_withDigit 28 = .ok (.iload_n 1, 1) := by decide +kernel
theorem dX1_withDigit_29 : decode cX1_withDigit 29 = .ok (.bipush 48, 2) := by decide +kernel
theorem dX1_withDigit_31 : decode cX1_withDigit 31 = .ok (.isub, 1) := by decide +kernel
theorem dX1_withDigit_32 : decode cX1_withDigit 32 = .ok (.istore 4, 2) := by decide +kernel
end
section
theorem dX1_withDigit_34 : decode cX1_withDigit 34 = .ok (.iload_n 0, 1) := by decide +kernel
theorem dX1_withDigit_35 : decode cX1_withDigit 35 = .ok (.iconst (-1), 1) := by decide +kernel
theorem dX1_withDigit_36 : decode cX1_withDigit 36 = .ok (.if_icmp .ne 8, 3) := by decide +kernel
theorem dX1_withDigit_39 : decode cX1_withDigit 39 = .ok (.iload 4, 2) := by decide +kernel
theorem dX1_withDigit_41 : decode cX1_withDigit 41 = .ok (.goto 10, 3) := by decide +kernel
theorem dX1_withDigit_44 : decode cX1_withDigit 44 = .ok (.bipush 10, 2) := by decide +kernel
theorem dX1_withDigit_46 : decode cX1_withDigit 46 = .ok (.iload_n 0, 1) := by decide +kernel
theorem dX1_withDigit_47 : decode cX1_withDigit 47 = .ok (.imul, 1) := by decide +kernel
theorem dX1_withDigit_48 : decode cX1_withDigit 48 = .ok (.iload 4, 2) := by decide +kernel
theorem dX1_withDigit_50 : decode cX1_withDigit 50 = .ok (.iadd, 1) := by decide +kernel
theorem dX1_withDigit_51 : decode cX1_withDigit 51 = .ok (.istore 5, 2) := by decide +kernel
theorem dX1_withDigit_53 : decode cX1_withDigit 53 = .ok (.iload 5, 2) := by decide +kernel
theorem dX1_withDigit_55 : decode cX1_withDigit 55 = .ok (.getstatic 37, 3) := by decide +kernel
theorem dX1_withDigit_58 : decode cX1_withDigit 58 = .ok (.iload_n 2, 1) := by decide +kernel
theorem dX1_withDigit_59 : decode cX1_withDigit 59 = .ok (.iaload, 1) := by decide +kernel
theorem dX1_withDigit_60 : decode cX1_withDigit 60 = .ok (.if_icmp .lt 13, 3) := by decide +kernel
theorem dX1_withDigit_63 : decode cX1_withDigit 63 = .ok (.iload 5, 2) := by decide +kernel
theorem dX1_withDigit_65 : decode cX1_withDigit 65 = .ok (.getstatic 40, 3) := by decide +kernel
theorem dX1_withDigit_68 : decode cX1_withDigit 68 = .ok (.iload_n 2, 1) := by decide +kernel
theorem dX1_withDigit_69 : decode cX1_withDigit 69 = .ok (.iaload, 1) := by decide +kernel
theorem dX1_withDigit_70 : decode cX1_withDigit 70 = .ok (.if_icmp .le 7, 3) := by decide +kernel
theorem dX1_withDigit_73 : decode cX1_withDigit 73 = .ok (.iconst (-1), 1) := by decide +kernel
theorem dX1_withDigit_74 : decode cX1_withDigit 74 = .ok (.goto 5, 3) := by decide +kernel
theorem dX1_withDigit_77 : decode cX1_withDigit 77 = .ok (.iload 5, 2) := by decide +kernel
theorem dX1_withDigit_79 : decode cX1_withDigit 79 = .ok (.ireturn, 1) := by decide +kernel
theorem dX2_init_0 : decode cX2_init 0 = .ok (.aload_n 0, 1) := by decide +kernel
theorem dX2_init_1 : decode cX2_init 1 = .ok (.invokespecial 3, 3) := by decide +kernel
theorem dX2_init_4 : decode cX2_init 4 = .ok (.aload_n 0, 1) := by decide +kernel
theorem dX2_init_5 : decode cX2_init 5 = .ok (.bipush 18, 2) := by decide +kernel
theorem dX2_init_7 : decode cX2_init 7 = .ok (.newarray .int, 2) := by decide +kernel
theorem dX2_init_9 : decode cX2_init 9 = .ok (.putfield 9, 3) := by decide +kernel
theorem dX2_init_12 : decode cX2_init 12 = .ok (.aload_n 0, 1) := by decide +kernel
theorem dX2_init_13 : decode cX2_init 13 = .ok (.bipush 18, 2) := by decide +kernel
theorem dX2_init_15 : decode cX2_init 15 = .ok (.newarray .int, 2) := by decide +kernel
theorem dX2_init_17 : decode cX2_init 17 = .ok (.putfield 15, 3) := by decide +kernel
theorem dX2_init_20 : decode cX2_init 20 = .ok (.return_, 1) := by decide +kernel
set_option maxRecDepth 20000 in
theorem ggX2_make_X3_peak : GoodIn wsX2_make wsX3_peak := goodIn_r _ [9, 10, 11, 12, 13, 14, 15, 16, 17, 18, 19, 20, 83, 84, 85, 86, 87, 88, 89] (by decide +kernel) (by decide +kernel)
set_option maxRecDepth 20000 in
theorem gX2_make_X3_peak : GoodIn wsX2_make (wsV RX2 18 RX3 yX3_peak wsX3_peak) := goodIn_app (goodIn_of _ (by decide +kernel)) ggX2_make_X3_peak
set_option maxRecDepth 20000 in
theorem ggX2_make_X2_levelByRule : GoodIn wsX2_make wsX2_levelByRule := goodIn_r _ [25, 4, 26, 27, 13, 28, 29, 30, 31, 24, 32, 1, 33, 34, 35, 8, 36, 10, 15, 16, 17, 18, 19, 20, 83, 84, 85, 86, 87, 88, 89, 81, 82] (by decide +kernel) (by decide +kernel)
set_option maxRecDepth 20000 in
theorem gX2_make_X2_levelByRule : GoodIn wsX2_make (wsV RX2 27 RX2 yX2_levelByRule wsX2_levelByRule) := goodIn_app (goodIn_of _ (by decide +kernel)) ggX2_make_X2_levelByRule
set_option maxRecDepth 20000 in
theorem ggX2_make_X2_raiseAll : GoodIn wsX2_make wsX2_raiseAll := goodIn_r _ [40, 1, 2, 41, 12, 13, 14, 3, 4, 42, 43, 44, 8, 45, 46, 47, 16, 48, 49, 50, 51, 52, 53, 54, 55, 27, 28, 56, 57, 58, 24, 59, 60, 61, 62, 63, 64, 65, 66, 67, 68, 26, 81, 82, 83, 84, 85, 86, 87, 88, 89] (by decide +kernel) (by decide +kernel)
set_option maxRecDepth 20000 in
theorem gX2_make_X2_raiseAll : GoodIn wsX2_make (wsV RX2 34 RX2 yX2_raiseAll wsX2_raiseAll) := goodIn_app (goodIn_of _ (by decide +kernel)) ggX2_make_X2_raiseAll
set_option maxRecDepth 20000 in
theorem ggX2_make_X3_asksBlack : GoodIn wsX2_make wsX3_asksBlack := goodIn_r _ [72, 10, 15, 16, 17, 18, 19, 20, 83, 84, 85, 86, 87, 88, 89] (by decide +kernel) (by decide +kernel)
set_option maxRecDepth 20000 in
theorem gX2_make_X3_asksBlack : GoodIn wsX2_make (wsV RX2 38 RX3 yX3_asksBlack wsX3_asksBlack) := goodIn_app (goodIn_of _ (by decide +kernel)) ggX2_make_X3_asksBlack
set_option maxRecDepth 20000 in
theorem ggX2_make_X2_lowerForBlack : GoodIn wsX2_make wsX2_lowerForBlack := goodIn_r _ [76, 2, 4, 42, 43, 44, 8, 45, 46, 47, 16, 48, 49, 50, 13, 51, 52, 12, 14, 53, 54, 55, 27, 28, 77, 78, 79, 80, 81, 82, 83, 84, 85, 86, 87, 88, 89] (by decide +kernel) (by decide +kernel)
set_option maxRecDepth 20000 in
theorem gX2_make_X2_lowerForBlack : GoodIn wsX2_make (wsV RX2 42 RX2 yX2_lowerForBlack wsX2_lowerForBlack) := goodIn_app (goodIn_of _ (by decide +kernel)) ggX2_make_X2_lowerForBlack
theorem dX2_make_0 : decode cX2_make 0 = .ok (.iconst 0, 1) := by decide +kernel
theorem dX2_make_1 : decode cX2_make 1 = .ok (.istore_n 2, 1) := by decide +kernel
theorem dX2_make_2 : decode cX2_make 2 = .ok (.iload_n 2, 1) := by decide +kernel
theorem dX2_make_3 : decode cX2_make 3 = .ok (.bipush 18, 2) := by decide +kernel
theorem dX2_make_5 : decode cX2_make 5 = .ok (.if_icmp .ge 45, 3) := by decide +kernel
theorem dX2_make_8 : decode cX2_make 8 = .ok (.aload_n 0, 1) := by decide +kernel
theorem dX2_make_9 : decode cX2_make 9 = .ok (.getfield 15, 3) := by decide +kernel
theorem dX2_make_12 : decode cX2_make 12 = .ok (.iload_n 2, 1) := by decide +kernel
theorem dX2_make_13 : decode cX2_make 13 = .ok (.aload_n 1, 1) := by decide +kernel
theorem dX2_make_14 : decode cX2_make 14 = .ok (.iload_n 2, 1) := by decide +kernel
theorem dX2_make_15 : decode cX2_make 15 = .ok (.invokevirtual 18, 3) := by decide +kernel
theorem dX2_make_18 : decode cX2_make 18 = .ok (.iastore, 1) := by decide +kernel
theorem dX2_make_19 : decode cX2_make 19 = .ok (.aload_n 0, 1) := by decide +kernel
theorem dX2_make_20 : decode cX2_make 20 = .ok (.getfield 9, 3) := by decide +kernel
theorem dX2_make_23 : decode cX2_make 23 = .ok (.iload_n 2, 1) := by decide +kernel
theorem dX2_make_24 : decode cX2_make 24 = .ok (.aload_n 1, 1) := by decide +kernel
theorem dX2_make_25 : decode cX2_make 25 = .ok (.getfield 23, 3) := by decide +kernel
theorem dX2_make_28 : decode cX2_make 28 = .ok (.iload_n 2, 1) := by decide +kernel
theorem dX2_make_29 : decode cX2_make 29 = .ok (.baload, 1) := by decide +kernel
theorem dX2_make_30 : decode cX2_make 30 = .ok (.ifCond .eq 7, 3) := by decide +kernel
theorem dX2_make_33 : decode cX2_make 33 = .ok (.iconst 0, 1) := by decide +kernel
theorem dX2_make_34 : decode cX2_make 34 = .ok (.goto 9, 3) := by decide +kernel
theorem dX2_make_37 : decode cX2_make 37 = .ok (.aload_n 0, 1) := by decide +kernel
theorem dX2_make_38 : decode cX2_make 38 = .ok (.aload_n 1, 1) := by decide +kernel
theorem dX2_make_39 : decode cX2_make 39 = .ok (.iload_n 2, 1) := by decide +kernel
theorem dX2_make_40 : decode cX2_make 40 = .ok (.invokevirtual 27, 3) := by decide +kernel
theorem dX2_make_43 : decode cX2_make 43 = .ok (.iastore, 1) := by decide +kernel
theorem dX2_make_44 : decode cX2_make 44 = .ok (.iinc 2 1, 3) := by decide +kernel
theorem dX2_make_47 : decode cX2_make 47 = .ok (.goto (-45), 3) := by decide +kernel
theorem dX2_make_50 : decode cX2_make 50 = .ok (.iconst 0, 1) := by decide +kernel
theorem dX2_make_51 : decode cX2_make 51 = .ok (.istore_n 2, 1) := by decide +kernel
theorem dX2_make_52 : decode cX2_make 52 = .ok (.iload_n 2, 1) := by decide +kernel
theorem dX2_make_53 : decode cX2_make 53 = .ok (.aload_n 1, 1) := by decide +kernel
theorem dX2_make_54 : decode cX2_make 54 = .ok (.getfield 31, 3) := by decide +kernel
theorem dX2_make_57 : decode cX2_make 57 = .ok (.iconst 4, 1) := by decide +kernel
theorem dX2_make_58 : decode cX2_make 58 = .ok (.iaload, 1) := by decide +kernel
theorem dX2_make_59 : decode cX2_make 59 = .ok (.if_icmp .ge 14, 3) := by decide +kernel
theorem dX2_make_62 : decode cX2_make 62 = .ok (.aload_n 0, 1) := by decide +kernel
theorem dX2_make_63 : decode cX2_make 63 = .ok (.aload_n 1, 1) := by decide +kernel
theorem dX2_make_64 : decode cX2_make 64 = .ok (.invokevirtual 34, 3) := by decide +kernel
theorem dX2_make_67 : decode cX2_make 67 = .ok (.iinc 2 1, 3) := by decide +kernel
theorem dX2_make_70 : decode cX2_make 70 = .ok (.goto (-18), 3) := by decide +kernel
theorem dX2_make_73 : decode cX2_make 73 = .ok (.iconst 0, 1) := by decide +kernel
theorem dX2_make_74 : decode cX2_make 74 = .ok (.istore_n 2, 1) := by decide +kernel
theorem dX2_make_75 : decode cX2_make 75 = .ok (.iload_n 2, 1) := by decide +kernel
theorem dX2_make_76 : decode cX2_make 76 = .ok (.bipush 18, 2) := by decide +kernel
theorem dX2_make_78 : decode cX2_make 78 = .ok (.if_icmp .ge 23, 3) := by decide +kernel
theorem dX2_make_81 : decode cX2_make 81 = .ok (.aload_n 1, 1) := by decide +kernel
theorem dX2_make_82 : decode cX2_make 82 = .ok (.iload_n 2, 1) := by decide +kernel
theorem dX2_make_83 : decode cX2_make 83 = .ok (.invokevirtual 38, 3) := by decide +kernel
theorem dX2_make_86 : decode cX2_make 86 = .ok (.ifCond .eq 9, 3) := by decide +kernel
theorem dX2_make_89 : decode cX2_make 89 = .ok (.aload_n 0, 1) := by decide +kernel
theorem dX2_make_90 : decode cX2_make 90 = .ok (.aload_n 1, 1) := by decide +kernel
theorem dX2_make_91 : decode cX2_make 91 = .ok (.iload_n 2, 1) := by decide +kernel
theorem dX2_make_92 : decode cX2_make 92 = .ok (.invokevirtual 42, 3) := by decide +kernel
theorem dX2_make_95 : decode cX2_make 95 = .ok (.iinc 2 1, 3) := by decide +kernel
theorem dX2_make_98 : decode cX2_make 98 = .ok (.goto (-23), 3) := by decide +kernel
theorem dX2_make_101 : decode cX2_make 101 = .ok (.return_, 1) := by decide +kernel
set_option maxRecDepth 20000 in
theorem ggX2_levelByRule_X2_aim : GoodIn wsX2_levelByRule wsX2_aim := goodIn_r _ [10, 1, 11, 12, 13, 14, 15, 16, 17, 18, 19, 20, 21, 22, 23, 24, 25, 26, 27, 28, 29, 30, 31, 32] (by decide +kernel) (by decide +kernel)
set_option maxRecDepth 20000 in
theorem gX2_levelByRule_X2_aim : GoodIn wsX2_levelByRule (wsV RX2 46 RX2 yX2_aim wsX2_aim) := goodIn_app (goodIn_of _ (by decide +kernel)) ggX2_levelByRule_X2_aim
theorem dX2_levelByRule_0 : decode cX2_levelByRule 0 = .ok (.aload_n 1, 1) := by decide +kernel
theorem dX2_levelByRule_1 : decode cX2_levelByRule 1 = .ok (.getfield 31, 3) := by decide +kernel
theorem dX2_levelByRule_4 : decode cX2_levelByRule 4 = .ok (.iconst 0, 1) := by decide +kernel
theorem dX2_levelByRule_5 : decode cX2_levelByRule 5 = .ok (.iaload, 1) := by decide +kernel
theorem dX2_levelByRule_6 : decode cX2_levelByRule 6 = .ok (.istore_n 3, 1) := by decide +kernel
theorem dX2_levelByRule_7 : decode cX2_levelByRule 7 = .ok (.aload_n 0, 1) := by decide +kernel
theorem dX2_levelByRule_8 : decode cX2_levelByRule 8 = .ok (.aload_n 1, 1) := by decide +kernel
theorem dX2_levelByRule_9 : decode cX2_levelByRule 9 = .ok (.iload_n 2, 1) := by decide +kernel
theorem dX2_levelByRule_10 : decode cX2_levelByRule 10 = .ok (.invokevirtual 46, 3) := by decide +kernel
theorem dX2_levelByRule_13 : decode cX2_levelByRule 13 = .ok (.sipush 256, 3) := by decide +kernel
theorem dX2_levelByRule_16 : decode cX2_levelByRule 16 = .ok (.imul, 1) := by decide +kernel
theorem dX2_levelByRule_17 : decode cX2_levelByRule 17 = .ok (.istore 4, 2) := by decide +kernel
theorem dX2_levelByRule_19 : decode cX2_levelByRule 19 = .ok (.iload_n 3, 1) := by decide +kernel
theorem dX2_levelByRule_20 : decode cX2_levelByRule 20 = .ok (.ifCond .le 16, 3) := by decide +kernel
theorem dX2_levelByRule_23 : decode cX2_levelByRule 23 = .ok (.sipush 255, 3) := by decide +kernel
theorem dX2_levelByRule_26 : decode cX2_levelByRule 26 = .ok (.iload 4, 2) := by decide +kernel
theorem dX2_levelByRule_28 : decode cX2_levelByRule 28 = .ok (.iload_n 3, 1) := by decide +kernel
theorem dX2_levelByRule_29 : decode cX2_levelByRule 29 = .ok (.idiv, 1) := by decide +kernel
theorem dX2_levelByRule_30 : decode cX2_levelByRule 30 = .ok (.invokestatic 49, 3) := by decide +kernel
theorem dX2_levelByRule_33 : decode cX2_levelByRule 33 = .ok (.goto 4, 3) := by decide +kernel
theorem dX2_levelByRule_36 : decode cX2_levelByRule 36 = .ok (.iconst 0, 1) := by decide +kernel
theorem dX2_levelByRule_37 : decode cX2_levelByRule 37 = .ok (.ireturn, 1) := by decide +kernel
set_option maxRecDepth 20000 in
theorem ggX2_aim_X3_mean : GoodIn wsX2_aim wsX3_mean := goodIn_r _ [7, 8, 9, 10, 11, 12, 13, 14, 15, 16, 17, 18, 19, 20, 21] (by decide +kernel) (by decide +kernel)
set_option maxRecDepth 20000 in
theorem gX2_aim_X3_mean : GoodIn wsX2_aim (wsV RX2 55 RX3 yX3_mean wsX3_mean) := goodIn_app (goodIn_of _ (by decide +kernel)) ggX2_aim_X3_mean
theorem dX2_aim_0 : decode cX2_aim 0 = .ok (.aload_n 1, 1) := by decide +kernel
theorem dX2_aim_1 : decode cX2_aim 1 = .ok (.getfield 31, 3) := by decide +kernel
theorem dX2_aim_4 : decode cX2_aim 4 = .ok (.iconst 3, 1) := by decide +kernel
theorem dX2_aim_5 : decode cX2_aim 5 = .ok (.iaload, 1) := by decide +kernel
theorem dX2_aim_6 : decode cX2_aim 6 = .ok (.lookupswitch 48 #[(0, 26), (1, 33)], 26) := by decide +kernel
theorem dX2_aim_32 : decode cX2_aim 32 = .ok (.aload_n 0, 1) := by decide +kernel
theorem dX2_aim_33 : decode cX2_aim 33 = .ok (.getfield 15, 3) := by decide +kernel
theorem dX2_aim_36 : decode cX2_aim 36 = .ok (.iload_n 2, 1) := by decide +kernel
theorem dX2_aim_37 : decode cX2_aim 37 = .ok (.iaload, 1) := by decide +kernel
theorem dX2_aim_38 : decode cX2_aim 38 = .ok (.ireturn, 1) := by decide +kernel
theorem dX2_aim_39 : decode cX2_aim 39 = .ok (.aload_n 0, 1) := by decide +kernel
theorem dX2_aim_40 : decode cX2_aim 40 = .ok (.getfield 15, 3) := by decide +kernel
theorem dX2_aim_43 : decode cX2_aim 43 = .ok (.iload_n 2, 1) := by decide +kernel
theorem dX2_aim_44 : decode cX2_aim 44 = .ok (.iaload, 1) := by decide +kernel
theorem dX2_aim_45 : decode cX2_aim 45 = .ok (.aload_n 1, 1) := by decide +kernel
theorem dX2_aim_46 : decode cX2_aim 46 = .ok (.iload_n 2, 1) := by decide +kernel
theorem dX2_aim_47 : decode cX2_aim 47 = .ok (.invokevirtual 55, 3) := by decide +kernel
theorem dX2_aim_50 : decode cX2_aim 50 = .ok (.iadd, 1) := by decide +kernel
theorem dX2_aim_51 : decode cX2_aim 51 = .ok (.iconst 2, 1) := by decide +kernel
theorem dX2_aim_52 : decode cX2_aim 52 = .ok (.idiv, 1) := by decide +kernel
theorem dX2_aim_53 : decode cX2_aim 53 = .ok (.ireturn, 1) := by decide +kernel
theorem dX2_aim_54 : decode cX2_aim 54 = .ok (.aload_n 1, 1) := by decide +kernel
theorem dX2_aim_55 : decode cX2_aim 55 = .ok (.iload_n 2, 1) := by decide +kernel
theorem dX2_aim_56 : decode cX2_aim 56 = .ok (.invokevirtual 55, 3) := by decide +kernel
theorem dX2_aim_59 : decode cX2_aim 59 = .ok (.ireturn, 1) := by decide +kernel
set_option maxRecDepth 20000 in
theorem ggX2_raiseAll_X3_glow : GoodIn wsX2_raiseAll wsX3_glow := goodIn_r _ [13, 14, 15, 16, 17, 18, 19, 5, 20, 21, 4, 6, 44, 45, 46, 47, 48, 49, 50] (by decide +kernel) (by decide +kernel)
set_option maxRecDepth 20000 in
theorem gX2_raiseAll_X3_glow : GoodIn wsX2_raiseAll (wsV RX2 58 RX3 yX3_glow wsX3_glow) := goodIn_app (goodIn_of _ (by decide +kernel)) ggX2_raiseAll_X3_glow
set_option maxRecDepth 20000 in
theorem ggX2_raiseAll_X5_lightOf : GoodIn wsX2_raiseAll wsX5_lightOf := goodIn_r _ [23, 24, 25, 5, 26] (by decide +kernel) (by decide +kernel)
set_option maxRecDepth 20000 in
theorem gX2_raiseAll_X5_lightOf_n62 : GoodIn wsX2_raiseAll (wsX5_lightOf) := ggX2_raiseAll_X5_lightOf
set_option maxRecDepth 20000 in
theorem ggX2_raiseAll_X2_raiseNeighbours : GoodIn wsX2_raiseAll wsX2_raiseNeighbours := goodIn_r _ [31, 8, 32, 33, 30, 34, 7, 15, 16, 17, 18, 19, 5, 20, 21, 4, 6, 35, 36, 37, 38, 39, 40, 2, 41, 25, 26, 44, 45, 46, 47, 48, 49, 50, 42, 43] (by decide +kernel) (by decide +kernel)
set_option maxRecDepth 20000 in
theorem gX2_raiseAll_X2_raiseNeighbours : GoodIn wsX2_raiseAll (wsV RX2 68 RX2 yX2_raiseNeighbours wsX2_raiseNeighbours) := goodIn_app (goodIn_of _ (by decide +kernel)) ggX2_raiseAll_X2_raiseNeighbours
set_option maxRecDepth 20000 in
theorem ggX2_raiseAll_X5_roundedUp : GoodIn wsX2_raiseAll wsX5_roundedUp := goodIn_r _ [36] (by decide +kernel) (by decide +kernel)
set_option maxRecDepth 20000 in
theorem gX2_raiseAll_X5_roundedUp_n72 : GoodIn wsX2_raiseAll (wsX5_roundedUp) := ggX2_raiseAll_X5_roundedUp
set_option maxRecDepth 20000 in
theorem ggX2_raiseAll_X2_raise : GoodIn wsX2_raiseAll wsX2_raise := goodIn_r _ [40, 2, 41, 25, 5, 26, 42, 43] (by decide +kernel) (by decide +kernel)
set_option maxRecDepth 20000 in
theorem gX2_raiseAll_X2_raise : GoodIn wsX2_raiseAll (wsV RX2 75 RX2 yX2_raise wsX2_raise) := goodIn_app (goodIn_of _ (by decide +kernel)) ggX2_raiseAll_X2_raise
theorem dX2_raiseAll_0 : decode cX2_raiseAll 0 = .ok (.iconst 0, 1) := by decide +kernel
theorem dX2_raiseAll_1 : decode cX2_raiseAll 1 = .ok (.istore_n 2, 1) := by decide +kernel
theorem dX2_raiseAll_2 : decode cX2_raiseAll 2 = .ok (.iload_n 2, 1) := by decide +kernel
theorem dX2_raiseAll_3 : decode cX2_raiseAll 3 = .ok (.bipush 18, 2) := by decide +kernel
theorem dX2_raiseAll_5 : decode cX2_raiseAll 5 = .ok (.if_icmp .ge 71, 3) := by decide +kernel
theorem dX2_raiseAll_8 : decode cX2_raiseAll 8 = .ok (.iconst 0, 1) := by decide +kernel
theorem dX2_raiseAll_9 : decode cX2_raiseAll 9 = .ok (.aload_n 0, 1) := by decide +kernel
theorem dX2_raiseAll_10 : decode cX2_raiseAll 10 = .ok (.getfield 15, 3) := by decide +kernel
theorem dX2_raiseAll_13 : decode cX2_raiseAll 13 = .ok (.iload_n 2, 1) := by decide +kernel
theorem dX2_raiseAll_14 : decode cX2_raiseAll 14 = .ok (.iaload, 1) := by decide +kernel
theorem dX2_raiseAll_15 : decode cX2_raiseAll 15 = .ok (.aload_n 1, 1) := by decide +kernel
theorem dX2_raiseAll_16 : decode cX2_raiseAll 16 = .ok (.iload_n 2, 1) := by decide +kernel
theorem dX2_raiseAll_17 : decode cX2_raiseAll 17 = .ok (.aload_n 0, 1) := by decide +kernel
theorem dX2_raiseAll_18 : decode cX2_raiseAll 18 = .ok (.getfield 9, 3) := by decide +kernel
theorem dX2_raiseAll_21 : decode cX2_raiseAll 21 = .ok (.invokevirtual 58, 3) := by decide +kernel
theorem dX2_raiseAll_24 : decode cX2_raiseAll 24 = .ok (.invokestatic 62, 3) := by decide +kernel
theorem dX2_raiseAll_27 : decode cX2_raiseAll 27 = .ok (.isub, 1) := by decide +kernel
theorem dX2_raiseAll_28 : decode cX2_raiseAll 28 = .ok (.invokestatic 65, 3) := by decide +kernel
theorem dX2_raiseAll_31 : decode cX2_raiseAll 31 = .ok (.istore_n 3, 1) := by decide +kernel
theorem dX2_raiseAll_32 : decode cX2_raiseAll 32 = .ok (.aload_n 1, 1) := by decide +kernel
theorem dX2_raiseAll_33 : decode cX2_raiseAll 33 = .ok (.getfield 23, 3) := by decide +kernel
theorem dX2_raiseAll_36 : decode cX2_raiseAll 36 = .ok (.iload_n 2, 1) := by decide +kernel
theorem dX2_raiseAll_37 : decode cX2_raiseAll 37 = .ok (.baload, 1) := by decide +kernel
theorem dX2_raiseAll_38 : decode cX2_raiseAll 38 = .ok (.ifCond .eq 13, 3) := by decide +kernel
theorem dX2_raiseAll_41 : decode cX2_raiseAll 41 = .ok (.aload_n 0, 1) := by decide +kernel
theorem dX2_raiseAll_42 : decode cX2_raiseAll 42 = .ok (.aload_n 1, 1) := by decide +kernel
theorem dX2_raiseAll_43 : decode cX2_raiseAll 43 = .ok (.iload_n 2, 1) := by decide +kernel
theorem dX2_raiseAll_44 : decode cX2_raiseAll 44 = .ok (.iload_n 3, 1) := by decide +kernel
theorem dX2_raiseAll_45 : decode cX2_raiseAll 45 = .ok (.invokevirtual 68, 3) := by decide +kernel
theorem dX2_raiseAll_48 : decode cX2_raiseAll 48 = .ok (.goto 22, 3) := by decide +kernel
theorem dX2_raiseAll_51 : decode cX2_raiseAll 51 = .ok (.aload_n 0, 1) := by decide +kernel
theorem dX2_raiseAll_52 : decode cX2_raiseAll 52 = .ok (.iload_n 2, 1) := by decide +kernel
theorem dX2_raiseAll_53 : decode cX2_raiseAll 53 = .ok (.iload_n 3, 1) := by decide +kernel
theorem dX2_raiseAll_54 : decode cX2_raiseAll 54 = .ok (.sipush 256, 3) := by decide +kernel
theorem dX2_raiseAll_57 : decode cX2_raiseAll 57 = .ok (.imul, 1) := by decide +kernel
theorem dX2_raiseAll_58 : decode cX2_raiseAll 58 = .ok (.aload_n 1, 1) := by decide +kernel
theorem dX2_raiseAll_59 : decode cX2_raiseAll 59 = .ok (.getfield 31, 3) := by decide +kernel
theorem dX2_raiseAll_62 : decode cX2_raiseAll 62 = .ok (.iconst 0, 1) := by decide +kernel
theorem dX2_raiseAll_63 : decode cX2_raiseAll 63 = .ok (.iaload, 1) := by decide +kernel
theorem dX2_raiseAll_64 : decode cX2_raiseAll 64 = .ok (.invokestatic 72, 3) := by decide +kernel
theorem dX2_raiseAll_67 : decode cX2_raiseAll 67 = .ok (.invokevirtual 75, 3) := by decide +kernel
theorem dX2_raiseAll_70 : decode cX2_raiseAll 70 = .ok (.iinc 2 1, 3) := by decide +kernel
theorem dX2_raiseAll_73 : decode cX2_raiseAll 73 = .ok (.goto (-71), 3) := by decide +kernel
theorem dX2_raiseAll_76 : decode cX2_raiseAll 76 = .ok (.return_, 1) := by decide +kernel
set_option maxRecDepth 20000 in
theorem ggX2_raiseNeighbours_X2_helps : GoodIn wsX2_raiseNeighbours wsX2_helps := goodIn_r _ [5, 6, 7, 8, 9, 10, 11, 12, 13, 14, 15, 16, 27, 28, 29, 30, 31, 32, 33] (by decide +kernel) (by decide +kernel)
set_option maxRecDepth 20000 in
theorem gX2_raiseNeighbours_X2_helps : GoodIn wsX2_raiseNeighbours (va_wsS RX2 79 yX2_helps wsX2_helps) := goodIn_app (goodIn_of _ (by decide +kernel)) ggX2_raiseNeighbours_X2_helps
set_option maxRecDepth 20000 in
theorem ggX2_raiseNeighbours_X5_roundedUp : GoodIn wsX2_raiseNeighbours wsX5_roundedUp := goodIn_r _ [18] (by decide +kernel) (by decide +kernel)
set_option maxRecDepth 20000 in
theorem gX2_raiseNeighbours_X5_roundedUp_n72 : GoodIn wsX2_raiseNeighbours (wsX5_roundedUp) := ggX2_raiseNeighbours_X5_roundedUp
set_option maxRecDepth 20000 in
theorem ggX2_raiseNeighbours_X2_raise : GoodIn wsX2_raiseNeighbours wsX2_raise := goodIn_r _ [22, 23, 24, 25, 12, 26, 34, 35] (by decide +kernel) (by decide +kernel)
set_option maxRecDepth 20000 in
theorem gX2_raiseNeighbours_X2_raise : GoodIn wsX2_raiseNeighbours (wsV RX2 75 RX2 yX2_raise wsX2_raise) := goodIn_app (goodIn_of _ (by decide +kernel)) ggX2_raiseNeighbours_X2_raise
theorem dX2_raiseNeighbours_0 : decode cX2_raiseNeighbours 0 = .ok (.iconst 0, 1) := by decide +kernel
theorem dX2_raiseNeighbours_1 : decode cX2_raiseNeighbours 1 = .ok (.istore 4, 2) := by decide +kernel
theorem dX2_raiseNeighbours_3 : decode cX2_raiseNeighbours 3 = .ok (.iconst 0, 1) := by decide +kernel
theorem dX2_raiseNeighbours_4 : decode cX2_raiseNeighbours 4 = .ok (.istore 5, 2) := by decide +kernel
theorem dX2_raiseNeighbours_6 : decode cX2_raiseNeighbours 6 = .ok (.iload 5, 2) := by decide +kernel
theorem dX2_raiseNeighbours_8 : decode cX2_raiseNeighbours 8 = .ok (.bipush 18, 2) := by decide +kernel
theorem dX2_raiseNeighbours_10 : decode cX2_raiseNeighbours 10 = .ok (.if_icmp .ge 22, 3) := by decide +kernel
theorem dX2_raiseNeighbours_13 : decode cX2_raiseNeighbours 13 = .ok (.aload_n 1, 1) := by decide +kernel
theorem dX2_raiseNeighbours_14 : decode cX2_raiseNeighbours 14 = .ok (.iload_n 2, 1) := by decide +kernel
theorem dX2_raiseNeighbours_15 : decode cX2_raiseNeighbours 15 = .ok (.iload 5, 2) := by decide +kernel
theorem dX2_raiseNeighbours_17 : decode cX2_raiseNeighbours 17 = .ok (.invokestatic 79, 3) := by decide +kernel
theorem dX2_raiseNeighbours_20 : decode cX2_raiseNeighbours 20 = .ok (.ifCond .eq 6, 3) := by decide +kernel
theorem dX2_raiseNeighbours_23 : decode cX2_raiseNeighbours 23 = .ok (.iinc 4 1, 3) := by decide +kernel
theorem dX2_raiseNeighbours_26 : decode cX2_raiseNeighbours 26 = .ok (.iinc 5 1, 3) := by decide +kernel
theorem dX2_raiseNeighbours_29 : decode cX2_raiseNeighbours 29 = .ok (.goto (-23), 3) := by decide +kernel
theorem dX2_raiseNeighbours_32 : decode cX2_raiseNeighbours 32 = .ok (.iload_n 3, 1) := by decide +kernel
theorem dX2_raiseNeighbours_33 : decode cX2_raiseNeighbours 33 = .ok (.sipush 256, 3) := by decide +kernel
theorem dX2_raiseNeighbours_36 : decode cX2_raiseNeighbours 36 = .ok (.imul, 1) := by decide +kernel
theorem dX2_raiseNeighbours_37 : decode cX2_raiseNeighbours 37 = .ok (.aload_n 1, 1) := by decide +kernel
theorem dX2_raiseNeighbours_38 : decode cX2_raiseNeighbours 38 = .ok (.getfield 31, 3) := by decide +kernel
theorem dX2_raiseNeighbours_41 : decode cX2_raiseNeighbours 41 = .ok (.iconst 1, 1) := by decide +kernel
theorem dX2_raiseNeighbours_42 : decode cX2_raiseNeighbours 42 = .ok (.iaload, 1) := by decide +kernel
theorem dX2_raiseNeighbours_43 : decode cX2_raiseNeighbours 43 = .ok (.iload 4, 2) := by decide +kernel
theorem dX2_raiseNeighbours_45 : decode cX2_raiseNeighbours 45 = .ok (.imul, 1) := by decide +kernel
theorem dX2_raiseNeighbours_46 : decode cX2_raiseNeighbours 46 = .ok (.invokestatic 72, 3) := by decide +kernel
theorem dX2_raiseNeighbours_49 : decode cX2_raiseNeighbours 49 = .ok (.istore 5, 2) := by decide +kernel
theorem dX2_raiseNeighbours_51 : decode cX2_raiseNeighbours 51 = .ok (.iconst 0, 1) := by decide +kernel
theorem dX2_raiseNeighbours_52 : decode cX2_raiseNeighbours 52 = .ok (.istore 6, 2) := by decide +kernel
theorem dX2_raiseNeighbours_54 : decode cX2_raiseNeighbours 54 = .ok (.iload 6, 2) := by decide +kernel
theorem dX2_raiseNeighbours_56 : decode cX2_raiseNeighbours 56 = .ok (.bipush 18, 2) := by decide +kernel
theorem dX2_raiseNeighbours_58 : decode cX2_raiseNeighbours 58 = .ok (.if_icmp .ge 27, 3) := by decide +kernel
theorem dX2_raiseNeighbours_61 : decode cX2_raiseNeighbours 61 = .ok (.aload_n 1, 1) := by decide +kernel
theorem dX2_raiseNeighbours_62 : decode cX2_raiseNeighbours 62 = .ok (.iload_n 2, 1) := by decide +kernel
theorem dX2_raiseNeighbours_63 : decode cX2_raiseNeighbours 63 = .ok (.iload 6, 2) := by decide +kernel
theorem dX2_raiseNeighbours_65 : decode cX2_raiseNeighbours 65 = .ok (.invokestatic 79, 3) := by decide +kernel
theorem dX2_raiseNeighbours_68 : decode cX2_raiseNeighbours 68 = .ok (.ifCond .eq 11, 3) := by decide +kernel
theorem dX2_raiseNeighbours_71 : decode cX2_raiseNeighbours 71 = .ok (.aload_n 0, 1) := by decide +kernel
theorem dX2_raiseNeighbours_72 : decode cX2_raiseNeighbours 72 = .ok (.iload 6, 2) := by decide +kernel
theorem dX2_raiseNeighbours_74 : decode cX2_raiseNeighbours 74 = .ok (.iload 5, 2) := by decide +kernel
theorem dX2_raiseNeighbours_76 : decode cX2_raiseNeighbours 76 = .ok (.invokevirtual 75, 3) := by decide +kernel
theorem dX2_raiseNeighbours_79 : decode cX2_raiseNeighbours 79 = .ok (.iinc 6 1, 3) := by decide +kernel
theorem dX2_raiseNeighbours_82 : decode cX2_raiseNeighbours 82 = .ok (.goto (-28), 3) := by decide +kernel
theorem dX2_raiseNeighbours_85 : decode cX2_raiseNeighbours 85 = .ok (.return_, 1) := by decide +kernel
set_option maxRecDepth 20000 in
theorem ggX2_helps_X5_zonesApart : GoodIn wsX2_helps wsX5_zonesApart := goodIn_r _ [4, 5, 6, 7, 8, 9, 10, 11] (by decide +kernel) (by decide +kernel)
set_option maxRecDepth 20000 in
theorem gX2_helps_X5_zonesApart_n83 : GoodIn wsX2_helps (wsX5_zonesApart) := ggX2_helps_X5_zonesApart
theorem dX2_helps_0 : decode cX2_helps 0 = .ok (.aload_n 0, 1) := by decide +kernel
theorem dX2_helps_1 : decode cX2_helps 1 = .ok (.getfield 23, 3) := by decide +kernel
theorem dX2_helps_4 : decode cX2_helps 4 = .ok (.iload_n 2, 1) := by decide +kernel
theorem dX2_helps_5 : decode cX2_helps 5 = .ok (.baload, 1) := by decide +kernel
theorem dX2_helps_6 : decode cX2_helps 6 = .ok (.ifCond .ne 16, 3) := by decide +kernel
theorem dX2_helps_9 : decode cX2_helps 9 = .ok (.iload_n 1, 1) := by decide +kernel
theorem dX2_helps_10 : decode cX2_helps 10 = .ok (.iload_n 2, 1) := by decide +kernel
theorem dX2_helps_11 : decode cX2_helps 11 = .ok (.invokestatic 83, 3) := by decide +kernel
theorem dX2_helps_14 : decode cX2_helps 14 = .ok (.iconst 1, 1) := by decide +kernel
theorem dX2_helps_15 : decode cX2_helps 15 = .ok (.if_icmp .ne 7, 3) := by decide +kernel
theorem dX2_helps_18 : decode cX2_helps 18 = .ok (.iconst 1, 1) := by decide +kernel
theorem dX2_helps_19 : decode cX2_helps 19 = .ok (.goto 4, 3) := by decide +kernel
theorem dX2_helps_22 : decode cX2_helps 22 = .ok (.iconst 0, 1) := by decide +kernel
theorem dX2_helps_23 : decode cX2_helps 23 = .ok (.ireturn, 1) := by decide +kernel
theorem dX2_raise_0 : decode cX2_raise 0 = .ok (.aload_n 0, 1) := by decide +kernel
theorem dX2_raise_1 : decode cX2_raise 1 = .ok (.getfield 9, 3) := by decide +kernel
theorem dX2_raise_4 : decode cX2_raise 4 = .ok (.iload_n 1, 1) := by decide +kernel
theorem dX2_raise_5 : decode cX2_raise 5 = .ok (.sipush 255, 3) := by decide +kernel
theorem dX2_raise_8 : decode cX2_raise 8 = .ok (.aload_n 0, 1) := by decide +kernel
theorem dX2_raise_9 : decode cX2_raise 9 = .ok (.getfield 9, 3) := by decide +kernel
theorem dX2_raise_12 : decode cX2_raise 12 = .ok (.iload_n 1, 1) := by decide +kernel
theorem dX2_raise_13 : decode cX2_raise 13 = .ok (.iaload, 1) := by decide +kernel
theorem dX2_raise_14 : decode cX2_raise 14 = .ok (.iload_n 2, 1) := by decide +kernel
theorem dX2_raise_15 : decode cX2_raise 15 = .ok (.iadd, 1) := by decide +kernel
theorem dX2_raise_16 : decode cX2_raise 16 = .ok (.invokestatic 49, 3) := by decide +kernel
theorem dX2_raise_19 : decode cX2_raise 19 = .ok (.iastore, 1) := by decide +kernel
theorem dX2_raise_20 : decode cX2_raise 20 = .ok (.return_, 1) := by decide +kernel
set_option maxRecDepth 20000 in
theorem ggX2_lowerForBlack_X3_glow : GoodIn wsX2_lowerForBlack wsX3_glow := goodIn_r _ [7, 8, 9, 10, 11, 12, 13, 14, 15, 16, 17, 18, 30, 31, 32, 33, 34, 35, 36] (by decide +kernel) (by decide +kernel)
set_option maxRecDepth 20000 in
theorem gX2_lowerForBlack_X3_glow : GoodIn wsX2_lowerForBlack (wsV RX2 58 RX3 yX3_glow wsX3_glow) := goodIn_app (goodIn_of _ (by decide +kernel)) ggX2_lowerForBlack_X3_glow
set_option maxRecDepth 20000 in
theorem ggX2_lowerForBlack_X5_lightOf : GoodIn wsX2_lowerForBlack wsX5_lightOf := goodIn_r _ [20, 21, 22, 14, 23] (by decide +kernel) (by decide +kernel)
set_option maxRecDepth 20000 in
theorem gX2_lowerForBlack_X5_lightOf_n62 : GoodIn wsX2_lowerForBlack (wsX5_lightOf) := ggX2_lowerForBlack_X5_lightOf
set_option maxRecDepth 20000 in
theorem ggX2_lowerForBlack_X3_leakOf : GoodIn wsX2_lowerForBlack wsX3_leakOf := goodIn_r _ [27, 8, 30, 31, 32, 33, 34, 35, 36] (by decide +kernel) (by decide +kernel)
set_option maxRecDepth 20000 in
theorem gX2_lowerForBlack_X3_leakOf : GoodIn wsX2_lowerForBlack (wsV RX2 86 RX3 yX3_leakOf wsX3_leakOf) := goodIn_app (goodIn_of _ (by decide +kernel)) ggX2_lowerForBlack_X3_leakOf
theorem dX2_lowerForBlack_0 : decode cX2_lowerForBlack 0 = .ok (.aload_n 1, 1) := by decide +kernel
theorem dX2_lowerForBlack_1 : decode cX2_lowerForBlack 1 = .ok (.iload_n 2, 1) := by decide +kernel
theorem dX2_lowerForBlack_2 : decode cX2_lowerForBlack 2 = .ok (.aload_n 0, 1) := by decide +kernel
theorem dX2_lowerForBlack_3 : decode cX2_lowerForBlack 3 = .ok (.getfield 9, 3) := by decide +kernel
theorem dX2_lowerForBlack_6 : decode cX2_lowerForBlack 6 = .ok (.invokevirtual 58, 3) := by decide +kernel
theorem dX2_lowerForBlack_9 : decode cX2_lowerForBlack 9 = .ok (.istore_n 3, 1) := by decide +kernel
theorem dX2_lowerForBlack_10 : decode cX2_lowerForBlack 10 = .ok (.aload_n 0, 1) := by decide +kernel
theorem dX2_lowerForBlack_11 : decode cX2_lowerForBlack 11 = .ok (.getfield 9, 3) := by decide +kernel
theorem dX2_lowerForBlack_14 : decode cX2_lowerForBlack 14 = .ok (.iload_n 2, 1) := by decide +kernel
theorem dX2_lowerForBlack_15 : decode cX2_lowerForBlack 15 = .ok (.iaload, 1) := by decide +kernel
theorem dX2_lowerForBlack_16 : decode cX2_lowerForBlack 16 = .ok (.ifCond .le 43, 3) := by decide +kernel
theorem dX2_lowerForBlack_19 : decode cX2_lowerForBlack 19 = .ok (.aload_n 1, 1) := by decide +kernel
theorem dX2_lowerForBlack_20 : decode cX2_lowerForBlack 20 = .ok (.iload_n 3, 1) := by decide +kernel
theorem dX2_lowerForBlack_21 : decode cX2_lowerForBlack 21 = .ok (.invokestatic 62, 3) := by decide +kernel
theorem dX2_lowerForBlack_24 : decode cX2_lowerForBlack 24 = .ok (.invokevirtual 86, 3) := by decide +kernel
theorem dX2_lowerForBlack_27 : decode cX2_lowerForBlack 27 = .ok (.aload_n 1, 1) := by decide +kernel
theorem dX2_lowerForBlack_28 : decode cX2_lowerForBlack 28 = .ok (.getfield 31, 3) := by decide +kernel
theorem dX2_lowerForBlack_31 : decode cX2_lowerForBlack 31 = .ok (.bipush 6, 2) := by decide +kernel
theorem dX2_lowerForBlack_33 : decode cX2_lowerForBlack 33 = .ok (.iaload, 1) := by decide +kernel
theorem dX2_lowerForBlack_34 : decode cX2_lowerForBlack 34 = .ok (.if_icmp .le 25, 3) := by decide +kernel
theorem dX2_lowerForBlack_37 : decode cX2_lowerForBlack 37 = .ok (.aload_n 0, 1) := by decide +kernel
theorem dX2_lowerForBlack_38 : decode cX2_lowerForBlack 38 = .ok (.getfield 9, 3) := by decide +kernel
theorem dX2_lowerForBlack_41 : decode cX2_lowerForBlack 41 = .ok (.iload_n 2, 1) := by decide +kernel
theorem dX2_lowerForBlack_42 : decode cX2_lowerForBlack 42 = .ok (.dup2, 1) := by decide +kernel
theorem dX2_lowerForBlack_43 : decode cX2_lowerForBlack 43 = .ok (.iaload, 1) := by decide +kernel
theorem dX2_lowerForBlack_44 : decode cX2_lowerForBlack 44 = .ok (.iconst 1, 1) := by decide +kernel
theorem dX2_lowerForBlack_45 : decode cX2_lowerForBlack 45 = .ok (.isub, 1) := by decide +kernel
theorem dX2_lowerForBlack_46 : decode cX2_lowerForBlack 46 = .ok (.iastore, 1) := by decide +kernel
theorem dX2_lowerForBlack_47 : decode cX2_lowerForBlack 47 = .ok (.iload_n 3, 1) := by decide +kernel
theorem dX2_lowerForBlack_48 : decode cX2_lowerForBlack 48 = .ok (.aload_n 1, 1) := by decide +kernel
theorem dX2_lowerForBlack_49 : decode cX2_lowerForBlack 49 = .ok (.getfield 31, 3) := by decide +kernel
theorem dX2_lowerForBlack_52 : decode cX2_lowerForBlack 52 = .ok (.iconst 0, 1) := by decide +kernel
theorem dX2_lowerForBlack_53 : decode cX2_lowerForBlack 53 = .ok (.iaload, 1) := by decide +kernel
theorem dX2_lowerForBlack_54 : decode cX2_lowerForBlack 54 = .ok (.isub, 1) := by decide +kernel
theorem dX2_lowerForBlack_55 : decode cX2_lowerForBlack 55 = .ok (.istore_n 3, 1) := by decide +kernel
theorem dX2_lowerForBlack_56 : decode cX2_lowerForBlack 56 = .ok (.goto (-46), 3) := by decide +kernel
theorem dX2_lowerForBlack_59 : decode cX2_lowerForBlack 59 = .ok (.return_, 1) := by decide +kernel
theorem dX3_init_0 : decode cX3_init 0 = .ok (.aload_n 0, 1) := by decide +kernel
theorem dX3_init_1 : decode cX3_init 1 = .ok (.invokespecial 3, 3) := by decide +kernel
theorem dX3_init_4 : decode cX3_init 4 = .ok (.aload_n 0, 1) := by decide +kernel
theorem dX3_init_5 : decode cX3_init 5 = .ok (.sipush 288, 3) := by decide +kernel
theorem dX3_init_8 : decode cX3_init 8 = .ok (.newarray .int, 2) := by decide +kernel
theorem dX3_init_10 : decode cX3_init 10 = .ok (.putfield 9, 3) := by decide +kernel
theorem dX3_init_13 : decode cX3_init 13 = .ok (.aload_n 0, 1) := by decide +kernel
theorem dX3_init_14 : decode cX3_init 14 = .ok (.bipush 18, 2) := by decide +kernel
theorem dX3_init_16 : decode cX3_init 16 = .ok (.newarray .int, 2) := by decide +kernel
theorem dX3_init_18 : decode cX3_init 18 = .ok (.putfield 15, 3) := by decide +kernel
theorem dX3_init_21 : decode cX3_init 21 = .ok (.aload_n 0, 1) := by decide +kernel
theorem dX3_init_22 : decode cX3_init 22 = .ok (.bipush 18, 2) := by decide +kernel
theorem dX3_init_24 : decode cX3_init 24 = .ok (.newarray .boolean, 2) := by decide +kernel
theorem dX3_init_26 : decode cX3_init 26 = .ok (.putfield 18, 3) := by decide +kernel
theorem dX3_init_29 : decode cX3_init 29 = .ok (.aload_n 0, 1) := by decide +kernel
theorem dX3_init_30 : decode cX3_init 30 = .ok (.bipush 8, 2) := by decide +kernel
theorem dX3_init_32 : decode cX3_init 32 = .ok (.newarray .int, 2) := by decide +kernel
theorem dX3_init_34 : decode cX3_init 34 = .ok (.putfield 22, 3) := by decide +kernel
theorem dX3_init_37 : decode cX3_init 37 = .ok (.aload_n 0, 1) := by decide +kernel
theorem dX3_init_38 : decode cX3_init 38 = .ok (.iconst 0, 1) := by decide +kernel
theorem dX3_init_39 : decode cX3_init 39 = .ok (.putfield 25, 3) := by decide +kernel
theorem dX3_init_42 : decode cX3_init 42 = .ok (.aload_n 0, 1) := by decide +kernel
theorem dX3_init_43 : decode cX3_init 43 = .ok (.iconst 0, 1) := by decide +kernel
theorem dX3_init_44 : decode cX3_init 44 = .ok (.putfield 29, 3) := by decide +kernel
theorem dX3_init_47 : decode cX3_init 47 = .ok (.aload_n 0, 1) := by decide +kernel
theorem dX3_init_48 : decode cX3_init 48 = .ok (.iconst 0, 1) := by decide +kernel
theorem dX3_init_49 : decode cX3_init 49 = .ok (.putfield 32, 3) := by decide +kernel
theorem dX3_init_52 : decode cX3_init 52 = .ok (.getstatic 35, 3) := by decide +kernel
theorem dX3_init_55 : decode cX3_init 55 = .ok (.iconst 0, 1) := by decide +kernel
theorem dX3_init_56 : decode cX3_init 56 = .ok (.aload_n 0, 1) := by decide +kernel
theorem dX3_init_57 : decode cX3_init 57 = .ok (.getfield 22, 3) := by decide +kernel
theorem dX3_init_60 : decode cX3_init 60 = .ok (.iconst 0, 1) := by decide +kernel
theorem dX3_init_61 : decode cX3_init 61 = .ok (.bipush 8, 2) := by decide +kernel
theorem dX3_init_63 : decode cX3_init 63 = .ok (.invokestatic 38, 3) := by decide +kernel
theorem dX3_init_66 : decode cX3_init 66 = .ok (.return_, 1) := by decide +kernel
theorem dX3_copyFrom_0 : decode cX3_copyFrom 0 = .ok (.aload_n 1, 1) := by decide +kernel
theorem dX3_copyFrom_1 : decode cX3_copyFrom 1 = .ok (.getfield 9, 3) := by decide +kernel
theorem dX3_copyFrom_4 : decode cX3_copyFrom 4 = .ok (.iconst 0, 1) := by decide +kernel
theorem dX3_copyFrom_5 : decode cX3_copyFrom 5 = .ok (.aload_n 0, 1) := by decide +kernel
theorem dX3_copyFrom_6 : decode cX3_copyFrom 6 = .ok (.getfield 9, 3) := by decide +kernel
theorem dX3_copyFrom_9 : decode cX3_copyFrom 9 = .ok (.iconst 0, 1) := by decide +kernel
theorem dX3_copyFrom_10 : decode cX3_copyFrom 10 = .ok (.sipush 288, 3) := by decide +kernel
theorem dX3_copyFrom_13 : decode cX3_copyFrom 13 = .ok (.invokestatic 38, 3) := by decide +kernel
theorem dX3_copyFrom_16 : decode cX3_copyFrom 16 = .ok (.aload_n 1, 1) := by decide +kernel
theorem dX3_copyFrom_17 : decode cX3_copyFrom 17 = .ok (.getfield 15, 3) := by decide +kernel
theorem dX3_copyFrom_20 : decode cX3_copyFrom 20 = .ok (.iconst 0, 1) := by decide +kernel
theorem dX3_copyFrom_21 : decode cX3_copyFrom 21 = .ok (.aload_n 0, 1) := by decide +kernel
theorem dX3_copyFrom_22 : decode cX3_copyFrom 22 = .ok (.getfield 15, 3) := by decide +kernel
theorem dX3_copyFrom_25 : decode cX3_copyFrom 25 = .ok (.iconst 0, 1) := by decide +kernel
theorem dX3_copyFrom_26 : decode cX3_copyFrom 26 = .ok (.bipush 18, 2) := by decide +kernel
theorem dX3_copyFrom_28 : decode cX3_copyFrom 28 = .ok (.invokestatic 38, 3) := by decide +kernel
theorem dX3_copyFrom_31 : decode cX3_copyFrom 31 = .ok (.aload_n 1, 1) := by decide +kernel
theorem dX3_copyFrom_32 : decode cX3_copyFrom 32 = .ok (.getfield 22, 3) := by decide +kernel
theorem dX3_copyFrom_35 : decode cX3_copyFrom 35 = .ok (.iconst 0, 1) := by decide +kernel
theorem dX3_copyFrom_36 : decode cX3_copyFrom 36 = .ok (.aload_n 0, 1) := by decide +kernel
theorem dX3_copyFrom_37 : decode cX3_copyFrom 37 = .ok (.getfield 22, 3) := by decide +kernel
theorem dX3_copyFrom_40 : decode cX3_copyFrom 40 = .ok (.iconst 0, 1) := by decide +kernel
theorem dX3_copyFrom_41 : decode cX3_copyFrom 41 = .ok (.bipush 8, 2) := by decide +kernel
theorem dX3_copyFrom_43 : decode cX3_copyFrom 43 = .ok (.invokestatic 38, 3) := by decide +kernel
theorem dX3_copyFrom_46 : decode cX3_copyFrom 46 = .ok (.iconst 0, 1) := by decide +kernel
theorem dX3_copyFrom_47 : decode cX3_copyFrom 47 = .ok (.istore_n 2, 1) := by decide +kernel
theorem dX3_copyFrom_48 : decode cX3_copyFrom 48 = .ok (.iload_n 2, 1) := by decide +kernel
theorem dX3_copyFrom_49 : decode cX3_copyFrom 49 = .ok (.bipush 18, 2) := by decide +kernel
theorem dX3_copyFrom_51 : decode cX3_copyFrom 51 = .ok (.if_icmp .ge 21, 3) := by decide +kernel
theorem dX3_copyFrom_54 : decode cX3_copyFrom 54 = .ok (.aload_n 0, 1) := by decide +kernel
theorem dX3_copyFrom_55 : decode cX3_copyFrom 55 = .ok (.getfield 18, 3) := by decide +kernel
theorem dX3_copyFrom_58 : decode cX3_copyFrom 58 = .ok (.iload_n 2, 1) := by decide +kernel
theorem dX3_copyFrom_59 : decode cX3_copyFrom 59 = .ok (.aload_n 1, 1) := by decide +kernel
theorem dX3_copyFrom_60 : decode cX3_copyFrom 60 = .ok (.getfield 18, 3) := by decide +kernel
theorem dX3_copyFrom_63 : decode cX3_copyFrom 63 = .ok (.iload_n 2, 1) := by decide +kernel
theorem dX3_copyFrom_64 : decode cX3_copyFrom 64 = .ok (.baload, 1) := by decide +kernel
theorem dX3_copyFrom_65 : decode cX3_copyFrom 65 = .ok (.bastore, 1) := by decide +kernel
theorem dX3_copyFrom_66 : decode cX3_copyFrom 66 = .ok (.iinc 2 1, 3) := by decide +kernel
theorem dX3_copyFrom_69 : decode cX3_copyFrom 69 = .ok (.goto (-21), 3) := by decide +kernel
theorem dX3_copyFrom_72 : decode cX3_copyFrom 72 = .ok (.aload_n 0, 1) := by decide +kernel
theorem dX3_copyFrom_73 : decode cX3_copyFrom 73 = .ok (.aload_n 1, 1) := by decide +kernel
theorem dX3_copyFrom_74 : decode cX3_copyFrom 74 = .ok (.getfield 25, 3) := by decide +kernel
theorem dX3_copyFrom_77 : decode cX3_copyFrom 77 = .ok (.putfield 25, 3) := by decide +kernel
theorem dX3_copyFrom_80 : decode cX3_copyFrom 80 = .ok (.aload_n 0, 1) := by decide +kernel
theorem dX3_copyFrom_81 : decode cX3_copyFrom 81 = .ok (.aload_n 1, 1) := by decide +kernel
theorem dX3_copyFrom_82 : decode cX3_copyFrom 82 = .ok (.getfield 29, 3) := by decide +kernel
theorem dX3_copyFrom_85 : decode cX3_copyFrom 85 = .ok (.putfield 29, 3) := by decide +kernel
theorem dX3_copyFrom_88 : decode cX3_copyFrom 88 = .ok (.aload_n 0, 1) := by decide +kernel
theorem dX3_copyFrom_89 : decode cX3_copyFrom 89 = .ok (.aload_n 1, 1) := by decide +kernel
theorem dX3_copyFrom_90 : decode cX3_copyFrom 90 = .ok (.getfield 32, 3) := by decide +kernel
theorem dX3_copyFrom_93 : decode cX3_copyFrom 93 = .ok (.putfield 32, 3) := by decide +kernel
theorem dX3_copyFrom_96 : decode cX3_copyFrom 96 = .ok (.return_, 1) := by decide +kernel
set_option maxRecDepth 20000 in
theorem ggX3_paint_X5_spotAt : GoodIn wsX3_paint wsX5_spotAt := goodIn_r _ [11] (by decide +kernel) (by decide +kernel)
set_option maxRecDepth 20000 in
theorem gX3_paint_X5_spotAt_n53 : GoodIn wsX3_paint (wsX5_spotAt) := ggX3_paint_X5_spotAt
theorem dX3_paint_0 : decode cX3_paint 0 = .ok (.bipush 24, 2) := by decide +kernel
theorem dX3_paint_2 : decode cX3_paint 2 = .ok (.iload_n 1, 1) := by decide +kernel
theorem dX3_paint_3 : decode cX3_paint 3 = .ok (.iload_n 3, 1) := by decide +kernel
theorem dX3_paint_4 : decode cX3_paint 4 = .ok (.iadd, 1) := by decide +kernel
theorem dX3_paint_5 : decode cX3_paint 5 = .ok (.invokestatic 44, 3) := by decide +kernel
theorem dX3_paint_8 : decode cX3_paint 8 = .ok (.istore 6, 2) := by decide +kernel
theorem dX3_paint_10 : decode cX3_paint 10 = .ok (.bipush 12, 2) := by decide +kernel
theorem dX3_paint_12 : decode cX3_paint 12 = .ok (.iload_n 2, 1) := by decide +kernel
theorem dX3_paint_13 : decode cX3_paint 13 = .ok (.iload 4, 2) := by decide +kernel
theorem dX3_paint_15 : decode cX3_paint 15 = .ok (.iadd, 1) := by decide +kernel
theorem dX3_paint_16 : decode cX3_paint 16 = .ok (.invokestatic 44, 3) := by decide +kernel
theorem dX3_paint_19 : decode cX3_paint 19 = .ok (.istore 7, 2) := by decide +kernel
theorem dX3_paint_21 : decode cX3_paint 21 = .ok (.iconst 0, 1) := by decide +kernel
theorem dX3_paint_22 : decode cX3_paint 22 = .ok (.iload_n 2, 1) := by decide +kernel
theorem dX3_paint_23 : decode cX3_paint 23 = .ok (.invokestatic 50, 3) := by decide +kernel
theorem dX3_paint_26 : decode cX3_paint 26 = .ok (.istore 8, 2) := by decide +kernel
theorem dX3_paint_28 : decode cX3_paint 28 = .ok (.iload 8, 2) := by decide +kernel
theorem dX3_paint_30 : decode cX3_paint 30 = .ok (.iload 7, 2) := by decide +kernel
theorem dX3_paint_32 : decode cX3_paint 32 = .ok (.if_icmp .ge 43, 3) := by decide +kernel
theorem dX3_paint_35 : decode cX3_paint 35 = .ok (.iconst 0, 1) := by decide +kernel
theorem dX3_paint_36 : decode cX3_paint 36 = .ok (.iload_n 1, 1) := by decide +kernel
theorem dX3_paint_37 : decode cX3_paint 37 = .ok (.invokestatic 50, 3) := by decide +kernel
theorem dX3_paint_40 : decode cX3_paint 40 = .ok (.istore 9, 2) := by decide +kernel
theorem dX3_paint_42 : decode cX3_paint 42 = .ok (.iload 9, 2) := by decide +kernel
theorem dX3_paint_44 : decode cX3_paint 44 = .ok (.iload 6, 2) := by decide +kernel
theorem dX3_paint_46 : decode cX3_paint 46 = .ok (.if_icmp .ge 23, 3) := by decide +kernel
theorem dX3_paint_49 : decode cX3_paint 49 = .ok (.aload_n 0, 1) := by decide +kernel
theorem dX3_paint_50 : decode cX3_paint 50 = .ok (.getfield 9, 3) := by decide +kernel
theorem dX3_paint_53 : decode cX3_paint 53 = .ok (.iload 9, 2) := by decide +kernel
theorem dX3_paint_55 : decode cX3_paint 55 = .ok (.iload 8, 2) := by decide +kernel
theorem dX3_paint_57 : decode cX3_paint 57 = .ok (.invokestatic 53, 3) := by decide +kernel
theorem dX3_paint_60 : decode cX3_paint 60 = .ok (.iload 5, 2) := by decide +kernel
theorem dX3_paint_62 : decode cX3_paint 62 = .ok (.iastore, 1) := by decide +kernel
theorem dX3_paint_63 : decode cX3_paint 63 = .ok (.iinc 9 1, 3) := by decide +kernel
theorem dX3_paint_66 : decode cX3_paint 66 = .ok (.goto (-24), 3) := by decide +kernel
theorem dX3_paint_69 : decode cX3_paint 69 = .ok (.iinc 8 1, 3) := by decide +kernel
theorem dX3_paint_72 : decode cX3_paint 72 = .ok (.goto (-44), 3) := by decide +kernel
theorem dX3_paint_75 : decode cX3_paint 75 = .ok (.return_, 1) := by decide +kernel
set_option maxRecDepth 20000 in
theorem ggX3_takeShifted_X5_onScreen : GoodIn wsX3_takeShifted wsX5_onScreen := goodIn_r _ [4] (by decide +kernel) (by decide +kernel)
set_option maxRecDepth 20000 in
theorem gX3_takeShifted_X5_onScreen_n56 : GoodIn wsX3_takeShifted (wsX5_onScreen) := ggX3_takeShifted_X5_onScreen
set_option maxRecDepth 20000 in
theorem ggX3_takeShifted_X5_spotAt : GoodIn wsX3_takeShifted wsX5_spotAt := goodIn_r _ [6] (by decide +kernel) (by decide +kernel)
set_option maxRecDepth 20000 in
theorem gX3_takeShifted_X5_spotAt_n53 : GoodIn wsX3_takeShifted (wsX5_spotAt) := ggX3_takeShifted_X5_spotAt
theorem dX3_takeShifted_0 : decode cX3_takeShifted 0 = .ok (.iconst 0, 1) := by decide +kernel
theorem dX3_takeShifted_1 : decode cX3_takeShifted 1 = .ok (.istore 4, 2) := by decide +kernel
theorem dX3_takeShifted_3 : decode cX3_takeShifted 3 = .ok (.iload 4, 2) := by decide +kernel
theorem dX3_takeShifted_5 : decode cX3_takeShifted 5 = .ok (.bipush 12, 2) := by decide +kernel
theorem dX3_takeShifted_7 : decode cX3_takeShifted 7 = .ok (.if_icmp .ge 72, 3) := by decide +kernel
theorem dX3_takeShifted_10 : decode cX3_takeShifted 10 = .ok (.iconst 0, 1) := by decide +kernel
theorem dX3_takeShifted_11 : decode cX3_takeShifted 11 = .ok (.istore 5, 2) := by decide +kernel
theorem dX3_takeShifted_13 : decode cX3_takeShifted 13 = .ok (.iload 5, 2) := by decide +kernel
theorem dX3_takeShifted_15 : decode cX3_takeShifted 15 = .ok (.bipush 24, 2) := by decide +kernel
theorem dX3_takeShifted_17 : decode cX3_takeShifted 17 = .ok (.if_icmp .ge 56, 3) := by decide +kernel
theorem dX3_takeShifted_20 : decode cX3_takeShifted 20 = .ok (.iload 5, 2) := by decide +kernel
theorem dX3_takeShifted_22 : decode cX3_takeShifted 22 = .ok (.iload_n 2, 1) := by decide +kernel
theorem dX3_takeShifted_23 : decode cX3_takeShifted 23 = .ok (.iadd, 1) := by decide +kernel
theorem dX3_takeShifted_24 : decode cX3_takeShifted 24 = .ok (.iload 4, 2) := by decide +kernel
theorem dX3_takeShifted_26 : decode cX3_takeShifted 26 = .ok (.iload_n 3, 1) := by decide +kernel
theorem dX3_takeShifted_27 : decode cX3_takeShifted 27 = .ok (.iadd, 1) := by decide +kernel
theorem dX3_takeShifted_28 : decode cX3_takeShifted 28 = .ok (.invokestatic 56, 3) := by decide +kernel
theorem dX3_takeShifted_31 : decode cX3_takeShifted 31 = .ok (.istore 6, 2) := by decide +kernel
theorem dX3_takeShifted_33 : decode cX3_takeShifted 33 = .ok (.aload_n 0, 1) := by decide +kernel
theorem dX3_takeShifted_34 : decode cX3_takeShifted 34 = .ok (.getfield 9, 3) := by decide +kernel
theorem dX3_takeShifted_37 : decode cX3_takeShifted 37 = .ok (.iload 5, 2) := by decide +kernel
theorem dX3_takeShifted_39 : decode cX3_takeShifted 39 = .ok (.iload 4, 2) := by decide +kernel
theorem dX3_takeShifted_41 : decode cX3_takeShifted 41 = .ok (.invokestatic 53, 3) := by decide +kernel
theorem dX3_takeShifted_44 : decode cX3_takeShifted 44 = .ok (.iload 6, 2) := by decide +kernel
theorem dX3_takeShifted_46 : decode cX3_takeShifted 46 = .ok (.ifCond .eq 19, 3) := by decide +kernel
theorem dX3_takeShifted_49 : decode cX3_takeShifted 49 = .ok (.aload_n 1, 1) := by decide +kernel
theorem dX3_takeShifted_50 : decode cX3_takeShifted 50 = .ok (.iload 5, 2) := by decide +kernel
theorem dX3_takeShifted_52 : decode cX3_takeShifted 52 = .ok (.iload_n 2, 1) := by decide +kernel
theorem dX3_takeShifted_53 : decode cX3_takeShifted 53 = .ok (.iadd, 1) := by decide +kernel
theorem dX3_takeShifted_54 : decode cX3_takeShifted 54 = .ok (.iload 4, 2) := by decide +kernel
theorem dX3_takeShifted_56 : decode cX3_takeShifted 56 = .ok (.iload_n 3, 1) := by decide +kernel
theorem dX3_takeShifted_57 : decode cX3_takeShifted 57 = .ok (.iadd, 1) := by decide +kernel
theorem dX3_takeShifted_58 : decode cX3_takeShifted 58 = .ok (.invokestatic 53, 3) := by decide +kernel
theorem dX3_takeShifted_61 : decode cX3_takeShifted 61 = .ok (.iaload, 1) := by decide +kernel
theorem dX3_takeShifted_62 : decode cX3_takeShifted 62 = .ok (.goto 4, 3) := by decide +kernel
theorem dX3_takeShifted_65 : decode cX3_takeShifted 65 = .ok (.iconst 0, 1) := by decide +kernel
theorem dX3_takeShifted_66 : decode cX3_takeShifted 66 = .ok (.iastore, 1) := by decide +kernel
theorem dX3_takeShifted_67 : decode cX3_takeShifted 67 = .ok (.iinc 5 1, 3) := by decide +kernel
theorem dX3_takeShifted_70 : decode cX3_takeShifted 70 = .ok (.goto (-57), 3) := by decide +kernel
theorem dX3_takeShifted_73 : decode cX3_takeShifted 73 = .ok (.iinc 4 1, 3) := by decide +kernel
theorem dX3_takeShifted_76 : decode cX3_takeShifted 76 = .ok (.goto (-73), 3) := by decide +kernel
theorem dX3_takeShifted_79 : decode cX3_takeShifted 79 = .ok (.return_, 1) := by decide +kernel
set_option maxRecDepth 20000 in
theorem ggX3_peak_X5_spotOfZone : GoodIn wsX3_peak wsX5_spotOfZone := goodIn_r _ [8, 9, 10, 7, 11] (by decide +kernel) (by decide +kernel)
set_option maxRecDepth 20000 in
theorem gX3_peak_X5_spotOfZone_n60 : GoodIn wsX3_peak (wsX5_spotOfZone) := ggX3_peak_X5_spotOfZone
theorem dX3_peak_0 : decode cX3_peak 0 = .ok (.iconst 0, 1) := by decide +kernel
theorem dX3_peak_1 : decode cX3_peak 1 = .ok (.istore_n 2, 1) := by decide +kernel
theorem dX3_peak_2 : decode cX3_peak 2 = .ok (.iconst 0, 1) := by decide +kernel
theorem dX3_peak_3 : decode cX3_peak 3 = .ok (.istore_n 3, 1) := by decide +kernel
theorem dX3_peak_4 : decode cX3_peak 4 = .ok (.iload_n 3, 1) := by decide +kernel
theorem dX3_peak_5 : decode cX3_peak 5 = .ok (.bipush 16, 2) := by decide +kernel
theorem dX3_peak_7 : decode cX3_peak 7 = .ok (.if_icmp .ge 24, 3) := by decide +kernel
theorem dX3_peak_10 : decode cX3_peak 10 = .ok (.iload_n 2, 1) := by decide +kernel
theorem dX3_peak_11 : decode cX3_peak 11 = .ok (.aload_n 0, 1) := by decide +kernel
theorem dX3_peak_12 : decode cX3_peak 12 = .ok (.getfield 9, 3) := by decide +kernel
theorem dX3_peak_15 : decode cX3_peak 15 = .ok (.iload_n 1, 1) := by decide +kernel
theorem dX3_peak_16 : decode cX3_peak 16 = .ok (.iload_n 3, 1) := by decide +kernel
theorem dX3_peak_17 : decode cX3_peak 17 = .ok (.invokestatic 60, 3) := by decide +kernel
theorem dX3_peak_20 : decode cX3_peak 20 = .ok (.iaload, 1) := by decide +kernel
theorem dX3_peak_21 : decode cX3_peak 21 = .ok (.invokestatic 50, 3) := by decide +kernel
theorem dX3_peak_24 : decode cX3_peak 24 = .ok (.istore_n 2, 1) := by decide +kernel
theorem dX3_peak_25 : decode cX3_peak 25 = .ok (.iinc 3 1, 3) := by decide +kernel
theorem dX3_peak_28 : decode cX3_peak 28 = .ok (.goto (-24), 3) := by decide +kernel
theorem dX3_peak_31 : decode cX3_peak 31 = .ok (.iload_n 2, 1) := by decide +kernel
theorem dX3_peak_32 : decode cX3_peak 32 = .ok (.ireturn, 1) := by decide +kernel
set_option maxRecDepth 20000 in
theorem ggX3_mean_X5_spotOfZone : GoodIn wsX3_mean wsX5_spotOfZone := goodIn_r _ [4, 5, 6, 3, 7] (by decide +kernel) (by decide +kernel)
set_option maxRecDepth 20000 in
theorem gX3_mean_X5_spotOfZone_n60 : GoodIn wsX3_mean (wsX5_spotOfZone) := ggX3_mean_X5_spotOfZone
theorem dX3_mean_0 : decode cX3_mean 0 = .ok (.iconst 0, 1) := by decide +kernel
theorem dX3_mean_1 : decode cX3_mean 1 = .ok (.istore_n 2, 1) := by decide +kernel
theorem dX3_mean_2 : decode cX3_mean 2 = .ok (.iconst 0, 1) := by decide +kernel
theorem dX3_mean_3 : decode cX3_mean 3 = .ok (.istore_n 3, 1) := by decide +kernel
theorem dX3_mean_4 : decode cX3_mean 4 = .ok (.iload_n 3, 1) := by decide +kernel
theorem dX3_mean_5 : decode cX3_mean 5 = .ok (.bipush 16, 2) := by decide +kernel
theorem dX3_mean_7 : decode cX3_mean 7 = .ok (.if_icmp .ge 22, 3) := by decide +kernel
theorem dX3_mean_10 : decode cX3_mean 10 = .ok (.iload_n 2, 1) := by decide +kernel
theorem dX3_mean_11 : decode cX3_mean 11 = .ok (.aload_n 0, 1) := by decide +kernel
theorem dX3_mean_12 : decode cX3_mean 12 = .ok (.getfield 9, 3) := by decide +kernel
theorem dX3_mean_15 : decode cX3_mean 15 = .ok (.iload_n 1, 1) := by decide +kernel
theorem dX3_mean_16 : decode cX3_mean 16 = .ok (.iload_n 3, 1) := by decide +kernel
theorem dX3_mean_17 : decode cX3_mean 17 = .ok (.invokestatic 60, 3) := by decide +kernel
theorem dX3_mean_20 : decode cX3_mean 20 = .ok (.iaload, 1) := by decide +kernel
theorem dX3_mean_21 : decode cX3_mean 21 = .ok (.iadd, 1) := by decide +kernel
theorem dX3_mean_22 : decode cX3_mean 22 = .ok (.istore_n 2, 1) := by decide +kernel
theorem dX3_mean_23 : decode cX3_mean 23 = .ok (.iinc 3 1, 3) := by decide +kernel
theorem dX3_mean_26 : decode cX3_mean 26 = .ok (.goto (-22), 3) := by decide +kernel
theorem dX3_mean_29 : decode cX3_mean 29 = .ok (.iload_n 2, 1) := by decide +kernel
theorem dX3_mean_30 : decode cX3_mean 30 = .ok (.bipush 16, 2) := by decide +kernel
theorem dX3_mean_32 : decode cX3_mean 32 = .ok (.idiv, 1) := by decide +kernel
theorem dX3_mean_33 : decode cX3_mean 33 = .ok (.ireturn, 1) := by decide +kernel
set_option maxRecDepth 20000 in
theorem ggX3_asksBlack_X5_spotOfZone : GoodIn wsX3_asksBlack wsX5_spotOfZone := goodIn_r _ [4, 5, 6, 3, 7] (by decide +kernel) (by decide +kernel)
set_option maxRecDepth 20000 in
theorem gX3_asksBlack_X5_spotOfZone_n60 : GoodIn wsX3_asksBlack (wsX5_spotOfZone) := ggX3_asksBlack_X5_spotOfZone
theorem dX3_asksBlack_0 : decode cX3_asksBlack 0 = .ok (.iconst 0, 1) := by decide +kernel
theorem dX3_asksBlack_1 : decode cX3_asksBlack 1 = .ok (.istore_n 2, 1) := by decide +kernel
theorem dX3_asksBlack_2 : decode cX3_asksBlack 2 = .ok (.iload_n 2, 1) := by decide +kernel
theorem dX3_asksBlack_3 : decode cX3_asksBlack 3 = .ok (.bipush 16, 2) := by decide +kernel
theorem dX3_asksBlack_5 : decode cX3_asksBlack 5 = .ok (.if_icmp .ge 24, 3) := by decide +kernel
theorem dX3_asksBlack_8 : decode cX3_asksBlack 8 = .ok (.aload_n 0, 1) := by decide +kernel
theorem dX3_asksBlack_9 : decode cX3_asksBlack 9 = .ok (.getfield 9, 3) := by decide +kernel
theorem dX3_asksBlack_12 : decode cX3_asksBlack 12 = .ok (.iload_n 1, 1) := by decide +kernel
theorem dX3_asksBlack_13 : decode cX3_asksBlack 13 = .ok (.iload_n 2, 1) := by decide +kernel
theorem dX3_asksBlack_14 : decode cX3_asksBlack 14 = .ok (.invokestatic 60, 3) := by decide +kernel
theorem dX3_asksBlack_17 : decode cX3_asksBlack 17 = .ok (.iaload, 1) := by decide +kernel
theorem dX3_asksBlack_18 : decode cX3_asksBlack 18 = .ok (.ifCond .ne 5, 3) := by decide +kernel
theorem dX3_asksBlack_21 : decode cX3_asksBlack 21 = .ok (.iconst 1, 1) := by decide +kernel
theorem dX3_asksBlack_22 : decode cX3_asksBlack 22 = .ok (.ireturn, 1) := by decide +kernel
theorem dX3_asksBlack_23 : decode cX3_asksBlack 23 = .ok (.iinc 2 1, 3) := by decide +kernel
theorem dX3_asksBlack_26 : decode cX3_asksBlack 26 = .ok (.goto (-24), 3) := by decide +kernel
theorem dX3_asksBlack_29 : decode cX3_asksBlack 29 = .ok (.iconst 0, 1) := by decide +kernel
theorem dX3_asksBlack_30 : decode cX3_asksBlack 30 = .ok (.ireturn, 1) := by decide +kernel
set_option maxRecDepth 20000 in
theorem ggX3_glow_X5_zonesApart : GoodIn wsX3_glow wsX5_zonesApart := goodIn_r _ [4, 5, 6, 7, 8, 9, 10, 11] (by decide +kernel) (by decide +kernel)
set_option maxRecDepth 20000 in
theorem gX3_glow_X5_zonesApart_n63 : GoodIn wsX3_glow (wsX5_zonesApart) := ggX3_glow_X5_zonesApart
theorem dX3_glow_0 : decode cX3_glow 0 = .ok (.iconst 0, 1) := by decide +kernel
theorem dX3_glow_1 : decode cX3_glow 1 = .ok (.istore_n 3, 1) := by decide +kernel
theorem dX3_glow_2 : decode cX3_glow 2 = .ok (.iconst 0, 1) := by decide +kernel
theorem dX3_glow_3 : decode cX3_glow 3 = .ok (.istore 4, 2) := by decide +kernel
theorem dX3_glow_5 : decode cX3_glow 5 = .ok (.iload 4, 2) := by decide +kernel
theorem dX3_glow_7 : decode cX3_glow 7 = .ok (.bipush 18, 2) := by decide +kernel
theorem dX3_glow_9 : decode cX3_glow 9 = .ok (.if_icmp .ge 38, 3) := by decide +kernel
theorem dX3_glow_12 : decode cX3_glow 12 = .ok (.iload_n 1, 1) := by decide +kernel
theorem dX3_glow_13 : decode cX3_glow 13 = .ok (.iload 4, 2) := by decide +kernel
theorem dX3_glow_15 : decode cX3_glow 15 = .ok (.invokestatic 63, 3) := by decide +kernel
theorem dX3_glow_18 : decode cX3_glow 18 = .ok (.istore 5, 2) := by decide +kernel
theorem dX3_glow_20 : decode cX3_glow 20 = .ok (.iload 5, 2) := by decide +kernel
theorem dX3_glow_22 : decode cX3_glow 22 = .ok (.iconst 3, 1) := by decide +kernel
theorem dX3_glow_23 : decode cX3_glow 23 = .ok (.if_icmp .ge 18, 3) := by decide +kernel
theorem dX3_glow_26 : decode cX3_glow 26 = .ok (.iload_n 3, 1) := by decide +kernel
theorem dX3_glow_27 : decode cX3_glow 27 = .ok (.aload_n 2, 1) := by decide +kernel
theorem dX3_glow_28 : decode cX3_glow 28 = .ok (.iload 4, 2) := by decide +kernel
theorem dX3_glow_30 : decode cX3_glow 30 = .ok (.iaload, 1) := by decide +kernel
theorem dX3_glow_31 : decode cX3_glow 31 = .ok (.aload_n 0, 1) := by decide +kernel
theorem dX3_glow_32 : decode cX3_glow 32 = .ok (.getfield 22, 3) := by decide +kernel
theorem dX3_glow_35 : decode cX3_glow 35 = .ok (.iload 5, 2) := by decide +kernel
theorem dX3_glow_37 : decode cX3_glow 37 = .ok (.iaload, 1) := by decide +kernel
theorem dX3_glow_38 : decode cX3_glow 38 = .ok (.imul, 1) := by decide +kernel
theorem dX3_glow_39 : decode cX3_glow 39 = .ok (.iadd, 1) := by decide +kernel
theorem dX3_glow_40 : decode cX3_glow 40 = .ok (.istore_n 3, 1) := by decide +kernel
theorem dX3_glow_41 : decode cX3_glow 41 = .ok (.iinc 4 1, 3) := by decide +kernel
theorem dX3_glow_44 : decode cX3_glow 44 = .ok (.goto (-39), 3) := by decide +kernel
theorem dX3_glow_47 : decode cX3_glow 47 = .ok (.iload_n 3, 1) := by decide +kernel
theorem dX3_glow_48 : decode cX3_glow 48 = .ok (.ireturn, 1) := by decide +kernel
set_option maxRecDepth 20000 in
theorem ggX3_light_X3_glow : GoodIn wsX3_light wsX3_glow := goodIn_r _ [6, 7, 8, 9, 10, 11, 12, 13, 14, 15, 16, 17, 23, 24, 25, 26, 27, 28, 29] (by decide +kernel) (by decide +kernel)
set_option maxRecDepth 20000 in
theorem gX3_light_X3_glow : GoodIn wsX3_light (wsV RX3 66 RX3 yX3_glow wsX3_glow) := goodIn_app (goodIn_of _ (by decide +kernel)) ggX3_light_X3_glow
set_option maxRecDepth 20000 in
theorem ggX3_light_X5_lightOf : GoodIn wsX3_light wsX5_lightOf := goodIn_r _ [19, 20, 21, 13, 22] (by decide +kernel) (by decide +kernel)
set_option maxRecDepth 20000 in
theorem gX3_light_X5_lightOf_n70 : GoodIn wsX3_light (wsX5_lightOf) := ggX3_light_X5_lightOf
theorem dX3_light_0 : decode cX3_light 0 = .ok (.aload_n 0, 1) := by decide +kernel
theorem dX3_light_1 : decode cX3_light 1 = .ok (.iload_n 1, 1) := by decide +kernel
theorem dX3_light_2 : decode cX3_light 2 = .ok (.aload_n 0, 1) := by decide +kernel
theorem dX3_light_3 : decode cX3_light 3 = .ok (.getfield 15, 3) := by decide +kernel
theorem dX3_light_6 : decode cX3_light 6 = .ok (.invokevirtual 66, 3) := by decide +kernel
theorem dX3_light_9 : decode cX3_light 9 = .ok (.invokestatic 70, 3) := by decide +kernel
theorem dX3_light_12 : decode cX3_light 12 = .ok (.ireturn, 1) := by decide +kernel
theorem dX3_leakOf_0 : decode cX3_leakOf 0 = .ok (.iload_n 1, 1) := by decide +kernel
theorem dX3_leakOf_1 : decode cX3_leakOf 1 = .ok (.aload_n 0, 1) := by decide +kernel
theorem dX3_leakOf_2 : decode cX3_leakOf 2 = .ok (.getfield 22, 3) := by decide +kernel
theorem dX3_leakOf_5 : decode cX3_leakOf 5 = .ok (.iconst 5, 1) := by decide +kernel
theorem dX3_leakOf_6 : decode cX3_leakOf 6 = .ok (.iaload, 1) := by decide +kernel
theorem dX3_leakOf_7 : decode cX3_leakOf 7 = .ok (.imul, 1) := by decide +kernel
theorem dX3_leakOf_8 : decode cX3_leakOf 8 = .ok (.sipush 1000, 3) := by decide +kernel
theorem dX3_leakOf_11 : decode cX3_leakOf 11 = .ok (.idiv, 1) := by decide +kernel
theorem dX3_leakOf_12 : decode cX3_leakOf 12 = .ok (.ireturn, 1) := by decide +kernel
set_option maxRecDepth 20000 in
theorem ggX3_shown_X5_glassFor : GoodIn wsX3_shown wsX5_glassFor := goodIn_r _ [7, 8, 9, 3, 10, 11, 12, 6, 13] (by decide +kernel) (by decide +kernel)
set_option maxRecDepth 20000 in
theorem gX3_shown_X5_glassFor_n74 : GoodIn wsX3_shown (wsX5_glassFor) := ggX3_shown_X5_glassFor
set_option maxRecDepth 20000 in
theorem ggX3_shown_X3_leakOf : GoodIn wsX3_shown wsX3_leakOf := goodIn_r _ [18, 19, 20, 21, 22, 23, 24, 25, 26] (by decide +kernel) (by decide +kernel)
set_option maxRecDepth 20000 in
theorem gX3_shown_X3_leakOf : GoodIn wsX3_shown (wsV RX3 77 RX3 yX3_leakOf wsX3_leakOf) := goodIn_app (goodIn_of _ (by decide +kernel)) ggX3_shown_X3_leakOf
theorem dX3_shown_0 : decode cX3_shown 0 = .ok (.iload_n 2, 1) := by decide +kernel
theorem dX3_shown_1 : decode cX3_shown 1 = .ok (.iload_n 1, 1) := by decide +kernel
theorem dX3_shown_2 : decode cX3_shown 2 = .ok (.iload_n 2, 1) := by decide +kernel
theorem dX3_shown_3 : decode cX3_shown 3 = .ok (.invokestatic 74, 3) := by decide +kernel
theorem dX3_shown_6 : decode cX3_shown 6 = .ok (.imul, 1) := by decide +kernel
theorem dX3_shown_7 : decode cX3_shown 7 = .ok (.sipush 255, 3) := by decide +kernel
theorem dX3_shown_10 : decode cX3_shown 10 = .ok (.idiv, 1) := by decide +kernel
theorem dX3_shown_11 : decode cX3_shown 11 = .ok (.aload_n 0, 1) := by decide +kernel
theorem dX3_shown_12 : decode cX3_shown 12 = .ok (.iload_n 2, 1) := by decide +kernel
theorem dX3_shown_13 : decode cX3_shown 13 = .ok (.invokevirtual 77, 3) := by decide +kernel
theorem dX3_shown_16 : decode cX3_shown 16 = .ok (.invokestatic 50, 3) := by decide +kernel
theorem dX3_shown_19 : decode cX3_shown 19 = .ok (.ireturn, 1) := by decide +kernel
theorem dX3_power_0 : decode cX3_power 0 = .ok (.iconst 0, 1) := by decide +kernel
theorem dX3_power_1 : decode cX3_power 1 = .ok (.istore_n 1, 1) := by decide +kernel
theorem dX3_power_2 : decode cX3_power 2 = .ok (.iconst 0, 1) := by decide +kernel
theorem dX3_power_3 : decode cX3_power 3 = .ok (.istore_n 2, 1) := by decide +kernel
theorem dX3_power_4 : decode cX3_power 4 = .ok (.iload_n 2, 1) := by decide +kernel
theorem dX3_power_5 : decode cX3_power 5 = .ok (.bipush 18, 2) := by decide +kernel
theorem dX3_power_7 : decode cX3_power 7 = .ok (.if_icmp .ge 18, 3) := by decide +kernel
theorem dX3_power_10 : decode cX3_power 10 = .ok (.iload_n 1, 1) := by decide +kernel
theorem dX3_power_11 : decode cX3_power 11 = .ok (.aload_n 0, 1) := by decide +kernel
theorem dX3_power_12 : decode cX3_power 12 = .ok (.getfield 15, 3) := by decide +kernel
theorem dX3_power_15 : decode cX3_power 15 = .ok (.iload_n 2, 1) := by decide +kernel
theorem dX3_power_16 : decode cX3_power 16 = .ok (.iaload, 1) := by decide +kernel
theorem dX3_power_17 : decode cX3_power 17 = .ok (.iadd, 1) := by decide +kernel
theorem dX3_power_18 : decode cX3_power 18 = .ok (.istore_n 1, 1) := by decide +kernel
theorem dX3_power_19 : decode cX3_power 19 = .ok (.iinc 2 1, 3) := by decide +kernel
theorem dX3_power_22 : decode cX3_power 22 = .ok (.goto (-18), 3) := by decide +kernel
theorem dX3_power_25 : decode cX3_power 25 = .ok (.iload_n 1, 1) := by decide +kernel
theorem dX3_power_26 : decode cX3_power 26 = .ok (.ireturn, 1) := by decide +kernel
theorem dX3_deadZones_0 : decode cX3_deadZones 0 = .ok (.iconst 0, 1) := by decide +kernel
theorem dX3_deadZones_1 : decode cX3_deadZones 1 = .ok (.istore_n 1, 1) := by decide +kernel
theorem dX3_deadZones_2 : decode cX3_deadZones 2 = .ok (.iconst 0, 1) := by decide +kernel
theorem dX3_deadZones_3 : decode cX3_deadZones 3 = .ok (.istore_n 2, 1) := by decide +kernel
theorem dX3_deadZones_4 : decode cX3_deadZones 4 = .ok (.iload_n 2, 1) := by decide +kernel
theorem dX3_deadZones_5 : decode cX3_deadZones 5 = .ok (.bipush 18, 2) := by decide +kernel
theorem dX3_deadZones_7 : decode cX3_deadZones 7 = .ok (.if_icmp .ge 21, 3) := by decide +kernel
theorem dX3_deadZones_10 : decode cX3_deadZones 10 = .ok (.aload_n 0, 1) := by decide +kernel
theorem dX3_deadZones_11 : decode cX3_deadZones 11 = .ok (.getfield 18, 3) := by decide +kernel
theorem dX3_deadZones_14 : decode cX3_deadZones 14 = .ok (.iload_n 2, 1) := by decide +kernel
theorem dX3_deadZones_15 : decode cX3_deadZones 15 = .ok (.baload, 1) := by decide +kernel
theorem dX3_deadZones_16 : decode cX3_deadZones 16 = .ok (.ifCond .eq 6, 3) := by decide +kernel
theorem dX3_deadZones_19 : decode cX3_deadZones 19 = .ok (.iinc 1 1, 3) := by decide +kernel
theorem dX3_deadZones_22 : decode cX3_deadZones 22 = .ok (.iinc 2 1, 3) := by decide +kernel
theorem dX3_deadZones_25 : decode cX3_deadZones 25 = .ok (.goto (-21), 3) := by decide +kernel
theorem dX3_deadZones_28 : decode cX3_deadZones 28 = .ok (.iload_n 1, 1) := by decide +kernel
theorem dX3_deadZones_29 : decode cX3_deadZones 29 = .ok (.ireturn, 1) := by decide +kernel
set_option maxRecDepth 20000 in
theorem ggX3_passFrame_X3_power : GoodIn wsX3_passFrame wsX3_power := goodIn_r _ [21, 2, 22, 23, 24, 25, 26, 27, 28] (by decide +kernel) (by decide +kernel)
set_option maxRecDepth 20000 in
theorem gX3_passFrame_X3_power : GoodIn wsX3_passFrame (wsV RX3 83 RX3 yX3_power wsX3_power) := goodIn_app (goodIn_of _ (by decide +kernel)) ggX3_passFrame_X3_power
theorem dX3_passFrame_0 : decode cX3_passFrame 0 = .ok (.iconst 0, 1) := by decide +kernel
theorem dX3_passFrame_1 : decode cX3_passFrame 1 = .ok (.istore_n 2, 1) := by decide +kernel
theorem dX3_passFrame_2 : decode cX3_passFrame 2 = .ok (.iload_n 2, 1) := by decide +kernel
theorem dX3_passFrame_3 : decode cX3_passFrame 3 = .ok (.bipush 18, 2) := by decide +kernel
theorem dX3_passFrame_5 : decode cX3_passFrame 5 = .ok (.if_icmp .ge 78, 3) := by decide +kernel
theorem dX3_passFrame_8 : decode cX3_passFrame 8 = .ok (.aload_n 0, 1) := by decide +kernel
theorem dX3_passFrame_9 : decode cX3_passFrame 9 = .ok (.getfield 18, 3) := by decide +kernel
theorem dX3_passFrame_12 : decode cX3_passFrame 12 = .ok (.iload_n 2, 1) := by decide +kernel
theorem dX3_passFrame_13 : decode cX3_passFrame 13 = .ok (.baload, 1) := by decide +kernel
theorem dX3_passFrame_14 : decode cX3_passFrame 14 = .ok (.ifCond .ne 63, 3) := by decide +kernel
theorem dX3_passFrame_17 : decode cX3_passFrame 17 = .ok (.aload_n 1, 1) := by decide +kernel
theorem dX3_passFrame_18 : decode cX3_passFrame 18 = .ok (.iload_n 2, 1) := by decide +kernel
theorem dX3_passFrame_19 : decode cX3_passFrame 19 = .ok (.iaload, 1) := by decide +kernel
theorem dX3_passFrame_20 : decode cX3_passFrame 20 = .ok (.aload_n 0, 1) := by decide +kernel
theorem dX3_passFrame_21 : decode cX3_passFrame 21 = .ok (.getfield 15, 3) := by decide +kernel
theorem dX3_passFrame_24 : decode cX3_passFrame 24 = .ok (.iload_n 2, 1) := by decide +kernel
theorem dX3_passFrame_25 : decode cX3_passFrame 25 = .ok (.iaload, 1) := by decide +kernel
theorem dX3_passFrame_26 : decode cX3_passFrame 26 = .ok (.isub, 1) := by decide +kernel
theorem dX3_passFrame_27 : decode cX3_passFrame 27 = .ok (.istore_n 3, 1) := by decide +kernel
theorem dX3_passFrame_28 : decode cX3_passFrame 28 = .ok (.aload_n 0, 1) := by decide +kernel
theorem dX3_passFrame_29 : decode cX3_passFrame 29 = .ok (.getfield 22, 3) := by decide +kernel
theorem dX3_passFrame_32 : decode cX3_passFrame 32 = .ok (.bipush 7, 2) := by decide +kernel
theorem dX3_passFrame_34 : decode cX3_passFrame 34 = .ok (.iaload, 1) := by decide +kernel
theorem dX3_passFrame_35 : decode cX3_passFrame 35 = .ok (.ineg, 1) := by decide +kernel
theorem dX3_passFrame_36 : decode cX3_passFrame 36 = .ok (.aload_n 0, 1) := by decide +kernel
theorem dX3_passFrame_37 : decode cX3_passFrame 37 = .ok (.getfield 22, 3) := by decide +kernel
theorem dX3_passFrame_40 : decode cX3_passFrame 40 = .ok (.bipush 7, 2) := by decide +kernel
theorem dX3_passFrame_42 : decode cX3_passFrame 42 = .ok (.iaload, 1) := by decide +kernel
theorem dX3_passFrame_43 : decode cX3_passFrame 43 = .ok (.iload_n 3, 1) := by decide +kernel
theorem dX3_passFrame_44 : decode cX3_passFrame 44 = .ok (.invokestatic 44, 3) := by decide +kernel
theorem dX3_passFrame_47 : decode cX3_passFrame 47 = .ok (.invokestatic 50, 3) := by decide +kernel
theorem dX3_passFrame_50 : decode cX3_passFrame 50 = .ok (.istore 4, 2) := by decide +kernel
theorem dX3_passFrame_52 : decode cX3_passFrame 52 = .ok (.aload_n 0, 1) := by decide +kernel
theorem dX3_passFrame_53 : decode cX3_passFrame 53 = .ok (.getfield 15, 3) := by decide +kernel
theorem dX3_passFrame_56 : decode cX3_passFrame 56 = .ok (.iload_n 2, 1) := by decide +kernel
theorem dX3_passFrame_57 : decode cX3_passFrame 57 = .ok (.dup2, 1) := by decide +kernel
theorem dX3_passFrame_58 : decode cX3_passFrame 58 = .ok (.iaload, 1) := by decide +kernel
theorem dX3_passFrame_59 : decode cX3_passFrame 59 = .ok (.iload 4, 2) := by decide +kernel
theorem dX3_passFrame_61 : decode cX3_passFrame 61 = .ok (.iadd, 1) := by decide +kernel
theorem dX3_passFrame_62 : decode cX3_passFrame 62 = .ok (.iastore, 1) := by decide +kernel
theorem dX3_passFrame_63 : decode cX3_passFrame 63 = .ok (.aload_n 0, 1) := by decide +kernel
theorem dX3_passFrame_64 : decode cX3_passFrame 64 = .ok (.dup, 1) := by decide +kernel
theorem dX3_passFrame_65 : decode cX3_passFrame 65 = .ok (.getfield 29, 3) := by decide +kernel
theorem dX3_passFrame_68 : decode cX3_passFrame 68 = .ok (.iload 4, 2) := by decide +kernel
theorem dX3_passFrame_70 : decode cX3_passFrame 70 = .ok (.invokestatic 80, 3) := by decide +kernel
theorem dX3_passFrame_73 : decode cX3_passFrame 73 = .ok (.iadd, 1) := by decide +kernel
theorem dX3_passFrame_74 : decode cX3_passFrame 74 = .ok (.putfield 29, 3) := by decide +kernel
theorem dX3_passFrame_77 : decode cX3_passFrame 77 = .ok (.iinc 2 1, 3) := by decide +kernel
theorem dX3_passFrame_80 : decode cX3_passFrame 80 = .ok (.goto (-78), 3) := by decide +kernel
theorem dX3_passFrame_83 : decode cX3_passFrame 83 = .ok (.aload_n 0, 1) := by decide +kernel
theorem dX3_passFrame_84 : decode cX3_passFrame 84 = .ok (.dup, 1) := by decide +kernel
theorem dX3_passFrame_85 : decode cX3_passFrame 85 = .ok (.getfield 25, 3) := by decide +kernel
theorem dX3_passFrame_88 : decode cX3_passFrame 88 = .ok (.iconst 1, 1) := by decide +kernel
theorem dX3_passFrame_89 : decode cX3_passFrame 89 = .ok (.iadd, 1) := by decide +kernel
theorem dX3_passFrame_90 : decode cX3_passFrame 90 = .ok (.putfield 25, 3) := by decide +kernel
theorem dX3_passFrame_93 : decode cX3_passFrame 93 = .ok (.aload_n 0, 1) := by decide +kernel
theorem dX3_passFrame_94 : decode cX3_passFrame 94 = .ok (.dup, 1) := by decide +kernel
theorem dX3_passFrame_95 : decode cX3_passFrame 95 = .ok (.getfield 32, 3) := by decide +kernel
theorem dX3_passFrame_98 : decode cX3_passFrame 98 = .ok (.aload_n 0, 1) := by decide +kernel
theorem dX3_passFrame_99 : decode cX3_passFrame 99 = .ok (.invokevirtual 83, 3) := by decide +kernel
theorem dX3_passFrame_102 : decode cX3_passFrame 102 = .ok (.iadd, 1) := by decide +kernel
theorem dX3_passFrame_103 : decode cX3_passFrame 103 = .ok (.putfield 32, 3) := by decide +kernel
theorem dX3_passFrame_106 : decode cX3_passFrame 106 = .ok (.return_, 1) := by decide +kernel
theorem dX4_init_0 : decode cX4_init 0 = .ok (.aload_n 0, 1) := by decide +kernel
theorem dX4_init_1 : decode cX4_init 1 = .ok (.invokespecial 3, 3) := by decide +kernel
theorem dX4_init_4 : decode cX4_init 4 = .ok (.aload_n 0, 1) := by decide +kernel
theorem dX4_init_5 : decode cX4_init 5 = .ok (.iconst 0, 1) := by decide +kernel
theorem dX4_init_6 : decode cX4_init 6 = .ok (.putfield 9, 3) := by decide +kernel
theorem dX4_init_9 : decode cX4_init 9 = .ok (.aload_n 0, 1) := by decide +kernel
theorem dX4_init_10 : decode cX4_init 10 = .ok (.iconst 0, 1) := by decide +kernel
theorem dX4_init_11 : decode cX4_init 11 = .ok (.putfield 15, 3) := by decide +kernel
theorem dX4_init_14 : decode cX4_init 14 = .ok (.aload_n 0, 1) := by decide +kernel
theorem dX4_init_15 : decode cX4_init 15 = .ok (.iconst 0, 1) := by decide +kernel
theorem dX4_init_16 : decode cX4_init 16 = .ok (.putfield 18, 3) := by decide +kernel
theorem dX4_init_19 : decode cX4_init 19 = .ok (.aload_n 0, 1) := by decide +kernel
theorem dX4_init_20 : decode cX4_init 20 = .ok (.iconst 0, 1) := by decide +kernel
theorem dX4_init_21 : decode cX4_init 21 = .ok (.putfield 21, 3) := by decide +kernel
theorem dX4_init_24 : decode cX4_init 24 = .ok (.aload_n 0, 1) := by decide +kernel
theorem dX4_init_25 : decode cX4_init 25 = .ok (.iconst 0, 1) := by decide +kernel
theorem dX4_init_26 : decode cX4_init 26 = .ok (.putfield 24, 3) := by decide +kernel
theorem dX4_init_29 : decode cX4_init 29 = .ok (.return_, 1) := by decide +kernel
set_option maxRecDepth 20000 in
theorem ggX4_takeAll_X4_clear : GoodIn wsX4_takeAll wsX4_clear := goodIn_r _ [5, 6, 7, 8, 9, 10, 69, 70, 71, 72, 73] (by decide +kernel) (by decide +kernel)
set_option maxRecDepth 20000 in
theorem gX4_takeAll_X4_clear : GoodIn wsX4_takeAll (wsV RX4 27 RX4 yX4_clear wsX4_clear) := goodIn_app (goodIn_of _ (by decide +kernel)) ggX4_takeAll_X4_clear
set_option maxRecDepth 20000 in
theorem ggX4_takeAll_X4_addZone : GoodIn wsX4_takeAll wsX4_addZone := goodIn_r _ [14, 15, 16, 17, 18, 19, 20, 21, 22, 23, 24, 25, 26, 27, 28, 29, 30, 31, 32, 33, 34, 35, 36, 37, 38, 39, 40, 41, 42, 43, 44, 45, 46, 47, 48, 49, 50, 51, 52, 53, 54, 55, 56, 57, 58, 59, 60, 61, 62, 63, 4, 64, 6, 7, 65, 8, 9, 66, 10, 67, 68, 74, 75, 76, 77, 78, 79, 80, 69, 70, 71, 72, 73] (by decide +kernel) (by decide +kernel)
set_option maxRecDepth 20000 in
theorem gX4_takeAll_X4_addZone : GoodIn wsX4_takeAll (wsV RX4 30 RX4 yX4_addZone wsX4_addZone) := goodIn_app (goodIn_of _ (by decide +kernel)) ggX4_takeAll_X4_addZone
theorem dX4_takeAll_0 : decode cX4_takeAll 0 = .ok (.aload_n 0, 1) := by decide +kernel
theorem dX4_takeAll_1 : decode cX4_takeAll 1 = .ok (.invokevirtual 27, 3) := by decide +kernel
theorem dX4_takeAll_4 : decode cX4_takeAll 4 = .ok (.iconst 0, 1) := by decide +kernel
theorem dX4_takeAll_5 : decode cX4_takeAll 5 = .ok (.istore_n 2, 1) := by decide +kernel
theorem dX4_takeAll_6 : decode cX4_takeAll 6 = .ok (.iload_n 2, 1) := by decide +kernel
theorem dX4_takeAll_7 : decode cX4_takeAll 7 = .ok (.bipush 18, 2) := by decide +kernel
theorem dX4_takeAll_9 : decode cX4_takeAll 9 = .ok (.if_icmp .ge 15, 3) := by decide +kernel
theorem dX4_takeAll_12 : decode cX4_takeAll 12 = .ok (.aload_n 0, 1) := by decide +kernel
theorem dX4_takeAll_13 : decode cX4_takeAll 13 = .ok (.aload_n 1, 1) := by decide +kernel
theorem dX4_takeAll_14 : decode cX4_takeAll 14 = .ok (.iload_n 2, 1) := by decide +kernel
theorem dX4_takeAll_15 : decode cX4_takeAll 15 = .ok (.invokevirtual 30, 3) := by decide +kernel
theorem dX4_takeAll_18 : decode cX4_takeAll 18 = .ok (.iinc 2 1, 3) := by decide +kernel
theorem dX4_takeAll_21 : decode cX4_takeAll 21 = .ok (.goto (-15), 3) := by decide +kernel
theorem dX4_takeAll_24 : decode cX4_takeAll 24 = .ok (.return_, 1) := by decide +kernel
set_option maxRecDepth 20000 in
theorem ggX4_takeZone_X4_clear : GoodIn wsX4_takeZone wsX4_clear := goodIn_r _ [5, 6, 7, 8, 9, 10, 69, 70, 71, 72, 73] (by decide +kernel) (by decide +kernel)
set_option maxRecDepth 20000 in
theorem gX4_takeZone_X4_clear : GoodIn wsX4_takeZone (wsV RX4 27 RX4 yX4_clear wsX4_clear) := goodIn_app (goodIn_of _ (by decide +kernel)) ggX4_takeZone_X4_clear
set_option maxRecDepth 20000 in
theorem ggX4_takeZone_X4_addZone : GoodIn wsX4_takeZone wsX4_addZone := goodIn_r _ [14, 15, 16, 17, 18, 19, 20, 21, 22, 23, 24, 25, 26, 27, 28, 29, 30, 31, 32, 33, 34, 35, 36, 37, 38, 39, 40, 41, 42, 43, 44, 45, 46, 47, 48, 49, 50, 51, 52, 53, 54, 55, 56, 57, 58, 59, 60, 61, 62, 63, 4, 64, 6, 7, 65, 8, 9, 66, 10, 67, 68, 74, 75, 76, 77, 78, 79, 80, 69, 70, 71, 72, 73] (by decide +kernel) (by decide +kernel)
set_option maxRecDepth 20000 in
theorem gX4_takeZone_X4_addZone : GoodIn wsX4_takeZone (wsV RX4 30 RX4 yX4_addZone wsX4_addZone) := goodIn_app (goodIn_of _ (by decide +kernel)) ggX4_takeZone_X4_addZone
theorem dX4_takeZone_0 : decode cX4_takeZone 0 = .ok (.aload_n 0, 1) := by decide +kernel
theorem dX4_takeZone_1 : decode cX4_takeZone 1 = .ok (.invokevirtual 27, 3) := by decide +kernel
theorem dX4_takeZone_4 : decode cX4_takeZone 4 = .ok (.aload_n 0, 1) := by decide +kernel
theorem dX4_takeZone_5 : decode cX4_takeZone 5 = .ok (.aload_n 1, 1) := by decide +kernel
theorem dX4_takeZone_6 : decode cX4_takeZone 6 = .ok (.iload_n 2, 1) := by decide +kernel
theorem dX4_takeZone_7 : decode cX4_takeZone 7 = .ok (.invokevirtual 30, 3) := by decide +kernel
theorem dX4_takeZone_10 : decode cX4_takeZone 10 = .ok (.return_, 1) := by decide +kernel
theorem dX4_clear_0 : decode cX4_clear 0 = .ok (.aload_n 0, 1) := by decide +kernel
theorem dX4_clear_1 : decode cX4_clear 1 = .ok (.iconst 0, 1) := by decide +kernel
theorem dX4_clear_2 : decode cX4_clear 2 = .ok (.putfield 9, 3) := by decide +kernel
theorem dX4_clear_5 : decode cX4_clear 5 = .ok (.aload_n 0, 1) := by decide +kernel
theorem dX4_clear_6 : decode cX4_clear 6 = .ok (.iconst 0, 1) := by decide +kernel
theorem dX4_clear_7 : decode cX4_clear 7 = .ok (.putfield 15, 3) := by decide +kernel
theorem dX4_clear_10 : decode cX4_clear 10 = .ok (.aload_n 0, 1) := by decide +kernel
theorem dX4_clear_11 : decode cX4_clear 11 = .ok (.iconst 0, 1) := by decide +kernel
theorem dX4_clear_12 : decode cX4_clear 12 = .ok (.putfield 18, 3) := by decide +kernel
theorem dX4_clear_15 : decode cX4_clear 15 = .ok (.aload_n 0, 1) := by decide +kernel
theorem dX4_clear_16 : decode cX4_clear 16 = .ok (.iconst 0, 1) := by decide +kernel
theorem dX4_clear_17 : decode cX4_clear 17 = .ok (.putfield 21, 3) := by decide +kernel
theorem dX4_clear_20 : decode cX4_clear 20 = .ok (.aload_n 0, 1) := by decide +kernel
theorem dX4_clear_21 : decode cX4_clear 21 = .ok (.iconst 0, 1) := by decide +kernel
theorem dX4_clear_22 : decode cX4_clear 22 = .ok (.putfield 24, 3) := by decide +kernel
theorem dX4_clear_25 : decode cX4_clear 25 = .ok (.return_, 1) := by decide +kernel
set_option maxRecDepth 20000 in
theorem ggX4_addZone_X3_light : GoodIn wsX4_addZone wsX3_light := goodIn_r _ [6, 7, 8, 9, 10, 5, 11, 12, 13, 14, 15, 16, 17, 18, 19, 20, 21, 22, 23, 24, 25, 26, 27, 61, 62, 63, 64, 65, 66, 67] (by decide +kernel) (by decide +kernel)
set_option maxRecDepth 20000 in
theorem gX4_addZone_X3_light : GoodIn wsX4_addZone (wsV RX4 34 RX3 yX3_light wsX3_light) := goodIn_app (goodIn_of _ (by decide +kernel)) ggX4_addZone_X3_light
set_option maxRecDepth 20000 in
theorem ggX4_addZone_X5_spotOfZone : GoodIn wsX4_addZone wsX5_spotOfZone := goodIn_r _ [29, 30, 31, 14, 32] (by decide +kernel) (by decide +kernel)
set_option maxRecDepth 20000 in
theorem gX4_addZone_X5_spotOfZone_n44 : GoodIn wsX4_addZone (wsX5_spotOfZone) := ggX4_addZone_X5_spotOfZone
set_option maxRecDepth 20000 in
theorem ggX4_addZone_X3_shown : GoodIn wsX4_addZone wsX3_shown := goodIn_r _ [36, 37, 21, 18, 22, 38, 14, 39, 25, 26, 27, 40, 41, 42, 43, 44, 45, 5, 46, 12, 61, 62, 63, 64, 65, 66, 67] (by decide +kernel) (by decide +kernel)
set_option maxRecDepth 20000 in
theorem gX4_addZone_X3_shown : GoodIn wsX4_addZone (wsV RX4 48 RX3 yX3_shown wsX3_shown) := goodIn_app (goodIn_of _ (by decide +kernel)) ggX4_addZone_X3_shown
set_option maxRecDepth 20000 in
theorem ggX4_addZone_X4_addSpot : GoodIn wsX4_addZone wsX4_addSpot := goodIn_r _ [51, 52, 53, 54, 17, 18, 19, 55, 56, 57, 21, 22, 58, 59, 14, 60, 68, 69, 70, 71, 72] (by decide +kernel) (by decide +kernel)
set_option maxRecDepth 20000 in
theorem gX4_addZone_X4_addSpot : GoodIn wsX4_addZone (wsV RX4 50 RX4 yX4_addSpot wsX4_addSpot) := goodIn_app (goodIn_of _ (by decide +kernel)) ggX4_addZone_X4_addSpot
theorem dX4_addZone_0 : decode cX4_addZone 0 = .ok (.aload_n 1, 1) := by decide +kernel
theorem dX4_addZone_1 : decode cX4_addZone 1 = .ok (.iload_n 2, 1) := by decide +kernel
theorem dX4_addZone_2 : decode cX4_addZone 2 = .ok (.invokevirtual 34, 3) := by decide +kernel
theorem dX4_addZone_5 : decode cX4_addZone 5 = .ok (.istore_n 3, 1) := by decide +kernel
theorem dX4_addZone_6 : decode cX4_addZone 6 = .ok (.iconst 0, 1) := by decide +kernel
theorem dX4_addZone_7 : decode cX4_addZone 7 = .ok (.istore 4, 2) := by decide +kernel
theorem dX4_addZone_9 : decode cX4_addZone 9 = .ok (.iload 4, 2) := by decide +kernel
theorem dX4_addZone_11 : decode cX4_addZone 11 = .ok (.bipush 16, 2) := by decide +kernel
theorem dX4_addZone_13 : decode cX4_addZone 13 = .ok (.if_icmp .ge 35, 3) := by decide +kernel
theorem dX4_addZone_16 : decode cX4_addZone 16 = .ok (.aload_n 1, 1) := by decide +kernel
theorem dX4_addZone_17 : decode cX4_addZone 17 = .ok (.getfield 40, 3) := by decide +kernel
theorem dX4_addZone_20 : decode cX4_addZone 20 = .ok (.iload_n 2, 1) := by decide +kernel
theorem dX4_addZone_21 : decode cX4_addZone 21 = .ok (.iload 4, 2) := by decide +kernel
theorem dX4_addZone_23 : decode cX4_addZone 23 = .ok (.invokestatic 44, 3) := by decide +kernel
theorem dX4_addZone_26 : decode cX4_addZone 26 = .ok (.iaload, 1) := by decide +kernel
theorem dX4_addZone_27 : decode cX4_addZone 27 = .ok (.istore 5, 2) := by decide +kernel
theorem dX4_addZone_29 : decode cX4_addZone 29 = .ok (.aload_n 0, 1) := by decide +kernel
theorem dX4_addZone_30 : decode cX4_addZone 30 = .ok (.iload 5, 2) := by decide +kernel
theorem dX4_addZone_32 : decode cX4_addZone 32 = .ok (.aload_n 1, 1) := by decide +kernel
theorem dX4_addZone_33 : decode cX4_addZone 33 = .ok (.iload 5, 2) := by decide +kernel
theorem dX4_addZone_35 : decode cX4_addZone 35 = .ok (.iload_n 3, 1) := by decide +kernel
theorem dX4_addZone_36 : decode cX4_addZone 36 = .ok (.invokevirtual 48, 3) := by decide +kernel
theorem dX4_addZone_39 : decode cX4_addZone 39 = .ok (.invokevirtual 50, 3) := by decide +kernel
theorem dX4_addZone_42 : decode cX4_addZone 42 = .ok (.iinc 4 1, 3) := by decide +kernel
theorem dX4_addZone_45 : decode cX4_addZone 45 = .ok (.goto (-36), 3) := by decide +kernel
theorem dX4_addZone_48 : decode cX4_addZone 48 = .ok (.return_, 1) := by decide +kernel
set_option maxRecDepth 20000 in
theorem ggX4_addSpot_X5_verdict : GoodIn wsX4_addSpot wsX5_verdict := goodIn_r _ [15] (by decide +kernel) (by decide +kernel)
set_option maxRecDepth 20000 in
theorem gX4_addSpot_X5_verdict_n54 : GoodIn wsX4_addSpot (wsX5_verdict) := ggX4_addSpot_X5_verdict
theorem dX4_addSpot_0 : decode cX4_addSpot 0 = .ok (.iload_n 1, 1) := by decide +kernel
theorem dX4_addSpot_1 : decode cX4_addSpot 1 = .ok (.iload_n 2, 1) := by decide +kernel
theorem dX4_addSpot_2 : decode cX4_addSpot 2 = .ok (.invokestatic 54, 3) := by decide +kernel
theorem dX4_addSpot_5 : decode cX4_addSpot 5 = .ok (.istore_n 3, 1) := by decide +kernel
theorem dX4_addSpot_6 : decode cX4_addSpot 6 = .ok (.iload_n 3, 1) := by decide +kernel
theorem dX4_addSpot_7 : decode cX4_addSpot 7 = .ok (.iconst 1, 1) := by decide +kernel
theorem dX4_addSpot_8 : decode cX4_addSpot 8 = .ok (.if_icmp .ne 16, 3) := by decide +kernel
theorem dX4_addSpot_11 : decode cX4_addSpot 11 = .ok (.aload_n 0, 1) := by decide +kernel
theorem dX4_addSpot_12 : decode cX4_addSpot 12 = .ok (.dup, 1) := by decide +kernel
theorem dX4_addSpot_13 : decode cX4_addSpot 13 = .ok (.getfield 9, 3) := by decide +kernel
theorem dX4_addSpot_16 : decode cX4_addSpot 16 = .ok (.iconst 1, 1) := by decide +kernel
theorem dX4_addSpot_17 : decode cX4_addSpot 17 = .ok (.iadd, 1) := by decide +kernel
theorem dX4_addSpot_18 : decode cX4_addSpot 18 = .ok (.putfield 9, 3) := by decide +kernel
theorem dX4_addSpot_21 : decode cX4_addSpot 21 = .ok (.goto 18, 3) := by decide +kernel
theorem dX4_addSpot_24 : decode cX4_addSpot 24 = .ok (.iload_n 3, 1) := by decide +kernel
theorem dX4_addSpot_25 : decode cX4_addSpot 25 = .ok (.iconst 2, 1) := by decide +kernel
theorem dX4_addSpot_26 : decode cX4_addSpot 26 = .ok (.if_icmp .ne 13, 3) := by decide +kernel
theorem dX4_addSpot_29 : decode cX4_addSpot 29 = .ok (.aload_n 0, 1) := by decide +kernel
theorem dX4_addSpot_30 : decode cX4_addSpot 30 = .ok (.dup, 1) := by decide +kernel
theorem dX4_addSpot_31 : decode cX4_addSpot 31 = .ok (.getfield 15, 3) := by decide +kernel
theorem dX4_addSpot_34 : decode cX4_addSpot 34 = .ok (.iconst 1, 1) := by decide +kernel
theorem dX4_addSpot_35 : decode cX4_addSpot 35 = .ok (.iadd, 1) := by decide +kernel
theorem dX4_addSpot_36 : decode cX4_addSpot 36 = .ok (.putfield 15, 3) := by decide +kernel
theorem dX4_addSpot_39 : decode cX4_addSpot 39 = .ok (.iload_n 2, 1) := by decide +kernel
theorem dX4_addSpot_40 : decode cX4_addSpot 40 = .ok (.iload_n 1, 1) := by decide +kernel
theorem dX4_addSpot_41 : decode cX4_addSpot 41 = .ok (.isub, 1) := by decide +kernel
theorem dX4_addSpot_42 : decode cX4_addSpot 42 = .ok (.invokestatic 57, 3) := by decide +kernel
theorem dX4_addSpot_45 : decode cX4_addSpot 45 = .ok (.istore 4, 2) := by decide +kernel
theorem dX4_addSpot_47 : decode cX4_addSpot 47 = .ok (.aload_n 0, 1) := by decide +kernel
theorem dX4_addSpot_48 : decode cX4_addSpot 48 = .ok (.dup, 1) := by decide +kernel
theorem dX4_addSpot_49 : decode cX4_addSpot 49 = .ok (.getfield 18, 3) := by decide +kernel
theorem dX4_addSpot_52 : decode cX4_addSpot 52 = .ok (.iload 4, 2) := by decide +kernel
theorem dX4_addSpot_54 : decode cX4_addSpot 54 = .ok (.iadd, 1) := by decide +kernel
theorem dX4_addSpot_55 : decode cX4_addSpot 55 = .ok (.putfield 18, 3) := by decide +kernel
theorem dX4_addSpot_58 : decode cX4_addSpot 58 = .ok (.aload_n 0, 1) := by decide +kernel
theorem dX4_addSpot_59 : decode cX4_addSpot 59 = .ok (.aload_n 0, 1) := by decide +kernel
theorem dX4_addSpot_60 : decode cX4_addSpot 60 = .ok (.getfield 21, 3) := by decide +kernel
theorem dX4_addSpot_63 : decode cX4_addSpot 63 = .ok (.iload 4, 2) := by decide +kernel
theorem dX4_addSpot_65 : decode cX4_addSpot 65 = .ok (.invokestatic 62, 3) := by decide +kernel
theorem dX4_addSpot_68 : decode cX4_addSpot 68 = .ok (.putfield 21, 3) := by decide +kernel
theorem dX4_addSpot_71 : decode cX4_addSpot 71 = .ok (.aload_n 0, 1) := by decide +kernel
theorem dX4_addSpot_72 : decode cX4_addSpot 72 = .ok (.dup, 1) := by decide +kernel
theorem dX4_addSpot_73 : decode cX4_addSpot 73 = .ok (.getfield 24, 3) := by decide +kernel
theorem dX4_addSpot_76 : decode cX4_addSpot 76 = .ok (.iload_n 2, 1) := by decide +kernel
theorem dX4_addSpot_77 : decode cX4_addSpot 77 = .ok (.iadd, 1) := by decide +kernel
theorem dX4_addSpot_78 : decode cX4_addSpot 78 = .ok (.putfield 24, 3) := by decide +kernel
theorem dX4_addSpot_81 : decode cX4_addSpot 81 = .ok (.return_, 1) := by decide +kernel
set_option maxRecDepth 20000 in
theorem ggX5_init_X3_init : GoodIn wsX5_init wsX3_init := goodIn_r _ [31, 32, 2, 3, 27, 33, 34, 35, 36, 37, 38, 39, 40, 41, 42, 43, 44, 75, 76, 77, 78, 79, 80, 81] (by decide +kernel) (by decide +kernel)
set_option maxRecDepth 20000 in
theorem gX5_init_X3_init : GoodIn wsX5_init (wsX3_init) := ggX5_init_X3_init
set_option maxRecDepth 20000 in
theorem ggX5_init_X0_init : GoodIn wsX5_init wsX0_init := goodIn_r _ [47, 48, 2, 3, 49, 50, 51, 52, 5, 6, 53, 30, 31, 32, 27, 33, 34, 35, 36, 37, 38, 39, 40, 41, 42, 43, 44, 91, 92, 93, 75, 76, 77, 78, 79, 80, 81] (by decide +kernel) (by decide +kernel)
set_option maxRecDepth 20000 in
theorem gX5_init_X0_init : GoodIn wsX5_init (wsX0_init) := ggX5_init_X0_init
set_option maxRecDepth 20000 in
theorem ggX5_init_X1_init : GoodIn wsX5_init wsX1_init := goodIn_r _ [55, 56, 2, 3, 57, 58, 59, 27, 60, 61, 94, 95, 96, 97] (by decide +kernel) (by decide +kernel)
set_option maxRecDepth 20000 in
theorem gX5_init_X1_init_n32 : GoodIn wsX5_init (wsX1_init) := ggX5_init_X1_init
set_option maxRecDepth 20000 in
theorem ggX5_init_X2_init : GoodIn wsX5_init wsX2_init := goodIn_r _ [63, 64, 2, 3, 27, 65, 66, 98, 99] (by decide +kernel) (by decide +kernel)
set_option maxRecDepth 20000 in
theorem gX5_init_X2_init_n42 : GoodIn wsX5_init (wsX2_init) := ggX5_init_X2_init
set_option maxRecDepth 20000 in
theorem ggX5_init_X4_init : GoodIn wsX5_init wsX4_init := goodIn_r _ [68, 69, 2, 3, 70, 71, 72, 73, 74, 100, 101, 102, 103, 104] (by decide +kernel) (by decide +kernel)
set_option maxRecDepth 20000 in
theorem gX5_init_X4_init_n49 : GoodIn wsX5_init (wsX4_init) := ggX5_init_X4_init
theorem dX5_init_0 : decode cX5_init 0 = .ok (.aload_n 0, 1) := by decide +kernel
theorem dX5_init_1 : decode cX5_init 1 = .ok (.invokespecial 3, 3) := by decide +kernel
theorem dX5_init_4 : decode cX5_init 4 = .ok (.aload_n 0, 1) := by decide +kernel
theorem dX5_init_5 : decode cX5_init 5 = .ok (.new 9, 3) := by decide +kernel
theorem dX5_init_8 : decode cX5_init 8 = .ok (.dup, 1) := by decide +kernel
theorem dX5_init_9 : decode cX5_init 9 = .ok (.invokespecial 11, 3) := by decide +kernel
theorem dX5_init_12 : decode cX5_init 12 = .ok (.putfield 12, 3) := by decide +kernel
theorem dX5_init_15 : decode cX5_init 15 = .ok (.aload_n 0, 1) := by decide +kernel
theorem dX5_init_16 : decode cX5_init 16 = .ok (.new 9, 3) := by decide +kernel
theorem dX5_init_19 : decode cX5_init 19 = .ok (.dup, 1) := by decide +kernel
theorem dX5_init_20 : decode cX5_init 20 = .ok (.invokespecial 11, 3) := by decide +kernel
theorem dX5_init_23 : decode cX5_init 23 = .ok (.putfield 16, 3) := by decide +kernel
theorem dX5_init_26 : decode cX5_init 26 = .ok (.aload_n 0, 1) := by decide +kernel
theorem dX5_init_27 : decode cX5_init 27 = .ok (.iconst 0, 1) := by decide +kernel
theorem dX5_init_28 : decode cX5_init 28 = .ok (.putfield 19, 3) := by decide +kernel
theorem dX5_init_31 : decode cX5_init 31 = .ok (.aload_n 0, 1) := by decide +kernel
theorem dX5_init_32 : decode cX5_init 32 = .ok (.new 23, 3) := by decide +kernel
theorem dX5_init_35 : decode cX5_init 35 = .ok (.dup, 1) := by decide +kernel
theorem dX5_init_36 : decode cX5_init 36 = .ok (.invokespecial 25, 3) := by decide +kernel
theorem dX5_init_39 : decode cX5_init 39 = .ok (.putfield 26, 3) := by decide +kernel
theorem dX5_init_42 : decode cX5_init 42 = .ok (.aload_n 0, 1) := by decide +kernel
theorem dX5_init_43 : decode cX5_init 43 = .ok (.new 30, 3) := by decide +kernel
theorem dX5_init_46 : decode cX5_init 46 = .ok (.dup, 1) := by decide +kernel
theorem dX5_init_47 : decode cX5_init 47 = .ok (.invokespecial 32, 3) := by decide +kernel
theorem dX5_init_50 : decode cX5_init 50 = .ok (.putfield 33, 3) := by decide +kernel
theorem dX5_init_53 : decode cX5_init 53 = .ok (.aload_n 0, 1) := by decide +kernel
theorem dX5_init_54 : decode cX5_init 54 = .ok (.new 9, 3) := by decide +kernel
theorem dX5_init_57 : decode cX5_init 57 = .ok (.dup, 1) := by decide +kernel
theorem dX5_init_58 : decode cX5_init 58 = .ok (.invokespecial 11, 3) := by decide +kernel
theorem dX5_init_61 : decode cX5_init 61 = .ok (.putfield 37, 3) := by decide +kernel
theorem dX5_init_64 : decode cX5_init 64 = .ok (.aload_n 0, 1) := by decide +kernel
theorem dX5_init_65 : decode cX5_init 65 = .ok (.new 40, 3) := by decide +kernel
theorem dX5_init_68 : decode cX5_init 68 = .ok (.dup, 1) := by decide +kernel
theorem dX5_init_69 : decode cX5_init 69 = .ok (.invokespecial 42, 3) := by decide +kernel
theorem dX5_init_72 : decode cX5_init 72 = .ok (.putfield 43, 3) := by decide +kernel
theorem dX5_init_75 : decode cX5_init 75 = .ok (.aload_n 0, 1) := by decide +kernel
theorem dX5_init_76 : decode cX5_init 76 = .ok (.new 47, 3) := by decide +kernel
theorem dX5_init_79 : decode cX5_init 79 = .ok (.dup, 1) := by decide +kernel
theorem dX5_init_80 : decode cX5_init 80 = .ok (.invokespecial 49, 3) := by decide +kernel
theorem dX5_init_83 : decode cX5_init 83 = .ok (.putfield 50, 3) := by decide +kernel
theorem dX5_init_86 : decode cX5_init 86 = .ok (.aload_n 0, 1) := by decide +kernel
theorem dX5_init_87 : decode cX5_init 87 = .ok (.sipush 288, 3) := by decide +kernel
theorem dX5_init_90 : decode cX5_init 90 = .ok (.newarray .int, 2) := by decide +kernel
theorem dX5_init_92 : decode cX5_init 92 = .ok (.putfield 54, 3) := by decide +kernel
theorem dX5_init_95 : decode cX5_init 95 = .ok (.return_, 1) := by decide +kernel
set_option maxRecDepth 20000 in
theorem ggX5_ask_X5_onScreen : GoodIn wsX5_ask wsX5_onScreen := goodIn_r _ [7] (by decide +kernel) (by decide +kernel)
set_option maxRecDepth 20000 in
theorem gX5_ask_X5_onScreen : GoodIn wsX5_ask (va_wsS RX5 58 yX5_onScreen wsX5_onScreen) := goodIn_app (goodIn_of _ (by decide +kernel)) ggX5_ask_X5_onScreen
set_option maxRecDepth 20000 in
theorem ggX5_ask_X5_spotAt : GoodIn wsX5_ask wsX5_spotAt := goodIn_r _ [10] (by decide +kernel) (by decide +kernel)
set_option maxRecDepth 20000 in
theorem gX5_ask_X5_spotAt : GoodIn wsX5_ask (va_wsS RX5 62 yX5_spotAt wsX5_spotAt) := goodIn_app (goodIn_of _ (by decide +kernel)) ggX5_ask_X5_spotAt
set_option maxRecDepth 20000 in
theorem ggX5_ask_X0_record : GoodIn wsX5_ask wsX0_record := goodIn_r _ [15, 16, 17, 18, 19, 20, 21, 22, 23, 24, 25, 26, 27, 28, 29, 30, 31, 32, 33, 34, 51, 52, 53, 44, 45, 46, 47, 48, 49, 50] (by decide +kernel) (by decide +kernel)
end
section
set_option maxRecDepth 20000 in
theorem gX5_ask_X0_record : GoodIn wsX5_ask (wsV RX5 69 RX0 yX0_record wsX0_record) := goodIn_app (goodIn_of _ (by decide +kernel)) ggX5_ask_X0_record
theorem dX5_ask_0 : decode cX5_ask 0 = .ok (.iload_n 1, 1) := by decide +kernel
theorem dX5_ask_1 : decode cX5_ask 1 = .ok (.iload_n 2, 1) := by decide +kernel
theorem dX5_ask_2 : decode cX5_ask 2 = .ok (.invokestatic 58, 3) := by decide +kernel
theorem dX5_ask_5 : decode cX5_ask 5 = .ok (.ifCond .ne 5, 3) := by decide +kernel
theorem dX5_ask_8 : decode cX5_ask 8 = .ok (.iconst (-1), 1) := by decide +kernel
theorem dX5_ask_9 : decode cX5_ask 9 = .ok (.ireturn, 1) := by decide +kernel
theorem dX5_ask_10 : decode cX5_ask 10 = .ok (.iload_n 3, 1) := by decide +kernel
theorem dX5_ask_11 : decode cX5_ask 11 = .ok (.ifCond .lt 10, 3) := by decide +kernel
theorem dX5_ask_14 : decode cX5_ask 14 = .ok (.iload_n 3, 1) := by decide +kernel
theorem dX5_ask_15 : decode cX5_ask 15 = .ok (.sipush 255, 3) := by decide +kernel
theorem dX5_ask_18 : decode cX5_ask 18 = .ok (.if_icmp .le 6, 3) := by decide +kernel
theorem dX5_ask_21 : decode cX5_ask 21 = .ok (.bipush (-2), 2) := by decide +kernel
theorem dX5_ask_23 : decode cX5_ask 23 = .ok (.ireturn, 1) := by decide +kernel
theorem dX5_ask_24 : decode cX5_ask 24 = .ok (.iload_n 1, 1) := by decide +kernel
theorem dX5_ask_25 : decode cX5_ask 25 = .ok (.iload_n 2, 1) := by decide +kernel
theorem dX5_ask_26 : decode cX5_ask 26 = .ok (.invokestatic 62, 3) := by decide +kernel
theorem dX5_ask_29 : decode cX5_ask 29 = .ok (.istore 4, 2) := by decide +kernel
theorem dX5_ask_31 : decode cX5_ask 31 = .ok (.aload_n 0, 1) := by decide +kernel
theorem dX5_ask_32 : decode cX5_ask 32 = .ok (.getfield 12, 3) := by decide +kernel
theorem dX5_ask_35 : decode cX5_ask 35 = .ok (.getfield 66, 3) := by decide +kernel
theorem dX5_ask_38 : decode cX5_ask 38 = .ok (.iload 4, 2) := by decide +kernel
theorem dX5_ask_40 : decode cX5_ask 40 = .ok (.iaload, 1) := by decide +kernel
theorem dX5_ask_41 : decode cX5_ask 41 = .ok (.istore 5, 2) := by decide +kernel
theorem dX5_ask_43 : decode cX5_ask 43 = .ok (.iload 5, 2) := by decide +kernel
theorem dX5_ask_45 : decode cX5_ask 45 = .ok (.iload_n 3, 1) := by decide +kernel
theorem dX5_ask_46 : decode cX5_ask 46 = .ok (.if_icmp .ne 6, 3) := by decide +kernel
theorem dX5_ask_49 : decode cX5_ask 49 = .ok (.bipush (-5), 2) := by decide +kernel
theorem dX5_ask_51 : decode cX5_ask 51 = .ok (.ireturn, 1) := by decide +kernel
theorem dX5_ask_52 : decode cX5_ask 52 = .ok (.aload_n 0, 1) := by decide +kernel
theorem dX5_ask_53 : decode cX5_ask 53 = .ok (.getfield 26, 3) := by decide +kernel
theorem dX5_ask_56 : decode cX5_ask 56 = .ok (.aload_n 0, 1) := by decide +kernel
theorem dX5_ask_57 : decode cX5_ask 57 = .ok (.getfield 12, 3) := by decide +kernel
theorem dX5_ask_60 : decode cX5_ask 60 = .ok (.invokevirtual 69, 3) := by decide +kernel
theorem dX5_ask_63 : decode cX5_ask 63 = .ok (.aload_n 0, 1) := by decide +kernel
theorem dX5_ask_64 : decode cX5_ask 64 = .ok (.getfield 12, 3) := by decide +kernel
theorem dX5_ask_67 : decode cX5_ask 67 = .ok (.getfield 66, 3) := by decide +kernel
theorem dX5_ask_70 : decode cX5_ask 70 = .ok (.iload 4, 2) := by decide +kernel
theorem dX5_ask_72 : decode cX5_ask 72 = .ok (.iload_n 3, 1) := by decide +kernel
theorem dX5_ask_73 : decode cX5_ask 73 = .ok (.iastore, 1) := by decide +kernel
theorem dX5_ask_74 : decode cX5_ask 74 = .ok (.iload 5, 2) := by decide +kernel
theorem dX5_ask_76 : decode cX5_ask 76 = .ok (.ireturn, 1) := by decide +kernel
set_option maxRecDepth 20000 in
theorem ggX5_askAll_X1_read : GoodIn wsX5_askAll wsX1_read := goodIn_r _ [8, 9, 10, 11, 12, 13, 14, 15, 7, 16, 17, 18, 19, 20, 21, 22, 89, 90, 91, 92] (by decide +kernel) (by decide +kernel)
set_option maxRecDepth 20000 in
theorem gX5_askAll_X1_read : GoodIn wsX5_askAll (wsV RX5 73 RX1 yX1_read wsX1_read) := goodIn_app (goodIn_of _ (by decide +kernel)) ggX5_askAll_X1_read
set_option maxRecDepth 20000 in
theorem ggX5_askAll_X0_record : GoodIn wsX5_askAll wsX0_record := goodIn_r _ [27, 28, 29, 30, 31, 32, 33, 34, 35, 36, 37, 38, 39, 40, 41, 42, 43, 44, 45, 46, 93, 94, 95, 96, 97, 98, 99, 100, 101, 102] (by decide +kernel) (by decide +kernel)
set_option maxRecDepth 20000 in
theorem gX5_askAll_X0_record : GoodIn wsX5_askAll (wsV RX5 69 RX0 yX0_record wsX0_record) := goodIn_app (goodIn_of _ (by decide +kernel)) ggX5_askAll_X0_record
set_option maxRecDepth 20000 in
theorem ggX5_askAll_X5_rememberPicture : GoodIn wsX5_askAll wsX5_rememberPicture := goodIn_r _ [51, 3, 52, 53, 54, 38, 39, 40, 80, 81, 82, 83, 84, 85, 86, 87, 88, 96, 97, 98, 99, 100, 101, 102] (by decide +kernel) (by decide +kernel)
set_option maxRecDepth 20000 in
theorem gX5_askAll_X5_rememberPicture : GoodIn wsX5_askAll (wsV RX5 77 RX5 yX5_rememberPicture wsX5_rememberPicture) := goodIn_app (goodIn_of _ (by decide +kernel)) ggX5_askAll_X5_rememberPicture
set_option maxRecDepth 20000 in
theorem ggX5_askAll_X1_parts : GoodIn wsX5_askAll wsX1_parts := goodIn_r _ [58, 9, 89, 90, 91, 92] (by decide +kernel) (by decide +kernel)
set_option maxRecDepth 20000 in
theorem gX5_askAll_X1_parts : GoodIn wsX5_askAll (wsV RX5 80 RX1 yX1_parts wsX1_parts) := goodIn_app (goodIn_of _ (by decide +kernel)) ggX5_askAll_X1_parts
set_option maxRecDepth 20000 in
theorem ggX5_askAll_X1_number : GoodIn wsX5_askAll wsX1_number := goodIn_r _ [62, 17, 89, 90, 91, 92] (by decide +kernel) (by decide +kernel)
set_option maxRecDepth 20000 in
theorem gX5_askAll_X1_number : GoodIn wsX5_askAll (wsV RX5 83 RX1 yX1_number wsX1_number) := goodIn_app (goodIn_of _ (by decide +kernel)) ggX5_askAll_X1_number
set_option maxRecDepth 20000 in
theorem ggX5_askAll_X3_paint : GoodIn wsX5_askAll wsX3_paint := goodIn_r _ [66, 67, 68, 69, 70, 71, 72, 73, 36, 74, 50, 75, 96, 97, 98, 99, 100, 101, 102] (by decide +kernel) (by decide +kernel)
set_option maxRecDepth 20000 in
theorem gX5_askAll_X3_paint : GoodIn wsX5_askAll (wsV RX5 86 RX3 yX3_paint wsX3_paint) := goodIn_app (goodIn_of _ (by decide +kernel)) ggX5_askAll_X3_paint
set_option maxRecDepth 20000 in
theorem ggX5_askAll_X5_changedSpots : GoodIn wsX5_askAll wsX5_changedSpots := goodIn_r _ [79, 3, 52, 53, 80, 81, 82, 83, 84, 85, 86, 87, 88, 96, 97, 98, 99, 100, 101, 102] (by decide +kernel) (by decide +kernel)
set_option maxRecDepth 20000 in
theorem gX5_askAll_X5_changedSpots : GoodIn wsX5_askAll (wsV RX5 90 RX5 yX5_changedSpots wsX5_changedSpots) := goodIn_app (goodIn_of _ (by decide +kernel)) ggX5_askAll_X5_changedSpots
theorem dX5_askAll_0 : decode cX5_askAll 0 = .ok (.aload_n 0, 1) := by decide +kernel
theorem dX5_askAll_1 : decode cX5_askAll 1 = .ok (.getfield 33, 3) := by decide +kernel
theorem dX5_askAll_4 : decode cX5_askAll 4 = .ok (.invokevirtual 73, 3) := by decide +kernel
theorem dX5_askAll_7 : decode cX5_askAll 7 = .ok (.istore_n 1, 1) := by decide +kernel
theorem dX5_askAll_8 : decode cX5_askAll 8 = .ok (.iload_n 1, 1) := by decide +kernel
theorem dX5_askAll_9 : decode cX5_askAll 9 = .ok (.bipush (-5), 2) := by decide +kernel
theorem dX5_askAll_11 : decode cX5_askAll 11 = .ok (.if_icmp .eq 8, 3) := by decide +kernel
theorem dX5_askAll_14 : decode cX5_askAll 14 = .ok (.bipush (-100), 2) := by decide +kernel
theorem dX5_askAll_16 : decode cX5_askAll 16 = .ok (.iload_n 1, 1) := by decide +kernel
theorem dX5_askAll_17 : decode cX5_askAll 17 = .ok (.isub, 1) := by decide +kernel
theorem dX5_askAll_18 : decode cX5_askAll 18 = .ok (.ireturn, 1) := by decide +kernel
theorem dX5_askAll_19 : decode cX5_askAll 19 = .ok (.aload_n 0, 1) := by decide +kernel
theorem dX5_askAll_20 : decode cX5_askAll 20 = .ok (.getfield 26, 3) := by decide +kernel
theorem dX5_askAll_23 : decode cX5_askAll 23 = .ok (.aload_n 0, 1) := by decide +kernel
theorem dX5_askAll_24 : decode cX5_askAll 24 = .ok (.getfield 12, 3) := by decide +kernel
theorem dX5_askAll_27 : decode cX5_askAll 27 = .ok (.invokevirtual 69, 3) := by decide +kernel
theorem dX5_askAll_30 : decode cX5_askAll 30 = .ok (.aload_n 0, 1) := by decide +kernel
theorem dX5_askAll_31 : decode cX5_askAll 31 = .ok (.invokevirtual 77, 3) := by decide +kernel
theorem dX5_askAll_34 : decode cX5_askAll 34 = .ok (.iconst 0, 1) := by decide +kernel
theorem dX5_askAll_35 : decode cX5_askAll 35 = .ok (.istore_n 2, 1) := by decide +kernel
theorem dX5_askAll_36 : decode cX5_askAll 36 = .ok (.iload_n 2, 1) := by decide +kernel
theorem dX5_askAll_37 : decode cX5_askAll 37 = .ok (.aload_n 0, 1) := by decide +kernel
theorem dX5_askAll_38 : decode cX5_askAll 38 = .ok (.getfield 33, 3) := by decide +kernel
theorem dX5_askAll_41 : decode cX5_askAll 41 = .ok (.invokevirtual 80, 3) := by decide +kernel
theorem dX5_askAll_44 : decode cX5_askAll 44 = .ok (.if_icmp .ge 61, 3) := by decide +kernel
theorem dX5_askAll_47 : decode cX5_askAll 47 = .ok (.aload_n 0, 1) := by decide +kernel
theorem dX5_askAll_48 : decode cX5_askAll 48 = .ok (.getfield 12, 3) := by decide +kernel
theorem dX5_askAll_51 : decode cX5_askAll 51 = .ok (.aload_n 0, 1) := by decide +kernel
theorem dX5_askAll_52 : decode cX5_askAll 52 = .ok (.getfield 33, 3) := by decide +kernel
theorem dX5_askAll_55 : decode cX5_askAll 55 = .ok (.iload_n 2, 1) := by decide +kernel
theorem dX5_askAll_56 : decode cX5_askAll 56 = .ok (.iconst 0, 1) := by decide +kernel
theorem dX5_askAll_57 : decode cX5_askAll 57 = .ok (.invokevirtual 83, 3) := by decide +kernel
theorem dX5_askAll_60 : decode cX5_askAll 60 = .ok (.aload_n 0, 1) := by decide +kernel
theorem dX5_askAll_61 : decode cX5_askAll 61 = .ok (.getfield 33, 3) := by decide +kernel
theorem dX5_askAll_64 : decode cX5_askAll 64 = .ok (.iload_n 2, 1) := by decide +kernel
theorem dX5_askAll_65 : decode cX5_askAll 65 = .ok (.iconst 1, 1) := by decide +kernel
theorem dX5_askAll_66 : decode cX5_askAll 66 = .ok (.invokevirtual 83, 3) := by decide +kernel
theorem dX5_askAll_69 : decode cX5_askAll 69 = .ok (.aload_n 0, 1) := by decide +kernel
theorem dX5_askAll_70 : decode cX5_askAll 70 = .ok (.getfield 33, 3) := by decide +kernel
theorem dX5_askAll_73 : decode cX5_askAll 73 = .ok (.iload_n 2, 1) := by decide +kernel
theorem dX5_askAll_74 : decode cX5_askAll 74 = .ok (.iconst 2, 1) := by decide +kernel
theorem dX5_askAll_75 : decode cX5_askAll 75 = .ok (.invokevirtual 83, 3) := by decide +kernel
theorem dX5_askAll_78 : decode cX5_askAll 78 = .ok (.aload_n 0, 1) := by decide +kernel
theorem dX5_askAll_79 : decode cX5_askAll 79 = .ok (.getfield 33, 3) := by decide +kernel
theorem dX5_askAll_82 : decode cX5_askAll 82 = .ok (.iload_n 2, 1) := by decide +kernel
theorem dX5_askAll_83 : decode cX5_askAll 83 = .ok (.iconst 3, 1) := by decide +kernel
theorem dX5_askAll_84 : decode cX5_askAll 84 = .ok (.invokevirtual 83, 3) := by decide +kernel
theorem dX5_askAll_87 : decode cX5_askAll 87 = .ok (.aload_n 0, 1) := by decide +kernel
theorem dX5_askAll_88 : decode cX5_askAll 88 = .ok (.getfield 33, 3) := by decide +kernel
theorem dX5_askAll_91 : decode cX5_askAll 91 = .ok (.iload_n 2, 1) := by decide +kernel
theorem dX5_askAll_92 : decode cX5_askAll 92 = .ok (.iconst 4, 1) := by decide +kernel
theorem dX5_askAll_93 : decode cX5_askAll 93 = .ok (.invokevirtual 83, 3) := by decide +kernel
theorem dX5_askAll_96 : decode cX5_askAll 96 = .ok (.invokevirtual 86, 3) := by decide +kernel
theorem dX5_askAll_99 : decode cX5_askAll 99 = .ok (.iinc 2 1, 3) := by decide +kernel
theorem dX5_askAll_102 : decode cX5_askAll 102 = .ok (.goto (-66), 3) := by decide +kernel
theorem dX5_askAll_105 : decode cX5_askAll 105 = .ok (.aload_n 0, 1) := by decide +kernel
theorem dX5_askAll_106 : decode cX5_askAll 106 = .ok (.invokevirtual 90, 3) := by decide +kernel
theorem dX5_askAll_109 : decode cX5_askAll 109 = .ok (.ireturn, 1) := by decide +kernel
set_option maxRecDepth 20000 in
theorem ggX5_move_X0_record : GoodIn wsX5_move wsX0_record := goodIn_r _ [10, 11, 12, 13, 14, 15, 16, 17, 18, 19, 20, 21, 22, 23, 24, 25, 26, 27, 28, 29, 58, 59, 60, 61, 62, 63, 64, 65, 66, 67] (by decide +kernel) (by decide +kernel)
set_option maxRecDepth 20000 in
theorem gX5_move_X0_record : GoodIn wsX5_move (wsV RX5 69 RX0 yX0_record wsX0_record) := goodIn_app (goodIn_of _ (by decide +kernel)) ggX5_move_X0_record
set_option maxRecDepth 20000 in
theorem ggX5_move_X5_rememberPicture : GoodIn wsX5_move wsX5_rememberPicture := goodIn_r _ [34, 2, 35, 3, 36, 21, 22, 23, 49, 50, 51, 52, 53, 54, 55, 56, 57, 61, 62, 63, 64, 65, 66, 67] (by decide +kernel) (by decide +kernel)
set_option maxRecDepth 20000 in
theorem gX5_move_X5_rememberPicture : GoodIn wsX5_move (wsV RX5 77 RX5 yX5_rememberPicture wsX5_rememberPicture) := goodIn_app (goodIn_of _ (by decide +kernel)) ggX5_move_X5_rememberPicture
set_option maxRecDepth 20000 in
theorem ggX5_move_X3_takeShifted : GoodIn wsX5_move wsX3_takeShifted := goodIn_r _ [40, 19, 41, 33, 42, 43, 44, 61, 62, 63, 64, 65, 66, 67] (by decide +kernel) (by decide +kernel)
set_option maxRecDepth 20000 in
theorem gX5_move_X3_takeShifted : GoodIn wsX5_move (wsV RX5 99 RX3 yX3_takeShifted wsX3_takeShifted) := goodIn_app (goodIn_of _ (by decide +kernel)) ggX5_move_X3_takeShifted
set_option maxRecDepth 20000 in
theorem ggX5_move_X5_changedSpots : GoodIn wsX5_move wsX5_changedSpots := goodIn_r _ [48, 2, 35, 3, 49, 50, 51, 52, 53, 54, 55, 56, 57, 61, 62, 63, 64, 65, 66, 67] (by decide +kernel) (by decide +kernel)
set_option maxRecDepth 20000 in
theorem gX5_move_X5_changedSpots : GoodIn wsX5_move (wsV RX5 90 RX5 yX5_changedSpots wsX5_changedSpots) := goodIn_app (goodIn_of _ (by decide +kernel)) ggX5_move_X5_changedSpots
theorem dX5_move_0 : decode cX5_move 0 = .ok (.iload_n 1, 1) := by decide +kernel
theorem dX5_move_1 : decode cX5_move 1 = .ok (.ifCond .lt 8, 3) := by decide +kernel
theorem dX5_move_4 : decode cX5_move 4 = .ok (.iload_n 1, 1) := by decide +kernel
theorem dX5_move_5 : decode cX5_move 5 = .ok (.iconst 4, 1) := by decide +kernel
theorem dX5_move_6 : decode cX5_move 6 = .ok (.if_icmp .lt 6, 3) := by decide +kernel
theorem dX5_move_9 : decode cX5_move 9 = .ok (.bipush (-2), 2) := by decide +kernel
theorem dX5_move_11 : decode cX5_move 11 = .ok (.ireturn, 1) := by decide +kernel
theorem dX5_move_12 : decode cX5_move 12 = .ok (.aload_n 0, 1) := by decide +kernel
theorem dX5_move_13 : decode cX5_move 13 = .ok (.getfield 26, 3) := by decide +kernel
theorem dX5_move_16 : decode cX5_move 16 = .ok (.aload_n 0, 1) := by decide +kernel
theorem dX5_move_17 : decode cX5_move 17 = .ok (.getfield 12, 3) := by decide +kernel
theorem dX5_move_20 : decode cX5_move 20 = .ok (.invokevirtual 69, 3) := by decide +kernel
theorem dX5_move_23 : decode cX5_move 23 = .ok (.aload_n 0, 1) := by decide +kernel
theorem dX5_move_24 : decode cX5_move 24 = .ok (.invokevirtual 77, 3) := by decide +kernel
theorem dX5_move_27 : decode cX5_move 27 = .ok (.aload_n 0, 1) := by decide +kernel
theorem dX5_move_28 : decode cX5_move 28 = .ok (.getfield 12, 3) := by decide +kernel
theorem dX5_move_31 : decode cX5_move 31 = .ok (.aload_n 0, 1) := by decide +kernel
theorem dX5_move_32 : decode cX5_move 32 = .ok (.getfield 54, 3) := by decide +kernel
theorem dX5_move_35 : decode cX5_move 35 = .ok (.getstatic 93, 3) := by decide +kernel
theorem dX5_move_38 : decode cX5_move 38 = .ok (.iload_n 1, 1) := by decide +kernel
theorem dX5_move_39 : decode cX5_move 39 = .ok (.iaload, 1) := by decide +kernel
theorem dX5_move_40 : decode cX5_move 40 = .ok (.getstatic 96, 3) := by decide +kernel
theorem dX5_move_43 : decode cX5_move 43 = .ok (.iload_n 1, 1) := by decide +kernel
theorem dX5_move_44 : decode cX5_move 44 = .ok (.iaload, 1) := by decide +kernel
theorem dX5_move_45 : decode cX5_move 45 = .ok (.invokevirtual 99, 3) := by decide +kernel
theorem dX5_move_48 : decode cX5_move 48 = .ok (.aload_n 0, 1) := by decide +kernel
theorem dX5_move_49 : decode cX5_move 49 = .ok (.invokevirtual 90, 3) := by decide +kernel
theorem dX5_move_52 : decode cX5_move 52 = .ok (.ireturn, 1) := by decide +kernel
set_option maxRecDepth 20000 in
theorem ggX5_kill_X5_isZone : GoodIn wsX5_kill wsX5_isZone := goodIn_r _ [8] (by decide +kernel) (by decide +kernel)
set_option maxRecDepth 20000 in
theorem gX5_kill_X5_isZone : GoodIn wsX5_kill (va_wsS RX5 103 yX5_isZone wsX5_isZone) := goodIn_app (goodIn_of _ (by decide +kernel)) ggX5_kill_X5_isZone
set_option maxRecDepth 20000 in
theorem ggX5_kill_X0_record : GoodIn wsX5_kill wsX0_record := goodIn_r _ [13, 14, 15, 16, 17, 18, 19, 20, 21, 22, 23, 24, 25, 26, 27, 28, 29, 30, 31, 32, 49, 50, 51, 42, 43, 44, 45, 46, 47, 48] (by decide +kernel) (by decide +kernel)
set_option maxRecDepth 20000 in
theorem gX5_kill_X0_record : GoodIn wsX5_kill (wsV RX5 69 RX0 yX0_record wsX0_record) := goodIn_app (goodIn_of _ (by decide +kernel)) ggX5_kill_X0_record
theorem dX5_kill_0 : decode cX5_kill 0 = .ok (.iload_n 1, 1) := by decide +kernel
theorem dX5_kill_1 : decode cX5_kill 1 = .ok (.invokestatic 103, 3) := by decide +kernel
theorem dX5_kill_4 : decode cX5_kill 4 = .ok (.ifCond .ne 5, 3) := by decide +kernel
theorem dX5_kill_7 : decode cX5_kill 7 = .ok (.iconst (-1), 1) := by decide +kernel
theorem dX5_kill_8 : decode cX5_kill 8 = .ok (.ireturn, 1) := by decide +kernel
theorem dX5_kill_9 : decode cX5_kill 9 = .ok (.aload_n 0, 1) := by decide +kernel
theorem dX5_kill_10 : decode cX5_kill 10 = .ok (.getfield 12, 3) := by decide +kernel
theorem dX5_kill_13 : decode cX5_kill 13 = .ok (.getfield 107, 3) := by decide +kernel
theorem dX5_kill_16 : decode cX5_kill 16 = .ok (.iload_n 1, 1) := by decide +kernel
theorem dX5_kill_17 : decode cX5_kill 17 = .ok (.baload, 1) := by decide +kernel
theorem dX5_kill_18 : decode cX5_kill 18 = .ok (.iload_n 2, 1) := by decide +kernel
theorem dX5_kill_19 : decode cX5_kill 19 = .ok (.if_icmp .ne 6, 3) := by decide +kernel
theorem dX5_kill_22 : decode cX5_kill 22 = .ok (.bipush (-5), 2) := by decide +kernel
theorem dX5_kill_24 : decode cX5_kill 24 = .ok (.ireturn, 1) := by decide +kernel
theorem dX5_kill_25 : decode cX5_kill 25 = .ok (.aload_n 0, 1) := by decide +kernel
theorem dX5_kill_26 : decode cX5_kill 26 = .ok (.getfield 26, 3) := by decide +kernel
theorem dX5_kill_29 : decode cX5_kill 29 = .ok (.aload_n 0, 1) := by decide +kernel
theorem dX5_kill_30 : decode cX5_kill 30 = .ok (.getfield 12, 3) := by decide +kernel
theorem dX5_kill_33 : decode cX5_kill 33 = .ok (.invokevirtual 69, 3) := by decide +kernel
theorem dX5_kill_36 : decode cX5_kill 36 = .ok (.aload_n 0, 1) := by decide +kernel
theorem dX5_kill_37 : decode cX5_kill 37 = .ok (.getfield 12, 3) := by decide +kernel
theorem dX5_kill_40 : decode cX5_kill 40 = .ok (.getfield 111, 3) := by decide +kernel
theorem dX5_kill_43 : decode cX5_kill 43 = .ok (.iload_n 1, 1) := by decide +kernel
theorem dX5_kill_44 : decode cX5_kill 44 = .ok (.iaload, 1) := by decide +kernel
theorem dX5_kill_45 : decode cX5_kill 45 = .ok (.istore_n 3, 1) := by decide +kernel
theorem dX5_kill_46 : decode cX5_kill 46 = .ok (.aload_n 0, 1) := by decide +kernel
theorem dX5_kill_47 : decode cX5_kill 47 = .ok (.getfield 12, 3) := by decide +kernel
theorem dX5_kill_50 : decode cX5_kill 50 = .ok (.getfield 107, 3) := by decide +kernel
theorem dX5_kill_53 : decode cX5_kill 53 = .ok (.iload_n 1, 1) := by decide +kernel
theorem dX5_kill_54 : decode cX5_kill 54 = .ok (.iload_n 2, 1) := by decide +kernel
theorem dX5_kill_55 : decode cX5_kill 55 = .ok (.bastore, 1) := by decide +kernel
theorem dX5_kill_56 : decode cX5_kill 56 = .ok (.aload_n 0, 1) := by decide +kernel
theorem dX5_kill_57 : decode cX5_kill 57 = .ok (.getfield 12, 3) := by decide +kernel
theorem dX5_kill_60 : decode cX5_kill 60 = .ok (.getfield 111, 3) := by decide +kernel
theorem dX5_kill_63 : decode cX5_kill 63 = .ok (.iload_n 1, 1) := by decide +kernel
theorem dX5_kill_64 : decode cX5_kill 64 = .ok (.iconst 0, 1) := by decide +kernel
theorem dX5_kill_65 : decode cX5_kill 65 = .ok (.iastore, 1) := by decide +kernel
theorem dX5_kill_66 : decode cX5_kill 66 = .ok (.iload_n 3, 1) := by decide +kernel
theorem dX5_kill_67 : decode cX5_kill 67 = .ok (.ireturn, 1) := by decide +kernel
set_option maxRecDepth 20000 in
theorem ggX5_pass_X0_record : GoodIn wsX5_pass wsX0_record := goodIn_r _ [9, 10, 11, 12, 13, 14, 15, 16, 17, 18, 19, 20, 21, 22, 23, 24, 25, 26, 27, 28, 132, 133, 134, 135, 136, 137, 138, 139, 140, 141] (by decide +kernel) (by decide +kernel)
set_option maxRecDepth 20000 in
theorem gX5_pass_X0_record : GoodIn wsX5_pass (wsV RX5 69 RX0 yX0_record wsX0_record) := goodIn_app (goodIn_of _ (by decide +kernel)) ggX5_pass_X0_record
set_option maxRecDepth 20000 in
theorem ggX5_pass_X2_make : GoodIn wsX5_pass wsX2_make := goodIn_r _ [33, 34, 35, 36, 37, 38, 39, 40, 16, 41, 18, 42, 43, 44, 45, 46, 47, 48, 49, 50, 51, 52, 53, 54, 32, 55, 56, 57, 58, 59, 60, 61, 62, 63, 64, 65, 66, 67, 68, 69, 70, 71, 72, 73, 74, 75, 24, 76, 77, 78, 79, 80, 81, 82, 83, 84, 85, 86, 87, 88, 89, 90, 91, 92, 93, 94, 95, 96, 97, 98, 99, 100, 101, 102, 103, 104, 105, 106, 107, 108, 109, 130, 131, 135, 136, 137, 138, 139, 140, 141] (by decide +kernel) (by decide +kernel)
set_option maxRecDepth 20000 in
theorem gX5_pass_X2_make : GoodIn wsX5_pass (wsV RX5 114 RX2 yX2_make wsX2_make) := goodIn_app (goodIn_of _ (by decide +kernel)) ggX5_pass_X2_make
set_option maxRecDepth 20000 in
theorem ggX5_pass_X3_passFrame : GoodIn wsX5_pass wsX3_passFrame := goodIn_r _ [113, 25, 23, 24, 114, 57, 44, 58, 42, 43, 45, 27, 115, 79, 80, 26, 28, 116, 117, 118, 16, 119, 135, 136, 137, 138, 139, 140, 141] (by decide +kernel) (by decide +kernel)
set_option maxRecDepth 20000 in
theorem gX5_pass_X3_passFrame : GoodIn wsX5_pass (wsV RX5 118 RX3 yX3_passFrame wsX3_passFrame) := goodIn_app (goodIn_of _ (by decide +kernel)) ggX5_pass_X3_passFrame
set_option maxRecDepth 20000 in
theorem ggX5_pass_X3_power : GoodIn wsX5_pass wsX3_power := goodIn_r _ [119, 23, 135, 136, 137, 138, 139, 140, 141] (by decide +kernel) (by decide +kernel)
set_option maxRecDepth 20000 in
theorem gX5_pass_X3_power : GoodIn wsX5_pass (wsV RX5 122 RX3 yX3_power wsX3_power) := goodIn_app (goodIn_of _ (by decide +kernel)) ggX5_pass_X3_power
theorem dX5_pass_0 : decode cX5_pass 0 = .ok (.iload_n 1, 1) := by decide +kernel
theorem dX5_pass_1 : decode cX5_pass 1 = .ok (.iconst 1, 1) := by decide +kernel
theorem dX5_pass_2 : decode cX5_pass 2 = .ok (.if_icmp .lt 9, 3) := by decide +kernel
theorem dX5_pass_5 : decode cX5_pass 5 = .ok (.iload_n 1, 1) := by decide +kernel
theorem dX5_pass_6 : decode cX5_pass 6 = .ok (.bipush 99, 2) := by decide +kernel
theorem dX5_pass_8 : decode cX5_pass 8 = .ok (.if_icmp .le 6, 3) := by decide +kernel
theorem dX5_pass_11 : decode cX5_pass 11 = .ok (.bipush (-2), 2) := by decide +kernel
theorem dX5_pass_13 : decode cX5_pass 13 = .ok (.ireturn, 1) := by decide +kernel
theorem dX5_pass_14 : decode cX5_pass 14 = .ok (.aload_n 0, 1) := by decide +kernel
theorem dX5_pass_15 : decode cX5_pass 15 = .ok (.getfield 26, 3) := by decide +kernel
theorem dX5_pass_18 : decode cX5_pass 18 = .ok (.aload_n 0, 1) := by decide +kernel
theorem dX5_pass_19 : decode cX5_pass 19 = .ok (.getfield 12, 3) := by decide +kernel
theorem dX5_pass_22 : decode cX5_pass 22 = .ok (.invokevirtual 69, 3) := by decide +kernel
theorem dX5_pass_25 : decode cX5_pass 25 = .ok (.aload_n 0, 1) := by decide +kernel
theorem dX5_pass_26 : decode cX5_pass 26 = .ok (.getfield 43, 3) := by decide +kernel
theorem dX5_pass_29 : decode cX5_pass 29 = .ok (.aload_n 0, 1) := by decide +kernel
theorem dX5_pass_30 : decode cX5_pass 30 = .ok (.getfield 12, 3) := by decide +kernel
theorem dX5_pass_33 : decode cX5_pass 33 = .ok (.invokevirtual 114, 3) := by decide +kernel
theorem dX5_pass_36 : decode cX5_pass 36 = .ok (.iconst 0, 1) := by decide +kernel
theorem dX5_pass_37 : decode cX5_pass 37 = .ok (.istore_n 2, 1) := by decide +kernel
theorem dX5_pass_38 : decode cX5_pass 38 = .ok (.iload_n 2, 1) := by decide +kernel
theorem dX5_pass_39 : decode cX5_pass 39 = .ok (.iload_n 1, 1) := by decide +kernel
theorem dX5_pass_40 : decode cX5_pass 40 = .ok (.if_icmp .ge 23, 3) := by decide +kernel
theorem dX5_pass_43 : decode cX5_pass 43 = .ok (.aload_n 0, 1) := by decide +kernel
theorem dX5_pass_44 : decode cX5_pass 44 = .ok (.getfield 12, 3) := by decide +kernel
theorem dX5_pass_47 : decode cX5_pass 47 = .ok (.aload_n 0, 1) := by decide +kernel
theorem dX5_pass_48 : decode cX5_pass 48 = .ok (.getfield 43, 3) := by decide +kernel
theorem dX5_pass_51 : decode cX5_pass 51 = .ok (.getfield 117, 3) := by decide +kernel
theorem dX5_pass_54 : decode cX5_pass 54 = .ok (.invokevirtual 118, 3) := by decide +kernel
theorem dX5_pass_57 : decode cX5_pass 57 = .ok (.iinc 2 1, 3) := by decide +kernel
theorem dX5_pass_60 : decode cX5_pass 60 = .ok (.goto (-22), 3) := by decide +kernel
theorem dX5_pass_63 : decode cX5_pass 63 = .ok (.aload_n 0, 1) := by decide +kernel
theorem dX5_pass_64 : decode cX5_pass 64 = .ok (.getfield 12, 3) := by decide +kernel
theorem dX5_pass_67 : decode cX5_pass 67 = .ok (.invokevirtual 122, 3) := by decide +kernel
theorem dX5_pass_70 : decode cX5_pass 70 = .ok (.ireturn, 1) := by decide +kernel
set_option maxRecDepth 20000 in
theorem ggX5_set_X0_record : GoodIn wsX5_set wsX0_record := goodIn_r _ [10, 11, 12, 13, 14, 15, 16, 17, 18, 19, 20, 21, 22, 23, 24, 25, 26, 27, 28, 29, 46, 47, 48, 39, 40, 41, 42, 43, 44, 45] (by decide +kernel) (by decide +kernel)
set_option maxRecDepth 20000 in
theorem gX5_set_X0_record : GoodIn wsX5_set (wsV RX5 69 RX0 yX0_record wsX0_record) := goodIn_app (goodIn_of _ (by decide +kernel)) ggX5_set_X0_record
theorem dX5_set_0 : decode cX5_set 0 = .ok (.iload_n 1, 1) := by decide +kernel
theorem dX5_set_1 : decode cX5_set 1 = .ok (.ifCond .lt 9, 3) := by decide +kernel
theorem dX5_set_4 : decode cX5_set 4 = .ok (.iload_n 1, 1) := by decide +kernel
theorem dX5_set_5 : decode cX5_set 5 = .ok (.bipush 8, 2) := by decide +kernel
theorem dX5_set_7 : decode cX5_set 7 = .ok (.if_icmp .lt 6, 3) := by decide +kernel
theorem dX5_set_10 : decode cX5_set 10 = .ok (.bipush (-2), 2) := by decide +kernel
theorem dX5_set_12 : decode cX5_set 12 = .ok (.ireturn, 1) := by decide +kernel
theorem dX5_set_13 : decode cX5_set 13 = .ok (.iload_n 2, 1) := by decide +kernel
theorem dX5_set_14 : decode cX5_set 14 = .ok (.getstatic 125, 3) := by decide +kernel
theorem dX5_set_17 : decode cX5_set 17 = .ok (.iload_n 1, 1) := by decide +kernel
theorem dX5_set_18 : decode cX5_set 18 = .ok (.iaload, 1) := by decide +kernel
theorem dX5_set_19 : decode cX5_set 19 = .ok (.if_icmp .lt 12, 3) := by decide +kernel
theorem dX5_set_22 : decode cX5_set 22 = .ok (.iload_n 2, 1) := by decide +kernel
theorem dX5_set_23 : decode cX5_set 23 = .ok (.getstatic 128, 3) := by decide +kernel
theorem dX5_set_26 : decode cX5_set 26 = .ok (.iload_n 1, 1) := by decide +kernel
theorem dX5_set_27 : decode cX5_set 27 = .ok (.iaload, 1) := by decide +kernel
theorem dX5_set_28 : decode cX5_set 28 = .ok (.if_icmp .le 6, 3) := by decide +kernel
theorem dX5_set_31 : decode cX5_set 31 = .ok (.bipush (-2), 2) := by decide +kernel
theorem dX5_set_33 : decode cX5_set 33 = .ok (.ireturn, 1) := by decide +kernel
theorem dX5_set_34 : decode cX5_set 34 = .ok (.aload_n 0, 1) := by decide +kernel
theorem dX5_set_35 : decode cX5_set 35 = .ok (.getfield 12, 3) := by decide +kernel
theorem dX5_set_38 : decode cX5_set 38 = .ok (.getfield 131, 3) := by decide +kernel
theorem dX5_set_41 : decode cX5_set 41 = .ok (.iload_n 1, 1) := by decide +kernel
theorem dX5_set_42 : decode cX5_set 42 = .ok (.iaload, 1) := by decide +kernel
theorem dX5_set_43 : decode cX5_set 43 = .ok (.istore_n 3, 1) := by decide +kernel
theorem dX5_set_44 : decode cX5_set 44 = .ok (.iload_n 3, 1) := by decide +kernel
theorem dX5_set_45 : decode cX5_set 45 = .ok (.iload_n 2, 1) := by decide +kernel
theorem dX5_set_46 : decode cX5_set 46 = .ok (.if_icmp .ne 6, 3) := by decide +kernel
theorem dX5_set_49 : decode cX5_set 49 = .ok (.bipush (-5), 2) := by decide +kernel
theorem dX5_set_51 : decode cX5_set 51 = .ok (.ireturn, 1) := by decide +kernel
theorem dX5_set_52 : decode cX5_set 52 = .ok (.aload_n 0, 1) := by decide +kernel
theorem dX5_set_53 : decode cX5_set 53 = .ok (.getfield 26, 3) := by decide +kernel
theorem dX5_set_56 : decode cX5_set 56 = .ok (.aload_n 0, 1) := by decide +kernel
theorem dX5_set_57 : decode cX5_set 57 = .ok (.getfield 12, 3) := by decide +kernel
theorem dX5_set_60 : decode cX5_set 60 = .ok (.invokevirtual 69, 3) := by decide +kernel
theorem dX5_set_63 : decode cX5_set 63 = .ok (.aload_n 0, 1) := by decide +kernel
theorem dX5_set_64 : decode cX5_set 64 = .ok (.getfield 12, 3) := by decide +kernel
theorem dX5_set_67 : decode cX5_set 67 = .ok (.getfield 131, 3) := by decide +kernel
theorem dX5_set_70 : decode cX5_set 70 = .ok (.iload_n 1, 1) := by decide +kernel
theorem dX5_set_71 : decode cX5_set 71 = .ok (.iload_n 2, 1) := by decide +kernel
theorem dX5_set_72 : decode cX5_set 72 = .ok (.iastore, 1) := by decide +kernel
theorem dX5_set_73 : decode cX5_set 73 = .ok (.iload_n 3, 1) := by decide +kernel
theorem dX5_set_74 : decode cX5_set 74 = .ok (.ireturn, 1) := by decide +kernel
set_option maxRecDepth 20000 in
theorem ggX5_type_X1_append : GoodIn wsX5_type wsX1_append := goodIn_r _ [7, 8, 9, 19, 20, 21, 22] (by decide +kernel) (by decide +kernel)
set_option maxRecDepth 20000 in
theorem gX5_type_X1_append : GoodIn wsX5_type (wsV RX5 134 RX1 yX1_append wsX1_append) := goodIn_app (goodIn_of _ (by decide +kernel)) ggX5_type_X1_append
theorem dX5_type_0 : decode cX5_type 0 = .ok (.aload_n 0, 1) := by decide +kernel
theorem dX5_type_1 : decode cX5_type 1 = .ok (.getfield 33, 3) := by decide +kernel
theorem dX5_type_4 : decode cX5_type 4 = .ok (.iload_n 1, 1) := by decide +kernel
theorem dX5_type_5 : decode cX5_type 5 = .ok (.invokevirtual 134, 3) := by decide +kernel
theorem dX5_type_8 : decode cX5_type 8 = .ok (.ifCond .eq 13, 3) := by decide +kernel
theorem dX5_type_11 : decode cX5_type 11 = .ok (.aload_n 0, 1) := by decide +kernel
theorem dX5_type_12 : decode cX5_type 12 = .ok (.getfield 33, 3) := by decide +kernel
theorem dX5_type_15 : decode cX5_type 15 = .ok (.getfield 138, 3) := by decide +kernel
theorem dX5_type_18 : decode cX5_type 18 = .ok (.goto 5, 3) := by decide +kernel
theorem dX5_type_21 : decode cX5_type 21 = .ok (.bipush (-3), 2) := by decide +kernel
theorem dX5_type_23 : decode cX5_type 23 = .ok (.ireturn, 1) := by decide +kernel
theorem dX5_clearText_0 : decode cX5_clearText 0 = .ok (.aload_n 0, 1) := by decide +kernel
theorem dX5_clearText_1 : decode cX5_clearText 1 = .ok (.getfield 33, 3) := by decide +kernel
theorem dX5_clearText_4 : decode cX5_clearText 4 = .ok (.getfield 138, 3) := by decide +kernel
theorem dX5_clearText_7 : decode cX5_clearText 7 = .ok (.istore_n 1, 1) := by decide +kernel
theorem dX5_clearText_8 : decode cX5_clearText 8 = .ok (.aload_n 0, 1) := by decide +kernel
theorem dX5_clearText_9 : decode cX5_clearText 9 = .ok (.getfield 33, 3) := by decide +kernel
theorem dX5_clearText_12 : decode cX5_clearText 12 = .ok (.iconst 0, 1) := by decide +kernel
theorem dX5_clearText_13 : decode cX5_clearText 13 = .ok (.putfield 138, 3) := by decide +kernel
theorem dX5_clearText_16 : decode cX5_clearText 16 = .ok (.iload_n 1, 1) := by decide +kernel
theorem dX5_clearText_17 : decode cX5_clearText 17 = .ok (.ireturn, 1) := by decide +kernel
set_option maxRecDepth 20000 in
theorem ggX5_fault_X1_read : GoodIn wsX5_fault wsX1_read := goodIn_r _ [6, 7, 8, 9, 10, 11, 12, 13, 5, 14, 15, 16, 17, 18, 19, 20, 30, 31, 32, 33] (by decide +kernel) (by decide +kernel)
set_option maxRecDepth 20000 in
theorem gX5_fault_X1_read : GoodIn wsX5_fault (wsV RX5 73 RX1 yX1_read wsX1_read) := goodIn_app (goodIn_of _ (by decide +kernel)) ggX5_fault_X1_read
theorem dX5_fault_0 : decode cX5_fault 0 = .ok (.aload_n 0, 1) := by decide +kernel
theorem dX5_fault_1 : decode cX5_fault 1 = .ok (.getfield 33, 3) := by decide +kernel
theorem dX5_fault_4 : decode cX5_fault 4 = .ok (.invokevirtual 73, 3) := by decide +kernel
theorem dX5_fault_7 : decode cX5_fault 7 = .ok (.ireturn, 1) := by decide +kernel
set_option maxRecDepth 20000 in
theorem ggX5_undo_X0_takeLatest : GoodIn wsX5_undo wsX0_takeLatest := goodIn_r _ [8, 9, 10, 11, 12, 13, 14, 15, 16, 17, 18, 19, 20, 21, 22, 23, 24, 25, 26, 27, 37, 38, 39, 40, 41, 42, 43, 44, 45, 46] (by decide +kernel) (by decide +kernel)
set_option maxRecDepth 20000 in
theorem gX5_undo_X0_takeLatest : GoodIn wsX5_undo (wsV RX5 142 RX0 yX0_takeLatest wsX0_takeLatest) := goodIn_app (goodIn_of _ (by decide +kernel)) ggX5_undo_X0_takeLatest
theorem dX5_undo_0 : decode cX5_undo 0 = .ok (.aload_n 0, 1) := by decide +kernel
theorem dX5_undo_1 : decode cX5_undo 1 = .ok (.getfield 26, 3) := by decide +kernel
theorem dX5_undo_4 : decode cX5_undo 4 = .ok (.aload_n 0, 1) := by decide +kernel
theorem dX5_undo_5 : decode cX5_undo 5 = .ok (.getfield 12, 3) := by decide +kernel
theorem dX5_undo_8 : decode cX5_undo 8 = .ok (.invokevirtual 142, 3) := by decide +kernel
theorem dX5_undo_11 : decode cX5_undo 11 = .ok (.ifCond .eq 13, 3) := by decide +kernel
theorem dX5_undo_14 : decode cX5_undo 14 = .ok (.aload_n 0, 1) := by decide +kernel
theorem dX5_undo_15 : decode cX5_undo 15 = .ok (.getfield 26, 3) := by decide +kernel
theorem dX5_undo_18 : decode cX5_undo 18 = .ok (.getfield 146, 3) := by decide +kernel
theorem dX5_undo_21 : decode cX5_undo 21 = .ok (.goto 5, 3) := by decide +kernel
theorem dX5_undo_24 : decode cX5_undo 24 = .ok (.bipush (-5), 2) := by decide +kernel
theorem dX5_undo_26 : decode cX5_undo 26 = .ok (.ireturn, 1) := by decide +kernel
set_option maxRecDepth 20000 in
theorem ggX5_keep_X3_copyFrom : GoodIn wsX5_keep wsX3_copyFrom := goodIn_r _ [9, 10, 11, 12, 13, 14, 15, 16, 17, 18, 19, 20, 30, 31, 32, 33, 34, 35, 36] (by decide +kernel) (by decide +kernel)
set_option maxRecDepth 20000 in
theorem gX5_keep_X3_copyFrom : GoodIn wsX5_keep (wsV RX5 149 RX3 yX3_copyFrom wsX3_copyFrom) := goodIn_app (goodIn_of _ (by decide +kernel)) ggX5_keep_X3_copyFrom
theorem dX5_keep_0 : decode cX5_keep 0 = .ok (.aload_n 0, 1) := by decide +kernel
theorem dX5_keep_1 : decode cX5_keep 1 = .ok (.getfield 16, 3) := by decide +kernel
theorem dX5_keep_4 : decode cX5_keep 4 = .ok (.aload_n 0, 1) := by decide +kernel
theorem dX5_keep_5 : decode cX5_keep 5 = .ok (.getfield 12, 3) := by decide +kernel
theorem dX5_keep_8 : decode cX5_keep 8 = .ok (.invokevirtual 149, 3) := by decide +kernel
theorem dX5_keep_11 : decode cX5_keep 11 = .ok (.aload_n 0, 1) := by decide +kernel
theorem dX5_keep_12 : decode cX5_keep 12 = .ok (.iconst 1, 1) := by decide +kernel
theorem dX5_keep_13 : decode cX5_keep 13 = .ok (.putfield 19, 3) := by decide +kernel
theorem dX5_keep_16 : decode cX5_keep 16 = .ok (.aload_n 0, 1) := by decide +kernel
theorem dX5_keep_17 : decode cX5_keep 17 = .ok (.getfield 12, 3) := by decide +kernel
theorem dX5_keep_20 : decode cX5_keep 20 = .ok (.getfield 152, 3) := by decide +kernel
theorem dX5_keep_23 : decode cX5_keep 23 = .ok (.ireturn, 1) := by decide +kernel
set_option maxRecDepth 20000 in
theorem ggX5_restore_X0_record : GoodIn wsX5_restore wsX0_record := goodIn_r _ [10, 11, 12, 13, 14, 15, 16, 17, 18, 19, 20, 21, 22, 23, 24, 25, 26, 27, 28, 29, 47, 48, 49, 40, 41, 42, 43, 44, 45, 46] (by decide +kernel) (by decide +kernel)
set_option maxRecDepth 20000 in
theorem gX5_restore_X0_record : GoodIn wsX5_restore (wsV RX5 69 RX0 yX0_record wsX0_record) := goodIn_app (goodIn_of _ (by decide +kernel)) ggX5_restore_X0_record
set_option maxRecDepth 20000 in
theorem ggX5_restore_X3_copyFrom : GoodIn wsX5_restore wsX3_copyFrom := goodIn_r _ [18, 19, 20, 21, 22, 23, 24, 25, 26, 27, 28, 29, 40, 41, 42, 43, 44, 45, 46] (by decide +kernel) (by decide +kernel)
set_option maxRecDepth 20000 in
theorem gX5_restore_X3_copyFrom : GoodIn wsX5_restore (wsV RX5 149 RX3 yX3_copyFrom wsX3_copyFrom) := goodIn_app (goodIn_of _ (by decide +kernel)) ggX5_restore_X3_copyFrom
theorem dX5_restore_0 : decode cX5_restore 0 = .ok (.aload_n 0, 1) := by decide +kernel
theorem dX5_restore_1 : decode cX5_restore 1 = .ok (.getfield 19, 3) := by decide +kernel
theorem dX5_restore_4 : decode cX5_restore 4 = .ok (.ifCond .ne 6, 3) := by decide +kernel
theorem dX5_restore_7 : decode cX5_restore 7 = .ok (.bipush (-5), 2) := by decide +kernel
theorem dX5_restore_9 : decode cX5_restore 9 = .ok (.ireturn, 1) := by decide +kernel
theorem dX5_restore_10 : decode cX5_restore 10 = .ok (.aload_n 0, 1) := by decide +kernel
theorem dX5_restore_11 : decode cX5_restore 11 = .ok (.getfield 26, 3) := by decide +kernel
theorem dX5_restore_14 : decode cX5_restore 14 = .ok (.aload_n 0, 1) := by decide +kernel
theorem dX5_restore_15 : decode cX5_restore 15 = .ok (.getfield 12, 3) := by decide +kernel
theorem dX5_restore_18 : decode cX5_restore 18 = .ok (.invokevirtual 69, 3) := by decide +kernel
theorem dX5_restore_21 : decode cX5_restore 21 = .ok (.aload_n 0, 1) := by decide +kernel
theorem dX5_restore_22 : decode cX5_restore 22 = .ok (.getfield 12, 3) := by decide +kernel
theorem dX5_restore_25 : decode cX5_restore 25 = .ok (.aload_n 0, 1) := by decide +kernel
theorem dX5_restore_26 : decode cX5_restore 26 = .ok (.getfield 16, 3) := by decide +kernel
theorem dX5_restore_29 : decode cX5_restore 29 = .ok (.invokevirtual 149, 3) := by decide +kernel
theorem dX5_restore_32 : decode cX5_restore 32 = .ok (.aload_n 0, 1) := by decide +kernel
theorem dX5_restore_33 : decode cX5_restore 33 = .ok (.getfield 12, 3) := by decide +kernel
theorem dX5_restore_36 : decode cX5_restore 36 = .ok (.getfield 152, 3) := by decide +kernel
theorem dX5_restore_39 : decode cX5_restore 39 = .ok (.ireturn, 1) := by decide +kernel
set_option maxRecDepth 20000 in
theorem ggX5_spot_X5_onScreen : GoodIn wsX5_spot wsX5_onScreen := goodIn_r _ [6] (by decide +kernel) (by decide +kernel)
set_option maxRecDepth 20000 in
theorem gX5_spot_X5_onScreen : GoodIn wsX5_spot (va_wsS RX5 58 yX5_onScreen wsX5_onScreen) := goodIn_app (goodIn_of _ (by decide +kernel)) ggX5_spot_X5_onScreen
set_option maxRecDepth 20000 in
theorem ggX5_spot_X5_spotAt : GoodIn wsX5_spot wsX5_spotAt := goodIn_r _ [9] (by decide +kernel) (by decide +kernel)
set_option maxRecDepth 20000 in
theorem gX5_spot_X5_spotAt : GoodIn wsX5_spot (va_wsS RX5 62 yX5_spotAt wsX5_spotAt) := goodIn_app (goodIn_of _ (by decide +kernel)) ggX5_spot_X5_spotAt
set_option maxRecDepth 20000 in
theorem ggX5_spot_X3_light : GoodIn wsX5_spot wsX3_light := goodIn_r _ [14, 15, 16, 17, 18, 13, 19, 20, 21, 5, 22, 23, 24, 25, 26, 27, 28, 29, 30, 31, 32, 33, 34, 62, 63, 64, 65, 66, 67, 68] (by decide +kernel) (by decide +kernel)
set_option maxRecDepth 20000 in
theorem gX5_spot_X3_light : GoodIn wsX5_spot (wsV RX5 155 RX3 yX3_light wsX3_light) := goodIn_app (goodIn_of _ (by decide +kernel)) ggX5_spot_X3_light
set_option maxRecDepth 20000 in
theorem ggX5_spot_X5_glassFor : GoodIn wsX5_spot wsX5_glassFor := goodIn_r _ [37, 32, 33, 25, 34, 38, 39, 5, 40] (by decide +kernel) (by decide +kernel)
set_option maxRecDepth 20000 in
theorem gX5_spot_X5_glassFor : GoodIn wsX5_spot (va_wsS RX5 159 yX5_glassFor wsX5_glassFor) := goodIn_app (goodIn_of _ (by decide +kernel)) ggX5_spot_X5_glassFor
set_option maxRecDepth 20000 in
theorem ggX5_spot_X3_shown : GoodIn wsX5_spot wsX3_shown := goodIn_r _ [44, 45, 28, 25, 29, 36, 5, 37, 32, 33, 34, 38, 39, 40, 46, 47, 48, 13, 49, 20, 62, 63, 64, 65, 66, 67, 68] (by decide +kernel) (by decide +kernel)
set_option maxRecDepth 20000 in
theorem gX5_spot_X3_shown : GoodIn wsX5_spot (wsV RX5 162 RX3 yX3_shown wsX3_shown) := goodIn_app (goodIn_of _ (by decide +kernel)) ggX5_spot_X3_shown
set_option maxRecDepth 20000 in
theorem ggX5_spot_X5_verdict : GoodIn wsX5_spot wsX5_verdict := goodIn_r _ [52] (by decide +kernel) (by decide +kernel)
set_option maxRecDepth 20000 in
theorem gX5_spot_X5_verdict : GoodIn wsX5_spot (va_wsS RX5 165 yX5_verdict wsX5_verdict) := goodIn_app (goodIn_of _ (by decide +kernel)) ggX5_spot_X5_verdict
theorem dX5_spot_0 : decode cX5_spot 0 = .ok (.iload_n 1, 1) := by decide +kernel
theorem dX5_spot_1 : decode cX5_spot 1 = .ok (.iload_n 2, 1) := by decide +kernel
theorem dX5_spot_2 : decode cX5_spot 2 = .ok (.invokestatic 58, 3) := by decide +kernel
theorem dX5_spot_5 : decode cX5_spot 5 = .ok (.ifCond .ne 5, 3) := by decide +kernel
theorem dX5_spot_8 : decode cX5_spot 8 = .ok (.iconst (-1), 1) := by decide +kernel
theorem dX5_spot_9 : decode cX5_spot 9 = .ok (.ireturn, 1) := by decide +kernel
theorem dX5_spot_10 : decode cX5_spot 10 = .ok (.iload_n 3, 1) := by decide +kernel
theorem dX5_spot_11 : decode cX5_spot 11 = .ok (.ifCond .lt 8, 3) := by decide +kernel
theorem dX5_spot_14 : decode cX5_spot 14 = .ok (.iload_n 3, 1) := by decide +kernel
theorem dX5_spot_15 : decode cX5_spot 15 = .ok (.iconst 4, 1) := by decide +kernel
theorem dX5_spot_16 : decode cX5_spot 16 = .ok (.if_icmp .le 6, 3) := by decide +kernel
theorem dX5_spot_19 : decode cX5_spot 19 = .ok (.bipush (-2), 2) := by decide +kernel
theorem dX5_spot_21 : decode cX5_spot 21 = .ok (.ireturn, 1) := by decide +kernel
theorem dX5_spot_22 : decode cX5_spot 22 = .ok (.aload_n 0, 1) := by decide +kernel
theorem dX5_spot_23 : decode cX5_spot 23 = .ok (.getfield 12, 3) := by decide +kernel
theorem dX5_spot_26 : decode cX5_spot 26 = .ok (.getfield 66, 3) := by decide +kernel
theorem dX5_spot_29 : decode cX5_spot 29 = .ok (.iload_n 1, 1) := by decide +kernel
theorem dX5_spot_30 : decode cX5_spot 30 = .ok (.iload_n 2, 1) := by decide +kernel
theorem dX5_spot_31 : decode cX5_spot 31 = .ok (.invokestatic 62, 3) := by decide +kernel
theorem dX5_spot_34 : decode cX5_spot 34 = .ok (.iaload, 1) := by decide +kernel
theorem dX5_spot_35 : decode cX5_spot 35 = .ok (.istore 4, 2) := by decide +kernel
theorem dX5_spot_37 : decode cX5_spot 37 = .ok (.aload_n 0, 1) := by decide +kernel
theorem dX5_spot_38 : decode cX5_spot 38 = .ok (.getfield 12, 3) := by decide +kernel
theorem dX5_spot_41 : decode cX5_spot 41 = .ok (.bipush 6, 2) := by decide +kernel
theorem dX5_spot_43 : decode cX5_spot 43 = .ok (.iload_n 2, 1) := by decide +kernel
theorem dX5_spot_44 : decode cX5_spot 44 = .ok (.iconst 4, 1) := by decide +kernel
theorem dX5_spot_45 : decode cX5_spot 45 = .ok (.idiv, 1) := by decide +kernel
theorem dX5_spot_46 : decode cX5_spot 46 = .ok (.imul, 1) := by decide +kernel
theorem dX5_spot_47 : decode cX5_spot 47 = .ok (.iload_n 1, 1) := by decide +kernel
theorem dX5_spot_48 : decode cX5_spot 48 = .ok (.iconst 4, 1) := by decide +kernel
theorem dX5_spot_49 : decode cX5_spot 49 = .ok (.idiv, 1) := by decide +kernel
theorem dX5_spot_50 : decode cX5_spot 50 = .ok (.iadd, 1) := by decide +kernel
theorem dX5_spot_51 : decode cX5_spot 51 = .ok (.invokevirtual 155, 3) := by decide +kernel
theorem dX5_spot_54 : decode cX5_spot 54 = .ok (.istore 5, 2) := by decide +kernel
theorem dX5_spot_56 : decode cX5_spot 56 = .ok (.iload_n 3, 1) := by decide +kernel
theorem dX5_spot_57 : decode cX5_spot 57 = .ok (.tableswitch 57 0 3 #[31, 34, 37, 45], 31) := by decide +kernel
theorem dX5_spot_88 : decode cX5_spot 88 = .ok (.iload 4, 2) := by decide +kernel
theorem dX5_spot_90 : decode cX5_spot 90 = .ok (.ireturn, 1) := by decide +kernel
theorem dX5_spot_91 : decode cX5_spot 91 = .ok (.iload 5, 2) := by decide +kernel
theorem dX5_spot_93 : decode cX5_spot 93 = .ok (.ireturn, 1) := by decide +kernel
theorem dX5_spot_94 : decode cX5_spot 94 = .ok (.iload 4, 2) := by decide +kernel
theorem dX5_spot_96 : decode cX5_spot 96 = .ok (.iload 5, 2) := by decide +kernel
theorem dX5_spot_98 : decode cX5_spot 98 = .ok (.invokestatic 159, 3) := by decide +kernel
theorem dX5_spot_101 : decode cX5_spot 101 = .ok (.ireturn, 1) := by decide +kernel
theorem dX5_spot_102 : decode cX5_spot 102 = .ok (.aload_n 0, 1) := by decide +kernel
theorem dX5_spot_103 : decode cX5_spot 103 = .ok (.getfield 12, 3) := by decide +kernel
theorem dX5_spot_106 : decode cX5_spot 106 = .ok (.iload 4, 2) := by decide +kernel
theorem dX5_spot_108 : decode cX5_spot 108 = .ok (.iload 5, 2) := by decide +kernel
theorem dX5_spot_110 : decode cX5_spot 110 = .ok (.invokevirtual 162, 3) := by decide +kernel
theorem dX5_spot_113 : decode cX5_spot 113 = .ok (.ireturn, 1) := by decide +kernel
theorem dX5_spot_114 : decode cX5_spot 114 = .ok (.iload 4, 2) := by decide +kernel
theorem dX5_spot_116 : decode cX5_spot 116 = .ok (.aload_n 0, 1) := by decide +kernel
theorem dX5_spot_117 : decode cX5_spot 117 = .ok (.getfield 12, 3) := by decide +kernel
theorem dX5_spot_120 : decode cX5_spot 120 = .ok (.iload 4, 2) := by decide +kernel
theorem dX5_spot_122 : decode cX5_spot 122 = .ok (.iload 5, 2) := by decide +kernel
theorem dX5_spot_124 : decode cX5_spot 124 = .ok (.invokevirtual 162, 3) := by decide +kernel
theorem dX5_spot_127 : decode cX5_spot 127 = .ok (.invokestatic 165, 3) := by decide +kernel
theorem dX5_spot_130 : decode cX5_spot 130 = .ok (.ireturn, 1) := by decide +kernel
set_option maxRecDepth 20000 in
theorem ggX5_zone_X5_isZone : GoodIn wsX5_zone wsX5_isZone := goodIn_r _ [12] (by decide +kernel) (by decide +kernel)
set_option maxRecDepth 20000 in
theorem gX5_zone_X5_isZone : GoodIn wsX5_zone (va_wsS RX5 103 yX5_isZone wsX5_isZone) := goodIn_app (goodIn_of _ (by decide +kernel)) ggX5_zone_X5_isZone
set_option maxRecDepth 20000 in
theorem ggX5_zone_X2_make : GoodIn wsX5_zone wsX2_make := goodIn_r _ [17, 18, 19, 20, 21, 22, 23, 24, 25, 26, 27, 28, 29, 30, 31, 32, 11, 33, 34, 35, 36, 37, 38, 39, 16, 40, 41, 42, 43, 44, 45, 46, 47, 48, 49, 50, 51, 52, 53, 54, 55, 56, 57, 58, 59, 60, 61, 62, 63, 64, 65, 66, 67, 68, 69, 70, 71, 72, 73, 74, 75, 76, 77, 78, 79, 80, 81, 82, 83, 84, 85, 86, 87, 88, 89, 90, 91, 92, 93, 94, 95, 157, 158, 150, 151, 152, 153, 154, 155, 156] (by decide +kernel) (by decide +kernel)
set_option maxRecDepth 20000 in
theorem gX5_zone_X2_make : GoodIn wsX5_zone (wsV RX5 114 RX2 yX2_make wsX2_make) := goodIn_app (goodIn_of _ (by decide +kernel)) ggX5_zone_X2_make
set_option maxRecDepth 20000 in
theorem ggX5_zone_X3_light : GoodIn wsX5_zone wsX3_light := goodIn_r _ [99, 100, 101, 58, 59, 25, 60, 61, 62, 11, 63, 64, 65, 30, 66, 67, 29, 31, 68, 69, 70, 42, 43, 150, 151, 152, 153, 154, 155, 156] (by decide +kernel) (by decide +kernel)
set_option maxRecDepth 20000 in
theorem gX5_zone_X3_light : GoodIn wsX5_zone (wsV RX5 155 RX3 yX3_light wsX3_light) := goodIn_app (goodIn_of _ (by decide +kernel)) ggX5_zone_X3_light
set_option maxRecDepth 20000 in
theorem ggX5_zone_X3_peak : GoodIn wsX5_zone wsX3_peak := goodIn_r _ [26, 27, 28, 29, 30, 31, 32, 11, 33, 34, 35, 36, 150, 151, 152, 153, 154, 155, 156] (by decide +kernel) (by decide +kernel)
set_option maxRecDepth 20000 in
theorem gX5_zone_X3_peak : GoodIn wsX5_zone (wsV RX5 168 RX3 yX3_peak wsX3_peak) := goodIn_app (goodIn_of _ (by decide +kernel)) ggX5_zone_X3_peak
set_option maxRecDepth 20000 in
theorem ggX5_zone_X3_mean : GoodIn wsX5_zone wsX3_mean := goodIn_r _ [51, 27, 32, 11, 33, 34, 35, 36, 150, 151, 152, 153, 154, 155, 156] (by decide +kernel) (by decide +kernel)
set_option maxRecDepth 20000 in
theorem gX5_zone_X3_mean : GoodIn wsX5_zone (wsV RX5 171 RX3 yX3_mean wsX3_mean) := goodIn_app (goodIn_of _ (by decide +kernel)) ggX5_zone_X3_mean
set_option maxRecDepth 20000 in
theorem ggX5_zone_X3_leakOf : GoodIn wsX5_zone wsX3_leakOf := goodIn_r _ [95, 61, 150, 151, 152, 153, 154, 155, 156] (by decide +kernel) (by decide +kernel)
set_option maxRecDepth 20000 in
theorem gX5_zone_X3_leakOf : GoodIn wsX5_zone (wsV RX5 174 RX3 yX3_leakOf wsX3_leakOf) := goodIn_app (goodIn_of _ (by decide +kernel)) ggX5_zone_X3_leakOf
set_option maxRecDepth 20000 in
theorem ggX5_zone_X4_takeZone : GoodIn wsX5_zone wsX4_takeZone := goodIn_r _ [109, 110, 111, 112, 108, 113, 114, 115, 116, 117, 118, 119, 120, 121, 122, 123, 124, 97, 98, 25, 99, 100, 101, 58, 59, 60, 61, 62, 11, 63, 64, 65, 30, 66, 67, 29, 31, 68, 69, 70, 42, 43, 32, 33, 34, 35, 36, 125, 126, 127, 128, 28, 129, 130, 131, 78, 79, 132, 93, 94, 95, 133, 134, 135, 136, 137, 138, 139, 140, 159, 160, 161, 162, 163, 150, 151, 152, 153, 154, 155, 156] (by decide +kernel) (by decide +kernel)
set_option maxRecDepth 20000 in
theorem gX5_zone_X4_takeZone : GoodIn wsX5_zone (wsV RX5 177 RX4 yX4_takeZone wsX4_takeZone) := goodIn_app (goodIn_of _ (by decide +kernel)) ggX5_zone_X4_takeZone
theorem dX5_zone_0 : decode cX5_zone 0 = .ok (.iload_n 1, 1) := by decide +kernel
theorem dX5_zone_1 : decode cX5_zone 1 = .ok (.invokestatic 103, 3) := by decide +kernel
theorem dX5_zone_4 : decode cX5_zone 4 = .ok (.ifCond .ne 5, 3) := by decide +kernel
theorem dX5_zone_7 : decode cX5_zone 7 = .ok (.iconst (-1), 1) := by decide +kernel
theorem dX5_zone_8 : decode cX5_zone 8 = .ok (.ireturn, 1) := by decide +kernel
theorem dX5_zone_9 : decode cX5_zone 9 = .ok (.iload_n 2, 1) := by decide +kernel
theorem dX5_zone_10 : decode cX5_zone 10 = .ok (.tableswitch 182 0 8 #[50, 60, 81, 90, 108, 117, 126, 142, 162], 50) := by decide +kernel
theorem dX5_zone_60 : decode cX5_zone 60 = .ok (.aload_n 0, 1) := by decide +kernel
theorem dX5_zone_61 : decode cX5_zone 61 = .ok (.getfield 12, 3) := by decide +kernel
theorem dX5_zone_64 : decode cX5_zone 64 = .ok (.getfield 111, 3) := by decide +kernel
theorem dX5_zone_67 : decode cX5_zone 67 = .ok (.iload_n 1, 1) := by decide +kernel
theorem dX5_zone_68 : decode cX5_zone 68 = .ok (.iaload, 1) := by decide +kernel
theorem dX5_zone_69 : decode cX5_zone 69 = .ok (.ireturn, 1) := by decide +kernel
theorem dX5_zone_70 : decode cX5_zone 70 = .ok (.aload_n 0, 1) := by decide +kernel
theorem dX5_zone_71 : decode cX5_zone 71 = .ok (.getfield 43, 3) := by decide +kernel
theorem dX5_zone_74 : decode cX5_zone 74 = .ok (.aload_n 0, 1) := by decide +kernel
theorem dX5_zone_75 : decode cX5_zone 75 = .ok (.getfield 12, 3) := by decide +kernel
theorem dX5_zone_78 : decode cX5_zone 78 = .ok (.invokevirtual 114, 3) := by decide +kernel
theorem dX5_zone_81 : decode cX5_zone 81 = .ok (.aload_n 0, 1) := by decide +kernel
theorem dX5_zone_82 : decode cX5_zone 82 = .ok (.getfield 43, 3) := by decide +kernel
theorem dX5_zone_85 : decode cX5_zone 85 = .ok (.getfield 117, 3) := by decide +kernel
theorem dX5_zone_88 : decode cX5_zone 88 = .ok (.iload_n 1, 1) := by decide +kernel
theorem dX5_zone_89 : decode cX5_zone 89 = .ok (.iaload, 1) := by decide +kernel
theorem dX5_zone_90 : decode cX5_zone 90 = .ok (.ireturn, 1) := by decide +kernel
theorem dX5_zone_91 : decode cX5_zone 91 = .ok (.aload_n 0, 1) := by decide +kernel
theorem dX5_zone_92 : decode cX5_zone 92 = .ok (.getfield 12, 3) := by decide +kernel
theorem dX5_zone_95 : decode cX5_zone 95 = .ok (.iload_n 1, 1) := by decide +kernel
theorem dX5_zone_96 : decode cX5_zone 96 = .ok (.invokevirtual 155, 3) := by decide +kernel
theorem dX5_zone_99 : decode cX5_zone 99 = .ok (.ireturn, 1) := by decide +kernel
theorem dX5_zone_100 : decode cX5_zone 100 = .ok (.aload_n 0, 1) := by decide +kernel
theorem dX5_zone_101 : decode cX5_zone 101 = .ok (.getfield 12, 3) := by decide +kernel
theorem dX5_zone_104 : decode cX5_zone 104 = .ok (.getfield 107, 3) := by decide +kernel
theorem dX5_zone_107 : decode cX5_zone 107 = .ok (.iload_n 1, 1) := by decide +kernel
theorem dX5_zone_108 : decode cX5_zone 108 = .ok (.baload, 1) := by decide +kernel
theorem dX5_zone_109 : decode cX5_zone 109 = .ok (.ifCond .eq 7, 3) := by decide +kernel
theorem dX5_zone_112 : decode cX5_zone 112 = .ok (.iconst 1, 1) := by decide +kernel
theorem dX5_zone_113 : decode cX5_zone 113 = .ok (.goto 4, 3) := by decide +kernel
theorem dX5_zone_116 : decode cX5_zone 116 = .ok (.iconst 0, 1) := by decide +kernel
theorem dX5_zone_117 : decode cX5_zone 117 = .ok (.ireturn, 1) := by decide +kernel
theorem dX5_zone_118 : decode cX5_zone 118 = .ok (.aload_n 0, 1) := by decide +kernel
theorem dX5_zone_119 : decode cX5_zone 119 = .ok (.getfield 12, 3) := by decide +kernel
theorem dX5_zone_122 : decode cX5_zone 122 = .ok (.iload_n 1, 1) := by decide +kernel
theorem dX5_zone_123 : decode cX5_zone 123 = .ok (.invokevirtual 168, 3) := by decide +kernel
theorem dX5_zone_126 : decode cX5_zone 126 = .ok (.ireturn, 1) := by decide +kernel
theorem dX5_zone_127 : decode cX5_zone 127 = .ok (.aload_n 0, 1) := by decide +kernel
theorem dX5_zone_128 : decode cX5_zone 128 = .ok (.getfield 12, 3) := by decide +kernel
theorem dX5_zone_131 : decode cX5_zone 131 = .ok (.iload_n 1, 1) := by decide +kernel
theorem dX5_zone_132 : decode cX5_zone 132 = .ok (.invokevirtual 171, 3) := by decide +kernel
theorem dX5_zone_135 : decode cX5_zone 135 = .ok (.ireturn, 1) := by decide +kernel
theorem dX5_zone_136 : decode cX5_zone 136 = .ok (.aload_n 0, 1) := by decide +kernel
theorem dX5_zone_137 : decode cX5_zone 137 = .ok (.getfield 12, 3) := by decide +kernel
theorem dX5_zone_140 : decode cX5_zone 140 = .ok (.aload_n 0, 1) := by decide +kernel
theorem dX5_zone_141 : decode cX5_zone 141 = .ok (.getfield 12, 3) := by decide +kernel
theorem dX5_zone_144 : decode cX5_zone 144 = .ok (.iload_n 1, 1) := by decide +kernel
theorem dX5_zone_145 : decode cX5_zone 145 = .ok (.invokevirtual 155, 3) := by decide +kernel
theorem dX5_zone_148 : decode cX5_zone 148 = .ok (.invokevirtual 174, 3) := by decide +kernel
theorem dX5_zone_151 : decode cX5_zone 151 = .ok (.ireturn, 1) := by decide +kernel
theorem dX5_zone_152 : decode cX5_zone 152 = .ok (.aload_n 0, 1) := by decide +kernel
theorem dX5_zone_153 : decode cX5_zone 153 = .ok (.getfield 50, 3) := by decide +kernel
theorem dX5_zone_156 : decode cX5_zone 156 = .ok (.aload_n 0, 1) := by decide +kernel
theorem dX5_zone_157 : decode cX5_zone 157 = .ok (.getfield 12, 3) := by decide +kernel
theorem dX5_zone_160 : decode cX5_zone 160 = .ok (.iload_n 1, 1) := by decide +kernel
theorem dX5_zone_161 : decode cX5_zone 161 = .ok (.invokevirtual 177, 3) := by decide +kernel
theorem dX5_zone_164 : decode cX5_zone 164 = .ok (.aload_n 0, 1) := by decide +kernel
theorem dX5_zone_165 : decode cX5_zone 165 = .ok (.getfield 50, 3) := by decide +kernel
theorem dX5_zone_168 : decode cX5_zone 168 = .ok (.getfield 181, 3) := by decide +kernel
theorem dX5_zone_171 : decode cX5_zone 171 = .ok (.ireturn, 1) := by decide +kernel
theorem dX5_zone_172 : decode cX5_zone 172 = .ok (.aload_n 0, 1) := by decide +kernel
theorem dX5_zone_173 : decode cX5_zone 173 = .ok (.getfield 50, 3) := by decide +kernel
theorem dX5_zone_176 : decode cX5_zone 176 = .ok (.aload_n 0, 1) := by decide +kernel
theorem dX5_zone_177 : decode cX5_zone 177 = .ok (.getfield 12, 3) := by decide +kernel
theorem dX5_zone_180 : decode cX5_zone 180 = .ok (.iload_n 1, 1) := by decide +kernel
theorem dX5_zone_181 : decode cX5_zone 181 = .ok (.invokevirtual 177, 3) := by decide +kernel
theorem dX5_zone_184 : decode cX5_zone 184 = .ok (.aload_n 0, 1) := by decide +kernel
theorem dX5_zone_185 : decode cX5_zone 185 = .ok (.getfield 50, 3) := by decide +kernel
theorem dX5_zone_188 : decode cX5_zone 188 = .ok (.getfield 184, 3) := by decide +kernel
theorem dX5_zone_191 : decode cX5_zone 191 = .ok (.ireturn, 1) := by decide +kernel
theorem dX5_zone_192 : decode cX5_zone 192 = .ok (.bipush (-2), 2) := by decide +kernel
theorem dX5_zone_194 : decode cX5_zone 194 = .ok (.ireturn, 1) := by decide +kernel
set_option maxRecDepth 20000 in
theorem ggX5_count_X3_power : GoodIn wsX5_count wsX3_power := goodIn_r _ [14, 15, 169, 170, 171, 172, 173, 174, 175] (by decide +kernel) (by decide +kernel)
set_option maxRecDepth 20000 in
theorem gX5_count_X3_power : GoodIn wsX5_count (wsV RX5 122 RX3 yX3_power wsX3_power) := goodIn_app (goodIn_of _ (by decide +kernel)) ggX5_count_X3_power
set_option maxRecDepth 20000 in
theorem ggX5_count_X3_deadZones : GoodIn wsX5_count wsX3_deadZones := goodIn_r _ [19, 20, 169, 170, 171, 172, 173, 174, 175] (by decide +kernel) (by decide +kernel)
set_option maxRecDepth 20000 in
theorem gX5_count_X3_deadZones : GoodIn wsX5_count (wsV RX5 193 RX3 yX3_deadZones wsX3_deadZones) := goodIn_app (goodIn_of _ (by decide +kernel)) ggX5_count_X3_deadZones
set_option maxRecDepth 20000 in
theorem ggX5_count_X5_greatestGap : GoodIn wsX5_count wsX5_greatestGap := goodIn_r _ [25, 26, 1, 27, 28, 29, 30, 31, 32, 33, 34, 35, 36, 37, 38, 39, 40, 41, 42, 43, 44, 45, 46, 47, 13, 48, 49, 50, 51, 24, 52, 53, 54, 55, 56, 57, 58, 59, 60, 61, 62, 63, 64, 65, 66, 67, 68, 69, 70, 71, 72, 73, 74, 75, 76, 77, 78, 79, 80, 81, 82, 83, 84, 85, 86, 87, 88, 89, 90, 91, 92, 93, 94, 95, 96, 97, 98, 99, 100, 101, 102, 103, 104, 105, 106, 107, 108, 109, 110, 160, 161, 162, 163, 164, 165, 166, 167, 168, 183, 184, 169, 170, 171, 172, 173, 174, 175] (by decide +kernel) (by decide +kernel)
set_option maxRecDepth 20000 in
theorem gX5_count_X5_greatestGap : GoodIn wsX5_count (wsV RX5 196 RX5 yX5_greatestGap wsX5_greatestGap) := goodIn_app (goodIn_of _ (by decide +kernel)) ggX5_count_X5_greatestGap
set_option maxRecDepth 20000 in
theorem ggX5_count_X5_countSpots : GoodIn wsX5_count wsX5_countSpots := goodIn_r _ [114, 115, 1, 116, 117, 118, 119, 120, 121, 122, 123, 124, 125, 126, 127, 128, 129, 130, 131, 132, 133, 134, 135, 136, 137, 138, 139, 140, 141, 13, 142, 15, 143, 77, 78, 79, 80, 81, 24, 82, 29, 30, 31, 32, 33, 34, 35, 83, 84, 85, 61, 62, 51, 52, 53, 54, 55, 144, 145, 146, 147, 50, 148, 149, 150, 93, 94, 151, 108, 109, 110, 152, 153, 154, 155, 156, 157, 158, 159, 160, 161, 162, 163, 164, 165, 166, 167, 168, 185, 186, 187, 188, 189, 169, 170, 171, 172, 173, 174, 175] (by decide +kernel) (by decide +kernel)
set_option maxRecDepth 20000 in
theorem gX5_count_X5_countSpots : GoodIn wsX5_count (wsV RX5 199 RX5 yX5_countSpots wsX5_countSpots) := goodIn_app (goodIn_of _ (by decide +kernel)) ggX5_count_X5_countSpots
theorem dX5_count_0 : decode cX5_count 0 = .ok (.iload_n 1, 1) := by decide +kernel
theorem dX5_count_1 : decode cX5_count 1 = .ok (.ifCond .lt 9, 3) := by decide +kernel
theorem dX5_count_4 : decode cX5_count 4 = .ok (.iload_n 1, 1) := by decide +kernel
theorem dX5_count_5 : decode cX5_count 5 = .ok (.bipush 21, 2) := by decide +kernel
theorem dX5_count_7 : decode cX5_count 7 = .ok (.if_icmp .lt 6, 3) := by decide +kernel
theorem dX5_count_10 : decode cX5_count 10 = .ok (.bipush (-2), 2) := by decide +kernel
theorem dX5_count_12 : decode cX5_count 12 = .ok (.ireturn, 1) := by decide +kernel
theorem dX5_count_13 : decode cX5_count 13 = .ok (.iload_n 1, 1) := by decide +kernel
theorem dX5_count_14 : decode cX5_count 14 = .ok (.bipush 13, 2) := by decide +kernel
theorem dX5_count_16 : decode cX5_count 16 = .ok (.if_icmp .lt 16, 3) := by decide +kernel
theorem dX5_count_19 : decode cX5_count 19 = .ok (.aload_n 0, 1) := by decide +kernel
theorem dX5_count_20 : decode cX5_count 20 = .ok (.getfield 12, 3) := by decide +kernel
theorem dX5_count_23 : decode cX5_count 23 = .ok (.getfield 131, 3) := by decide +kernel
theorem dX5_count_26 : decode cX5_count 26 = .ok (.iload_n 1, 1) := by decide +kernel
theorem dX5_count_27 : decode cX5_count 27 = .ok (.bipush 13, 2) := by decide +kernel
theorem dX5_count_29 : decode cX5_count 29 = .ok (.isub, 1) := by decide +kernel
theorem dX5_count_30 : decode cX5_count 30 = .ok (.iaload, 1) := by decide +kernel
theorem dX5_count_31 : decode cX5_count 31 = .ok (.ireturn, 1) := by decide +kernel
theorem dX5_count_32 : decode cX5_count 32 = .ok (.iload_n 1, 1) := by decide +kernel
theorem dX5_count_33 : decode cX5_count 33 = .ok (.tableswitch 136 0 12 #[67, 75, 83, 91, 136, 136, 136, 136, 136, 99, 107, 120, 128], 67) := by decide +kernel
theorem dX5_count_100 : decode cX5_count 100 = .ok (.aload_n 0, 1) := by decide +kernel
theorem dX5_count_101 : decode cX5_count 101 = .ok (.getfield 12, 3) := by decide +kernel
theorem dX5_count_104 : decode cX5_count 104 = .ok (.getfield 152, 3) := by decide +kernel
theorem dX5_count_107 : decode cX5_count 107 = .ok (.ireturn, 1) := by decide +kernel
theorem dX5_count_108 : decode cX5_count 108 = .ok (.aload_n 0, 1) := by decide +kernel
theorem dX5_count_109 : decode cX5_count 109 = .ok (.getfield 12, 3) := by decide +kernel
theorem dX5_count_112 : decode cX5_count 112 = .ok (.invokevirtual 122, 3) := by decide +kernel
theorem dX5_count_115 : decode cX5_count 115 = .ok (.ireturn, 1) := by decide +kernel
theorem dX5_count_116 : decode cX5_count 116 = .ok (.aload_n 0, 1) := by decide +kernel
theorem dX5_count_117 : decode cX5_count 117 = .ok (.getfield 12, 3) := by decide +kernel
theorem dX5_count_120 : decode cX5_count 120 = .ok (.getfield 187, 3) := by decide +kernel
theorem dX5_count_123 : decode cX5_count 123 = .ok (.ireturn, 1) := by decide +kernel
theorem dX5_count_124 : decode cX5_count 124 = .ok (.aload_n 0, 1) := by decide +kernel
theorem dX5_count_125 : decode cX5_count 125 = .ok (.getfield 12, 3) := by decide +kernel
theorem dX5_count_128 : decode cX5_count 128 = .ok (.getfield 190, 3) := by decide +kernel
theorem dX5_count_131 : decode cX5_count 131 = .ok (.ireturn, 1) := by decide +kernel
theorem dX5_count_132 : decode cX5_count 132 = .ok (.aload_n 0, 1) := by decide +kernel
theorem dX5_count_133 : decode cX5_count 133 = .ok (.getfield 12, 3) := by decide +kernel
theorem dX5_count_136 : decode cX5_count 136 = .ok (.invokevirtual 193, 3) := by decide +kernel
theorem dX5_count_139 : decode cX5_count 139 = .ok (.ireturn, 1) := by decide +kernel
theorem dX5_count_140 : decode cX5_count 140 = .ok (.aload_n 0, 1) := by decide +kernel
theorem dX5_count_141 : decode cX5_count 141 = .ok (.invokevirtual 196, 3) := by decide +kernel
theorem dX5_count_144 : decode cX5_count 144 = .ok (.ifCond .ne 7, 3) := by decide +kernel
theorem dX5_count_147 : decode cX5_count 147 = .ok (.iconst 1, 1) := by decide +kernel
theorem dX5_count_148 : decode cX5_count 148 = .ok (.goto 4, 3) := by decide +kernel
theorem dX5_count_151 : decode cX5_count 151 = .ok (.iconst 0, 1) := by decide +kernel
theorem dX5_count_152 : decode cX5_count 152 = .ok (.ireturn, 1) := by decide +kernel
theorem dX5_count_153 : decode cX5_count 153 = .ok (.aload_n 0, 1) := by decide +kernel
theorem dX5_count_154 : decode cX5_count 154 = .ok (.getfield 26, 3) := by decide +kernel
theorem dX5_count_157 : decode cX5_count 157 = .ok (.getfield 146, 3) := by decide +kernel
theorem dX5_count_160 : decode cX5_count 160 = .ok (.ireturn, 1) := by decide +kernel
theorem dX5_count_161 : decode cX5_count 161 = .ok (.aload_n 0, 1) := by decide +kernel
theorem dX5_count_162 : decode cX5_count 162 = .ok (.getfield 33, 3) := by decide +kernel
theorem dX5_count_165 : decode cX5_count 165 = .ok (.getfield 138, 3) := by decide +kernel
theorem dX5_count_168 : decode cX5_count 168 = .ok (.ireturn, 1) := by decide +kernel
theorem dX5_count_169 : decode cX5_count 169 = .ok (.aload_n 0, 1) := by decide +kernel
theorem dX5_count_170 : decode cX5_count 170 = .ok (.iload_n 1, 1) := by decide +kernel
theorem dX5_count_171 : decode cX5_count 171 = .ok (.invokevirtual 199, 3) := by decide +kernel
theorem dX5_count_174 : decode cX5_count 174 = .ok (.ireturn, 1) := by decide +kernel
set_option maxRecDepth 20000 in
theorem ggX5_meanShown_X4_takeAll : GoodIn wsX5_meanShown wsX4_takeAll := goodIn_r _ [9, 10, 11, 12, 8, 13, 14, 15, 16, 17, 18, 19, 20, 21, 22, 23, 24, 25, 26, 27, 28, 29, 30, 31, 32, 33, 34, 35, 36, 37, 38, 39, 40, 41, 42, 43, 44, 45, 46, 47, 48, 49, 50, 51, 52, 53, 54, 55, 56, 57, 58, 59, 60, 61, 62, 63, 64, 65, 66, 67, 68, 69, 70, 71, 72, 73, 74, 75, 76, 86, 87, 88, 89, 90, 91, 92, 93, 94, 95, 96, 97] (by decide +kernel) (by decide +kernel)
set_option maxRecDepth 20000 in
theorem gX5_meanShown_X4_takeAll : GoodIn wsX5_meanShown (wsV RX5 202 RX4 yX4_takeAll wsX4_takeAll) := goodIn_app (goodIn_of _ (by decide +kernel)) ggX5_meanShown_X4_takeAll
theorem dX5_meanShown_0 : decode cX5_meanShown 0 = .ok (.aload_n 0, 1) := by decide +kernel
theorem dX5_meanShown_1 : decode cX5_meanShown 1 = .ok (.getfield 50, 3) := by decide +kernel
theorem dX5_meanShown_4 : decode cX5_meanShown 4 = .ok (.aload_n 0, 1) := by decide +kernel
theorem dX5_meanShown_5 : decode cX5_meanShown 5 = .ok (.getfield 12, 3) := by decide +kernel
theorem dX5_meanShown_8 : decode cX5_meanShown 8 = .ok (.invokevirtual 202, 3) := by decide +kernel
theorem dX5_meanShown_11 : decode cX5_meanShown 11 = .ok (.aload_n 0, 1) := by decide +kernel
theorem dX5_meanShown_12 : decode cX5_meanShown 12 = .ok (.getfield 50, 3) := by decide +kernel
theorem dX5_meanShown_15 : decode cX5_meanShown 15 = .ok (.getfield 205, 3) := by decide +kernel
theorem dX5_meanShown_18 : decode cX5_meanShown 18 = .ok (.i2d, 1) := by decide +kernel
theorem dX5_meanShown_19 : decode cX5_meanShown 19 = .ok (.ldc2_w 207, 3) := by decide +kernel
theorem dX5_meanShown_22 : decode cX5_meanShown 22 = .ok (.ddiv, 1) := by decide +kernel
theorem dX5_meanShown_23 : decode cX5_meanShown 23 = .ok (.dreturn, 1) := by decide +kernel
set_option maxRecDepth 20000 in
theorem ggX5_restsIn_X5_greatestGap : GoodIn wsX5_restsIn wsX5_greatestGap := goodIn_r _ [7, 8, 1, 9, 10, 11, 12, 13, 14, 15, 16, 17, 18, 19, 20, 21, 22, 23, 24, 25, 26, 27, 28, 29, 30, 31, 32, 33, 34, 6, 35, 36, 37, 38, 39, 40, 41, 42, 43, 44, 45, 46, 47, 48, 49, 50, 51, 52, 53, 54, 55, 56, 57, 58, 59, 60, 61, 62, 63, 64, 65, 66, 67, 68, 69, 70, 71, 72, 73, 74, 75, 76, 77, 78, 79, 80, 81, 82, 83, 84, 85, 86, 87, 88, 89, 90, 91, 92, 93, 95, 96, 97, 98, 99, 100, 101, 102, 103, 111, 112, 104, 105, 106, 107, 108, 109, 110] (by decide +kernel) (by decide +kernel)
set_option maxRecDepth 20000 in
theorem gX5_restsIn_X5_greatestGap : GoodIn wsX5_restsIn (wsV RX5 196 RX5 yX5_greatestGap wsX5_greatestGap) := goodIn_app (goodIn_of _ (by decide +kernel)) ggX5_restsIn_X5_greatestGap
set_option maxRecDepth 20000 in
theorem ggX5_restsIn_X5_roundedUp : GoodIn wsX5_restsIn wsX5_roundedUp := goodIn_r _ [77] (by decide +kernel) (by decide +kernel)
set_option maxRecDepth 20000 in
theorem gX5_restsIn_X5_roundedUp : GoodIn wsX5_restsIn (va_wsS RX5 209 yX5_roundedUp wsX5_roundedUp) := goodIn_app (goodIn_of _ (by decide +kernel)) ggX5_restsIn_X5_roundedUp
theorem dX5_restsIn_0 : decode cX5_restsIn 0 = .ok (.aload_n 0, 1) := by decide +kernel
theorem dX5_restsIn_1 : decode cX5_restsIn 1 = .ok (.invokevirtual 196, 3) := by decide +kernel
theorem dX5_restsIn_4 : decode cX5_restsIn 4 = .ok (.aload_n 0, 1) := by decide +kernel
theorem dX5_restsIn_5 : decode cX5_restsIn 5 = .ok (.getfield 12, 3) := by decide +kernel
theorem dX5_restsIn_8 : decode cX5_restsIn 8 = .ok (.getfield 131, 3) := by decide +kernel
theorem dX5_restsIn_11 : decode cX5_restsIn 11 = .ok (.bipush 7, 2) := by decide +kernel
theorem dX5_restsIn_13 : decode cX5_restsIn 13 = .ok (.iaload, 1) := by decide +kernel
theorem dX5_restsIn_14 : decode cX5_restsIn 14 = .ok (.invokestatic 209, 3) := by decide +kernel
theorem dX5_restsIn_17 : decode cX5_restsIn 17 = .ok (.ireturn, 1) := by decide +kernel
set_option maxRecDepth 20000 in
theorem ggX5_ifRule_X3_copyFrom : GoodIn wsX5_ifRule wsX3_copyFrom := goodIn_r _ [12, 13, 14, 15, 16, 17, 18, 19, 20, 21, 22, 23, 166, 167, 168, 169, 170, 171, 172] (by decide +kernel) (by decide +kernel)
set_option maxRecDepth 20000 in
theorem gX5_ifRule_X3_copyFrom : GoodIn wsX5_ifRule (wsV RX5 149 RX3 yX3_copyFrom wsX3_copyFrom) := goodIn_app (goodIn_of _ (by decide +kernel)) ggX5_ifRule_X3_copyFrom
set_option maxRecDepth 20000 in
theorem ggX5_ifRule_X5_settleTrial : GoodIn wsX5_ifRule wsX5_settleTrial := goodIn_r _ [28, 29, 1, 30, 31, 32, 15, 16, 17, 4, 33, 34, 35, 36, 37, 38, 39, 40, 41, 42, 43, 44, 11, 45, 13, 46, 47, 48, 49, 50, 27, 51, 52, 53, 54, 55, 56, 57, 58, 59, 60, 61, 62, 63, 64, 65, 66, 67, 68, 69, 70, 71, 72, 73, 74, 75, 76, 77, 78, 19, 79, 80, 81, 82, 83, 84, 85, 86, 87, 88, 89, 90, 91, 92, 93, 94, 95, 96, 97, 98, 99, 100, 101, 102, 103, 104, 105, 106, 107, 108, 109, 110, 111, 112, 113, 114, 115, 116, 117, 118, 119, 120, 121, 122, 123, 124, 125, 126, 127, 128, 129, 130, 131, 132, 133, 134, 135, 18, 136, 137, 138, 139, 140, 141, 142, 143, 144, 145, 146, 147, 148, 149, 150, 151, 152, 157, 158, 159, 160, 161, 162, 163, 164, 165, 178, 179, 166, 167, 168, 169, 170, 171, 172, 173, 174, 175, 176, 177] (by decide +kernel) (by decide +kernel)
set_option maxRecDepth 20000 in
theorem gX5_ifRule_X5_settleTrial : GoodIn wsX5_ifRule (wsV RX5 212 RX5 yX5_settleTrial wsX5_settleTrial) := goodIn_app (goodIn_of _ (by decide +kernel)) ggX5_ifRule_X5_settleTrial
set_option maxRecDepth 20000 in
theorem ggX5_ifRule_X3_power : GoodIn wsX5_ifRule wsX3_power := goodIn_r _ [156, 18, 166, 167, 168, 169, 170, 171, 172] (by decide +kernel) (by decide +kernel)
set_option maxRecDepth 20000 in
theorem gX5_ifRule_X3_power : GoodIn wsX5_ifRule (wsV RX5 122 RX3 yX3_power wsX3_power) := goodIn_app (goodIn_of _ (by decide +kernel)) ggX5_ifRule_X3_power
theorem dX5_ifRule_0 : decode cX5_ifRule 0 = .ok (.iload_n 1, 1) := by decide +kernel
theorem dX5_ifRule_1 : decode cX5_ifRule 1 = .ok (.ifCond .lt 17, 3) := by decide +kernel
theorem dX5_ifRule_4 : decode cX5_ifRule 4 = .ok (.iload_n 1, 1) := by decide +kernel
theorem dX5_ifRule_5 : decode cX5_ifRule 5 = .ok (.iconst 3, 1) := by decide +kernel
theorem dX5_ifRule_6 : decode cX5_ifRule 6 = .ok (.if_icmp .ge 12, 3) := by decide +kernel
theorem dX5_ifRule_9 : decode cX5_ifRule 9 = .ok (.iload_n 2, 1) := by decide +kernel
theorem dX5_ifRule_10 : decode cX5_ifRule 10 = .ok (.ifCond .lt 8, 3) := by decide +kernel
theorem dX5_ifRule_13 : decode cX5_ifRule 13 = .ok (.iload_n 2, 1) := by decide +kernel
theorem dX5_ifRule_14 : decode cX5_ifRule 14 = .ok (.iconst 3, 1) := by decide +kernel
theorem dX5_ifRule_15 : decode cX5_ifRule 15 = .ok (.if_icmp .le 6, 3) := by decide +kernel
theorem dX5_ifRule_18 : decode cX5_ifRule 18 = .ok (.bipush (-2), 2) := by decide +kernel
theorem dX5_ifRule_20 : decode cX5_ifRule 20 = .ok (.ireturn, 1) := by decide +kernel
theorem dX5_ifRule_21 : decode cX5_ifRule 21 = .ok (.aload_n 0, 1) := by decide +kernel
theorem dX5_ifRule_22 : decode cX5_ifRule 22 = .ok (.getfield 37, 3) := by decide +kernel
theorem dX5_ifRule_25 : decode cX5_ifRule 25 = .ok (.aload_n 0, 1) := by decide +kernel
theorem dX5_ifRule_26 : decode cX5_ifRule 26 = .ok (.getfield 12, 3) := by decide +kernel
theorem dX5_ifRule_29 : decode cX5_ifRule 29 = .ok (.invokevirtual 149, 3) := by decide +kernel
theorem dX5_ifRule_32 : decode cX5_ifRule 32 = .ok (.aload_n 0, 1) := by decide +kernel
theorem dX5_ifRule_33 : decode cX5_ifRule 33 = .ok (.getfield 37, 3) := by decide +kernel
theorem dX5_ifRule_36 : decode cX5_ifRule 36 = .ok (.getfield 131, 3) := by decide +kernel
theorem dX5_ifRule_39 : decode cX5_ifRule 39 = .ok (.iconst 3, 1) := by decide +kernel
theorem dX5_ifRule_40 : decode cX5_ifRule 40 = .ok (.iload_n 1, 1) := by decide +kernel
theorem dX5_ifRule_41 : decode cX5_ifRule 41 = .ok (.iastore, 1) := by decide +kernel
theorem dX5_ifRule_42 : decode cX5_ifRule 42 = .ok (.aload_n 0, 1) := by decide +kernel
theorem dX5_ifRule_43 : decode cX5_ifRule 43 = .ok (.invokevirtual 212, 3) := by decide +kernel
theorem dX5_ifRule_46 : decode cX5_ifRule 46 = .ok (.iload_n 2, 1) := by decide +kernel
theorem dX5_ifRule_47 : decode cX5_ifRule 47 = .ok (.tableswitch 49 0 2 #[25, 33, 41], 25) := by decide +kernel
theorem dX5_ifRule_72 : decode cX5_ifRule 72 = .ok (.aload_n 0, 1) := by decide +kernel
theorem dX5_ifRule_73 : decode cX5_ifRule 73 = .ok (.getfield 37, 3) := by decide +kernel
theorem dX5_ifRule_76 : decode cX5_ifRule 76 = .ok (.invokevirtual 122, 3) := by decide +kernel
theorem dX5_ifRule_79 : decode cX5_ifRule 79 = .ok (.ireturn, 1) := by decide +kernel
theorem dX5_ifRule_80 : decode cX5_ifRule 80 = .ok (.aload_n 0, 1) := by decide +kernel
theorem dX5_ifRule_81 : decode cX5_ifRule 81 = .ok (.getfield 50, 3) := by decide +kernel
theorem dX5_ifRule_84 : decode cX5_ifRule 84 = .ok (.getfield 215, 3) := by decide +kernel
theorem dX5_ifRule_87 : decode cX5_ifRule 87 = .ok (.ireturn, 1) := by decide +kernel
theorem dX5_ifRule_88 : decode cX5_ifRule 88 = .ok (.aload_n 0, 1) := by decide +kernel
theorem dX5_ifRule_89 : decode cX5_ifRule 89 = .ok (.getfield 50, 3) := by decide +kernel
theorem dX5_ifRule_92 : decode cX5_ifRule 92 = .ok (.getfield 181, 3) := by decide +kernel
theorem dX5_ifRule_95 : decode cX5_ifRule 95 = .ok (.ireturn, 1) := by decide +kernel
theorem dX5_ifRule_96 : decode cX5_ifRule 96 = .ok (.aload_n 0, 1) := by decide +kernel
theorem dX5_ifRule_97 : decode cX5_ifRule 97 = .ok (.getfield 50, 3) := by decide +kernel
theorem dX5_ifRule_100 : decode cX5_ifRule 100 = .ok (.getfield 184, 3) := by decide +kernel
theorem dX5_ifRule_103 : decode cX5_ifRule 103 = .ok (.ireturn, 1) := by decide +kernel
set_option maxRecDepth 20000 in
theorem ggX5_bestRule_X3_copyFrom : GoodIn wsX5_bestRule wsX3_copyFrom := goodIn_r _ [10, 11, 12, 13, 14, 15, 16, 17, 18, 19, 20, 21, 164, 165, 166, 167, 168, 169, 170] (by decide +kernel) (by decide +kernel)
set_option maxRecDepth 20000 in
theorem gX5_bestRule_X3_copyFrom : GoodIn wsX5_bestRule (wsV RX5 149 RX3 yX3_copyFrom wsX3_copyFrom) := goodIn_app (goodIn_of _ (by decide +kernel)) ggX5_bestRule_X3_copyFrom
set_option maxRecDepth 20000 in
theorem ggX5_bestRule_X5_settleTrial : GoodIn wsX5_bestRule wsX5_settleTrial := goodIn_r _ [26, 27, 1, 28, 29, 30, 13, 14, 15, 4, 31, 32, 33, 34, 35, 36, 37, 38, 39, 40, 41, 42, 9, 43, 11, 44, 45, 46, 47, 48, 25, 49, 50, 51, 52, 53, 54, 55, 56, 57, 58, 59, 60, 61, 62, 63, 64, 65, 66, 67, 68, 69, 70, 71, 72, 73, 74, 75, 76, 17, 77, 78, 79, 80, 81, 82, 83, 84, 85, 86, 87, 88, 89, 90, 91, 92, 93, 94, 95, 96, 97, 98, 99, 100, 101, 102, 103, 104, 105, 106, 107, 108, 109, 110, 111, 112, 113, 114, 115, 116, 117, 118, 119, 120, 121, 122, 123, 124, 125, 126, 127, 128, 129, 130, 131, 132, 133, 16, 134, 135, 136, 137, 138, 139, 140, 141, 142, 143, 144, 145, 146, 147, 148, 149, 150, 155, 156, 157, 158, 159, 160, 161, 162, 163, 176, 177, 164, 165, 166, 167, 168, 169, 170, 171, 172, 173, 174, 175] (by decide +kernel) (by decide +kernel)
set_option maxRecDepth 20000 in
theorem gX5_bestRule_X5_settleTrial : GoodIn wsX5_bestRule (wsV RX5 212 RX5 yX5_settleTrial wsX5_settleTrial) := goodIn_app (goodIn_of _ (by decide +kernel)) ggX5_bestRule_X5_settleTrial
set_option maxRecDepth 20000 in
theorem ggX5_bestRule_X3_power : GoodIn wsX5_bestRule wsX3_power := goodIn_r _ [154, 16, 164, 165, 166, 167, 168, 169, 170] (by decide +kernel) (by decide +kernel)
set_option maxRecDepth 20000 in
theorem gX5_bestRule_X3_power : GoodIn wsX5_bestRule (wsV RX5 122 RX3 yX3_power wsX3_power) := goodIn_app (goodIn_of _ (by decide +kernel)) ggX5_bestRule_X3_power
theorem dX5_bestRule_0 : decode cX5_bestRule 0 = .ok (.iconst 0, 1) := by decide +kernel
theorem dX5_bestRule_1 : decode cX5_bestRule 1 = .ok (.istore_n 1, 1) := by decide +kernel
theorem dX5_bestRule_2 : decode cX5_bestRule 2 = .ok (.iconst 0, 1) := by decide +kernel
theorem dX5_bestRule_3 : decode cX5_bestRule 3 = .ok (.istore_n 2, 1) := by decide +kernel
theorem dX5_bestRule_4 : decode cX5_bestRule 4 = .ok (.iconst 0, 1) := by decide +kernel
theorem dX5_bestRule_5 : decode cX5_bestRule 5 = .ok (.istore_n 3, 1) := by decide +kernel
theorem dX5_bestRule_6 : decode cX5_bestRule 6 = .ok (.iconst 0, 1) := by decide +kernel
theorem dX5_bestRule_7 : decode cX5_bestRule 7 = .ok (.istore 4, 2) := by decide +kernel
theorem dX5_bestRule_9 : decode cX5_bestRule 9 = .ok (.iload 4, 2) := by decide +kernel
theorem dX5_bestRule_11 : decode cX5_bestRule 11 = .ok (.iconst 3, 1) := by decide +kernel
theorem dX5_bestRule_12 : decode cX5_bestRule 12 = .ok (.if_icmp .ge 103, 3) := by decide +kernel
theorem dX5_bestRule_15 : decode cX5_bestRule 15 = .ok (.aload_n 0, 1) := by decide +kernel
theorem dX5_bestRule_16 : decode cX5_bestRule 16 = .ok (.getfield 37, 3) := by decide +kernel
theorem dX5_bestRule_19 : decode cX5_bestRule 19 = .ok (.aload_n 0, 1) := by decide +kernel
theorem dX5_bestRule_20 : decode cX5_bestRule 20 = .ok (.getfield 12, 3) := by decide +kernel
theorem dX5_bestRule_23 : decode cX5_bestRule 23 = .ok (.invokevirtual 149, 3) := by decide +kernel
theorem dX5_bestRule_26 : decode cX5_bestRule 26 = .ok (.aload_n 0, 1) := by decide +kernel
theorem dX5_bestRule_27 : decode cX5_bestRule 27 = .ok (.getfield 37, 3) := by decide +kernel
theorem dX5_bestRule_30 : decode cX5_bestRule 30 = .ok (.getfield 131, 3) := by decide +kernel
theorem dX5_bestRule_33 : decode cX5_bestRule 33 = .ok (.iconst 3, 1) := by decide +kernel
theorem dX5_bestRule_34 : decode cX5_bestRule 34 = .ok (.iload 4, 2) := by decide +kernel
theorem dX5_bestRule_36 : decode cX5_bestRule 36 = .ok (.iastore, 1) := by decide +kernel
theorem dX5_bestRule_37 : decode cX5_bestRule 37 = .ok (.aload_n 0, 1) := by decide +kernel
theorem dX5_bestRule_38 : decode cX5_bestRule 38 = .ok (.invokevirtual 212, 3) := by decide +kernel
theorem dX5_bestRule_41 : decode cX5_bestRule 41 = .ok (.aload_n 0, 1) := by decide +kernel
theorem dX5_bestRule_42 : decode cX5_bestRule 42 = .ok (.getfield 37, 3) := by decide +kernel
theorem dX5_bestRule_45 : decode cX5_bestRule 45 = .ok (.invokevirtual 122, 3) := by decide +kernel
theorem dX5_bestRule_48 : decode cX5_bestRule 48 = .ok (.istore 5, 2) := by decide +kernel
theorem dX5_bestRule_50 : decode cX5_bestRule 50 = .ok (.aload_n 0, 1) := by decide +kernel
theorem dX5_bestRule_51 : decode cX5_bestRule 51 = .ok (.getfield 50, 3) := by decide +kernel
theorem dX5_bestRule_54 : decode cX5_bestRule 54 = .ok (.getfield 215, 3) := by decide +kernel
theorem dX5_bestRule_57 : decode cX5_bestRule 57 = .ok (.iload_n 2, 1) := by decide +kernel
theorem dX5_bestRule_58 : decode cX5_bestRule 58 = .ok (.if_icmp .lt 20, 3) := by decide +kernel
theorem dX5_bestRule_61 : decode cX5_bestRule 61 = .ok (.aload_n 0, 1) := by decide +kernel
theorem dX5_bestRule_62 : decode cX5_bestRule 62 = .ok (.getfield 50, 3) := by decide +kernel
theorem dX5_bestRule_65 : decode cX5_bestRule 65 = .ok (.getfield 215, 3) := by decide +kernel
theorem dX5_bestRule_68 : decode cX5_bestRule 68 = .ok (.iload_n 2, 1) := by decide +kernel
theorem dX5_bestRule_69 : decode cX5_bestRule 69 = .ok (.if_icmp .ne 13, 3) := by decide +kernel
theorem dX5_bestRule_72 : decode cX5_bestRule 72 = .ok (.iload 5, 2) := by decide +kernel
theorem dX5_bestRule_74 : decode cX5_bestRule 74 = .ok (.iload_n 3, 1) := by decide +kernel
theorem dX5_bestRule_75 : decode cX5_bestRule 75 = .ok (.if_icmp .ge 7, 3) := by decide +kernel
theorem dX5_bestRule_78 : decode cX5_bestRule 78 = .ok (.iconst 1, 1) := by decide +kernel
theorem dX5_bestRule_79 : decode cX5_bestRule 79 = .ok (.goto 4, 3) := by decide +kernel
theorem dX5_bestRule_82 : decode cX5_bestRule 82 = .ok (.iconst 0, 1) := by decide +kernel
theorem dX5_bestRule_83 : decode cX5_bestRule 83 = .ok (.istore 6, 2) := by decide +kernel
theorem dX5_bestRule_85 : decode cX5_bestRule 85 = .ok (.iload 4, 2) := by decide +kernel
theorem dX5_bestRule_87 : decode cX5_bestRule 87 = .ok (.ifCond .eq 8, 3) := by decide +kernel
theorem dX5_bestRule_90 : decode cX5_bestRule 90 = .ok (.iload 6, 2) := by decide +kernel
theorem dX5_bestRule_92 : decode cX5_bestRule 92 = .ok (.ifCond .eq 17, 3) := by decide +kernel
theorem dX5_bestRule_95 : decode cX5_bestRule 95 = .ok (.iload 4, 2) := by decide +kernel
theorem dX5_bestRule_97 : decode cX5_bestRule 97 = .ok (.istore_n 1, 1) := by decide +kernel
theorem dX5_bestRule_98 : decode cX5_bestRule 98 = .ok (.aload_n 0, 1) := by decide +kernel
theorem dX5_bestRule_99 : decode cX5_bestRule 99 = .ok (.getfield 50, 3) := by decide +kernel
theorem dX5_bestRule_102 : decode cX5_bestRule 102 = .ok (.getfield 215, 3) := by decide +kernel
theorem dX5_bestRule_105 : decode cX5_bestRule 105 = .ok (.istore_n 2, 1) := by decide +kernel
theorem dX5_bestRule_106 : decode cX5_bestRule 106 = .ok (.iload 5, 2) := by decide +kernel
theorem dX5_bestRule_108 : decode cX5_bestRule 108 = .ok (.istore_n 3, 1) := by decide +kernel
theorem dX5_bestRule_109 : decode cX5_bestRule 109 = .ok (.iinc 4 1, 3) := by decide +kernel
theorem dX5_bestRule_112 : decode cX5_bestRule 112 = .ok (.goto (-103), 3) := by decide +kernel
theorem dX5_bestRule_115 : decode cX5_bestRule 115 = .ok (.iload_n 1, 1) := by decide +kernel
theorem dX5_bestRule_116 : decode cX5_bestRule 116 = .ok (.ireturn, 1) := by decide +kernel
set_option maxRecDepth 20000 in
theorem ggX5_leastStep_X5_greatestGap : GoodIn wsX5_leastStep wsX5_greatestGap := goodIn_r _ [5, 6, 7, 8, 9, 10, 11, 12, 13, 14, 15, 16, 17, 18, 19, 20, 21, 22, 23, 24, 25, 26, 27, 28, 29, 30, 31, 32, 33, 4, 34, 35, 36, 37, 38, 39, 40, 41, 42, 43, 44, 45, 46, 47, 48, 49, 50, 51, 52, 53, 54, 55, 56, 57, 58, 59, 60, 61, 62, 63, 64, 65, 66, 67, 68, 69, 70, 71, 72, 73, 74, 75, 76, 77, 78, 79, 80, 81, 82, 83, 84, 85, 86, 87, 88, 89, 90, 91, 92, 94, 95, 96, 97, 98, 99, 100, 101, 102, 103, 104, 105, 106, 107, 108, 109, 110, 111] (by decide +kernel) (by decide +kernel)
set_option maxRecDepth 20000 in
theorem gX5_leastStep_X5_greatestGap : GoodIn wsX5_leastStep (wsV RX5 196 RX5 yX5_greatestGap wsX5_greatestGap) := goodIn_app (goodIn_of _ (by decide +kernel)) ggX5_leastStep_X5_greatestGap
set_option maxRecDepth 20000 in
theorem ggX5_leastStep_X5_roundedUp : GoodIn wsX5_leastStep wsX5_roundedUp := goodIn_r _ [76] (by decide +kernel) (by decide +kernel)
set_option maxRecDepth 20000 in
theorem gX5_leastStep_X5_roundedUp : GoodIn wsX5_leastStep (va_wsS RX5 209 yX5_roundedUp wsX5_roundedUp) := goodIn_app (goodIn_of _ (by decide +kernel)) ggX5_leastStep_X5_roundedUp
theorem dX5_leastStep_0 : decode cX5_leastStep 0 = .ok (.iload_n 1, 1) := by decide +kernel
theorem dX5_leastStep_1 : decode cX5_leastStep 1 = .ok (.iconst 1, 1) := by decide +kernel
theorem dX5_leastStep_2 : decode cX5_leastStep 2 = .ok (.if_icmp .lt 10, 3) := by decide +kernel
theorem dX5_leastStep_5 : decode cX5_leastStep 5 = .ok (.iload_n 1, 1) := by decide +kernel
theorem dX5_leastStep_6 : decode cX5_leastStep 6 = .ok (.sipush 255, 3) := by decide +kernel
theorem dX5_leastStep_9 : decode cX5_leastStep 9 = .ok (.if_icmp .le 6, 3) := by decide +kernel
theorem dX5_leastStep_12 : decode cX5_leastStep 12 = .ok (.bipush (-2), 2) := by decide +kernel
theorem dX5_leastStep_14 : decode cX5_leastStep 14 = .ok (.ireturn, 1) := by decide +kernel
theorem dX5_leastStep_15 : decode cX5_leastStep 15 = .ok (.aload_n 0, 1) := by decide +kernel
theorem dX5_leastStep_16 : decode cX5_leastStep 16 = .ok (.invokevirtual 196, 3) := by decide +kernel
theorem dX5_leastStep_19 : decode cX5_leastStep 19 = .ok (.iload_n 1, 1) := by decide +kernel
theorem dX5_leastStep_20 : decode cX5_leastStep 20 = .ok (.invokestatic 209, 3) := by decide +kernel
theorem dX5_leastStep_23 : decode cX5_leastStep 23 = .ok (.ireturn, 1) := by decide +kernel
set_option maxRecDepth 20000 in
theorem ggX5_dearest_X3_copyFrom : GoodIn wsX5_dearest wsX3_copyFrom := goodIn_r _ [10, 11, 12, 13, 14, 15, 16, 17, 18, 19, 20, 21, 160, 161, 162, 163, 164, 165, 166] (by decide +kernel) (by decide +kernel)
set_option maxRecDepth 20000 in
theorem gX5_dearest_X3_copyFrom : GoodIn wsX5_dearest (wsV RX5 149 RX3 yX3_copyFrom wsX3_copyFrom) := goodIn_app (goodIn_of _ (by decide +kernel)) ggX5_dearest_X3_copyFrom
set_option maxRecDepth 20000 in
theorem ggX5_dearest_X5_settleTrial : GoodIn wsX5_dearest wsX5_settleTrial := goodIn_r _ [26, 27, 3, 28, 29, 30, 13, 14, 15, 4, 31, 32, 33, 34, 35, 36, 37, 38, 39, 40, 41, 42, 9, 43, 11, 44, 45, 46, 47, 48, 25, 49, 50, 51, 52, 53, 54, 55, 56, 57, 58, 59, 60, 61, 62, 63, 64, 65, 66, 67, 68, 69, 70, 71, 72, 73, 74, 75, 76, 17, 77, 78, 79, 80, 81, 82, 83, 84, 85, 86, 87, 88, 89, 90, 91, 92, 93, 94, 95, 96, 97, 98, 99, 100, 101, 102, 103, 104, 105, 106, 107, 108, 109, 110, 111, 112, 113, 114, 115, 116, 117, 118, 119, 120, 121, 122, 123, 124, 125, 126, 127, 128, 129, 130, 131, 132, 133, 16, 134, 135, 136, 137, 138, 139, 140, 141, 142, 143, 144, 145, 146, 147, 148, 149, 150, 151, 152, 153, 154, 155, 156, 157, 158, 159, 172, 173, 160, 161, 162, 163, 164, 165, 166, 167, 168, 169, 170, 171] (by decide +kernel) (by decide +kernel)
set_option maxRecDepth 20000 in
theorem gX5_dearest_X5_settleTrial : GoodIn wsX5_dearest (wsV RX5 212 RX5 yX5_settleTrial wsX5_settleTrial) := goodIn_app (goodIn_of _ (by decide +kernel)) ggX5_dearest_X5_settleTrial
theorem dX5_dearest_0 : decode cX5_dearest 0 = .ok (.iload_n 1, 1) := by decide +kernel
theorem dX5_dearest_1 : decode cX5_dearest 1 = .ok (.ifCond .lt 8, 3) := by decide +kernel
theorem dX5_dearest_4 : decode cX5_dearest 4 = .ok (.iload_n 1, 1) := by decide +kernel
theorem dX5_dearest_5 : decode cX5_dearest 5 = .ok (.iconst 1, 1) := by decide +kernel
theorem dX5_dearest_6 : decode cX5_dearest 6 = .ok (.if_icmp .le 6, 3) := by decide +kernel
theorem dX5_dearest_9 : decode cX5_dearest 9 = .ok (.bipush (-2), 2) := by decide +kernel
theorem dX5_dearest_11 : decode cX5_dearest 11 = .ok (.ireturn, 1) := by decide +kernel
theorem dX5_dearest_12 : decode cX5_dearest 12 = .ok (.bipush (-5), 2) := by decide +kernel
theorem dX5_dearest_14 : decode cX5_dearest 14 = .ok (.istore_n 2, 1) := by decide +kernel
theorem dX5_dearest_15 : decode cX5_dearest 15 = .ok (.bipush (-5), 2) := by decide +kernel
theorem dX5_dearest_17 : decode cX5_dearest 17 = .ok (.istore_n 3, 1) := by decide +kernel
theorem dX5_dearest_18 : decode cX5_dearest 18 = .ok (.iconst 0, 1) := by decide +kernel
theorem dX5_dearest_19 : decode cX5_dearest 19 = .ok (.istore 4, 2) := by decide +kernel
theorem dX5_dearest_21 : decode cX5_dearest 21 = .ok (.iload 4, 2) := by decide +kernel
theorem dX5_dearest_23 : decode cX5_dearest 23 = .ok (.bipush 18, 2) := by decide +kernel
theorem dX5_dearest_25 : decode cX5_dearest 25 = .ok (.if_icmp .ge 70, 3) := by decide +kernel
theorem dX5_dearest_28 : decode cX5_dearest 28 = .ok (.aload_n 0, 1) := by decide +kernel
theorem dX5_dearest_29 : decode cX5_dearest 29 = .ok (.getfield 12, 3) := by decide +kernel
theorem dX5_dearest_32 : decode cX5_dearest 32 = .ok (.getfield 107, 3) := by decide +kernel
theorem dX5_dearest_35 : decode cX5_dearest 35 = .ok (.iload 4, 2) := by decide +kernel
theorem dX5_dearest_37 : decode cX5_dearest 37 = .ok (.baload, 1) := by decide +kernel
theorem dX5_dearest_38 : decode cX5_dearest 38 = .ok (.ifCond .ne 51, 3) := by decide +kernel
theorem dX5_dearest_41 : decode cX5_dearest 41 = .ok (.aload_n 0, 1) := by decide +kernel
theorem dX5_dearest_42 : decode cX5_dearest 42 = .ok (.getfield 37, 3) := by decide +kernel
theorem dX5_dearest_45 : decode cX5_dearest 45 = .ok (.aload_n 0, 1) := by decide +kernel
theorem dX5_dearest_46 : decode cX5_dearest 46 = .ok (.getfield 12, 3) := by decide +kernel
theorem dX5_dearest_49 : decode cX5_dearest 49 = .ok (.invokevirtual 149, 3) := by decide +kernel
theorem dX5_dearest_52 : decode cX5_dearest 52 = .ok (.aload_n 0, 1) := by decide +kernel
theorem dX5_dearest_53 : decode cX5_dearest 53 = .ok (.getfield 37, 3) := by decide +kernel
theorem dX5_dearest_56 : decode cX5_dearest 56 = .ok (.getfield 107, 3) := by decide +kernel
theorem dX5_dearest_59 : decode cX5_dearest 59 = .ok (.iload 4, 2) := by decide +kernel
theorem dX5_dearest_61 : decode cX5_dearest 61 = .ok (.iconst 1, 1) := by decide +kernel
theorem dX5_dearest_62 : decode cX5_dearest 62 = .ok (.bastore, 1) := by decide +kernel
theorem dX5_dearest_63 : decode cX5_dearest 63 = .ok (.aload_n 0, 1) := by decide +kernel
theorem dX5_dearest_64 : decode cX5_dearest 64 = .ok (.invokevirtual 212, 3) := by decide +kernel
theorem dX5_dearest_67 : decode cX5_dearest 67 = .ok (.aload_n 0, 1) := by decide +kernel
theorem dX5_dearest_68 : decode cX5_dearest 68 = .ok (.getfield 50, 3) := by decide +kernel
theorem dX5_dearest_71 : decode cX5_dearest 71 = .ok (.getfield 215, 3) := by decide +kernel
theorem dX5_dearest_74 : decode cX5_dearest 74 = .ok (.iload_n 3, 1) := by decide +kernel
theorem dX5_dearest_75 : decode cX5_dearest 75 = .ok (.if_icmp .le 14, 3) := by decide +kernel
theorem dX5_dearest_78 : decode cX5_dearest 78 = .ok (.iload 4, 2) := by decide +kernel
theorem dX5_dearest_80 : decode cX5_dearest 80 = .ok (.istore_n 2, 1) := by decide +kernel
theorem dX5_dearest_81 : decode cX5_dearest 81 = .ok (.aload_n 0, 1) := by decide +kernel
theorem dX5_dearest_82 : decode cX5_dearest 82 = .ok (.getfield 50, 3) := by decide +kernel
theorem dX5_dearest_85 : decode cX5_dearest 85 = .ok (.getfield 215, 3) := by decide +kernel
theorem dX5_dearest_88 : decode cX5_dearest 88 = .ok (.istore_n 3, 1) := by decide +kernel
theorem dX5_dearest_89 : decode cX5_dearest 89 = .ok (.iinc 4 1, 3) := by decide +kernel
theorem dX5_dearest_92 : decode cX5_dearest 92 = .ok (.goto (-71), 3) := by decide +kernel
theorem dX5_dearest_95 : decode cX5_dearest 95 = .ok (.iload_n 1, 1) := by decide +kernel
theorem dX5_dearest_96 : decode cX5_dearest 96 = .ok (.ifCond .ne 7, 3) := by decide +kernel
theorem dX5_dearest_99 : decode cX5_dearest 99 = .ok (.iload_n 2, 1) := by decide +kernel
theorem dX5_dearest_100 : decode cX5_dearest 100 = .ok (.goto 4, 3) := by decide +kernel
theorem dX5_dearest_103 : decode cX5_dearest 103 = .ok (.iload_n 3, 1) := by decide +kernel
theorem dX5_dearest_104 : decode cX5_dearest 104 = .ok (.ireturn, 1) := by decide +kernel
theorem dX5_rememberPicture_0 : decode cX5_rememberPicture 0 = .ok (.aload_n 0, 1) := by decide +kernel
theorem dX5_rememberPicture_1 : decode cX5_rememberPicture 1 = .ok (.getfield 12, 3) := by decide +kernel
theorem dX5_rememberPicture_4 : decode cX5_rememberPicture 4 = .ok (.getfield 66, 3) := by decide +kernel
theorem dX5_rememberPicture_7 : decode cX5_rememberPicture 7 = .ok (.iconst 0, 1) := by decide +kernel
theorem dX5_rememberPicture_8 : decode cX5_rememberPicture 8 = .ok (.aload_n 0, 1) := by decide +kernel
theorem dX5_rememberPicture_9 : decode cX5_rememberPicture 9 = .ok (.getfield 54, 3) := by decide +kernel
theorem dX5_rememberPicture_12 : decode cX5_rememberPicture 12 = .ok (.iconst 0, 1) := by decide +kernel
theorem dX5_rememberPicture_13 : decode cX5_rememberPicture 13 = .ok (.sipush 288, 3) := by decide +kernel
theorem dX5_rememberPicture_16 : decode cX5_rememberPicture 16 = .ok (.invokestatic 218, 3) := by decide +kernel
theorem dX5_rememberPicture_19 : decode cX5_rememberPicture 19 = .ok (.return_, 1) := by decide +kernel
theorem dX5_changedSpots_0 : decode cX5_changedSpots 0 = .ok (.iconst 0, 1) := by decide +kernel
theorem dX5_changedSpots_1 : decode cX5_changedSpots 1 = .ok (.istore_n 1, 1) := by decide +kernel
theorem dX5_changedSpots_2 : decode cX5_changedSpots 2 = .ok (.iconst 0, 1) := by decide +kernel
theorem dX5_changedSpots_3 : decode cX5_changedSpots 3 = .ok (.istore_n 2, 1) := by decide +kernel
theorem dX5_changedSpots_4 : decode cX5_changedSpots 4 = .ok (.iload_n 2, 1) := by decide +kernel
theorem dX5_changedSpots_5 : decode cX5_changedSpots 5 = .ok (.sipush 288, 3) := by decide +kernel
theorem dX5_changedSpots_8 : decode cX5_changedSpots 8 = .ok (.if_icmp .ge 30, 3) := by decide +kernel
theorem dX5_changedSpots_11 : decode cX5_changedSpots 11 = .ok (.aload_n 0, 1) := by decide +kernel
theorem dX5_changedSpots_12 : decode cX5_changedSpots 12 = .ok (.getfield 12, 3) := by decide +kernel
theorem dX5_changedSpots_15 : decode cX5_changedSpots 15 = .ok (.getfield 66, 3) := by decide +kernel
theorem dX5_changedSpots_18 : decode cX5_changedSpots 18 = .ok (.iload_n 2, 1) := by decide +kernel
theorem dX5_changedSpots_19 : decode cX5_changedSpots 19 = .ok (.iaload, 1) := by decide +kernel
theorem dX5_changedSpots_20 : decode cX5_changedSpots 20 = .ok (.aload_n 0, 1) := by decide +kernel
theorem dX5_changedSpots_21 : decode cX5_changedSpots 21 = .ok (.getfield 54, 3) := by decide +kernel
theorem dX5_changedSpots_24 : decode cX5_changedSpots 24 = .ok (.iload_n 2, 1) := by decide +kernel
theorem dX5_changedSpots_25 : decode cX5_changedSpots 25 = .ok (.iaload, 1) := by decide +kernel
theorem dX5_changedSpots_26 : decode cX5_changedSpots 26 = .ok (.if_icmp .eq 6, 3) := by decide +kernel
theorem dX5_changedSpots_29 : decode cX5_changedSpots 29 = .ok (.iinc 1 1, 3) := by decide +kernel
theorem dX5_changedSpots_32 : decode cX5_changedSpots 32 = .ok (.iinc 2 1, 3) := by decide +kernel
theorem dX5_changedSpots_35 : decode cX5_changedSpots 35 = .ok (.goto (-31), 3) := by decide +kernel
theorem dX5_changedSpots_38 : decode cX5_changedSpots 38 = .ok (.iload_n 1, 1) := by decide +kernel
theorem dX5_changedSpots_39 : decode cX5_changedSpots 39 = .ok (.ireturn, 1) := by decide +kernel
set_option maxRecDepth 20000 in
theorem ggX5_countSpots_X4_takeAll : GoodIn wsX5_countSpots wsX4_takeAll := goodIn_r _ [11, 12, 13, 14, 10, 15, 16, 17, 18, 19, 20, 21, 22, 23, 24, 25, 26, 27, 28, 29, 30, 31, 32, 33, 34, 35, 36, 37, 38, 39, 40, 41, 42, 43, 44, 45, 46, 47, 48, 49, 50, 51, 52, 53, 54, 55, 56, 57, 58, 59, 60, 61, 62, 63, 64, 65, 66, 67, 68, 69, 70, 71, 72, 73, 74, 75, 76, 77, 78, 88, 89, 90, 91, 92, 93, 94, 95, 96, 97, 98, 99] (by decide +kernel) (by decide +kernel)
set_option maxRecDepth 20000 in
theorem gX5_countSpots_X4_takeAll : GoodIn wsX5_countSpots (wsV RX5 202 RX4 yX4_takeAll wsX4_takeAll) := goodIn_app (goodIn_of _ (by decide +kernel)) ggX5_countSpots_X4_takeAll
theorem dX5_countSpots_0 : decode cX5_countSpots 0 = .ok (.aload_n 0, 1) := by decide +kernel
theorem dX5_countSpots_1 : decode cX5_countSpots 1 = .ok (.getfield 50, 3) := by decide +kernel
theorem dX5_countSpots_4 : decode cX5_countSpots 4 = .ok (.aload_n 0, 1) := by decide +kernel
theorem dX5_countSpots_5 : decode cX5_countSpots 5 = .ok (.getfield 12, 3) := by decide +kernel
theorem dX5_countSpots_8 : decode cX5_countSpots 8 = .ok (.invokevirtual 202, 3) := by decide +kernel
theorem dX5_countSpots_11 : decode cX5_countSpots 11 = .ok (.iload_n 1, 1) := by decide +kernel
theorem dX5_countSpots_12 : decode cX5_countSpots 12 = .ok (.tableswitch 76 4 7 #[32, 52, 60, 68], 32) := by decide +kernel
theorem dX5_countSpots_44 : decode cX5_countSpots 44 = .ok (.sipush 288, 3) := by decide +kernel
theorem dX5_countSpots_47 : decode cX5_countSpots 47 = .ok (.aload_n 0, 1) := by decide +kernel
theorem dX5_countSpots_48 : decode cX5_countSpots 48 = .ok (.getfield 50, 3) := by decide +kernel
theorem dX5_countSpots_51 : decode cX5_countSpots 51 = .ok (.getfield 181, 3) := by decide +kernel
theorem dX5_countSpots_54 : decode cX5_countSpots 54 = .ok (.isub, 1) := by decide +kernel
theorem dX5_countSpots_55 : decode cX5_countSpots 55 = .ok (.aload_n 0, 1) := by decide +kernel
theorem dX5_countSpots_56 : decode cX5_countSpots 56 = .ok (.getfield 50, 3) := by decide +kernel
theorem dX5_countSpots_59 : decode cX5_countSpots 59 = .ok (.getfield 184, 3) := by decide +kernel
theorem dX5_countSpots_62 : decode cX5_countSpots 62 = .ok (.isub, 1) := by decide +kernel
theorem dX5_countSpots_63 : decode cX5_countSpots 63 = .ok (.ireturn, 1) := by decide +kernel
theorem dX5_countSpots_64 : decode cX5_countSpots 64 = .ok (.aload_n 0, 1) := by decide +kernel
theorem dX5_countSpots_65 : decode cX5_countSpots 65 = .ok (.getfield 50, 3) := by decide +kernel
theorem dX5_countSpots_68 : decode cX5_countSpots 68 = .ok (.getfield 181, 3) := by decide +kernel
theorem dX5_countSpots_71 : decode cX5_countSpots 71 = .ok (.ireturn, 1) := by decide +kernel
theorem dX5_countSpots_72 : decode cX5_countSpots 72 = .ok (.aload_n 0, 1) := by decide +kernel
theorem dX5_countSpots_73 : decode cX5_countSpots 73 = .ok (.getfield 50, 3) := by decide +kernel
theorem dX5_countSpots_76 : decode cX5_countSpots 76 = .ok (.getfield 184, 3) := by decide +kernel
theorem dX5_countSpots_79 : decode cX5_countSpots 79 = .ok (.ireturn, 1) := by decide +kernel
theorem dX5_countSpots_80 : decode cX5_countSpots 80 = .ok (.aload_n 0, 1) := by decide +kernel
theorem dX5_countSpots_81 : decode cX5_countSpots 81 = .ok (.getfield 50, 3) := by decide +kernel
theorem dX5_countSpots_84 : decode cX5_countSpots 84 = .ok (.getfield 215, 3) := by decide +kernel
theorem dX5_countSpots_87 : decode cX5_countSpots 87 = .ok (.ireturn, 1) := by decide +kernel
theorem dX5_countSpots_88 : decode cX5_countSpots 88 = .ok (.aload_n 0, 1) := by decide +kernel
theorem dX5_countSpots_89 : decode cX5_countSpots 89 = .ok (.getfield 50, 3) := by decide +kernel
theorem dX5_countSpots_92 : decode cX5_countSpots 92 = .ok (.getfield 224, 3) := by decide +kernel
theorem dX5_countSpots_95 : decode cX5_countSpots 95 = .ok (.ireturn, 1) := by decide +kernel
set_option maxRecDepth 20000 in
theorem ggX5_greatestGap_X2_make : GoodIn wsX5_greatestGap wsX2_make := goodIn_r _ [16, 17, 18, 19, 20, 21, 22, 23, 24, 25, 26, 27, 10, 7, 11, 28, 29, 30, 31, 32, 33, 34, 35, 36, 15, 37, 38, 39, 40, 41, 42, 43, 44, 45, 46, 47, 48, 49, 50, 51, 52, 53, 54, 55, 56, 57, 58, 59, 60, 5, 6, 8, 9, 61, 62, 63, 64, 65, 66, 67, 68, 69, 70, 71, 72, 73, 74, 75, 76, 77, 78, 79, 80, 81, 82, 83, 84, 85, 86, 87, 88, 98, 99, 100, 101, 102, 103, 104, 105, 106] (by decide +kernel) (by decide +kernel)
set_option maxRecDepth 20000 in
theorem gX5_greatestGap_X2_make : GoodIn wsX5_greatestGap (wsV RX5 114 RX2 yX2_make wsX2_make) := goodIn_app (goodIn_of _ (by decide +kernel)) ggX5_greatestGap_X2_make
theorem dX5_greatestGap_0 : decode cX5_greatestGap 0 = .ok (.aload_n 0, 1) := by decide +kernel
theorem dX5_greatestGap_1 : decode cX5_greatestGap 1 = .ok (.getfield 43, 3) := by decide +kernel
theorem dX5_greatestGap_4 : decode cX5_greatestGap 4 = .ok (.aload_n 0, 1) := by decide +kernel
theorem dX5_greatestGap_5 : decode cX5_greatestGap 5 = .ok (.getfield 12, 3) := by decide +kernel
theorem dX5_greatestGap_8 : decode cX5_greatestGap 8 = .ok (.invokevirtual 114, 3) := by decide +kernel
theorem dX5_greatestGap_11 : decode cX5_greatestGap 11 = .ok (.iconst 0, 1) := by decide +kernel
theorem dX5_greatestGap_12 : decode cX5_greatestGap 12 = .ok (.istore_n 1, 1) := by decide +kernel
theorem dX5_greatestGap_13 : decode cX5_greatestGap 13 = .ok (.iconst 0, 1) := by decide +kernel
theorem dX5_greatestGap_14 : decode cX5_greatestGap 14 = .ok (.istore_n 2, 1) := by decide +kernel
theorem dX5_greatestGap_15 : decode cX5_greatestGap 15 = .ok (.iload_n 2, 1) := by decide +kernel
theorem dX5_greatestGap_16 : decode cX5_greatestGap 16 = .ok (.bipush 18, 2) := by decide +kernel
theorem dX5_greatestGap_18 : decode cX5_greatestGap 18 = .ok (.if_icmp .ge 36, 3) := by decide +kernel
theorem dX5_greatestGap_21 : decode cX5_greatestGap 21 = .ok (.iload_n 1, 1) := by decide +kernel
theorem dX5_greatestGap_22 : decode cX5_greatestGap 22 = .ok (.aload_n 0, 1) := by decide +kernel
theorem dX5_greatestGap_23 : decode cX5_greatestGap 23 = .ok (.getfield 43, 3) := by decide +kernel
theorem dX5_greatestGap_26 : decode cX5_greatestGap 26 = .ok (.getfield 117, 3) := by decide +kernel
theorem dX5_greatestGap_29 : decode cX5_greatestGap 29 = .ok (.iload_n 2, 1) := by decide +kernel
theorem dX5_greatestGap_30 : decode cX5_greatestGap 30 = .ok (.iaload, 1) := by decide +kernel
theorem dX5_greatestGap_31 : decode cX5_greatestGap 31 = .ok (.aload_n 0, 1) := by decide +kernel
theorem dX5_greatestGap_32 : decode cX5_greatestGap 32 = .ok (.getfield 12, 3) := by decide +kernel
theorem dX5_greatestGap_35 : decode cX5_greatestGap 35 = .ok (.getfield 111, 3) := by decide +kernel
theorem dX5_greatestGap_38 : decode cX5_greatestGap 38 = .ok (.iload_n 2, 1) := by decide +kernel
theorem dX5_greatestGap_39 : decode cX5_greatestGap 39 = .ok (.iaload, 1) := by decide +kernel
theorem dX5_greatestGap_40 : decode cX5_greatestGap 40 = .ok (.isub, 1) := by decide +kernel
theorem dX5_greatestGap_41 : decode cX5_greatestGap 41 = .ok (.invokestatic 227, 3) := by decide +kernel
theorem dX5_greatestGap_44 : decode cX5_greatestGap 44 = .ok (.invokestatic 232, 3) := by decide +kernel
theorem dX5_greatestGap_47 : decode cX5_greatestGap 47 = .ok (.istore_n 1, 1) := by decide +kernel
theorem dX5_greatestGap_48 : decode cX5_greatestGap 48 = .ok (.iinc 2 1, 3) := by decide +kernel
theorem dX5_greatestGap_51 : decode cX5_greatestGap 51 = .ok (.goto (-36), 3) := by decide +kernel
theorem dX5_greatestGap_54 : decode cX5_greatestGap 54 = .ok (.iload_n 1, 1) := by decide +kernel
theorem dX5_greatestGap_55 : decode cX5_greatestGap 55 = .ok (.ireturn, 1) := by decide +kernel
set_option maxRecDepth 20000 in
theorem ggX5_settleTrial_X2_make : GoodIn wsX5_settleTrial wsX2_make := goodIn_r _ [14, 15, 16, 17, 18, 19, 20, 21, 22, 23, 24, 25, 26, 27, 28, 29, 30, 31, 32, 33, 34, 35, 36, 37, 13, 38, 39, 40, 41, 42, 43, 44, 45, 46, 47, 48, 49, 50, 51, 52, 53, 54, 55, 56, 57, 58, 59, 60, 61, 62, 63, 64, 65, 66, 67, 68, 69, 70, 71, 72, 73, 74, 75, 76, 77, 78, 79, 80, 81, 82, 83, 84, 85, 86, 87, 88, 89, 90, 91, 92, 93, 144, 145, 146, 147, 148, 149, 150, 151, 152] (by decide +kernel) (by decide +kernel)
set_option maxRecDepth 20000 in
theorem gX5_settleTrial_X2_make : GoodIn wsX5_settleTrial (wsV RX5 114 RX2 yX2_make wsX2_make) := goodIn_app (goodIn_of _ (by decide +kernel)) ggX5_settleTrial_X2_make
set_option maxRecDepth 20000 in
theorem ggX5_settleTrial_X4_takeAll : GoodIn wsX5_settleTrial wsX4_takeAll := goodIn_r _ [98, 99, 100, 101, 97, 102, 103, 104, 105, 106, 107, 108, 109, 110, 111, 112, 113, 114, 115, 22, 116, 117, 118, 56, 57, 58, 59, 60, 30, 61, 62, 63, 27, 64, 65, 26, 28, 66, 67, 68, 40, 41, 29, 31, 32, 33, 34, 119, 120, 121, 122, 25, 123, 124, 125, 76, 77, 126, 91, 92, 93, 127, 128, 129, 130, 131, 132, 133, 134, 153, 154, 155, 156, 157, 146, 147, 148, 149, 150, 151, 152] (by decide +kernel) (by decide +kernel)
set_option maxRecDepth 20000 in
theorem gX5_settleTrial_X4_takeAll : GoodIn wsX5_settleTrial (wsV RX5 202 RX4 yX4_takeAll wsX4_takeAll) := goodIn_app (goodIn_of _ (by decide +kernel)) ggX5_settleTrial_X4_takeAll
theorem dX5_settleTrial_0 : decode cX5_settleTrial 0 = .ok (.aload_n 0, 1) := by decide +kernel
theorem dX5_settleTrial_1 : decode cX5_settleTrial 1 = .ok (.getfield 43, 3) := by decide +kernel
theorem dX5_settleTrial_4 : decode cX5_settleTrial 4 = .ok (.aload_n 0, 1) := by decide +kernel
theorem dX5_settleTrial_5 : decode cX5_settleTrial 5 = .ok (.getfield 37, 3) := by decide +kernel
theorem dX5_settleTrial_8 : decode cX5_settleTrial 8 = .ok (.invokevirtual 114, 3) := by decide +kernel
end
section
theorem dX5_settleTrial_11 : decode cX5_settleTrial 11 = .ok (.aload_n 0, 1) := by decide +kernel
theorem dX5_settleTrial_12 : decode cX5_settleTrial 12 = .ok (.getfield 43, 3) := by decide +kernel
theorem dX5_settleTrial_15 : decode cX5_settleTrial 15 = .ok (.getfield 117, 3) := by decide +kernel
theorem dX5_settleTrial_18 : decode cX5_settleTrial 18 = .ok (.iconst 0, 1) := by decide +kernel
theorem dX5_settleTrial_19 : decode cX5_settleTrial 19 = .ok (.aload_n 0, 1) := by decide +kernel
theorem dX5_settleTrial_20 : decode cX5_settleTrial 20 = .ok (.getfield 37, 3) := by decide +kernel
theorem dX5_settleTrial_23 : decode cX5_settleTrial 23 = .ok (.getfield 111, 3) := by decide +kernel
theorem dX5_settleTrial_26 : decode cX5_settleTrial 26 = .ok (.iconst 0, 1) := by decide +kernel
theorem dX5_settleTrial_27 : decode cX5_settleTrial 27 = .ok (.bipush 18, 2) := by decide +kernel
theorem dX5_settleTrial_29 : decode cX5_settleTrial 29 = .ok (.invokestatic 218, 3) := by decide +kernel
theorem dX5_settleTrial_32 : decode cX5_settleTrial 32 = .ok (.aload_n 0, 1) := by decide +kernel
theorem dX5_settleTrial_33 : decode cX5_settleTrial 33 = .ok (.getfield 50, 3) := by decide +kernel
theorem dX5_settleTrial_36 : decode cX5_settleTrial 36 = .ok (.aload_n 0, 1) := by decide +kernel
theorem dX5_settleTrial_37 : decode cX5_settleTrial 37 = .ok (.getfield 37, 3) := by decide +kernel
theorem dX5_settleTrial_40 : decode cX5_settleTrial 40 = .ok (.invokevirtual 202, 3) := by decide +kernel
theorem dX5_settleTrial_43 : decode cX5_settleTrial 43 = .ok (.return_, 1) := by decide +kernel
theorem dX5_onScreen_0 : decode cX5_onScreen 0 = .ok (.iload_n 0, 1) := by decide +kernel
theorem dX5_onScreen_1 : decode cX5_onScreen 1 = .ok (.ifCond .lt 23, 3) := by decide +kernel
theorem dX5_onScreen_4 : decode cX5_onScreen 4 = .ok (.iload_n 0, 1) := by decide +kernel
theorem dX5_onScreen_5 : decode cX5_onScreen 5 = .ok (.bipush 24, 2) := by decide +kernel
theorem dX5_onScreen_7 : decode cX5_onScreen 7 = .ok (.if_icmp .ge 17, 3) := by decide +kernel
theorem dX5_onScreen_10 : decode cX5_onScreen 10 = .ok (.iload_n 1, 1) := by decide +kernel
theorem dX5_onScreen_11 : decode cX5_onScreen 11 = .ok (.ifCond .lt 13, 3) := by decide +kernel
theorem dX5_onScreen_14 : decode cX5_onScreen 14 = .ok (.iload_n 1, 1) := by decide +kernel
theorem dX5_onScreen_15 : decode cX5_onScreen 15 = .ok (.bipush 12, 2) := by decide +kernel
theorem dX5_onScreen_17 : decode cX5_onScreen 17 = .ok (.if_icmp .ge 7, 3) := by decide +kernel
theorem dX5_onScreen_20 : decode cX5_onScreen 20 = .ok (.iconst 1, 1) := by decide +kernel
theorem dX5_onScreen_21 : decode cX5_onScreen 21 = .ok (.goto 4, 3) := by decide +kernel
theorem dX5_onScreen_24 : decode cX5_onScreen 24 = .ok (.iconst 0, 1) := by decide +kernel
theorem dX5_onScreen_25 : decode cX5_onScreen 25 = .ok (.ireturn, 1) := by decide +kernel
theorem dX5_isZone_0 : decode cX5_isZone 0 = .ok (.iload_n 0, 1) := by decide +kernel
theorem dX5_isZone_1 : decode cX5_isZone 1 = .ok (.ifCond .lt 13, 3) := by decide +kernel
theorem dX5_isZone_4 : decode cX5_isZone 4 = .ok (.iload_n 0, 1) := by decide +kernel
theorem dX5_isZone_5 : decode cX5_isZone 5 = .ok (.bipush 18, 2) := by decide +kernel
theorem dX5_isZone_7 : decode cX5_isZone 7 = .ok (.if_icmp .ge 7, 3) := by decide +kernel
theorem dX5_isZone_10 : decode cX5_isZone 10 = .ok (.iconst 1, 1) := by decide +kernel
theorem dX5_isZone_11 : decode cX5_isZone 11 = .ok (.goto 4, 3) := by decide +kernel
theorem dX5_isZone_14 : decode cX5_isZone 14 = .ok (.iconst 0, 1) := by decide +kernel
theorem dX5_isZone_15 : decode cX5_isZone 15 = .ok (.ireturn, 1) := by decide +kernel
theorem dX5_spotAt_0 : decode cX5_spotAt 0 = .ok (.iload_n 1, 1) := by decide +kernel
theorem dX5_spotAt_1 : decode cX5_spotAt 1 = .ok (.bipush 24, 2) := by decide +kernel
theorem dX5_spotAt_3 : decode cX5_spotAt 3 = .ok (.imul, 1) := by decide +kernel
theorem dX5_spotAt_4 : decode cX5_spotAt 4 = .ok (.iload_n 0, 1) := by decide +kernel
theorem dX5_spotAt_5 : decode cX5_spotAt 5 = .ok (.iadd, 1) := by decide +kernel
theorem dX5_spotAt_6 : decode cX5_spotAt 6 = .ok (.ireturn, 1) := by decide +kernel
set_option maxRecDepth 20000 in
theorem ggX5_spotOfZone_X5_spotAt : GoodIn wsX5_spotOfZone wsX5_spotAt := goodIn_r _ [4] (by decide +kernel) (by decide +kernel)
set_option maxRecDepth 20000 in
theorem gX5_spotOfZone_X5_spotAt : GoodIn wsX5_spotOfZone (va_wsS RX5 62 yX5_spotAt wsX5_spotAt) := goodIn_app (goodIn_of _ (by decide +kernel)) ggX5_spotOfZone_X5_spotAt
theorem dX5_spotOfZone_0 : decode cX5_spotOfZone 0 = .ok (.iload_n 0, 1) := by decide +kernel
theorem dX5_spotOfZone_1 : decode cX5_spotOfZone 1 = .ok (.bipush 6, 2) := by decide +kernel
theorem dX5_spotOfZone_3 : decode cX5_spotOfZone 3 = .ok (.irem, 1) := by decide +kernel
theorem dX5_spotOfZone_4 : decode cX5_spotOfZone 4 = .ok (.iconst 4, 1) := by decide +kernel
theorem dX5_spotOfZone_5 : decode cX5_spotOfZone 5 = .ok (.imul, 1) := by decide +kernel
theorem dX5_spotOfZone_6 : decode cX5_spotOfZone 6 = .ok (.iload_n 1, 1) := by decide +kernel
theorem dX5_spotOfZone_7 : decode cX5_spotOfZone 7 = .ok (.iconst 4, 1) := by decide +kernel
theorem dX5_spotOfZone_8 : decode cX5_spotOfZone 8 = .ok (.irem, 1) := by decide +kernel
theorem dX5_spotOfZone_9 : decode cX5_spotOfZone 9 = .ok (.iadd, 1) := by decide +kernel
theorem dX5_spotOfZone_10 : decode cX5_spotOfZone 10 = .ok (.istore_n 2, 1) := by decide +kernel
theorem dX5_spotOfZone_11 : decode cX5_spotOfZone 11 = .ok (.iload_n 0, 1) := by decide +kernel
theorem dX5_spotOfZone_12 : decode cX5_spotOfZone 12 = .ok (.bipush 6, 2) := by decide +kernel
theorem dX5_spotOfZone_14 : decode cX5_spotOfZone 14 = .ok (.idiv, 1) := by decide +kernel
theorem dX5_spotOfZone_15 : decode cX5_spotOfZone 15 = .ok (.iconst 4, 1) := by decide +kernel
theorem dX5_spotOfZone_16 : decode cX5_spotOfZone 16 = .ok (.imul, 1) := by decide +kernel
theorem dX5_spotOfZone_17 : decode cX5_spotOfZone 17 = .ok (.iload_n 1, 1) := by decide +kernel
theorem dX5_spotOfZone_18 : decode cX5_spotOfZone 18 = .ok (.iconst 4, 1) := by decide +kernel
theorem dX5_spotOfZone_19 : decode cX5_spotOfZone 19 = .ok (.idiv, 1) := by decide +kernel
theorem dX5_spotOfZone_20 : decode cX5_spotOfZone 20 = .ok (.iadd, 1) := by decide +kernel
theorem dX5_spotOfZone_21 : decode cX5_spotOfZone 21 = .ok (.istore_n 3, 1) := by decide +kernel
theorem dX5_spotOfZone_22 : decode cX5_spotOfZone 22 = .ok (.iload_n 2, 1) := by decide +kernel
theorem dX5_spotOfZone_23 : decode cX5_spotOfZone 23 = .ok (.iload_n 3, 1) := by decide +kernel
theorem dX5_spotOfZone_24 : decode cX5_spotOfZone 24 = .ok (.invokestatic 62, 3) := by decide +kernel
theorem dX5_spotOfZone_27 : decode cX5_spotOfZone 27 = .ok (.ireturn, 1) := by decide +kernel
theorem dX5_zonesApart_0 : decode cX5_zonesApart 0 = .ok (.iload_n 0, 1) := by decide +kernel
theorem dX5_zonesApart_1 : decode cX5_zonesApart 1 = .ok (.bipush 6, 2) := by decide +kernel
theorem dX5_zonesApart_3 : decode cX5_zonesApart 3 = .ok (.irem, 1) := by decide +kernel
theorem dX5_zonesApart_4 : decode cX5_zonesApart 4 = .ok (.iload_n 1, 1) := by decide +kernel
theorem dX5_zonesApart_5 : decode cX5_zonesApart 5 = .ok (.bipush 6, 2) := by decide +kernel
theorem dX5_zonesApart_7 : decode cX5_zonesApart 7 = .ok (.irem, 1) := by decide +kernel
theorem dX5_zonesApart_8 : decode cX5_zonesApart 8 = .ok (.isub, 1) := by decide +kernel
theorem dX5_zonesApart_9 : decode cX5_zonesApart 9 = .ok (.invokestatic 227, 3) := by decide +kernel
theorem dX5_zonesApart_12 : decode cX5_zonesApart 12 = .ok (.istore_n 2, 1) := by decide +kernel
theorem dX5_zonesApart_13 : decode cX5_zonesApart 13 = .ok (.iload_n 0, 1) := by decide +kernel
theorem dX5_zonesApart_14 : decode cX5_zonesApart 14 = .ok (.bipush 6, 2) := by decide +kernel
theorem dX5_zonesApart_16 : decode cX5_zonesApart 16 = .ok (.idiv, 1) := by decide +kernel
theorem dX5_zonesApart_17 : decode cX5_zonesApart 17 = .ok (.iload_n 1, 1) := by decide +kernel
theorem dX5_zonesApart_18 : decode cX5_zonesApart 18 = .ok (.bipush 6, 2) := by decide +kernel
theorem dX5_zonesApart_20 : decode cX5_zonesApart 20 = .ok (.idiv, 1) := by decide +kernel
theorem dX5_zonesApart_21 : decode cX5_zonesApart 21 = .ok (.isub, 1) := by decide +kernel
theorem dX5_zonesApart_22 : decode cX5_zonesApart 22 = .ok (.invokestatic 227, 3) := by decide +kernel
theorem dX5_zonesApart_25 : decode cX5_zonesApart 25 = .ok (.istore_n 3, 1) := by decide +kernel
theorem dX5_zonesApart_26 : decode cX5_zonesApart 26 = .ok (.iload_n 2, 1) := by decide +kernel
theorem dX5_zonesApart_27 : decode cX5_zonesApart 27 = .ok (.iload_n 3, 1) := by decide +kernel
theorem dX5_zonesApart_28 : decode cX5_zonesApart 28 = .ok (.invokestatic 232, 3) := by decide +kernel
theorem dX5_zonesApart_31 : decode cX5_zonesApart 31 = .ok (.ireturn, 1) := by decide +kernel
theorem dX5_roundedUp_0 : decode cX5_roundedUp 0 = .ok (.iload_n 1, 1) := by decide +kernel
theorem dX5_roundedUp_1 : decode cX5_roundedUp 1 = .ok (.ifCond .le 13, 3) := by decide +kernel
theorem dX5_roundedUp_4 : decode cX5_roundedUp 4 = .ok (.iload_n 0, 1) := by decide +kernel
theorem dX5_roundedUp_5 : decode cX5_roundedUp 5 = .ok (.iload_n 1, 1) := by decide +kernel
theorem dX5_roundedUp_6 : decode cX5_roundedUp 6 = .ok (.iadd, 1) := by decide +kernel
theorem dX5_roundedUp_7 : decode cX5_roundedUp 7 = .ok (.iconst 1, 1) := by decide +kernel
theorem dX5_roundedUp_8 : decode cX5_roundedUp 8 = .ok (.isub, 1) := by decide +kernel
theorem dX5_roundedUp_9 : decode cX5_roundedUp 9 = .ok (.iload_n 1, 1) := by decide +kernel
theorem dX5_roundedUp_10 : decode cX5_roundedUp 10 = .ok (.idiv, 1) := by decide +kernel
theorem dX5_roundedUp_11 : decode cX5_roundedUp 11 = .ok (.goto 4, 3) := by decide +kernel
theorem dX5_roundedUp_14 : decode cX5_roundedUp 14 = .ok (.iconst 0, 1) := by decide +kernel
theorem dX5_roundedUp_15 : decode cX5_roundedUp 15 = .ok (.ireturn, 1) := by decide +kernel
theorem dX5_lightOf_0 : decode cX5_lightOf 0 = .ok (.sipush 255, 3) := by decide +kernel
theorem dX5_lightOf_3 : decode cX5_lightOf 3 = .ok (.iload_n 0, 1) := by decide +kernel
theorem dX5_lightOf_4 : decode cX5_lightOf 4 = .ok (.sipush 256, 3) := by decide +kernel
theorem dX5_lightOf_7 : decode cX5_lightOf 7 = .ok (.idiv, 1) := by decide +kernel
theorem dX5_lightOf_8 : decode cX5_lightOf 8 = .ok (.invokestatic 235, 3) := by decide +kernel
theorem dX5_lightOf_11 : decode cX5_lightOf 11 = .ok (.ireturn, 1) := by decide +kernel
set_option maxRecDepth 20000 in
theorem ggX5_glassFor_X5_roundedUp : GoodIn wsX5_glassFor wsX5_roundedUp := goodIn_r _ [8] (by decide +kernel) (by decide +kernel)
set_option maxRecDepth 20000 in
theorem gX5_glassFor_X5_roundedUp : GoodIn wsX5_glassFor (va_wsS RX5 209 yX5_roundedUp wsX5_roundedUp) := goodIn_app (goodIn_of _ (by decide +kernel)) ggX5_glassFor_X5_roundedUp
theorem dX5_glassFor_0 : decode cX5_glassFor 0 = .ok (.sipush 255, 3) := by decide +kernel
theorem dX5_glassFor_3 : decode cX5_glassFor 3 = .ok (.iload_n 0, 1) := by decide +kernel
theorem dX5_glassFor_4 : decode cX5_glassFor 4 = .ok (.sipush 255, 3) := by decide +kernel
theorem dX5_glassFor_7 : decode cX5_glassFor 7 = .ok (.imul, 1) := by decide +kernel
theorem dX5_glassFor_8 : decode cX5_glassFor 8 = .ok (.iload_n 1, 1) := by decide +kernel
theorem dX5_glassFor_9 : decode cX5_glassFor 9 = .ok (.invokestatic 209, 3) := by decide +kernel
theorem dX5_glassFor_12 : decode cX5_glassFor 12 = .ok (.invokestatic 235, 3) := by decide +kernel
theorem dX5_glassFor_15 : decode cX5_glassFor 15 = .ok (.ireturn, 1) := by decide +kernel
theorem dX5_verdict_0 : decode cX5_verdict 0 = .ok (.iload_n 1, 1) := by decide +kernel
theorem dX5_verdict_1 : decode cX5_verdict 1 = .ok (.iload_n 0, 1) := by decide +kernel
theorem dX5_verdict_2 : decode cX5_verdict 2 = .ok (.if_icmp .ne 5, 3) := by decide +kernel
theorem dX5_verdict_5 : decode cX5_verdict 5 = .ok (.iconst 0, 1) := by decide +kernel
theorem dX5_verdict_6 : decode cX5_verdict 6 = .ok (.ireturn, 1) := by decide +kernel
theorem dX5_verdict_7 : decode cX5_verdict 7 = .ok (.iload_n 1, 1) := by decide +kernel
theorem dX5_verdict_8 : decode cX5_verdict 8 = .ok (.iload_n 0, 1) := by decide +kernel
theorem dX5_verdict_9 : decode cX5_verdict 9 = .ok (.if_icmp .ge 7, 3) := by decide +kernel
theorem dX5_verdict_12 : decode cX5_verdict 12 = .ok (.iconst 1, 1) := by decide +kernel
theorem dX5_verdict_13 : decode cX5_verdict 13 = .ok (.goto 4, 3) := by decide +kernel
theorem dX5_verdict_16 : decode cX5_verdict 16 = .ok (.iconst 2, 1) := by decide +kernel
theorem dX5_verdict_17 : decode cX5_verdict 17 = .ok (.ireturn, 1) := by decide +kernel
theorem dX6_init_0 : decode cX6_init 0 = .ok (.aload_n 0, 1) := by decide +kernel
theorem dX6_init_1 : decode cX6_init 1 = .ok (.invokespecial 1, 3) := by decide +kernel
theorem dX6_init_4 : decode cX6_init 4 = .ok (.aload_n 0, 1) := by decide +kernel
theorem dX6_init_5 : decode cX6_init 5 = .ok (.sipush 335, 3) := by decide +kernel
theorem dX6_init_8 : decode cX6_init 8 = .ok (.newarray .int, 2) := by decide +kernel
theorem dX6_init_10 : decode cX6_init 10 = .ok (.putfield 7, 3) := by decide +kernel
theorem dX6_init_13 : decode cX6_init 13 = .ok (.aload_n 0, 1) := by decide +kernel
theorem dX6_init_14 : decode cX6_init 14 = .ok (.sipush 1340, 3) := by decide +kernel
theorem dX6_init_17 : decode cX6_init 17 = .ok (.newarray .int, 2) := by decide +kernel
theorem dX6_init_19 : decode cX6_init 19 = .ok (.putfield 13, 3) := by decide +kernel
theorem dX6_init_22 : decode cX6_init 22 = .ok (.aload_n 0, 1) := by decide +kernel
theorem dX6_init_23 : decode cX6_init 23 = .ok (.sipush 335, 3) := by decide +kernel
theorem dX6_init_26 : decode cX6_init 26 = .ok (.newarray .int, 2) := by decide +kernel
theorem dX6_init_28 : decode cX6_init 28 = .ok (.putfield 16, 3) := by decide +kernel
theorem dX6_init_31 : decode cX6_init 31 = .ok (.aload_n 0, 1) := by decide +kernel
theorem dX6_init_32 : decode cX6_init 32 = .ok (.bipush 18, 2) := by decide +kernel
theorem dX6_init_34 : decode cX6_init 34 = .ok (.newarray .int, 2) := by decide +kernel
theorem dX6_init_36 : decode cX6_init 36 = .ok (.putfield 19, 3) := by decide +kernel
theorem dX6_init_39 : decode cX6_init 39 = .ok (.aload_n 0, 1) := by decide +kernel
theorem dX6_init_40 : decode cX6_init 40 = .ok (.bipush 60, 2) := by decide +kernel
theorem dX6_init_42 : decode cX6_init 42 = .ok (.newarray .int, 2) := by decide +kernel
theorem dX6_init_44 : decode cX6_init 44 = .ok (.putfield 22, 3) := by decide +kernel
theorem dX6_init_47 : decode cX6_init 47 = .ok (.aload_n 0, 1) := by decide +kernel
theorem dX6_init_48 : decode cX6_init 48 = .ok (.iconst 5, 1) := by decide +kernel
theorem dX6_init_49 : decode cX6_init 49 = .ok (.newarray .int, 2) := by decide +kernel
theorem dX6_init_51 : decode cX6_init 51 = .ok (.putfield 25, 3) := by decide +kernel
theorem dX6_init_54 : decode cX6_init 54 = .ok (.aload_n 0, 1) := by decide +kernel
theorem dX6_init_55 : decode cX6_init 55 = .ok (.getfield 7, 3) := by decide +kernel
theorem dX6_init_58 : decode cX6_init 58 = .ok (.sipush 324, 3) := by decide +kernel
theorem dX6_init_61 : decode cX6_init 61 = .ok (.sipush 180, 3) := by decide +kernel
theorem dX6_init_64 : decode cX6_init 64 = .ok (.iastore, 1) := by decide +kernel
theorem dX6_init_65 : decode cX6_init 65 = .ok (.aload_n 0, 1) := by decide +kernel
theorem dX6_init_66 : decode cX6_init 66 = .ok (.getfield 7, 3) := by decide +kernel
theorem dX6_init_69 : decode cX6_init 69 = .ok (.sipush 325, 3) := by decide +kernel
theorem dX6_init_72 : decode cX6_init 72 = .ok (.bipush 9, 2) := by decide +kernel
theorem dX6_init_74 : decode cX6_init 74 = .ok (.iastore, 1) := by decide +kernel
theorem dX6_init_75 : decode cX6_init 75 = .ok (.aload_n 0, 1) := by decide +kernel
theorem dX6_init_76 : decode cX6_init 76 = .ok (.getfield 7, 3) := by decide +kernel
theorem dX6_init_79 : decode cX6_init 79 = .ok (.sipush 326, 3) := by decide +kernel
theorem dX6_init_82 : decode cX6_init 82 = .ok (.iconst 1, 1) := by decide +kernel
theorem dX6_init_83 : decode cX6_init 83 = .ok (.iastore, 1) := by decide +kernel
theorem dX6_init_84 : decode cX6_init 84 = .ok (.aload_n 0, 1) := by decide +kernel
theorem dX6_init_85 : decode cX6_init 85 = .ok (.getfield 7, 3) := by decide +kernel
theorem dX6_init_88 : decode cX6_init 88 = .ok (.sipush 328, 3) := by decide +kernel
theorem dX6_init_91 : decode cX6_init 91 = .ok (.iconst 3, 1) := by decide +kernel
theorem dX6_init_92 : decode cX6_init 92 = .ok (.iastore, 1) := by decide +kernel
theorem dX6_init_93 : decode cX6_init 93 = .ok (.aload_n 0, 1) := by decide +kernel
theorem dX6_init_94 : decode cX6_init 94 = .ok (.getfield 7, 3) := by decide +kernel
theorem dX6_init_97 : decode cX6_init 97 = .ok (.sipush 329, 3) := by decide +kernel
theorem dX6_init_100 : decode cX6_init 100 = .ok (.iconst 4, 1) := by decide +kernel
theorem dX6_init_101 : decode cX6_init 101 = .ok (.iastore, 1) := by decide +kernel
theorem dX6_init_102 : decode cX6_init 102 = .ok (.aload_n 0, 1) := by decide +kernel
theorem dX6_init_103 : decode cX6_init 103 = .ok (.getfield 7, 3) := by decide +kernel
theorem dX6_init_106 : decode cX6_init 106 = .ok (.sipush 330, 3) := by decide +kernel
theorem dX6_init_109 : decode cX6_init 109 = .ok (.iconst 2, 1) := by decide +kernel
theorem dX6_init_110 : decode cX6_init 110 = .ok (.iastore, 1) := by decide +kernel
theorem dX6_init_111 : decode cX6_init 111 = .ok (.aload_n 0, 1) := by decide +kernel
theorem dX6_init_112 : decode cX6_init 112 = .ok (.getfield 7, 3) := by decide +kernel
theorem dX6_init_115 : decode cX6_init 115 = .ok (.sipush 331, 3) := by decide +kernel
theorem dX6_init_118 : decode cX6_init 118 = .ok (.sipush 255, 3) := by decide +kernel
theorem dX6_init_121 : decode cX6_init 121 = .ok (.iastore, 1) := by decide +kernel
theorem dX6_init_122 : decode cX6_init 122 = .ok (.return_, 1) := by decide +kernel
theorem dX6_in_0 : decode cX6_in 0 = .ok (.lload_n 0, 1) := by decide +kernel
theorem dX6_in_1 : decode cX6_in 1 = .ok (.lload_n 2, 1) := by decide +kernel
theorem dX6_in_2 : decode cX6_in 2 = .ok (.lcmp, 1) := by decide +kernel
theorem dX6_in_3 : decode cX6_in 3 = .ok (.ifCond .lt 14, 3) := by decide +kernel
theorem dX6_in_6 : decode cX6_in 6 = .ok (.lload_n 0, 1) := by decide +kernel
theorem dX6_in_7 : decode cX6_in 7 = .ok (.lload 4, 2) := by decide +kernel
theorem dX6_in_9 : decode cX6_in 9 = .ok (.lcmp, 1) := by decide +kernel
theorem dX6_in_10 : decode cX6_in 10 = .ok (.ifCond .gt 7, 3) := by decide +kernel
theorem dX6_in_13 : decode cX6_in 13 = .ok (.iconst 1, 1) := by decide +kernel
theorem dX6_in_14 : decode cX6_in 14 = .ok (.goto 4, 3) := by decide +kernel
theorem dX6_in_17 : decode cX6_in 17 = .ok (.iconst 0, 1) := by decide +kernel
theorem dX6_in_18 : decode cX6_in 18 = .ok (.ireturn, 1) := by decide +kernel
theorem dX6_lesser_0 : decode cX6_lesser 0 = .ok (.iload_n 0, 1) := by decide +kernel
theorem dX6_lesser_1 : decode cX6_lesser 1 = .ok (.iload_n 1, 1) := by decide +kernel
theorem dX6_lesser_2 : decode cX6_lesser 2 = .ok (.if_icmp .ge 7, 3) := by decide +kernel
theorem dX6_lesser_5 : decode cX6_lesser 5 = .ok (.iload_n 0, 1) := by decide +kernel
theorem dX6_lesser_6 : decode cX6_lesser 6 = .ok (.goto 4, 3) := by decide +kernel
theorem dX6_lesser_9 : decode cX6_lesser 9 = .ok (.iload_n 1, 1) := by decide +kernel
theorem dX6_lesser_10 : decode cX6_lesser 10 = .ok (.ireturn, 1) := by decide +kernel
theorem dX6_off_0 : decode cX6_off 0 = .ok (.iload_n 0, 1) := by decide +kernel
theorem dX6_off_1 : decode cX6_off 1 = .ok (.ifCond .ge 8, 3) := by decide +kernel
theorem dX6_off_4 : decode cX6_off 4 = .ok (.iload_n 0, 1) := by decide +kernel
theorem dX6_off_5 : decode cX6_off 5 = .ok (.ineg, 1) := by decide +kernel
theorem dX6_off_6 : decode cX6_off 6 = .ok (.goto 4, 3) := by decide +kernel
theorem dX6_off_9 : decode cX6_off 9 = .ok (.iload_n 0, 1) := by decide +kernel
theorem dX6_off_10 : decode cX6_off 10 = .ok (.ireturn, 1) := by decide +kernel
theorem dX6_acts_0 : decode cX6_acts 0 = .ok (.aload_n 0, 1) := by decide +kernel
theorem dX6_acts_1 : decode cX6_acts 1 = .ok (.getfield 28, 3) := by decide +kernel
theorem dX6_acts_4 : decode cX6_acts 4 = .ok (.iconst 4, 1) := by decide +kernel
theorem dX6_acts_5 : decode cX6_acts 5 = .ok (.if_icmp .ne 44, 3) := by decide +kernel
theorem dX6_acts_8 : decode cX6_acts 8 = .ok (.iconst 0, 1) := by decide +kernel
theorem dX6_acts_9 : decode cX6_acts 9 = .ok (.istore_n 1, 1) := by decide +kernel
theorem dX6_acts_10 : decode cX6_acts 10 = .ok (.iload_n 1, 1) := by decide +kernel
theorem dX6_acts_11 : decode cX6_acts 11 = .ok (.sipush 1005, 3) := by decide +kernel
theorem dX6_acts_14 : decode cX6_acts 14 = .ok (.if_icmp .ge 25, 3) := by decide +kernel
theorem dX6_acts_17 : decode cX6_acts 17 = .ok (.aload_n 0, 1) := by decide +kernel
theorem dX6_acts_18 : decode cX6_acts 18 = .ok (.getfield 13, 3) := by decide +kernel
theorem dX6_acts_21 : decode cX6_acts 21 = .ok (.iload_n 1, 1) := by decide +kernel
theorem dX6_acts_22 : decode cX6_acts 22 = .ok (.aload_n 0, 1) := by decide +kernel
theorem dX6_acts_23 : decode cX6_acts 23 = .ok (.getfield 13, 3) := by decide +kernel
theorem dX6_acts_26 : decode cX6_acts 26 = .ok (.iload_n 1, 1) := by decide +kernel
theorem dX6_acts_27 : decode cX6_acts 27 = .ok (.sipush 335, 3) := by decide +kernel
theorem dX6_acts_30 : decode cX6_acts 30 = .ok (.iadd, 1) := by decide +kernel
theorem dX6_acts_31 : decode cX6_acts 31 = .ok (.iaload, 1) := by decide +kernel
theorem dX6_acts_32 : decode cX6_acts 32 = .ok (.iastore, 1) := by decide +kernel
theorem dX6_acts_33 : decode cX6_acts 33 = .ok (.iinc 1 1, 3) := by decide +kernel
theorem dX6_acts_36 : decode cX6_acts 36 = .ok (.goto (-26), 3) := by decide +kernel
theorem dX6_acts_39 : decode cX6_acts 39 = .ok (.aload_n 0, 1) := by decide +kernel
theorem dX6_acts_40 : decode cX6_acts 40 = .ok (.dup, 1) := by decide +kernel
theorem dX6_acts_41 : decode cX6_acts 41 = .ok (.getfield 28, 3) := by decide +kernel
theorem dX6_acts_44 : decode cX6_acts 44 = .ok (.iconst 1, 1) := by decide +kernel
theorem dX6_acts_45 : decode cX6_acts 45 = .ok (.isub, 1) := by decide +kernel
theorem dX6_acts_46 : decode cX6_acts 46 = .ok (.putfield 28, 3) := by decide +kernel
theorem dX6_acts_49 : decode cX6_acts 49 = .ok (.iconst 0, 1) := by decide +kernel
theorem dX6_acts_50 : decode cX6_acts 50 = .ok (.istore_n 1, 1) := by decide +kernel
theorem dX6_acts_51 : decode cX6_acts 51 = .ok (.iload_n 1, 1) := by decide +kernel
theorem dX6_acts_52 : decode cX6_acts 52 = .ok (.sipush 335, 3) := by decide +kernel
theorem dX6_acts_55 : decode cX6_acts 55 = .ok (.if_icmp .ge 30, 3) := by decide +kernel
theorem dX6_acts_58 : decode cX6_acts 58 = .ok (.aload_n 0, 1) := by decide +kernel
theorem dX6_acts_59 : decode cX6_acts 59 = .ok (.getfield 13, 3) := by decide +kernel
theorem dX6_acts_62 : decode cX6_acts 62 = .ok (.sipush 335, 3) := by decide +kernel
theorem dX6_acts_65 : decode cX6_acts 65 = .ok (.aload_n 0, 1) := by decide +kernel
theorem dX6_acts_66 : decode cX6_acts 66 = .ok (.getfield 28, 3) := by decide +kernel
theorem dX6_acts_69 : decode cX6_acts 69 = .ok (.imul, 1) := by decide +kernel
theorem dX6_acts_70 : decode cX6_acts 70 = .ok (.iload_n 1, 1) := by decide +kernel
theorem dX6_acts_71 : decode cX6_acts 71 = .ok (.iadd, 1) := by decide +kernel
theorem dX6_acts_72 : decode cX6_acts 72 = .ok (.aload_n 0, 1) := by decide +kernel
theorem dX6_acts_73 : decode cX6_acts 73 = .ok (.getfield 7, 3) := by decide +kernel
theorem dX6_acts_76 : decode cX6_acts 76 = .ok (.iload_n 1, 1) := by decide +kernel
theorem dX6_acts_77 : decode cX6_acts 77 = .ok (.iaload, 1) := by decide +kernel
theorem dX6_acts_78 : decode cX6_acts 78 = .ok (.iastore, 1) := by decide +kernel
theorem dX6_acts_79 : decode cX6_acts 79 = .ok (.iinc 1 1, 3) := by decide +kernel
theorem dX6_acts_82 : decode cX6_acts 82 = .ok (.goto (-31), 3) := by decide +kernel
theorem dX6_acts_85 : decode cX6_acts 85 = .ok (.aload_n 0, 1) := by decide +kernel
theorem dX6_acts_86 : decode cX6_acts 86 = .ok (.dup, 1) := by decide +kernel
theorem dX6_acts_87 : decode cX6_acts 87 = .ok (.getfield 28, 3) := by decide +kernel
theorem dX6_acts_90 : decode cX6_acts 90 = .ok (.iconst 1, 1) := by decide +kernel
theorem dX6_acts_91 : decode cX6_acts 91 = .ok (.iadd, 1) := by decide +kernel
theorem dX6_acts_92 : decode cX6_acts 92 = .ok (.putfield 28, 3) := by decide +kernel
theorem dX6_acts_95 : decode cX6_acts 95 = .ok (.return_, 1) := by decide +kernel
set_option maxRecDepth 20000 in
theorem ggX6_isSpot_X6_in : GoodIn wsX6_isSpot wsX6_in := goodIn_r _ [6] (by decide +kernel) (by decide +kernel)
set_option maxRecDepth 20000 in
theorem gX6_isSpot_X6_in : GoodIn wsX6_isSpot (va_wsS RX6 34 yX6_in wsX6_in) := goodIn_app (goodIn_of _ (by decide +kernel)) ggX6_isSpot_X6_in
theorem dX6_isSpot_0 : decode cX6_isSpot 0 = .ok (.iload_n 0, 1) := by decide +kernel
theorem dX6_isSpot_1 : decode cX6_isSpot 1 = .ok (.i2l, 1) := by decide +kernel
theorem dX6_isSpot_2 : decode cX6_isSpot 2 = .ok (.lconst 0, 1) := by decide +kernel
theorem dX6_isSpot_3 : decode cX6_isSpot 3 = .ok (.ldc2_w 32, 3) := by decide +kernel
theorem dX6_isSpot_6 : decode cX6_isSpot 6 = .ok (.invokestatic 34, 3) := by decide +kernel
theorem dX6_isSpot_9 : decode cX6_isSpot 9 = .ok (.ifCond .eq 19, 3) := by decide +kernel
theorem dX6_isSpot_12 : decode cX6_isSpot 12 = .ok (.iload_n 1, 1) := by decide +kernel
theorem dX6_isSpot_13 : decode cX6_isSpot 13 = .ok (.i2l, 1) := by decide +kernel
theorem dX6_isSpot_14 : decode cX6_isSpot 14 = .ok (.lconst 0, 1) := by decide +kernel
theorem dX6_isSpot_15 : decode cX6_isSpot 15 = .ok (.ldc2_w 38, 3) := by decide +kernel
theorem dX6_isSpot_18 : decode cX6_isSpot 18 = .ok (.invokestatic 34, 3) := by decide +kernel
theorem dX6_isSpot_21 : decode cX6_isSpot 21 = .ok (.ifCond .eq 7, 3) := by decide +kernel
theorem dX6_isSpot_24 : decode cX6_isSpot 24 = .ok (.iconst 1, 1) := by decide +kernel
theorem dX6_isSpot_25 : decode cX6_isSpot 25 = .ok (.goto 4, 3) := by decide +kernel
theorem dX6_isSpot_28 : decode cX6_isSpot 28 = .ok (.iconst 0, 1) := by decide +kernel
theorem dX6_isSpot_29 : decode cX6_isSpot 29 = .ok (.ireturn, 1) := by decide +kernel
set_option maxRecDepth 20000 in
theorem ggX6_isZone_X6_in : GoodIn wsX6_isZone wsX6_in := goodIn_r _ [5] (by decide +kernel) (by decide +kernel)
set_option maxRecDepth 20000 in
theorem gX6_isZone_X6_in : GoodIn wsX6_isZone (va_wsS RX6 34 yX6_in wsX6_in) := goodIn_app (goodIn_of _ (by decide +kernel)) ggX6_isZone_X6_in
theorem dX6_isZone_0 : decode cX6_isZone 0 = .ok (.iload_n 0, 1) := by decide +kernel
theorem dX6_isZone_1 : decode cX6_isZone 1 = .ok (.i2l, 1) := by decide +kernel
theorem dX6_isZone_2 : decode cX6_isZone 2 = .ok (.lconst 0, 1) := by decide +kernel
theorem dX6_isZone_3 : decode cX6_isZone 3 = .ok (.ldc2_w 40, 3) := by decide +kernel
theorem dX6_isZone_6 : decode cX6_isZone 6 = .ok (.invokestatic 34, 3) := by decide +kernel
theorem dX6_isZone_9 : decode cX6_isZone 9 = .ok (.ireturn, 1) := by decide +kernel
theorem dX6_spotIn_0 : decode cX6_spotIn 0 = .ok (.bipush 24, 2) := by decide +kernel
theorem dX6_spotIn_2 : decode cX6_spotIn 2 = .ok (.iload_n 0, 1) := by decide +kernel
theorem dX6_spotIn_3 : decode cX6_spotIn 3 = .ok (.bipush 6, 2) := by decide +kernel
theorem dX6_spotIn_5 : decode cX6_spotIn 5 = .ok (.idiv, 1) := by decide +kernel
theorem dX6_spotIn_6 : decode cX6_spotIn 6 = .ok (.iconst 4, 1) := by decide +kernel
theorem dX6_spotIn_7 : decode cX6_spotIn 7 = .ok (.imul, 1) := by decide +kernel
theorem dX6_spotIn_8 : decode cX6_spotIn 8 = .ok (.iload_n 1, 1) := by decide +kernel
theorem dX6_spotIn_9 : decode cX6_spotIn 9 = .ok (.iconst 4, 1) := by decide +kernel
theorem dX6_spotIn_10 : decode cX6_spotIn 10 = .ok (.idiv, 1) := by decide +kernel
theorem dX6_spotIn_11 : decode cX6_spotIn 11 = .ok (.iadd, 1) := by decide +kernel
theorem dX6_spotIn_12 : decode cX6_spotIn 12 = .ok (.imul, 1) := by decide +kernel
theorem dX6_spotIn_13 : decode cX6_spotIn 13 = .ok (.iload_n 0, 1) := by decide +kernel
theorem dX6_spotIn_14 : decode cX6_spotIn 14 = .ok (.bipush 6, 2) := by decide +kernel
theorem dX6_spotIn_16 : decode cX6_spotIn 16 = .ok (.irem, 1) := by decide +kernel
theorem dX6_spotIn_17 : decode cX6_spotIn 17 = .ok (.iconst 4, 1) := by decide +kernel
theorem dX6_spotIn_18 : decode cX6_spotIn 18 = .ok (.imul, 1) := by decide +kernel
theorem dX6_spotIn_19 : decode cX6_spotIn 19 = .ok (.iadd, 1) := by decide +kernel
theorem dX6_spotIn_20 : decode cX6_spotIn 20 = .ok (.iload_n 1, 1) := by decide +kernel
theorem dX6_spotIn_21 : decode cX6_spotIn 21 = .ok (.iconst 4, 1) := by decide +kernel
theorem dX6_spotIn_22 : decode cX6_spotIn 22 = .ok (.irem, 1) := by decide +kernel
theorem dX6_spotIn_23 : decode cX6_spotIn 23 = .ok (.iadd, 1) := by decide +kernel
theorem dX6_spotIn_24 : decode cX6_spotIn 24 = .ok (.ireturn, 1) := by decide +kernel
theorem dX6_zoneOf_0 : decode cX6_zoneOf 0 = .ok (.iload_n 0, 1) := by decide +kernel
theorem dX6_zoneOf_1 : decode cX6_zoneOf 1 = .ok (.bipush 24, 2) := by decide +kernel
theorem dX6_zoneOf_3 : decode cX6_zoneOf 3 = .ok (.idiv, 1) := by decide +kernel
theorem dX6_zoneOf_4 : decode cX6_zoneOf 4 = .ok (.iconst 4, 1) := by decide +kernel
theorem dX6_zoneOf_5 : decode cX6_zoneOf 5 = .ok (.idiv, 1) := by decide +kernel
theorem dX6_zoneOf_6 : decode cX6_zoneOf 6 = .ok (.bipush 6, 2) := by decide +kernel
theorem dX6_zoneOf_8 : decode cX6_zoneOf 8 = .ok (.imul, 1) := by decide +kernel
theorem dX6_zoneOf_9 : decode cX6_zoneOf 9 = .ok (.iload_n 0, 1) := by decide +kernel
theorem dX6_zoneOf_10 : decode cX6_zoneOf 10 = .ok (.bipush 24, 2) := by decide +kernel
theorem dX6_zoneOf_12 : decode cX6_zoneOf 12 = .ok (.irem, 1) := by decide +kernel
theorem dX6_zoneOf_13 : decode cX6_zoneOf 13 = .ok (.iconst 4, 1) := by decide +kernel
theorem dX6_zoneOf_14 : decode cX6_zoneOf 14 = .ok (.idiv, 1) := by decide +kernel
theorem dX6_zoneOf_15 : decode cX6_zoneOf 15 = .ok (.iadd, 1) := by decide +kernel
theorem dX6_zoneOf_16 : decode cX6_zoneOf 16 = .ok (.ireturn, 1) := by decide +kernel
set_option maxRecDepth 20000 in
theorem ggX6_apart_X6_off : GoodIn wsX6_apart wsX6_off := goodIn_r _ [4] (by decide +kernel) (by decide +kernel)
set_option maxRecDepth 20000 in
theorem gX6_apart_X6_off : GoodIn wsX6_apart (va_wsS RX6 42 yX6_off wsX6_off) := goodIn_app (goodIn_of _ (by decide +kernel)) ggX6_apart_X6_off
theorem dX6_apart_0 : decode cX6_apart 0 = .ok (.iload_n 0, 1) := by decide +kernel
theorem dX6_apart_1 : decode cX6_apart 1 = .ok (.bipush 6, 2) := by decide +kernel
theorem dX6_apart_3 : decode cX6_apart 3 = .ok (.irem, 1) := by decide +kernel
theorem dX6_apart_4 : decode cX6_apart 4 = .ok (.iload_n 1, 1) := by decide +kernel
theorem dX6_apart_5 : decode cX6_apart 5 = .ok (.bipush 6, 2) := by decide +kernel
theorem dX6_apart_7 : decode cX6_apart 7 = .ok (.irem, 1) := by decide +kernel
theorem dX6_apart_8 : decode cX6_apart 8 = .ok (.isub, 1) := by decide +kernel
theorem dX6_apart_9 : decode cX6_apart 9 = .ok (.invokestatic 42, 3) := by decide +kernel
theorem dX6_apart_12 : decode cX6_apart 12 = .ok (.istore_n 2, 1) := by decide +kernel
theorem dX6_apart_13 : decode cX6_apart 13 = .ok (.iload_n 0, 1) := by decide +kernel
theorem dX6_apart_14 : decode cX6_apart 14 = .ok (.bipush 6, 2) := by decide +kernel
theorem dX6_apart_16 : decode cX6_apart 16 = .ok (.idiv, 1) := by decide +kernel
theorem dX6_apart_17 : decode cX6_apart 17 = .ok (.iload_n 1, 1) := by decide +kernel
theorem dX6_apart_18 : decode cX6_apart 18 = .ok (.bipush 6, 2) := by decide +kernel
theorem dX6_apart_20 : decode cX6_apart 20 = .ok (.idiv, 1) := by decide +kernel
theorem dX6_apart_21 : decode cX6_apart 21 = .ok (.isub, 1) := by decide +kernel
theorem dX6_apart_22 : decode cX6_apart 22 = .ok (.invokestatic 42, 3) := by decide +kernel
theorem dX6_apart_25 : decode cX6_apart 25 = .ok (.istore_n 3, 1) := by decide +kernel
theorem dX6_apart_26 : decode cX6_apart 26 = .ok (.iload_n 2, 1) := by decide +kernel
theorem dX6_apart_27 : decode cX6_apart 27 = .ok (.iload_n 3, 1) := by decide +kernel
theorem dX6_apart_28 : decode cX6_apart 28 = .ok (.if_icmp .le 7, 3) := by decide +kernel
theorem dX6_apart_31 : decode cX6_apart 31 = .ok (.iload_n 2, 1) := by decide +kernel
theorem dX6_apart_32 : decode cX6_apart 32 = .ok (.goto 4, 3) := by decide +kernel
theorem dX6_apart_35 : decode cX6_apart 35 = .ok (.iload_n 3, 1) := by decide +kernel
theorem dX6_apart_36 : decode cX6_apart 36 = .ok (.ireturn, 1) := by decide +kernel
theorem dX6_shareAt_0 : decode cX6_shareAt 0 = .ok (.iload_n 1, 1) := by decide +kernel
theorem dX6_shareAt_1 : decode cX6_shareAt 1 = .ok (.iconst 3, 1) := by decide +kernel
theorem dX6_shareAt_2 : decode cX6_shareAt 2 = .ok (.if_icmp .ge 16, 3) := by decide +kernel
theorem dX6_shareAt_5 : decode cX6_shareAt 5 = .ok (.aload_n 0, 1) := by decide +kernel
theorem dX6_shareAt_6 : decode cX6_shareAt 6 = .ok (.getfield 7, 3) := by decide +kernel
theorem dX6_shareAt_9 : decode cX6_shareAt 9 = .ok (.sipush 324, 3) := by decide +kernel
theorem dX6_shareAt_12 : decode cX6_shareAt 12 = .ok (.iload_n 1, 1) := by decide +kernel
theorem dX6_shareAt_13 : decode cX6_shareAt 13 = .ok (.iadd, 1) := by decide +kernel
theorem dX6_shareAt_14 : decode cX6_shareAt 14 = .ok (.iaload, 1) := by decide +kernel
theorem dX6_shareAt_15 : decode cX6_shareAt 15 = .ok (.goto 4, 3) := by decide +kernel
theorem dX6_shareAt_18 : decode cX6_shareAt 18 = .ok (.iconst 0, 1) := by decide +kernel
theorem dX6_shareAt_19 : decode cX6_shareAt 19 = .ok (.ireturn, 1) := by decide +kernel
set_option maxRecDepth 20000 in
theorem ggX6_light_X6_apart : GoodIn wsX6_light wsX6_apart := goodIn_r _ [6, 7, 8, 5, 9] (by decide +kernel) (by decide +kernel)
set_option maxRecDepth 20000 in
theorem gX6_light_X6_apart : GoodIn wsX6_light (va_wsS RX6 46 yX6_apart wsX6_apart) := goodIn_app (goodIn_of _ (by decide +kernel)) ggX6_light_X6_apart
set_option maxRecDepth 20000 in
theorem ggX6_light_X6_shareAt : GoodIn wsX6_light wsX6_shareAt := goodIn_r _ [13, 2, 17, 18, 19, 20, 21, 22, 23, 24, 25, 26] (by decide +kernel) (by decide +kernel)
set_option maxRecDepth 20000 in
theorem gX6_light_X6_shareAt : GoodIn wsX6_light (wsV RX6 50 RX6 yX6_shareAt wsX6_shareAt) := goodIn_app (goodIn_of _ (by decide +kernel)) ggX6_light_X6_shareAt
set_option maxRecDepth 20000 in
theorem ggX6_light_X6_lesser : GoodIn wsX6_light wsX6_lesser := goodIn_r _ [16] (by decide +kernel) (by decide +kernel)
set_option maxRecDepth 20000 in
theorem gX6_light_X6_lesser : GoodIn wsX6_light (va_wsS RX6 53 yX6_lesser wsX6_lesser) := goodIn_app (goodIn_of _ (by decide +kernel)) ggX6_light_X6_lesser
theorem dX6_light_0 : decode cX6_light 0 = .ok (.iconst 0, 1) := by decide +kernel
theorem dX6_light_1 : decode cX6_light 1 = .ok (.istore_n 3, 1) := by decide +kernel
theorem dX6_light_2 : decode cX6_light 2 = .ok (.iconst 0, 1) := by decide +kernel
theorem dX6_light_3 : decode cX6_light 3 = .ok (.istore 4, 2) := by decide +kernel
theorem dX6_light_5 : decode cX6_light 5 = .ok (.iload 4, 2) := by decide +kernel
theorem dX6_light_7 : decode cX6_light 7 = .ok (.bipush 18, 2) := by decide +kernel
theorem dX6_light_9 : decode cX6_light 9 = .ok (.if_icmp .ge 48, 3) := by decide +kernel
theorem dX6_light_12 : decode cX6_light 12 = .ok (.iload_n 3, 1) := by decide +kernel
theorem dX6_light_13 : decode cX6_light 13 = .ok (.iload_n 2, 1) := by decide +kernel
theorem dX6_light_14 : decode cX6_light 14 = .ok (.ifCond .eq 13, 3) := by decide +kernel
theorem dX6_light_17 : decode cX6_light 17 = .ok (.aload_n 0, 1) := by decide +kernel
theorem dX6_light_18 : decode cX6_light 18 = .ok (.getfield 19, 3) := by decide +kernel
theorem dX6_light_21 : decode cX6_light 21 = .ok (.iload 4, 2) := by decide +kernel
theorem dX6_light_23 : decode cX6_light 23 = .ok (.iaload, 1) := by decide +kernel
theorem dX6_light_24 : decode cX6_light 24 = .ok (.goto 14, 3) := by decide +kernel
theorem dX6_light_27 : decode cX6_light 27 = .ok (.aload_n 0, 1) := by decide +kernel
theorem dX6_light_28 : decode cX6_light 28 = .ok (.getfield 7, 3) := by decide +kernel
theorem dX6_light_31 : decode cX6_light 31 = .ok (.sipush 288, 3) := by decide +kernel
theorem dX6_light_34 : decode cX6_light 34 = .ok (.iload 4, 2) := by decide +kernel
theorem dX6_light_36 : decode cX6_light 36 = .ok (.iadd, 1) := by decide +kernel
theorem dX6_light_37 : decode cX6_light 37 = .ok (.iaload, 1) := by decide +kernel
theorem dX6_light_38 : decode cX6_light 38 = .ok (.aload_n 0, 1) := by decide +kernel
theorem dX6_light_39 : decode cX6_light 39 = .ok (.iload_n 1, 1) := by decide +kernel
theorem dX6_light_40 : decode cX6_light 40 = .ok (.iload 4, 2) := by decide +kernel
theorem dX6_light_42 : decode cX6_light 42 = .ok (.invokestatic 46, 3) := by decide +kernel
theorem dX6_light_45 : decode cX6_light 45 = .ok (.invokevirtual 50, 3) := by decide +kernel
theorem dX6_light_48 : decode cX6_light 48 = .ok (.imul, 1) := by decide +kernel
theorem dX6_light_49 : decode cX6_light 49 = .ok (.iadd, 1) := by decide +kernel
theorem dX6_light_50 : decode cX6_light 50 = .ok (.istore_n 3, 1) := by decide +kernel
theorem dX6_light_51 : decode cX6_light 51 = .ok (.iinc 4 1, 3) := by decide +kernel
theorem dX6_light_54 : decode cX6_light 54 = .ok (.goto (-49), 3) := by decide +kernel
theorem dX6_light_57 : decode cX6_light 57 = .ok (.sipush 255, 3) := by decide +kernel
theorem dX6_light_60 : decode cX6_light 60 = .ok (.iload_n 3, 1) := by decide +kernel
theorem dX6_light_61 : decode cX6_light 61 = .ok (.sipush 256, 3) := by decide +kernel
theorem dX6_light_64 : decode cX6_light 64 = .ok (.idiv, 1) := by decide +kernel
theorem dX6_light_65 : decode cX6_light 65 = .ok (.invokestatic 53, 3) := by decide +kernel
theorem dX6_light_68 : decode cX6_light 68 = .ok (.ireturn, 1) := by decide +kernel
theorem dX6_leakOf_0 : decode cX6_leakOf 0 = .ok (.iload_n 1, 1) := by decide +kernel
theorem dX6_leakOf_1 : decode cX6_leakOf 1 = .ok (.aload_n 0, 1) := by decide +kernel
theorem dX6_leakOf_2 : decode cX6_leakOf 2 = .ok (.getfield 7, 3) := by decide +kernel
theorem dX6_leakOf_5 : decode cX6_leakOf 5 = .ok (.sipush 329, 3) := by decide +kernel
theorem dX6_leakOf_8 : decode cX6_leakOf 8 = .ok (.iaload, 1) := by decide +kernel
theorem dX6_leakOf_9 : decode cX6_leakOf 9 = .ok (.imul, 1) := by decide +kernel
theorem dX6_leakOf_10 : decode cX6_leakOf 10 = .ok (.sipush 1000, 3) := by decide +kernel
theorem dX6_leakOf_13 : decode cX6_leakOf 13 = .ok (.idiv, 1) := by decide +kernel
theorem dX6_leakOf_14 : decode cX6_leakOf 14 = .ok (.ireturn, 1) := by decide +kernel
set_option maxRecDepth 20000 in
theorem ggX6_glass_X6_lesser : GoodIn wsX6_glass wsX6_lesser := goodIn_r _ [4] (by decide +kernel) (by decide +kernel)
set_option maxRecDepth 20000 in
theorem gX6_glass_X6_lesser : GoodIn wsX6_glass (va_wsS RX6 53 yX6_lesser wsX6_lesser) := goodIn_app (goodIn_of _ (by decide +kernel)) ggX6_glass_X6_lesser
theorem dX6_glass_0 : decode cX6_glass 0 = .ok (.iload_n 1, 1) := by decide +kernel
theorem dX6_glass_1 : decode cX6_glass 1 = .ok (.ifCond .ne 7, 3) := by decide +kernel
theorem dX6_glass_4 : decode cX6_glass 4 = .ok (.iconst 0, 1) := by decide +kernel
theorem dX6_glass_5 : decode cX6_glass 5 = .ok (.goto 20, 3) := by decide +kernel
theorem dX6_glass_8 : decode cX6_glass 8 = .ok (.sipush 255, 3) := by decide +kernel
theorem dX6_glass_11 : decode cX6_glass 11 = .ok (.iload_n 0, 1) := by decide +kernel
theorem dX6_glass_12 : decode cX6_glass 12 = .ok (.sipush 255, 3) := by decide +kernel
theorem dX6_glass_15 : decode cX6_glass 15 = .ok (.imul, 1) := by decide +kernel
theorem dX6_glass_16 : decode cX6_glass 16 = .ok (.iload_n 1, 1) := by decide +kernel
theorem dX6_glass_17 : decode cX6_glass 17 = .ok (.iadd, 1) := by decide +kernel
theorem dX6_glass_18 : decode cX6_glass 18 = .ok (.iconst 1, 1) := by decide +kernel
theorem dX6_glass_19 : decode cX6_glass 19 = .ok (.isub, 1) := by decide +kernel
theorem dX6_glass_20 : decode cX6_glass 20 = .ok (.iload_n 1, 1) := by decide +kernel
theorem dX6_glass_21 : decode cX6_glass 21 = .ok (.idiv, 1) := by decide +kernel
theorem dX6_glass_22 : decode cX6_glass 22 = .ok (.invokestatic 53, 3) := by decide +kernel
theorem dX6_glass_25 : decode cX6_glass 25 = .ok (.ireturn, 1) := by decide +kernel
set_option maxRecDepth 20000 in
theorem ggX6_shown_X6_glass : GoodIn wsX6_shown wsX6_glass := goodIn_r _ [4, 5, 6, 3, 7] (by decide +kernel) (by decide +kernel)
set_option maxRecDepth 20000 in
theorem gX6_shown_X6_glass : GoodIn wsX6_shown (va_wsS RX6 56 yX6_glass wsX6_glass) := goodIn_app (goodIn_of _ (by decide +kernel)) ggX6_shown_X6_glass
set_option maxRecDepth 20000 in
theorem ggX6_shown_X6_leakOf : GoodIn wsX6_shown wsX6_leakOf := goodIn_r _ [11, 12, 13, 14, 15, 16, 17, 18, 19, 20, 21, 22] (by decide +kernel) (by decide +kernel)
set_option maxRecDepth 20000 in
theorem gX6_shown_X6_leakOf : GoodIn wsX6_shown (wsV RX6 59 RX6 yX6_leakOf wsX6_leakOf) := goodIn_app (goodIn_of _ (by decide +kernel)) ggX6_shown_X6_leakOf
theorem dX6_shown_0 : decode cX6_shown 0 = .ok (.iload_n 2, 1) := by decide +kernel
theorem dX6_shown_1 : decode cX6_shown 1 = .ok (.iload_n 1, 1) := by decide +kernel
theorem dX6_shown_2 : decode cX6_shown 2 = .ok (.iload_n 2, 1) := by decide +kernel
theorem dX6_shown_3 : decode cX6_shown 3 = .ok (.invokestatic 56, 3) := by decide +kernel
theorem dX6_shown_6 : decode cX6_shown 6 = .ok (.imul, 1) := by decide +kernel
theorem dX6_shown_7 : decode cX6_shown 7 = .ok (.sipush 255, 3) := by decide +kernel
theorem dX6_shown_10 : decode cX6_shown 10 = .ok (.idiv, 1) := by decide +kernel
theorem dX6_shown_11 : decode cX6_shown 11 = .ok (.istore_n 3, 1) := by decide +kernel
theorem dX6_shown_12 : decode cX6_shown 12 = .ok (.iload_n 3, 1) := by decide +kernel
theorem dX6_shown_13 : decode cX6_shown 13 = .ok (.aload_n 0, 1) := by decide +kernel
theorem dX6_shown_14 : decode cX6_shown 14 = .ok (.iload_n 2, 1) := by decide +kernel
theorem dX6_shown_15 : decode cX6_shown 15 = .ok (.invokevirtual 59, 3) := by decide +kernel
theorem dX6_shown_18 : decode cX6_shown 18 = .ok (.if_icmp .le 7, 3) := by decide +kernel
theorem dX6_shown_21 : decode cX6_shown 21 = .ok (.iload_n 3, 1) := by decide +kernel
theorem dX6_shown_22 : decode cX6_shown 22 = .ok (.goto 8, 3) := by decide +kernel
theorem dX6_shown_25 : decode cX6_shown 25 = .ok (.aload_n 0, 1) := by decide +kernel
theorem dX6_shown_26 : decode cX6_shown 26 = .ok (.iload_n 2, 1) := by decide +kernel
theorem dX6_shown_27 : decode cX6_shown 27 = .ok (.invokevirtual 59, 3) := by decide +kernel
theorem dX6_shown_30 : decode cX6_shown 30 = .ok (.ireturn, 1) := by decide +kernel
set_option maxRecDepth 20000 in
theorem ggX6_greatestIn_X6_spotIn : GoodIn wsX6_greatestIn wsX6_spotIn := goodIn_r _ [5] (by decide +kernel) (by decide +kernel)
set_option maxRecDepth 20000 in
theorem gX6_greatestIn_X6_spotIn : GoodIn wsX6_greatestIn (va_wsS RX6 62 yX6_spotIn wsX6_spotIn) := goodIn_app (goodIn_of _ (by decide +kernel)) ggX6_greatestIn_X6_spotIn
theorem dX6_greatestIn_0 : decode cX6_greatestIn 0 = .ok (.iconst 0, 1) := by decide +kernel
theorem dX6_greatestIn_1 : decode cX6_greatestIn 1 = .ok (.istore_n 2, 1) := by decide +kernel
theorem dX6_greatestIn_2 : decode cX6_greatestIn 2 = .ok (.iconst 0, 1) := by decide +kernel
theorem dX6_greatestIn_3 : decode cX6_greatestIn 3 = .ok (.istore_n 3, 1) := by decide +kernel
theorem dX6_greatestIn_4 : decode cX6_greatestIn 4 = .ok (.iload_n 3, 1) := by decide +kernel
theorem dX6_greatestIn_5 : decode cX6_greatestIn 5 = .ok (.bipush 16, 2) := by decide +kernel
theorem dX6_greatestIn_7 : decode cX6_greatestIn 7 = .ok (.if_icmp .ge 34, 3) := by decide +kernel
theorem dX6_greatestIn_10 : decode cX6_greatestIn 10 = .ok (.aload_n 0, 1) := by decide +kernel
theorem dX6_greatestIn_11 : decode cX6_greatestIn 11 = .ok (.getfield 7, 3) := by decide +kernel
theorem dX6_greatestIn_14 : decode cX6_greatestIn 14 = .ok (.iload_n 1, 1) := by decide +kernel
theorem dX6_greatestIn_15 : decode cX6_greatestIn 15 = .ok (.iload_n 3, 1) := by decide +kernel
theorem dX6_greatestIn_16 : decode cX6_greatestIn 16 = .ok (.invokestatic 62, 3) := by decide +kernel
theorem dX6_greatestIn_19 : decode cX6_greatestIn 19 = .ok (.iaload, 1) := by decide +kernel
theorem dX6_greatestIn_20 : decode cX6_greatestIn 20 = .ok (.istore 4, 2) := by decide +kernel
theorem dX6_greatestIn_22 : decode cX6_greatestIn 22 = .ok (.iload 4, 2) := by decide +kernel
theorem dX6_greatestIn_24 : decode cX6_greatestIn 24 = .ok (.iload_n 2, 1) := by decide +kernel
theorem dX6_greatestIn_25 : decode cX6_greatestIn 25 = .ok (.if_icmp .le 8, 3) := by decide +kernel
theorem dX6_greatestIn_28 : decode cX6_greatestIn 28 = .ok (.iload 4, 2) := by decide +kernel
theorem dX6_greatestIn_30 : decode cX6_greatestIn 30 = .ok (.goto 4, 3) := by decide +kernel
theorem dX6_greatestIn_33 : decode cX6_greatestIn 33 = .ok (.iload_n 2, 1) := by decide +kernel
theorem dX6_greatestIn_34 : decode cX6_greatestIn 34 = .ok (.istore_n 2, 1) := by decide +kernel
theorem dX6_greatestIn_35 : decode cX6_greatestIn 35 = .ok (.iinc 3 1, 3) := by decide +kernel
theorem dX6_greatestIn_38 : decode cX6_greatestIn 38 = .ok (.goto (-34), 3) := by decide +kernel
theorem dX6_greatestIn_41 : decode cX6_greatestIn 41 = .ok (.iload_n 2, 1) := by decide +kernel
theorem dX6_greatestIn_42 : decode cX6_greatestIn 42 = .ok (.ireturn, 1) := by decide +kernel
set_option maxRecDepth 20000 in
theorem ggX6_meanIn_X6_spotIn : GoodIn wsX6_meanIn wsX6_spotIn := goodIn_r _ [5] (by decide +kernel) (by decide +kernel)
set_option maxRecDepth 20000 in
theorem gX6_meanIn_X6_spotIn : GoodIn wsX6_meanIn (va_wsS RX6 62 yX6_spotIn wsX6_spotIn) := goodIn_app (goodIn_of _ (by decide +kernel)) ggX6_meanIn_X6_spotIn
theorem dX6_meanIn_0 : decode cX6_meanIn 0 = .ok (.iconst 0, 1) := by decide +kernel
theorem dX6_meanIn_1 : decode cX6_meanIn 1 = .ok (.istore_n 2, 1) := by decide +kernel
theorem dX6_meanIn_2 : decode cX6_meanIn 2 = .ok (.iconst 0, 1) := by decide +kernel
theorem dX6_meanIn_3 : decode cX6_meanIn 3 = .ok (.istore_n 3, 1) := by decide +kernel
theorem dX6_meanIn_4 : decode cX6_meanIn 4 = .ok (.iload_n 3, 1) := by decide +kernel
theorem dX6_meanIn_5 : decode cX6_meanIn 5 = .ok (.bipush 16, 2) := by decide +kernel
theorem dX6_meanIn_7 : decode cX6_meanIn 7 = .ok (.if_icmp .ge 22, 3) := by decide +kernel
theorem dX6_meanIn_10 : decode cX6_meanIn 10 = .ok (.iload_n 2, 1) := by decide +kernel
theorem dX6_meanIn_11 : decode cX6_meanIn 11 = .ok (.aload_n 0, 1) := by decide +kernel
theorem dX6_meanIn_12 : decode cX6_meanIn 12 = .ok (.getfield 7, 3) := by decide +kernel
theorem dX6_meanIn_15 : decode cX6_meanIn 15 = .ok (.iload_n 1, 1) := by decide +kernel
theorem dX6_meanIn_16 : decode cX6_meanIn 16 = .ok (.iload_n 3, 1) := by decide +kernel
theorem dX6_meanIn_17 : decode cX6_meanIn 17 = .ok (.invokestatic 62, 3) := by decide +kernel
theorem dX6_meanIn_20 : decode cX6_meanIn 20 = .ok (.iaload, 1) := by decide +kernel
theorem dX6_meanIn_21 : decode cX6_meanIn 21 = .ok (.iadd, 1) := by decide +kernel
theorem dX6_meanIn_22 : decode cX6_meanIn 22 = .ok (.istore_n 2, 1) := by decide +kernel
theorem dX6_meanIn_23 : decode cX6_meanIn 23 = .ok (.iinc 3 1, 3) := by decide +kernel
theorem dX6_meanIn_26 : decode cX6_meanIn 26 = .ok (.goto (-22), 3) := by decide +kernel
theorem dX6_meanIn_29 : decode cX6_meanIn 29 = .ok (.iload_n 2, 1) := by decide +kernel
theorem dX6_meanIn_30 : decode cX6_meanIn 30 = .ok (.bipush 16, 2) := by decide +kernel
theorem dX6_meanIn_32 : decode cX6_meanIn 32 = .ok (.idiv, 1) := by decide +kernel
theorem dX6_meanIn_33 : decode cX6_meanIn 33 = .ok (.ireturn, 1) := by decide +kernel
set_option maxRecDepth 20000 in
theorem ggX6_hasBlack_X6_spotIn : GoodIn wsX6_hasBlack wsX6_spotIn := goodIn_r _ [5] (by decide +kernel) (by decide +kernel)
set_option maxRecDepth 20000 in
theorem gX6_hasBlack_X6_spotIn : GoodIn wsX6_hasBlack (va_wsS RX6 62 yX6_spotIn wsX6_spotIn) := goodIn_app (goodIn_of _ (by decide +kernel)) ggX6_hasBlack_X6_spotIn
theorem dX6_hasBlack_0 : decode cX6_hasBlack 0 = .ok (.iconst 0, 1) := by decide +kernel
theorem dX6_hasBlack_1 : decode cX6_hasBlack 1 = .ok (.istore_n 2, 1) := by decide +kernel
theorem dX6_hasBlack_2 : decode cX6_hasBlack 2 = .ok (.iconst 0, 1) := by decide +kernel
theorem dX6_hasBlack_3 : decode cX6_hasBlack 3 = .ok (.istore_n 3, 1) := by decide +kernel
theorem dX6_hasBlack_4 : decode cX6_hasBlack 4 = .ok (.iload_n 3, 1) := by decide +kernel
theorem dX6_hasBlack_5 : decode cX6_hasBlack 5 = .ok (.bipush 16, 2) := by decide +kernel
theorem dX6_hasBlack_7 : decode cX6_hasBlack 7 = .ok (.if_icmp .ge 32, 3) := by decide +kernel
theorem dX6_hasBlack_10 : decode cX6_hasBlack 10 = .ok (.iload_n 2, 1) := by decide +kernel
theorem dX6_hasBlack_11 : decode cX6_hasBlack 11 = .ok (.ifCond .ne 16, 3) := by decide +kernel
theorem dX6_hasBlack_14 : decode cX6_hasBlack 14 = .ok (.aload_n 0, 1) := by decide +kernel
theorem dX6_hasBlack_15 : decode cX6_hasBlack 15 = .ok (.getfield 7, 3) := by decide +kernel
theorem dX6_hasBlack_18 : decode cX6_hasBlack 18 = .ok (.iload_n 1, 1) := by decide +kernel
theorem dX6_hasBlack_19 : decode cX6_hasBlack 19 = .ok (.iload_n 3, 1) := by decide +kernel
theorem dX6_hasBlack_20 : decode cX6_hasBlack 20 = .ok (.invokestatic 62, 3) := by decide +kernel
theorem dX6_hasBlack_23 : decode cX6_hasBlack 23 = .ok (.iaload, 1) := by decide +kernel
theorem dX6_hasBlack_24 : decode cX6_hasBlack 24 = .ok (.ifCond .ne 7, 3) := by decide +kernel
theorem dX6_hasBlack_27 : decode cX6_hasBlack 27 = .ok (.iconst 1, 1) := by decide +kernel
theorem dX6_hasBlack_28 : decode cX6_hasBlack 28 = .ok (.goto 4, 3) := by decide +kernel
theorem dX6_hasBlack_31 : decode cX6_hasBlack 31 = .ok (.iconst 0, 1) := by decide +kernel
theorem dX6_hasBlack_32 : decode cX6_hasBlack 32 = .ok (.istore_n 2, 1) := by decide +kernel
theorem dX6_hasBlack_33 : decode cX6_hasBlack 33 = .ok (.iinc 3 1, 3) := by decide +kernel
theorem dX6_hasBlack_36 : decode cX6_hasBlack 36 = .ok (.goto (-32), 3) := by decide +kernel
theorem dX6_hasBlack_39 : decode cX6_hasBlack 39 = .ok (.iload_n 2, 1) := by decide +kernel
theorem dX6_hasBlack_40 : decode cX6_hasBlack 40 = .ok (.ireturn, 1) := by decide +kernel
set_option maxRecDepth 20000 in
theorem ggX6_beginning_X6_greatestIn : GoodIn wsX6_beginning wsX6_greatestIn := goodIn_r _ [6, 1, 7, 8, 5, 9, 17, 18, 19, 20, 21, 22, 23, 24, 25, 26] (by decide +kernel) (by decide +kernel)
set_option maxRecDepth 20000 in
theorem gX6_beginning_X6_greatestIn : GoodIn wsX6_beginning (wsV RX6 65 RX6 yX6_greatestIn wsX6_greatestIn) := goodIn_app (goodIn_of _ (by decide +kernel)) ggX6_beginning_X6_greatestIn
set_option maxRecDepth 20000 in
theorem ggX6_beginning_X6_meanIn : GoodIn wsX6_beginning wsX6_meanIn := goodIn_r _ [13, 1, 7, 8, 5, 9, 17, 18, 19, 20, 21, 22, 23, 24, 25, 26] (by decide +kernel) (by decide +kernel)
set_option maxRecDepth 20000 in
theorem gX6_beginning_X6_meanIn : GoodIn wsX6_beginning (wsV RX6 68 RX6 yX6_meanIn wsX6_meanIn) := goodIn_app (goodIn_of _ (by decide +kernel)) ggX6_beginning_X6_meanIn
set_option maxRecDepth 20000 in
theorem ggX6_beginning_X6_lesser : GoodIn wsX6_beginning wsX6_lesser := goodIn_r _ [16] (by decide +kernel) (by decide +kernel)
set_option maxRecDepth 20000 in
theorem gX6_beginning_X6_lesser : GoodIn wsX6_beginning (va_wsS RX6 53 yX6_lesser wsX6_lesser) := goodIn_app (goodIn_of _ (by decide +kernel)) ggX6_beginning_X6_lesser
theorem dX6_beginning_0 : decode cX6_beginning 0 = .ok (.aload_n 0, 1) := by decide +kernel
theorem dX6_beginning_1 : decode cX6_beginning 1 = .ok (.iload_n 1, 1) := by decide +kernel
theorem dX6_beginning_2 : decode cX6_beginning 2 = .ok (.invokevirtual 65, 3) := by decide +kernel
theorem dX6_beginning_5 : decode cX6_beginning 5 = .ok (.istore_n 3, 1) := by decide +kernel
theorem dX6_beginning_6 : decode cX6_beginning 6 = .ok (.iload_n 2, 1) := by decide +kernel
theorem dX6_beginning_7 : decode cX6_beginning 7 = .ok (.ifCond .ne 7, 3) := by decide +kernel
theorem dX6_beginning_10 : decode cX6_beginning 10 = .ok (.iload_n 3, 1) := by decide +kernel
theorem dX6_beginning_11 : decode cX6_beginning 11 = .ok (.goto 25, 3) := by decide +kernel
theorem dX6_beginning_14 : decode cX6_beginning 14 = .ok (.iload_n 2, 1) := by decide +kernel
theorem dX6_beginning_15 : decode cX6_beginning 15 = .ok (.iconst 1, 1) := by decide +kernel
theorem dX6_beginning_16 : decode cX6_beginning 16 = .ok (.if_icmp .ne 15, 3) := by decide +kernel
theorem dX6_beginning_19 : decode cX6_beginning 19 = .ok (.iload_n 3, 1) := by decide +kernel
theorem dX6_beginning_20 : decode cX6_beginning 20 = .ok (.aload_n 0, 1) := by decide +kernel
theorem dX6_beginning_21 : decode cX6_beginning 21 = .ok (.iload_n 1, 1) := by decide +kernel
theorem dX6_beginning_22 : decode cX6_beginning 22 = .ok (.invokevirtual 68, 3) := by decide +kernel
theorem dX6_beginning_25 : decode cX6_beginning 25 = .ok (.iadd, 1) := by decide +kernel
theorem dX6_beginning_26 : decode cX6_beginning 26 = .ok (.iconst 2, 1) := by decide +kernel
theorem dX6_beginning_27 : decode cX6_beginning 27 = .ok (.idiv, 1) := by decide +kernel
theorem dX6_beginning_28 : decode cX6_beginning 28 = .ok (.goto 8, 3) := by decide +kernel
theorem dX6_beginning_31 : decode cX6_beginning 31 = .ok (.aload_n 0, 1) := by decide +kernel
theorem dX6_beginning_32 : decode cX6_beginning 32 = .ok (.iload_n 1, 1) := by decide +kernel
theorem dX6_beginning_33 : decode cX6_beginning 33 = .ok (.invokevirtual 68, 3) := by decide +kernel
theorem dX6_beginning_36 : decode cX6_beginning 36 = .ok (.istore 4, 2) := by decide +kernel
theorem dX6_beginning_38 : decode cX6_beginning 38 = .ok (.sipush 255, 3) := by decide +kernel
theorem dX6_beginning_41 : decode cX6_beginning 41 = .ok (.iload 4, 2) := by decide +kernel
theorem dX6_beginning_43 : decode cX6_beginning 43 = .ok (.sipush 256, 3) := by decide +kernel
theorem dX6_beginning_46 : decode cX6_beginning 46 = .ok (.imul, 1) := by decide +kernel
theorem dX6_beginning_47 : decode cX6_beginning 47 = .ok (.aload_n 0, 1) := by decide +kernel
theorem dX6_beginning_48 : decode cX6_beginning 48 = .ok (.getfield 7, 3) := by decide +kernel
theorem dX6_beginning_51 : decode cX6_beginning 51 = .ok (.sipush 324, 3) := by decide +kernel
theorem dX6_beginning_54 : decode cX6_beginning 54 = .ok (.iaload, 1) := by decide +kernel
theorem dX6_beginning_55 : decode cX6_beginning 55 = .ok (.idiv, 1) := by decide +kernel
theorem dX6_beginning_56 : decode cX6_beginning 56 = .ok (.invokestatic 53, 3) := by decide +kernel
theorem dX6_beginning_59 : decode cX6_beginning 59 = .ok (.ireturn, 1) := by decide +kernel
set_option maxRecDepth 20000 in
theorem ggX6_raises_X6_lesser : GoodIn wsX6_raises wsX6_lesser := goodIn_r _ [5] (by decide +kernel) (by decide +kernel)
set_option maxRecDepth 20000 in
theorem gX6_raises_X6_lesser : GoodIn wsX6_raises (va_wsS RX6 53 yX6_lesser wsX6_lesser) := goodIn_app (goodIn_of _ (by decide +kernel)) ggX6_raises_X6_lesser
theorem dX6_raises_0 : decode cX6_raises 0 = .ok (.aload_n 0, 1) := by decide +kernel
theorem dX6_raises_1 : decode cX6_raises 1 = .ok (.getfield 19, 3) := by decide +kernel
theorem dX6_raises_4 : decode cX6_raises 4 = .ok (.iload_n 1, 1) := by decide +kernel
theorem dX6_raises_5 : decode cX6_raises 5 = .ok (.sipush 255, 3) := by decide +kernel
theorem dX6_raises_8 : decode cX6_raises 8 = .ok (.aload_n 0, 1) := by decide +kernel
theorem dX6_raises_9 : decode cX6_raises 9 = .ok (.getfield 19, 3) := by decide +kernel
theorem dX6_raises_12 : decode cX6_raises 12 = .ok (.iload_n 1, 1) := by decide +kernel
theorem dX6_raises_13 : decode cX6_raises 13 = .ok (.iaload, 1) := by decide +kernel
theorem dX6_raises_14 : decode cX6_raises 14 = .ok (.iload_n 2, 1) := by decide +kernel
theorem dX6_raises_15 : decode cX6_raises 15 = .ok (.sipush 256, 3) := by decide +kernel
theorem dX6_raises_18 : decode cX6_raises 18 = .ok (.imul, 1) := by decide +kernel
theorem dX6_raises_19 : decode cX6_raises 19 = .ok (.iload_n 3, 1) := by decide +kernel
theorem dX6_raises_20 : decode cX6_raises 20 = .ok (.iadd, 1) := by decide +kernel
theorem dX6_raises_21 : decode cX6_raises 21 = .ok (.iconst 1, 1) := by decide +kernel
theorem dX6_raises_22 : decode cX6_raises 22 = .ok (.isub, 1) := by decide +kernel
theorem dX6_raises_23 : decode cX6_raises 23 = .ok (.iload_n 3, 1) := by decide +kernel
theorem dX6_raises_24 : decode cX6_raises 24 = .ok (.idiv, 1) := by decide +kernel
theorem dX6_raises_25 : decode cX6_raises 25 = .ok (.iadd, 1) := by decide +kernel
theorem dX6_raises_26 : decode cX6_raises 26 = .ok (.invokestatic 53, 3) := by decide +kernel
theorem dX6_raises_29 : decode cX6_raises 29 = .ok (.iastore, 1) := by decide +kernel
theorem dX6_raises_30 : decode cX6_raises 30 = .ok (.return_, 1) := by decide +kernel
set_option maxRecDepth 20000 in
theorem ggX6_isLiveBeside_X6_apart : GoodIn wsX6_isLiveBeside wsX6_apart := goodIn_r _ [5, 6, 7, 4, 8] (by decide +kernel) (by decide +kernel)
set_option maxRecDepth 20000 in
theorem gX6_isLiveBeside_X6_apart : GoodIn wsX6_isLiveBeside (va_wsS RX6 46 yX6_apart wsX6_apart) := goodIn_app (goodIn_of _ (by decide +kernel)) ggX6_isLiveBeside_X6_apart
theorem dX6_isLiveBeside_0 : decode cX6_isLiveBeside 0 = .ok (.iload_n 1, 1) := by decide +kernel
theorem dX6_isLiveBeside_1 : decode cX6_isLiveBeside 1 = .ok (.iload_n 2, 1) := by decide +kernel
theorem dX6_isLiveBeside_2 : decode cX6_isLiveBeside 2 = .ok (.invokestatic 46, 3) := by decide +kernel
theorem dX6_isLiveBeside_5 : decode cX6_isLiveBeside 5 = .ok (.iconst 1, 1) := by decide +kernel
theorem dX6_isLiveBeside_6 : decode cX6_isLiveBeside 6 = .ok (.if_icmp .ne 20, 3) := by decide +kernel
theorem dX6_isLiveBeside_9 : decode cX6_isLiveBeside 9 = .ok (.aload_n 0, 1) := by decide +kernel
theorem dX6_isLiveBeside_10 : decode cX6_isLiveBeside 10 = .ok (.getfield 7, 3) := by decide +kernel
theorem dX6_isLiveBeside_13 : decode cX6_isLiveBeside 13 = .ok (.sipush 306, 3) := by decide +kernel
theorem dX6_isLiveBeside_16 : decode cX6_isLiveBeside 16 = .ok (.iload_n 2, 1) := by decide +kernel
theorem dX6_isLiveBeside_17 : decode cX6_isLiveBeside 17 = .ok (.iadd, 1) := by decide +kernel
theorem dX6_isLiveBeside_18 : decode cX6_isLiveBeside 18 = .ok (.iaload, 1) := by decide +kernel
theorem dX6_isLiveBeside_19 : decode cX6_isLiveBeside 19 = .ok (.ifCond .ne 7, 3) := by decide +kernel
theorem dX6_isLiveBeside_22 : decode cX6_isLiveBeside 22 = .ok (.iconst 1, 1) := by decide +kernel
theorem dX6_isLiveBeside_23 : decode cX6_isLiveBeside 23 = .ok (.goto 4, 3) := by decide +kernel
theorem dX6_isLiveBeside_26 : decode cX6_isLiveBeside 26 = .ok (.iconst 0, 1) := by decide +kernel
theorem dX6_isLiveBeside_27 : decode cX6_isLiveBeside 27 = .ok (.ireturn, 1) := by decide +kernel
set_option maxRecDepth 20000 in
theorem ggX6_raisesBeside_X6_isLiveBeside : GoodIn wsX6_raisesBeside wsX6_isLiveBeside := goodIn_r _ [6, 1, 7, 8, 5, 9, 10, 11, 12, 21, 22, 23, 24, 25, 26, 27, 28, 29, 30] (by decide +kernel) (by decide +kernel)
set_option maxRecDepth 20000 in
theorem gX6_raisesBeside_X6_isLiveBeside : GoodIn wsX6_raisesBeside (wsV RX6 71 RX6 yX6_isLiveBeside wsX6_isLiveBeside) := goodIn_app (goodIn_of _ (by decide +kernel)) ggX6_raisesBeside_X6_isLiveBeside
set_option maxRecDepth 20000 in
theorem ggX6_raisesBeside_X6_raises : GoodIn wsX6_raisesBeside wsX6_raises := goodIn_r _ [16, 17, 18, 19, 5, 20, 21, 22, 23, 24, 25, 26, 27, 28, 29, 30] (by decide +kernel) (by decide +kernel)
set_option maxRecDepth 20000 in
theorem gX6_raisesBeside_X6_raises : GoodIn wsX6_raisesBeside (wsV RX6 75 RX6 yX6_raises wsX6_raises) := goodIn_app (goodIn_of _ (by decide +kernel)) ggX6_raisesBeside_X6_raises
theorem dX6_raisesBeside_0 : decode cX6_raisesBeside 0 = .ok (.iconst 0, 1) := by decide +kernel
theorem dX6_raisesBeside_1 : decode cX6_raisesBeside 1 = .ok (.istore_n 3, 1) := by decide +kernel
theorem dX6_raisesBeside_2 : decode cX6_raisesBeside 2 = .ok (.iconst 0, 1) := by decide +kernel
theorem dX6_raisesBeside_3 : decode cX6_raisesBeside 3 = .ok (.istore 4, 2) := by decide +kernel
theorem dX6_raisesBeside_5 : decode cX6_raisesBeside 5 = .ok (.iload 4, 2) := by decide +kernel
theorem dX6_raisesBeside_7 : decode cX6_raisesBeside 7 = .ok (.bipush 18, 2) := by decide +kernel
theorem dX6_raisesBeside_9 : decode cX6_raisesBeside 9 = .ok (.if_icmp .ge 27, 3) := by decide +kernel
theorem dX6_raisesBeside_12 : decode cX6_raisesBeside 12 = .ok (.iload_n 3, 1) := by decide +kernel
theorem dX6_raisesBeside_13 : decode cX6_raisesBeside 13 = .ok (.aload_n 0, 1) := by decide +kernel
theorem dX6_raisesBeside_14 : decode cX6_raisesBeside 14 = .ok (.iload_n 1, 1) := by decide +kernel
theorem dX6_raisesBeside_15 : decode cX6_raisesBeside 15 = .ok (.iload 4, 2) := by decide +kernel
theorem dX6_raisesBeside_17 : decode cX6_raisesBeside 17 = .ok (.invokevirtual 71, 3) := by decide +kernel
theorem dX6_raisesBeside_20 : decode cX6_raisesBeside 20 = .ok (.ifCond .eq 7, 3) := by decide +kernel
theorem dX6_raisesBeside_23 : decode cX6_raisesBeside 23 = .ok (.iconst 1, 1) := by decide +kernel
theorem dX6_raisesBeside_24 : decode cX6_raisesBeside 24 = .ok (.goto 4, 3) := by decide +kernel
theorem dX6_raisesBeside_27 : decode cX6_raisesBeside 27 = .ok (.iconst 0, 1) := by decide +kernel
theorem dX6_raisesBeside_28 : decode cX6_raisesBeside 28 = .ok (.iadd, 1) := by decide +kernel
theorem dX6_raisesBeside_29 : decode cX6_raisesBeside 29 = .ok (.istore_n 3, 1) := by decide +kernel
theorem dX6_raisesBeside_30 : decode cX6_raisesBeside 30 = .ok (.iinc 4 1, 3) := by decide +kernel
theorem dX6_raisesBeside_33 : decode cX6_raisesBeside 33 = .ok (.goto (-28), 3) := by decide +kernel
theorem dX6_raisesBeside_36 : decode cX6_raisesBeside 36 = .ok (.aload_n 0, 1) := by decide +kernel
theorem dX6_raisesBeside_37 : decode cX6_raisesBeside 37 = .ok (.getfield 7, 3) := by decide +kernel
theorem dX6_raisesBeside_40 : decode cX6_raisesBeside 40 = .ok (.sipush 325, 3) := by decide +kernel
theorem dX6_raisesBeside_43 : decode cX6_raisesBeside 43 = .ok (.iaload, 1) := by decide +kernel
theorem dX6_raisesBeside_44 : decode cX6_raisesBeside 44 = .ok (.iload_n 3, 1) := by decide +kernel
theorem dX6_raisesBeside_45 : decode cX6_raisesBeside 45 = .ok (.imul, 1) := by decide +kernel
theorem dX6_raisesBeside_46 : decode cX6_raisesBeside 46 = .ok (.istore 4, 2) := by decide +kernel
theorem dX6_raisesBeside_48 : decode cX6_raisesBeside 48 = .ok (.iconst 0, 1) := by decide +kernel
theorem dX6_raisesBeside_49 : decode cX6_raisesBeside 49 = .ok (.istore 5, 2) := by decide +kernel
theorem dX6_raisesBeside_51 : decode cX6_raisesBeside 51 = .ok (.iload 5, 2) := by decide +kernel
theorem dX6_raisesBeside_53 : decode cX6_raisesBeside 53 = .ok (.bipush 18, 2) := by decide +kernel
theorem dX6_raisesBeside_55 : decode cX6_raisesBeside 55 = .ok (.if_icmp .ge 33, 3) := by decide +kernel
theorem dX6_raisesBeside_58 : decode cX6_raisesBeside 58 = .ok (.iload 4, 2) := by decide +kernel
theorem dX6_raisesBeside_60 : decode cX6_raisesBeside 60 = .ok (.ifCond .le 28, 3) := by decide +kernel
theorem dX6_raisesBeside_63 : decode cX6_raisesBeside 63 = .ok (.aload_n 0, 1) := by decide +kernel
theorem dX6_raisesBeside_64 : decode cX6_raisesBeside 64 = .ok (.iload_n 1, 1) := by decide +kernel
theorem dX6_raisesBeside_65 : decode cX6_raisesBeside 65 = .ok (.iload 5, 2) := by decide +kernel
theorem dX6_raisesBeside_67 : decode cX6_raisesBeside 67 = .ok (.invokevirtual 71, 3) := by decide +kernel
theorem dX6_raisesBeside_70 : decode cX6_raisesBeside 70 = .ok (.ifCond .eq 12, 3) := by decide +kernel
theorem dX6_raisesBeside_73 : decode cX6_raisesBeside 73 = .ok (.aload_n 0, 1) := by decide +kernel
theorem dX6_raisesBeside_74 : decode cX6_raisesBeside 74 = .ok (.iload 5, 2) := by decide +kernel
theorem dX6_raisesBeside_76 : decode cX6_raisesBeside 76 = .ok (.iload_n 2, 1) := by decide +kernel
theorem dX6_raisesBeside_77 : decode cX6_raisesBeside 77 = .ok (.iload 4, 2) := by decide +kernel
theorem dX6_raisesBeside_79 : decode cX6_raisesBeside 79 = .ok (.invokevirtual 75, 3) := by decide +kernel
theorem dX6_raisesBeside_82 : decode cX6_raisesBeside 82 = .ok (.iinc 5 1, 3) := by decide +kernel
theorem dX6_raisesBeside_85 : decode cX6_raisesBeside 85 = .ok (.goto (-34), 3) := by decide +kernel
theorem dX6_raisesBeside_88 : decode cX6_raisesBeside 88 = .ok (.return_, 1) := by decide +kernel
set_option maxRecDepth 20000 in
theorem ggX6_round_X6_greatestIn : GoodIn wsX6_round wsX6_greatestIn := goodIn_r _ [6, 1, 7, 8, 5, 9, 40, 41, 42, 43, 44, 45, 46, 47, 48, 49] (by decide +kernel) (by decide +kernel)
set_option maxRecDepth 20000 in
theorem gX6_round_X6_greatestIn : GoodIn wsX6_round (wsV RX6 65 RX6 yX6_greatestIn wsX6_greatestIn) := goodIn_app (goodIn_of _ (by decide +kernel)) ggX6_round_X6_greatestIn
set_option maxRecDepth 20000 in
theorem ggX6_round_X6_light : GoodIn wsX6_round wsX6_light := goodIn_r _ [13, 14, 1, 15, 16, 5, 17, 18, 19, 20, 21, 22, 23, 24, 25, 26, 27, 40, 41, 42, 43, 44, 45, 46, 47, 48, 49] (by decide +kernel) (by decide +kernel)
set_option maxRecDepth 20000 in
theorem gX6_round_X6_light : GoodIn wsX6_round (wsV RX6 79 RX6 yX6_light wsX6_light) := goodIn_app (goodIn_of _ (by decide +kernel)) ggX6_round_X6_light
set_option maxRecDepth 20000 in
theorem ggX6_round_X6_raises : GoodIn wsX6_round wsX6_raises := goodIn_r _ [31, 14, 25, 26, 5, 27, 40, 41, 42, 43, 44, 45, 46, 47, 48, 49] (by decide +kernel) (by decide +kernel)
set_option maxRecDepth 20000 in
theorem gX6_round_X6_raises : GoodIn wsX6_round (wsV RX6 75 RX6 yX6_raises wsX6_raises) := goodIn_app (goodIn_of _ (by decide +kernel)) ggX6_round_X6_raises
set_option maxRecDepth 20000 in
theorem ggX6_round_X6_raisesBeside : GoodIn wsX6_round wsX6_raisesBeside := goodIn_r _ [35, 1, 36, 37, 38, 5, 39, 15, 16, 17, 18, 19, 20, 28, 29, 30, 31, 14, 25, 26, 27, 40, 41, 42, 43, 44, 45, 46, 47, 48, 49] (by decide +kernel) (by decide +kernel)
set_option maxRecDepth 20000 in
theorem gX6_round_X6_raisesBeside : GoodIn wsX6_round (wsV RX6 83 RX6 yX6_raisesBeside wsX6_raisesBeside) := goodIn_app (goodIn_of _ (by decide +kernel)) ggX6_round_X6_raisesBeside
theorem dX6_round_0 : decode cX6_round 0 = .ok (.iconst 0, 1) := by decide +kernel
theorem dX6_round_1 : decode cX6_round 1 = .ok (.istore_n 1, 1) := by decide +kernel
theorem dX6_round_2 : decode cX6_round 2 = .ok (.iload_n 1, 1) := by decide +kernel
theorem dX6_round_3 : decode cX6_round 3 = .ok (.bipush 18, 2) := by decide +kernel
theorem dX6_round_5 : decode cX6_round 5 = .ok (.if_icmp .ge 66, 3) := by decide +kernel
theorem dX6_round_8 : decode cX6_round 8 = .ok (.aload_n 0, 1) := by decide +kernel
theorem dX6_round_9 : decode cX6_round 9 = .ok (.iload_n 1, 1) := by decide +kernel
theorem dX6_round_10 : decode cX6_round 10 = .ok (.invokevirtual 65, 3) := by decide +kernel
theorem dX6_round_13 : decode cX6_round 13 = .ok (.aload_n 0, 1) := by decide +kernel
theorem dX6_round_14 : decode cX6_round 14 = .ok (.iload_n 1, 1) := by decide +kernel
theorem dX6_round_15 : decode cX6_round 15 = .ok (.iconst 1, 1) := by decide +kernel
theorem dX6_round_16 : decode cX6_round 16 = .ok (.invokevirtual 79, 3) := by decide +kernel
theorem dX6_round_19 : decode cX6_round 19 = .ok (.isub, 1) := by decide +kernel
theorem dX6_round_20 : decode cX6_round 20 = .ok (.istore_n 2, 1) := by decide +kernel
theorem dX6_round_21 : decode cX6_round 21 = .ok (.iload_n 2, 1) := by decide +kernel
theorem dX6_round_22 : decode cX6_round 22 = .ok (.ifCond .le 33, 3) := by decide +kernel
theorem dX6_round_25 : decode cX6_round 25 = .ok (.aload_n 0, 1) := by decide +kernel
theorem dX6_round_26 : decode cX6_round 26 = .ok (.getfield 7, 3) := by decide +kernel
theorem dX6_round_29 : decode cX6_round 29 = .ok (.sipush 306, 3) := by decide +kernel
theorem dX6_round_32 : decode cX6_round 32 = .ok (.iload_n 1, 1) := by decide +kernel
theorem dX6_round_33 : decode cX6_round 33 = .ok (.iadd, 1) := by decide +kernel
theorem dX6_round_34 : decode cX6_round 34 = .ok (.iaload, 1) := by decide +kernel
theorem dX6_round_35 : decode cX6_round 35 = .ok (.ifCond .ne 20, 3) := by decide +kernel
theorem dX6_round_38 : decode cX6_round 38 = .ok (.aload_n 0, 1) := by decide +kernel
theorem dX6_round_39 : decode cX6_round 39 = .ok (.iload_n 1, 1) := by decide +kernel
theorem dX6_round_40 : decode cX6_round 40 = .ok (.iload_n 2, 1) := by decide +kernel
theorem dX6_round_41 : decode cX6_round 41 = .ok (.aload_n 0, 1) := by decide +kernel
theorem dX6_round_42 : decode cX6_round 42 = .ok (.getfield 7, 3) := by decide +kernel
theorem dX6_round_45 : decode cX6_round 45 = .ok (.sipush 324, 3) := by decide +kernel
theorem dX6_round_48 : decode cX6_round 48 = .ok (.iaload, 1) := by decide +kernel
theorem dX6_round_49 : decode cX6_round 49 = .ok (.invokevirtual 75, 3) := by decide +kernel
theorem dX6_round_52 : decode cX6_round 52 = .ok (.goto 13, 3) := by decide +kernel
theorem dX6_round_55 : decode cX6_round 55 = .ok (.iload_n 2, 1) := by decide +kernel
theorem dX6_round_56 : decode cX6_round 56 = .ok (.ifCond .le 9, 3) := by decide +kernel
theorem dX6_round_59 : decode cX6_round 59 = .ok (.aload_n 0, 1) := by decide +kernel
theorem dX6_round_60 : decode cX6_round 60 = .ok (.iload_n 1, 1) := by decide +kernel
theorem dX6_round_61 : decode cX6_round 61 = .ok (.iload_n 2, 1) := by decide +kernel
theorem dX6_round_62 : decode cX6_round 62 = .ok (.invokevirtual 83, 3) := by decide +kernel
theorem dX6_round_65 : decode cX6_round 65 = .ok (.iinc 1 1, 3) := by decide +kernel
theorem dX6_round_68 : decode cX6_round 68 = .ok (.goto (-66), 3) := by decide +kernel
theorem dX6_round_71 : decode cX6_round 71 = .ok (.return_, 1) := by decide +kernel
set_option maxRecDepth 20000 in
theorem ggX6_wants_X6_beginning : GoodIn wsX6_wants wsX6_beginning := goodIn_r _ [7, 2, 8, 9, 10, 6, 11, 12, 13, 14, 15, 16, 17, 18, 19, 20, 21, 60, 61, 62, 63, 64, 65, 66, 67, 68, 69] (by decide +kernel) (by decide +kernel)
set_option maxRecDepth 20000 in
theorem gX6_wants_X6_beginning : GoodIn wsX6_wants (wsV RX6 87 RX6 yX6_beginning wsX6_beginning) := goodIn_app (goodIn_of _ (by decide +kernel)) ggX6_wants_X6_beginning
set_option maxRecDepth 20000 in
theorem ggX6_wants_X6_round : GoodIn wsX6_wants wsX6_round := goodIn_r _ [25, 2, 8, 9, 10, 6, 11, 12, 13, 14, 26, 27, 28, 29, 1, 30, 31, 32, 33, 34, 35, 36, 37, 38, 39, 19, 20, 21, 40, 41, 42, 43, 44, 45, 46, 47, 48, 49, 50, 51, 60, 61, 62, 63, 64, 65, 66, 67, 68, 69] (by decide +kernel) (by decide +kernel)
set_option maxRecDepth 20000 in
theorem gX6_wants_X6_round : GoodIn wsX6_wants (wsV RX6 90 RX6 yX6_round wsX6_round) := goodIn_app (goodIn_of _ (by decide +kernel)) ggX6_wants_X6_round
set_option maxRecDepth 20000 in
theorem ggX6_wants_X6_hasBlack : GoodIn wsX6_wants wsX6_hasBlack := goodIn_r _ [55, 2, 12, 13, 6, 14, 60, 61, 62, 63, 64, 65, 66, 67, 68, 69] (by decide +kernel) (by decide +kernel)
set_option maxRecDepth 20000 in
theorem gX6_wants_X6_hasBlack : GoodIn wsX6_wants (wsV RX6 93 RX6 yX6_hasBlack wsX6_hasBlack) := goodIn_app (goodIn_of _ (by decide +kernel)) ggX6_wants_X6_hasBlack
set_option maxRecDepth 20000 in
theorem ggX6_wants_X6_light : GoodIn wsX6_wants wsX6_light := goodIn_r _ [29, 1, 2, 30, 31, 6, 32, 33, 34, 35, 36, 37, 38, 39, 19, 20, 21, 60, 61, 62, 63, 64, 65, 66, 67, 68, 69] (by decide +kernel) (by decide +kernel)
set_option maxRecDepth 20000 in
theorem gX6_wants_X6_light : GoodIn wsX6_wants (wsV RX6 79 RX6 yX6_light wsX6_light) := goodIn_app (goodIn_of _ (by decide +kernel)) ggX6_wants_X6_light
set_option maxRecDepth 20000 in
theorem ggX6_wants_X6_leakOf : GoodIn wsX6_wants wsX6_leakOf := goodIn_r _ [59, 2, 60, 61, 62, 63, 64, 65, 66, 67, 68, 69] (by decide +kernel) (by decide +kernel)
set_option maxRecDepth 20000 in
theorem gX6_wants_X6_leakOf : GoodIn wsX6_wants (wsV RX6 59 RX6 yX6_leakOf wsX6_leakOf) := goodIn_app (goodIn_of _ (by decide +kernel)) ggX6_wants_X6_leakOf
theorem dX6_wants_0 : decode cX6_wants 0 = .ok (.iconst 0, 1) := by decide +kernel
theorem dX6_wants_1 : decode cX6_wants 1 = .ok (.istore_n 2, 1) := by decide +kernel
theorem dX6_wants_2 : decode cX6_wants 2 = .ok (.iload_n 2, 1) := by decide +kernel
theorem dX6_wants_3 : decode cX6_wants 3 = .ok (.bipush 18, 2) := by decide +kernel
theorem dX6_wants_5 : decode cX6_wants 5 = .ok (.if_icmp .ge 39, 3) := by decide +kernel
theorem dX6_wants_8 : decode cX6_wants 8 = .ok (.aload_n 0, 1) := by decide +kernel
theorem dX6_wants_9 : decode cX6_wants 9 = .ok (.getfield 19, 3) := by decide +kernel
theorem dX6_wants_12 : decode cX6_wants 12 = .ok (.iload_n 2, 1) := by decide +kernel
theorem dX6_wants_13 : decode cX6_wants 13 = .ok (.aload_n 0, 1) := by decide +kernel
theorem dX6_wants_14 : decode cX6_wants 14 = .ok (.getfield 7, 3) := by decide +kernel
theorem dX6_wants_17 : decode cX6_wants 17 = .ok (.sipush 306, 3) := by decide +kernel
theorem dX6_wants_20 : decode cX6_wants 20 = .ok (.iload_n 2, 1) := by decide +kernel
theorem dX6_wants_21 : decode cX6_wants 21 = .ok (.iadd, 1) := by decide +kernel
theorem dX6_wants_22 : decode cX6_wants 22 = .ok (.iaload, 1) := by decide +kernel
theorem dX6_wants_23 : decode cX6_wants 23 = .ok (.iconst 1, 1) := by decide +kernel
theorem dX6_wants_24 : decode cX6_wants 24 = .ok (.if_icmp .ne 7, 3) := by decide +kernel
theorem dX6_wants_27 : decode cX6_wants 27 = .ok (.iconst 0, 1) := by decide +kernel
theorem dX6_wants_28 : decode cX6_wants 28 = .ok (.goto 9, 3) := by decide +kernel
theorem dX6_wants_31 : decode cX6_wants 31 = .ok (.aload_n 0, 1) := by decide +kernel
theorem dX6_wants_32 : decode cX6_wants 32 = .ok (.iload_n 2, 1) := by decide +kernel
theorem dX6_wants_33 : decode cX6_wants 33 = .ok (.iload_n 1, 1) := by decide +kernel
theorem dX6_wants_34 : decode cX6_wants 34 = .ok (.invokevirtual 87, 3) := by decide +kernel
theorem dX6_wants_37 : decode cX6_wants 37 = .ok (.iastore, 1) := by decide +kernel
theorem dX6_wants_38 : decode cX6_wants 38 = .ok (.iinc 2 1, 3) := by decide +kernel
theorem dX6_wants_41 : decode cX6_wants 41 = .ok (.goto (-39), 3) := by decide +kernel
theorem dX6_wants_44 : decode cX6_wants 44 = .ok (.iconst 0, 1) := by decide +kernel
theorem dX6_wants_45 : decode cX6_wants 45 = .ok (.istore_n 2, 1) := by decide +kernel
theorem dX6_wants_46 : decode cX6_wants 46 = .ok (.iload_n 2, 1) := by decide +kernel
theorem dX6_wants_47 : decode cX6_wants 47 = .ok (.aload_n 0, 1) := by decide +kernel
theorem dX6_wants_48 : decode cX6_wants 48 = .ok (.getfield 7, 3) := by decide +kernel
theorem dX6_wants_51 : decode cX6_wants 51 = .ok (.sipush 328, 3) := by decide +kernel
theorem dX6_wants_54 : decode cX6_wants 54 = .ok (.iaload, 1) := by decide +kernel
theorem dX6_wants_55 : decode cX6_wants 55 = .ok (.if_icmp .ge 13, 3) := by decide +kernel
theorem dX6_wants_58 : decode cX6_wants 58 = .ok (.aload_n 0, 1) := by decide +kernel
theorem dX6_wants_59 : decode cX6_wants 59 = .ok (.invokevirtual 90, 3) := by decide +kernel
theorem dX6_wants_62 : decode cX6_wants 62 = .ok (.iinc 2 1, 3) := by decide +kernel
theorem dX6_wants_65 : decode cX6_wants 65 = .ok (.goto (-19), 3) := by decide +kernel
theorem dX6_wants_68 : decode cX6_wants 68 = .ok (.iconst 0, 1) := by decide +kernel
theorem dX6_wants_69 : decode cX6_wants 69 = .ok (.istore_n 2, 1) := by decide +kernel
theorem dX6_wants_70 : decode cX6_wants 70 = .ok (.iload_n 2, 1) := by decide +kernel
theorem dX6_wants_71 : decode cX6_wants 71 = .ok (.bipush 18, 2) := by decide +kernel
theorem dX6_wants_73 : decode cX6_wants 73 = .ok (.if_icmp .ge 62, 3) := by decide +kernel
theorem dX6_wants_76 : decode cX6_wants 76 = .ok (.aload_n 0, 1) := by decide +kernel
theorem dX6_wants_77 : decode cX6_wants 77 = .ok (.iload_n 2, 1) := by decide +kernel
theorem dX6_wants_78 : decode cX6_wants 78 = .ok (.invokevirtual 93, 3) := by decide +kernel
theorem dX6_wants_81 : decode cX6_wants 81 = .ok (.istore_n 3, 1) := by decide +kernel
theorem dX6_wants_82 : decode cX6_wants 82 = .ok (.iload_n 3, 1) := by decide +kernel
theorem dX6_wants_83 : decode cX6_wants 83 = .ok (.ifCond .eq 46, 3) := by decide +kernel
theorem dX6_wants_86 : decode cX6_wants 86 = .ok (.aload_n 0, 1) := by decide +kernel
theorem dX6_wants_87 : decode cX6_wants 87 = .ok (.getfield 19, 3) := by decide +kernel
theorem dX6_wants_90 : decode cX6_wants 90 = .ok (.iload_n 2, 1) := by decide +kernel
theorem dX6_wants_91 : decode cX6_wants 91 = .ok (.iaload, 1) := by decide +kernel
theorem dX6_wants_92 : decode cX6_wants 92 = .ok (.ifCond .le 37, 3) := by decide +kernel
theorem dX6_wants_95 : decode cX6_wants 95 = .ok (.aload_n 0, 1) := by decide +kernel
theorem dX6_wants_96 : decode cX6_wants 96 = .ok (.aload_n 0, 1) := by decide +kernel
theorem dX6_wants_97 : decode cX6_wants 97 = .ok (.iload_n 2, 1) := by decide +kernel
theorem dX6_wants_98 : decode cX6_wants 98 = .ok (.iconst 1, 1) := by decide +kernel
theorem dX6_wants_99 : decode cX6_wants 99 = .ok (.invokevirtual 79, 3) := by decide +kernel
theorem dX6_wants_102 : decode cX6_wants 102 = .ok (.invokevirtual 59, 3) := by decide +kernel
theorem dX6_wants_105 : decode cX6_wants 105 = .ok (.aload_n 0, 1) := by decide +kernel
theorem dX6_wants_106 : decode cX6_wants 106 = .ok (.getfield 7, 3) := by decide +kernel
theorem dX6_wants_109 : decode cX6_wants 109 = .ok (.sipush 330, 3) := by decide +kernel
theorem dX6_wants_112 : decode cX6_wants 112 = .ok (.iaload, 1) := by decide +kernel
theorem dX6_wants_113 : decode cX6_wants 113 = .ok (.if_icmp .le 16, 3) := by decide +kernel
theorem dX6_wants_116 : decode cX6_wants 116 = .ok (.aload_n 0, 1) := by decide +kernel
theorem dX6_wants_117 : decode cX6_wants 117 = .ok (.getfield 19, 3) := by decide +kernel
theorem dX6_wants_120 : decode cX6_wants 120 = .ok (.iload_n 2, 1) := by decide +kernel
theorem dX6_wants_121 : decode cX6_wants 121 = .ok (.dup2, 1) := by decide +kernel
theorem dX6_wants_122 : decode cX6_wants 122 = .ok (.iaload, 1) := by decide +kernel
theorem dX6_wants_123 : decode cX6_wants 123 = .ok (.iconst 1, 1) := by decide +kernel
theorem dX6_wants_124 : decode cX6_wants 124 = .ok (.isub, 1) := by decide +kernel
theorem dX6_wants_125 : decode cX6_wants 125 = .ok (.iastore, 1) := by decide +kernel
theorem dX6_wants_126 : decode cX6_wants 126 = .ok (.goto (-44), 3) := by decide +kernel
theorem dX6_wants_129 : decode cX6_wants 129 = .ok (.iinc 2 1, 3) := by decide +kernel
theorem dX6_wants_132 : decode cX6_wants 132 = .ok (.goto (-62), 3) := by decide +kernel
theorem dX6_wants_135 : decode cX6_wants 135 = .ok (.return_, 1) := by decide +kernel
set_option maxRecDepth 20000 in
theorem ggX6_over_X6_light : GoodIn wsX6_over wsX6_light := goodIn_r _ [6, 7, 1, 8, 9, 5, 10, 11, 12, 13, 14, 15, 16, 17, 18, 19, 20, 35, 36, 37, 38, 39, 40, 41, 42, 43, 44] (by decide +kernel) (by decide +kernel)
set_option maxRecDepth 20000 in
theorem gX6_over_X6_light : GoodIn wsX6_over (wsV RX6 79 RX6 yX6_light wsX6_light) := goodIn_app (goodIn_of _ (by decide +kernel)) ggX6_over_X6_light
set_option maxRecDepth 20000 in
theorem ggX6_over_X6_spotIn : GoodIn wsX6_over wsX6_spotIn := goodIn_r _ [23] (by decide +kernel) (by decide +kernel)
set_option maxRecDepth 20000 in
theorem gX6_over_X6_spotIn : GoodIn wsX6_over (va_wsS RX6 62 yX6_spotIn wsX6_spotIn) := goodIn_app (goodIn_of _ (by decide +kernel)) ggX6_over_X6_spotIn
set_option maxRecDepth 20000 in
theorem ggX6_over_X6_shown : GoodIn wsX6_over wsX6_shown := goodIn_r _ [27, 28, 29, 5, 30, 18, 19, 20, 31, 32, 33, 34, 1, 35, 36, 37, 38, 39, 40, 41, 42, 43, 44] (by decide +kernel) (by decide +kernel)
set_option maxRecDepth 20000 in
theorem gX6_over_X6_shown : GoodIn wsX6_over (wsV RX6 97 RX6 yX6_shown wsX6_shown) := goodIn_app (goodIn_of _ (by decide +kernel)) ggX6_over_X6_shown
set_option maxRecDepth 20000 in
theorem ggX6_over_X6_off : GoodIn wsX6_over wsX6_off := goodIn_r _ [13] (by decide +kernel) (by decide +kernel)
set_option maxRecDepth 20000 in
theorem gX6_over_X6_off : GoodIn wsX6_over (va_wsS RX6 42 yX6_off wsX6_off) := goodIn_app (goodIn_of _ (by decide +kernel)) ggX6_over_X6_off
theorem dX6_over_0 : decode cX6_over 0 = .ok (.iconst 0, 1) := by decide +kernel
theorem dX6_over_1 : decode cX6_over 1 = .ok (.istore 4, 2) := by decide +kernel
theorem dX6_over_3 : decode cX6_over 3 = .ok (.iconst 0, 1) := by decide +kernel
theorem dX6_over_4 : decode cX6_over 4 = .ok (.istore 5, 2) := by decide +kernel
theorem dX6_over_6 : decode cX6_over 6 = .ok (.iload 5, 2) := by decide +kernel
theorem dX6_over_8 : decode cX6_over 8 = .ok (.bipush 18, 2) := by decide +kernel
theorem dX6_over_10 : decode cX6_over 10 = .ok (.if_icmp .ge 179, 3) := by decide +kernel
theorem dX6_over_13 : decode cX6_over 13 = .ok (.iload_n 1, 1) := by decide +kernel
theorem dX6_over_14 : decode cX6_over 14 = .ok (.bipush (-5), 2) := by decide +kernel
theorem dX6_over_16 : decode cX6_over 16 = .ok (.if_icmp .eq 9, 3) := by decide +kernel
theorem dX6_over_19 : decode cX6_over 19 = .ok (.iload_n 1, 1) := by decide +kernel
theorem dX6_over_20 : decode cX6_over 20 = .ok (.iload 5, 2) := by decide +kernel
theorem dX6_over_22 : decode cX6_over 22 = .ok (.if_icmp .ne 13, 3) := by decide +kernel
theorem dX6_over_25 : decode cX6_over 25 = .ok (.aload_n 0, 1) := by decide +kernel
theorem dX6_over_26 : decode cX6_over 26 = .ok (.iload 5, 2) := by decide +kernel
theorem dX6_over_28 : decode cX6_over 28 = .ok (.iload_n 3, 1) := by decide +kernel
theorem dX6_over_29 : decode cX6_over 29 = .ok (.invokevirtual 79, 3) := by decide +kernel
theorem dX6_over_32 : decode cX6_over 32 = .ok (.goto 4, 3) := by decide +kernel
theorem dX6_over_35 : decode cX6_over 35 = .ok (.iconst 0, 1) := by decide +kernel
theorem dX6_over_36 : decode cX6_over 36 = .ok (.istore 6, 2) := by decide +kernel
theorem dX6_over_38 : decode cX6_over 38 = .ok (.iconst 0, 1) := by decide +kernel
theorem dX6_over_39 : decode cX6_over 39 = .ok (.istore 7, 2) := by decide +kernel
theorem dX6_over_41 : decode cX6_over 41 = .ok (.iload 7, 2) := by decide +kernel
theorem dX6_over_43 : decode cX6_over 43 = .ok (.bipush 16, 2) := by decide +kernel
theorem dX6_over_45 : decode cX6_over 45 = .ok (.if_icmp .ge 138, 3) := by decide +kernel
theorem dX6_over_48 : decode cX6_over 48 = .ok (.iload_n 1, 1) := by decide +kernel
theorem dX6_over_49 : decode cX6_over 49 = .ok (.bipush (-5), 2) := by decide +kernel
theorem dX6_over_51 : decode cX6_over 51 = .ok (.if_icmp .eq 9, 3) := by decide +kernel
theorem dX6_over_54 : decode cX6_over 54 = .ok (.iload_n 1, 1) := by decide +kernel
theorem dX6_over_55 : decode cX6_over 55 = .ok (.iload 5, 2) := by decide +kernel
theorem dX6_over_57 : decode cX6_over 57 = .ok (.if_icmp .ne 126, 3) := by decide +kernel
theorem dX6_over_60 : decode cX6_over 60 = .ok (.aload_n 0, 1) := by decide +kernel
theorem dX6_over_61 : decode cX6_over 61 = .ok (.getfield 7, 3) := by decide +kernel
theorem dX6_over_64 : decode cX6_over 64 = .ok (.iload 5, 2) := by decide +kernel
theorem dX6_over_66 : decode cX6_over 66 = .ok (.iload 7, 2) := by decide +kernel
theorem dX6_over_68 : decode cX6_over 68 = .ok (.invokestatic 62, 3) := by decide +kernel
theorem dX6_over_71 : decode cX6_over 71 = .ok (.iaload, 1) := by decide +kernel
theorem dX6_over_72 : decode cX6_over 72 = .ok (.istore 8, 2) := by decide +kernel
theorem dX6_over_74 : decode cX6_over 74 = .ok (.aload_n 0, 1) := by decide +kernel
theorem dX6_over_75 : decode cX6_over 75 = .ok (.iload 8, 2) := by decide +kernel
theorem dX6_over_77 : decode cX6_over 77 = .ok (.iload 6, 2) := by decide +kernel
theorem dX6_over_79 : decode cX6_over 79 = .ok (.invokevirtual 97, 3) := by decide +kernel
theorem dX6_over_82 : decode cX6_over 82 = .ok (.istore 9, 2) := by decide +kernel
theorem dX6_over_84 : decode cX6_over 84 = .ok (.iload 9, 2) := by decide +kernel
theorem dX6_over_86 : decode cX6_over 86 = .ok (.iload 8, 2) := by decide +kernel
theorem dX6_over_88 : decode cX6_over 88 = .ok (.isub, 1) := by decide +kernel
theorem dX6_over_89 : decode cX6_over 89 = .ok (.invokestatic 42, 3) := by decide +kernel
theorem dX6_over_92 : decode cX6_over 92 = .ok (.istore 10, 2) := by decide +kernel
theorem dX6_over_94 : decode cX6_over 94 = .ok (.iload 9, 2) := by decide +kernel
theorem dX6_over_96 : decode cX6_over 96 = .ok (.iload 8, 2) := by decide +kernel
theorem dX6_over_98 : decode cX6_over 98 = .ok (.if_icmp .ne 7, 3) := by decide +kernel
theorem dX6_over_101 : decode cX6_over 101 = .ok (.iconst 0, 1) := by decide +kernel
theorem dX6_over_102 : decode cX6_over 102 = .ok (.goto 15, 3) := by decide +kernel
theorem dX6_over_105 : decode cX6_over 105 = .ok (.iload 9, 2) := by decide +kernel
theorem dX6_over_107 : decode cX6_over 107 = .ok (.iload 8, 2) := by decide +kernel
theorem dX6_over_109 : decode cX6_over 109 = .ok (.if_icmp .ge 7, 3) := by decide +kernel
theorem dX6_over_112 : decode cX6_over 112 = .ok (.iconst 1, 1) := by decide +kernel
theorem dX6_over_113 : decode cX6_over 113 = .ok (.goto 4, 3) := by decide +kernel
theorem dX6_over_116 : decode cX6_over 116 = .ok (.iconst 2, 1) := by decide +kernel
theorem dX6_over_117 : decode cX6_over 117 = .ok (.istore 11, 2) := by decide +kernel
theorem dX6_over_119 : decode cX6_over 119 = .ok (.iload_n 2, 1) := by decide +kernel
theorem dX6_over_120 : decode cX6_over 120 = .ok (.iconst 4, 1) := by decide +kernel
theorem dX6_over_121 : decode cX6_over 121 = .ok (.if_icmp .ne 20, 3) := by decide +kernel
theorem dX6_over_124 : decode cX6_over 124 = .ok (.iload 10, 2) := by decide +kernel
theorem dX6_over_126 : decode cX6_over 126 = .ok (.iload 4, 2) := by decide +kernel
theorem dX6_over_128 : decode cX6_over 128 = .ok (.if_icmp .le 8, 3) := by decide +kernel
theorem dX6_over_131 : decode cX6_over 131 = .ok (.iload 10, 2) := by decide +kernel
theorem dX6_over_133 : decode cX6_over 133 = .ok (.goto 42, 3) := by decide +kernel
theorem dX6_over_136 : decode cX6_over 136 = .ok (.iload 4, 2) := by decide +kernel
theorem dX6_over_138 : decode cX6_over 138 = .ok (.goto 37, 3) := by decide +kernel
theorem dX6_over_141 : decode cX6_over 141 = .ok (.iload 4, 2) := by decide +kernel
theorem dX6_over_143 : decode cX6_over 143 = .ok (.iload_n 2, 1) := by decide +kernel
theorem dX6_over_144 : decode cX6_over 144 = .ok (.iconst 3, 1) := by decide +kernel
theorem dX6_over_145 : decode cX6_over 145 = .ok (.if_icmp .ne 8, 3) := by decide +kernel
theorem dX6_over_148 : decode cX6_over 148 = .ok (.iload 10, 2) := by decide +kernel
theorem dX6_over_150 : decode cX6_over 150 = .ok (.goto 24, 3) := by decide +kernel
theorem dX6_over_153 : decode cX6_over 153 = .ok (.iload_n 2, 1) := by decide +kernel
theorem dX6_over_154 : decode cX6_over 154 = .ok (.iconst 5, 1) := by decide +kernel
theorem dX6_over_155 : decode cX6_over 155 = .ok (.if_icmp .ne 8, 3) := by decide +kernel
theorem dX6_over_158 : decode cX6_over 158 = .ok (.iload 9, 2) := by decide +kernel
theorem dX6_over_160 : decode cX6_over 160 = .ok (.goto 14, 3) := by decide +kernel
theorem dX6_over_163 : decode cX6_over 163 = .ok (.iload 11, 2) := by decide +kernel
theorem dX6_over_165 : decode cX6_over 165 = .ok (.iload_n 2, 1) := by decide +kernel
theorem dX6_over_166 : decode cX6_over 166 = .ok (.if_icmp .ne 7, 3) := by decide +kernel
theorem dX6_over_169 : decode cX6_over 169 = .ok (.iconst 1, 1) := by decide +kernel
theorem dX6_over_170 : decode cX6_over 170 = .ok (.goto 4, 3) := by decide +kernel
theorem dX6_over_173 : decode cX6_over 173 = .ok (.iconst 0, 1) := by decide +kernel
theorem dX6_over_174 : decode cX6_over 174 = .ok (.iadd, 1) := by decide +kernel
theorem dX6_over_175 : decode cX6_over 175 = .ok (.istore 4, 2) := by decide +kernel
theorem dX6_over_177 : decode cX6_over 177 = .ok (.iinc 7 1, 3) := by decide +kernel
theorem dX6_over_180 : decode cX6_over 180 = .ok (.goto (-139), 3) := by decide +kernel
theorem dX6_over_183 : decode cX6_over 183 = .ok (.iinc 5 1, 3) := by decide +kernel
theorem dX6_over_186 : decode cX6_over 186 = .ok (.goto (-180), 3) := by decide +kernel
theorem dX6_over_189 : decode cX6_over 189 = .ok (.iload 4, 2) := by decide +kernel
theorem dX6_over_191 : decode cX6_over 191 = .ok (.ireturn, 1) := by decide +kernel
theorem dX6_power_0 : decode cX6_power 0 = .ok (.iconst 0, 1) := by decide +kernel
theorem dX6_power_1 : decode cX6_power 1 = .ok (.istore_n 2, 1) := by decide +kernel
theorem dX6_power_2 : decode cX6_power 2 = .ok (.iconst 0, 1) := by decide +kernel
theorem dX6_power_3 : decode cX6_power 3 = .ok (.istore_n 3, 1) := by decide +kernel
theorem dX6_power_4 : decode cX6_power 4 = .ok (.iload_n 3, 1) := by decide +kernel
theorem dX6_power_5 : decode cX6_power 5 = .ok (.bipush 18, 2) := by decide +kernel
theorem dX6_power_7 : decode cX6_power 7 = .ok (.if_icmp .ge 35, 3) := by decide +kernel
theorem dX6_power_10 : decode cX6_power 10 = .ok (.iload_n 2, 1) := by decide +kernel
theorem dX6_power_11 : decode cX6_power 11 = .ok (.iload_n 1, 1) := by decide +kernel
theorem dX6_power_12 : decode cX6_power 12 = .ok (.ifCond .eq 12, 3) := by decide +kernel
theorem dX6_power_15 : decode cX6_power 15 = .ok (.aload_n 0, 1) := by decide +kernel
theorem dX6_power_16 : decode cX6_power 16 = .ok (.getfield 19, 3) := by decide +kernel
theorem dX6_power_19 : decode cX6_power 19 = .ok (.iload_n 3, 1) := by decide +kernel
theorem dX6_power_20 : decode cX6_power 20 = .ok (.iaload, 1) := by decide +kernel
theorem dX6_power_21 : decode cX6_power 21 = .ok (.goto 13, 3) := by decide +kernel
theorem dX6_power_24 : decode cX6_power 24 = .ok (.aload_n 0, 1) := by decide +kernel
theorem dX6_power_25 : decode cX6_power 25 = .ok (.getfield 7, 3) := by decide +kernel
theorem dX6_power_28 : decode cX6_power 28 = .ok (.sipush 288, 3) := by decide +kernel
theorem dX6_power_31 : decode cX6_power 31 = .ok (.iload_n 3, 1) := by decide +kernel
theorem dX6_power_32 : decode cX6_power 32 = .ok (.iadd, 1) := by decide +kernel
theorem dX6_power_33 : decode cX6_power 33 = .ok (.iaload, 1) := by decide +kernel
theorem dX6_power_34 : decode cX6_power 34 = .ok (.iadd, 1) := by decide +kernel
theorem dX6_power_35 : decode cX6_power 35 = .ok (.istore_n 2, 1) := by decide +kernel
theorem dX6_power_36 : decode cX6_power 36 = .ok (.iinc 3 1, 3) := by decide +kernel
theorem dX6_power_39 : decode cX6_power 39 = .ok (.goto (-35), 3) := by decide +kernel
theorem dX6_power_42 : decode cX6_power 42 = .ok (.iload_n 2, 1) := by decide +kernel
theorem dX6_power_43 : decode cX6_power 43 = .ok (.ireturn, 1) := by decide +kernel
set_option maxRecDepth 20000 in
theorem ggX6_farthest_X6_wants : GoodIn wsX6_farthest wsX6_wants := goodIn_r _ [7, 2, 1, 8, 9, 10, 6, 11, 12, 13, 14, 15, 16, 17, 18, 19, 20, 21, 22, 23, 24, 25, 26, 27, 28, 29, 30, 31, 32, 33, 34, 35, 36, 37, 38, 39, 40, 41, 42, 43, 44, 45, 46, 47, 48, 49, 50, 51, 52, 53, 54, 55, 56, 57, 58, 59, 60, 61, 62, 63, 64, 65, 66, 67, 68, 69, 70, 71, 72, 73] (by decide +kernel) (by decide +kernel)
set_option maxRecDepth 20000 in
theorem gX6_farthest_X6_wants : GoodIn wsX6_farthest (wsV RX6 100 RX6 yX6_wants wsX6_wants) := goodIn_app (goodIn_of _ (by decide +kernel)) ggX6_farthest_X6_wants
set_option maxRecDepth 20000 in
theorem ggX6_farthest_X6_off : GoodIn wsX6_farthest wsX6_off := goodIn_r _ [39] (by decide +kernel) (by decide +kernel)
set_option maxRecDepth 20000 in
theorem gX6_farthest_X6_off : GoodIn wsX6_farthest (va_wsS RX6 42 yX6_off wsX6_off) := goodIn_app (goodIn_of _ (by decide +kernel)) ggX6_farthest_X6_off
theorem dX6_farthest_0 : decode cX6_farthest 0 = .ok (.aload_n 0, 1) := by decide +kernel
theorem dX6_farthest_1 : decode cX6_farthest 1 = .ok (.aload_n 0, 1) := by decide +kernel
theorem dX6_farthest_2 : decode cX6_farthest 2 = .ok (.getfield 7, 3) := by decide +kernel
theorem dX6_farthest_5 : decode cX6_farthest 5 = .ok (.sipush 327, 3) := by decide +kernel
theorem dX6_farthest_8 : decode cX6_farthest 8 = .ok (.iaload, 1) := by decide +kernel
theorem dX6_farthest_9 : decode cX6_farthest 9 = .ok (.invokevirtual 100, 3) := by decide +kernel
theorem dX6_farthest_12 : decode cX6_farthest 12 = .ok (.iconst 0, 1) := by decide +kernel
theorem dX6_farthest_13 : decode cX6_farthest 13 = .ok (.istore_n 1, 1) := by decide +kernel
theorem dX6_farthest_14 : decode cX6_farthest 14 = .ok (.iconst 0, 1) := by decide +kernel
theorem dX6_farthest_15 : decode cX6_farthest 15 = .ok (.istore_n 2, 1) := by decide +kernel
theorem dX6_farthest_16 : decode cX6_farthest 16 = .ok (.iload_n 2, 1) := by decide +kernel
theorem dX6_farthest_17 : decode cX6_farthest 17 = .ok (.bipush 18, 2) := by decide +kernel
theorem dX6_farthest_19 : decode cX6_farthest 19 = .ok (.if_icmp .ge 41, 3) := by decide +kernel
theorem dX6_farthest_22 : decode cX6_farthest 22 = .ok (.aload_n 0, 1) := by decide +kernel
theorem dX6_farthest_23 : decode cX6_farthest 23 = .ok (.getfield 19, 3) := by decide +kernel
theorem dX6_farthest_26 : decode cX6_farthest 26 = .ok (.iload_n 2, 1) := by decide +kernel
theorem dX6_farthest_27 : decode cX6_farthest 27 = .ok (.iaload, 1) := by decide +kernel
end
section
theorem dX6_farthest_28 : decode cX6_farthest 28 = .ok (.aload_n 0, 1) := by decide +kernel
theorem dX6_farthest_29 : decode cX6_farthest 29 = .ok (.getfield 7, 3) := by decide +kernel
theorem dX6_farthest_32 : decode cX6_farthest 32 = .ok (.sipush 288, 3) := by decide +kernel
theorem dX6_farthest_35 : decode cX6_farthest 35 = .ok (.iload_n 2, 1) := by decide +kernel
theorem dX6_farthest_36 : decode cX6_farthest 36 = .ok (.iadd, 1) := by decide +kernel
theorem dX6_farthest_37 : decode cX6_farthest 37 = .ok (.iaload, 1) := by decide +kernel
theorem dX6_farthest_38 : decode cX6_farthest 38 = .ok (.isub, 1) := by decide +kernel
theorem dX6_farthest_39 : decode cX6_farthest 39 = .ok (.invokestatic 42, 3) := by decide +kernel
theorem dX6_farthest_42 : decode cX6_farthest 42 = .ok (.istore_n 3, 1) := by decide +kernel
theorem dX6_farthest_43 : decode cX6_farthest 43 = .ok (.iload_n 3, 1) := by decide +kernel
theorem dX6_farthest_44 : decode cX6_farthest 44 = .ok (.iload_n 1, 1) := by decide +kernel
theorem dX6_farthest_45 : decode cX6_farthest 45 = .ok (.if_icmp .le 7, 3) := by decide +kernel
theorem dX6_farthest_48 : decode cX6_farthest 48 = .ok (.iload_n 3, 1) := by decide +kernel
theorem dX6_farthest_49 : decode cX6_farthest 49 = .ok (.goto 4, 3) := by decide +kernel
theorem dX6_farthest_52 : decode cX6_farthest 52 = .ok (.iload_n 1, 1) := by decide +kernel
theorem dX6_farthest_53 : decode cX6_farthest 53 = .ok (.istore_n 1, 1) := by decide +kernel
theorem dX6_farthest_54 : decode cX6_farthest 54 = .ok (.iinc 2 1, 3) := by decide +kernel
theorem dX6_farthest_57 : decode cX6_farthest 57 = .ok (.goto (-41), 3) := by decide +kernel
theorem dX6_farthest_60 : decode cX6_farthest 60 = .ok (.iload_n 1, 1) := by decide +kernel
theorem dX6_farthest_61 : decode cX6_farthest 61 = .ok (.ireturn, 1) := by decide +kernel
set_option maxRecDepth 20000 in
theorem ggX6_ask_X6_isSpot : GoodIn wsX6_ask wsX6_isSpot := goodIn_r _ [6, 7, 8, 9, 10, 5, 11] (by decide +kernel) (by decide +kernel)
set_option maxRecDepth 20000 in
theorem gX6_ask_X6_isSpot : GoodIn wsX6_ask (va_wsS RX6 104 yX6_isSpot wsX6_isSpot) := goodIn_app (goodIn_of _ (by decide +kernel)) ggX6_ask_X6_isSpot
set_option maxRecDepth 20000 in
theorem ggX6_ask_X6_in : GoodIn wsX6_ask wsX6_in := goodIn_r _ [11] (by decide +kernel) (by decide +kernel)
set_option maxRecDepth 20000 in
theorem gX6_ask_X6_in : GoodIn wsX6_ask (va_wsS RX6 34 yX6_in wsX6_in) := goodIn_app (goodIn_of _ (by decide +kernel)) ggX6_ask_X6_in
set_option maxRecDepth 20000 in
theorem ggX6_ask_X6_acts : GoodIn wsX6_ask wsX6_acts := goodIn_r _ [15, 16, 17, 2, 18, 19, 20, 21, 22, 23, 24, 25, 26, 27] (by decide +kernel) (by decide +kernel)
set_option maxRecDepth 20000 in
theorem gX6_ask_X6_acts : GoodIn wsX6_ask (wsV RX6 109 RX6 yX6_acts wsX6_acts) := goodIn_app (goodIn_of _ (by decide +kernel)) ggX6_ask_X6_acts
theorem dX6_ask_0 : decode cX6_ask 0 = .ok (.iload_n 1, 1) := by decide +kernel
theorem dX6_ask_1 : decode cX6_ask 1 = .ok (.iload_n 2, 1) := by decide +kernel
theorem dX6_ask_2 : decode cX6_ask 2 = .ok (.invokestatic 104, 3) := by decide +kernel
theorem dX6_ask_5 : decode cX6_ask 5 = .ok (.ifCond .ne 5, 3) := by decide +kernel
theorem dX6_ask_8 : decode cX6_ask 8 = .ok (.iconst (-1), 1) := by decide +kernel
theorem dX6_ask_9 : decode cX6_ask 9 = .ok (.ireturn, 1) := by decide +kernel
theorem dX6_ask_10 : decode cX6_ask 10 = .ok (.iload_n 3, 1) := by decide +kernel
theorem dX6_ask_11 : decode cX6_ask 11 = .ok (.i2l, 1) := by decide +kernel
theorem dX6_ask_12 : decode cX6_ask 12 = .ok (.lconst 0, 1) := by decide +kernel
theorem dX6_ask_13 : decode cX6_ask 13 = .ok (.ldc2_w 107, 3) := by decide +kernel
theorem dX6_ask_16 : decode cX6_ask 16 = .ok (.invokestatic 34, 3) := by decide +kernel
theorem dX6_ask_19 : decode cX6_ask 19 = .ok (.ifCond .ne 6, 3) := by decide +kernel
theorem dX6_ask_22 : decode cX6_ask 22 = .ok (.bipush (-2), 2) := by decide +kernel
theorem dX6_ask_24 : decode cX6_ask 24 = .ok (.ireturn, 1) := by decide +kernel
theorem dX6_ask_25 : decode cX6_ask 25 = .ok (.aload_n 0, 1) := by decide +kernel
theorem dX6_ask_26 : decode cX6_ask 26 = .ok (.getfield 7, 3) := by decide +kernel
theorem dX6_ask_29 : decode cX6_ask 29 = .ok (.bipush 24, 2) := by decide +kernel
theorem dX6_ask_31 : decode cX6_ask 31 = .ok (.iload_n 2, 1) := by decide +kernel
theorem dX6_ask_32 : decode cX6_ask 32 = .ok (.imul, 1) := by decide +kernel
theorem dX6_ask_33 : decode cX6_ask 33 = .ok (.iload_n 1, 1) := by decide +kernel
theorem dX6_ask_34 : decode cX6_ask 34 = .ok (.iadd, 1) := by decide +kernel
theorem dX6_ask_35 : decode cX6_ask 35 = .ok (.iaload, 1) := by decide +kernel
theorem dX6_ask_36 : decode cX6_ask 36 = .ok (.istore 4, 2) := by decide +kernel
theorem dX6_ask_38 : decode cX6_ask 38 = .ok (.iload 4, 2) := by decide +kernel
theorem dX6_ask_40 : decode cX6_ask 40 = .ok (.iload_n 3, 1) := by decide +kernel
theorem dX6_ask_41 : decode cX6_ask 41 = .ok (.if_icmp .ne 6, 3) := by decide +kernel
theorem dX6_ask_44 : decode cX6_ask 44 = .ok (.bipush (-5), 2) := by decide +kernel
theorem dX6_ask_46 : decode cX6_ask 46 = .ok (.ireturn, 1) := by decide +kernel
theorem dX6_ask_47 : decode cX6_ask 47 = .ok (.aload_n 0, 1) := by decide +kernel
theorem dX6_ask_48 : decode cX6_ask 48 = .ok (.invokevirtual 109, 3) := by decide +kernel
theorem dX6_ask_51 : decode cX6_ask 51 = .ok (.aload_n 0, 1) := by decide +kernel
theorem dX6_ask_52 : decode cX6_ask 52 = .ok (.getfield 7, 3) := by decide +kernel
theorem dX6_ask_55 : decode cX6_ask 55 = .ok (.bipush 24, 2) := by decide +kernel
theorem dX6_ask_57 : decode cX6_ask 57 = .ok (.iload_n 2, 1) := by decide +kernel
theorem dX6_ask_58 : decode cX6_ask 58 = .ok (.imul, 1) := by decide +kernel
theorem dX6_ask_59 : decode cX6_ask 59 = .ok (.iload_n 1, 1) := by decide +kernel
theorem dX6_ask_60 : decode cX6_ask 60 = .ok (.iadd, 1) := by decide +kernel
theorem dX6_ask_61 : decode cX6_ask 61 = .ok (.iload_n 3, 1) := by decide +kernel
theorem dX6_ask_62 : decode cX6_ask 62 = .ok (.iastore, 1) := by decide +kernel
theorem dX6_ask_63 : decode cX6_ask 63 = .ok (.iload 4, 2) := by decide +kernel
theorem dX6_ask_65 : decode cX6_ask 65 = .ok (.ireturn, 1) := by decide +kernel
theorem dX6_otherSpots_0 : decode cX6_otherSpots 0 = .ok (.iconst 0, 1) := by decide +kernel
theorem dX6_otherSpots_1 : decode cX6_otherSpots 1 = .ok (.istore_n 1, 1) := by decide +kernel
theorem dX6_otherSpots_2 : decode cX6_otherSpots 2 = .ok (.iconst 0, 1) := by decide +kernel
theorem dX6_otherSpots_3 : decode cX6_otherSpots 3 = .ok (.istore_n 2, 1) := by decide +kernel
theorem dX6_otherSpots_4 : decode cX6_otherSpots 4 = .ok (.iload_n 2, 1) := by decide +kernel
theorem dX6_otherSpots_5 : decode cX6_otherSpots 5 = .ok (.sipush 288, 3) := by decide +kernel
theorem dX6_otherSpots_8 : decode cX6_otherSpots 8 = .ok (.if_icmp .ge 43, 3) := by decide +kernel
theorem dX6_otherSpots_11 : decode cX6_otherSpots 11 = .ok (.iload_n 1, 1) := by decide +kernel
theorem dX6_otherSpots_12 : decode cX6_otherSpots 12 = .ok (.aload_n 0, 1) := by decide +kernel
theorem dX6_otherSpots_13 : decode cX6_otherSpots 13 = .ok (.getfield 7, 3) := by decide +kernel
theorem dX6_otherSpots_16 : decode cX6_otherSpots 16 = .ok (.iload_n 2, 1) := by decide +kernel
theorem dX6_otherSpots_17 : decode cX6_otherSpots 17 = .ok (.iaload, 1) := by decide +kernel
theorem dX6_otherSpots_18 : decode cX6_otherSpots 18 = .ok (.aload_n 0, 1) := by decide +kernel
theorem dX6_otherSpots_19 : decode cX6_otherSpots 19 = .ok (.getfield 13, 3) := by decide +kernel
theorem dX6_otherSpots_22 : decode cX6_otherSpots 22 = .ok (.sipush 335, 3) := by decide +kernel
theorem dX6_otherSpots_25 : decode cX6_otherSpots 25 = .ok (.aload_n 0, 1) := by decide +kernel
theorem dX6_otherSpots_26 : decode cX6_otherSpots 26 = .ok (.getfield 28, 3) := by decide +kernel
theorem dX6_otherSpots_29 : decode cX6_otherSpots 29 = .ok (.iconst 1, 1) := by decide +kernel
theorem dX6_otherSpots_30 : decode cX6_otherSpots 30 = .ok (.isub, 1) := by decide +kernel
theorem dX6_otherSpots_31 : decode cX6_otherSpots 31 = .ok (.imul, 1) := by decide +kernel
theorem dX6_otherSpots_32 : decode cX6_otherSpots 32 = .ok (.iload_n 2, 1) := by decide +kernel
theorem dX6_otherSpots_33 : decode cX6_otherSpots 33 = .ok (.iadd, 1) := by decide +kernel
theorem dX6_otherSpots_34 : decode cX6_otherSpots 34 = .ok (.iaload, 1) := by decide +kernel
theorem dX6_otherSpots_35 : decode cX6_otherSpots 35 = .ok (.if_icmp .ne 7, 3) := by decide +kernel
theorem dX6_otherSpots_38 : decode cX6_otherSpots 38 = .ok (.iconst 0, 1) := by decide +kernel
theorem dX6_otherSpots_39 : decode cX6_otherSpots 39 = .ok (.goto 4, 3) := by decide +kernel
theorem dX6_otherSpots_42 : decode cX6_otherSpots 42 = .ok (.iconst 1, 1) := by decide +kernel
theorem dX6_otherSpots_43 : decode cX6_otherSpots 43 = .ok (.iadd, 1) := by decide +kernel
theorem dX6_otherSpots_44 : decode cX6_otherSpots 44 = .ok (.istore_n 1, 1) := by decide +kernel
theorem dX6_otherSpots_45 : decode cX6_otherSpots 45 = .ok (.iinc 2 1, 3) := by decide +kernel
theorem dX6_otherSpots_48 : decode cX6_otherSpots 48 = .ok (.goto (-44), 3) := by decide +kernel
theorem dX6_otherSpots_51 : decode cX6_otherSpots 51 = .ok (.iload_n 1, 1) := by decide +kernel
theorem dX6_otherSpots_52 : decode cX6_otherSpots 52 = .ok (.ireturn, 1) := by decide +kernel
set_option maxRecDepth 20000 in
theorem ggX6_move_X6_in : GoodIn wsX6_move wsX6_in := goodIn_r _ [8] (by decide +kernel) (by decide +kernel)
set_option maxRecDepth 20000 in
theorem gX6_move_X6_in : GoodIn wsX6_move (va_wsS RX6 34 yX6_in wsX6_in) := goodIn_app (goodIn_of _ (by decide +kernel)) ggX6_move_X6_in
set_option maxRecDepth 20000 in
theorem ggX6_move_X6_acts : GoodIn wsX6_move wsX6_acts := goodIn_r _ [12, 2, 4, 3, 22, 23, 24, 25, 26, 27, 28, 29, 30, 31] (by decide +kernel) (by decide +kernel)
set_option maxRecDepth 20000 in
theorem gX6_move_X6_acts : GoodIn wsX6_move (wsV RX6 109 RX6 yX6_acts wsX6_acts) := goodIn_app (goodIn_of _ (by decide +kernel)) ggX6_move_X6_acts
set_option maxRecDepth 20000 in
theorem ggX6_move_X6_isSpot : GoodIn wsX6_move wsX6_isSpot := goodIn_r _ [15, 16, 17, 5, 6, 7, 8] (by decide +kernel) (by decide +kernel)
set_option maxRecDepth 20000 in
theorem gX6_move_X6_isSpot : GoodIn wsX6_move (va_wsS RX6 104 yX6_isSpot wsX6_isSpot) := goodIn_app (goodIn_of _ (by decide +kernel)) ggX6_move_X6_isSpot
set_option maxRecDepth 20000 in
theorem ggX6_move_X6_otherSpots : GoodIn wsX6_move wsX6_otherSpots := goodIn_r _ [21, 3, 4, 2, 22, 23, 24, 25, 26, 27, 28, 29, 30, 31] (by decide +kernel) (by decide +kernel)
set_option maxRecDepth 20000 in
theorem gX6_move_X6_otherSpots : GoodIn wsX6_move (wsV RX6 114 RX6 yX6_otherSpots wsX6_otherSpots) := goodIn_app (goodIn_of _ (by decide +kernel)) ggX6_move_X6_otherSpots
theorem dX6_move_0 : decode cX6_move 0 = .ok (.iload_n 1, 1) := by decide +kernel
theorem dX6_move_1 : decode cX6_move 1 = .ok (.i2l, 1) := by decide +kernel
theorem dX6_move_2 : decode cX6_move 2 = .ok (.lconst 0, 1) := by decide +kernel
theorem dX6_move_3 : decode cX6_move 3 = .ok (.ldc2_w 112, 3) := by decide +kernel
theorem dX6_move_6 : decode cX6_move 6 = .ok (.invokestatic 34, 3) := by decide +kernel
theorem dX6_move_9 : decode cX6_move 9 = .ok (.ifCond .ne 6, 3) := by decide +kernel
theorem dX6_move_12 : decode cX6_move 12 = .ok (.bipush (-2), 2) := by decide +kernel
theorem dX6_move_14 : decode cX6_move 14 = .ok (.ireturn, 1) := by decide +kernel
theorem dX6_move_15 : decode cX6_move 15 = .ok (.aload_n 0, 1) := by decide +kernel
theorem dX6_move_16 : decode cX6_move 16 = .ok (.invokevirtual 109, 3) := by decide +kernel
theorem dX6_move_19 : decode cX6_move 19 = .ok (.sipush 335, 3) := by decide +kernel
theorem dX6_move_22 : decode cX6_move 22 = .ok (.aload_n 0, 1) := by decide +kernel
theorem dX6_move_23 : decode cX6_move 23 = .ok (.getfield 28, 3) := by decide +kernel
theorem dX6_move_26 : decode cX6_move 26 = .ok (.iconst 1, 1) := by decide +kernel
theorem dX6_move_27 : decode cX6_move 27 = .ok (.isub, 1) := by decide +kernel
theorem dX6_move_28 : decode cX6_move 28 = .ok (.imul, 1) := by decide +kernel
theorem dX6_move_29 : decode cX6_move 29 = .ok (.istore_n 2, 1) := by decide +kernel
theorem dX6_move_30 : decode cX6_move 30 = .ok (.iconst 0, 1) := by decide +kernel
theorem dX6_move_31 : decode cX6_move 31 = .ok (.istore_n 3, 1) := by decide +kernel
theorem dX6_move_32 : decode cX6_move 32 = .ok (.iload_n 3, 1) := by decide +kernel
theorem dX6_move_33 : decode cX6_move 33 = .ok (.sipush 288, 3) := by decide +kernel
theorem dX6_move_36 : decode cX6_move 36 = .ok (.if_icmp .ge 95, 3) := by decide +kernel
theorem dX6_move_39 : decode cX6_move 39 = .ok (.iload_n 3, 1) := by decide +kernel
theorem dX6_move_40 : decode cX6_move 40 = .ok (.bipush 24, 2) := by decide +kernel
theorem dX6_move_42 : decode cX6_move 42 = .ok (.irem, 1) := by decide +kernel
theorem dX6_move_43 : decode cX6_move 43 = .ok (.iload_n 1, 1) := by decide +kernel
theorem dX6_move_44 : decode cX6_move 44 = .ok (.ifCond .ne 7, 3) := by decide +kernel
theorem dX6_move_47 : decode cX6_move 47 = .ok (.iconst 1, 1) := by decide +kernel
theorem dX6_move_48 : decode cX6_move 48 = .ok (.goto 13, 3) := by decide +kernel
theorem dX6_move_51 : decode cX6_move 51 = .ok (.iload_n 1, 1) := by decide +kernel
theorem dX6_move_52 : decode cX6_move 52 = .ok (.iconst 1, 1) := by decide +kernel
theorem dX6_move_53 : decode cX6_move 53 = .ok (.if_icmp .ne 7, 3) := by decide +kernel
theorem dX6_move_56 : decode cX6_move 56 = .ok (.iconst (-1), 1) := by decide +kernel
theorem dX6_move_57 : decode cX6_move 57 = .ok (.goto 4, 3) := by decide +kernel
theorem dX6_move_60 : decode cX6_move 60 = .ok (.iconst 0, 1) := by decide +kernel
theorem dX6_move_61 : decode cX6_move 61 = .ok (.iadd, 1) := by decide +kernel
theorem dX6_move_62 : decode cX6_move 62 = .ok (.istore 4, 2) := by decide +kernel
theorem dX6_move_64 : decode cX6_move 64 = .ok (.iload_n 3, 1) := by decide +kernel
theorem dX6_move_65 : decode cX6_move 65 = .ok (.bipush 24, 2) := by decide +kernel
theorem dX6_move_67 : decode cX6_move 67 = .ok (.idiv, 1) := by decide +kernel
theorem dX6_move_68 : decode cX6_move 68 = .ok (.iload_n 1, 1) := by decide +kernel
theorem dX6_move_69 : decode cX6_move 69 = .ok (.iconst 2, 1) := by decide +kernel
theorem dX6_move_70 : decode cX6_move 70 = .ok (.if_icmp .ne 7, 3) := by decide +kernel
theorem dX6_move_73 : decode cX6_move 73 = .ok (.iconst 1, 1) := by decide +kernel
theorem dX6_move_74 : decode cX6_move 74 = .ok (.goto 13, 3) := by decide +kernel
theorem dX6_move_77 : decode cX6_move 77 = .ok (.iload_n 1, 1) := by decide +kernel
theorem dX6_move_78 : decode cX6_move 78 = .ok (.iconst 3, 1) := by decide +kernel
theorem dX6_move_79 : decode cX6_move 79 = .ok (.if_icmp .ne 7, 3) := by decide +kernel
theorem dX6_move_82 : decode cX6_move 82 = .ok (.iconst (-1), 1) := by decide +kernel
theorem dX6_move_83 : decode cX6_move 83 = .ok (.goto 4, 3) := by decide +kernel
theorem dX6_move_86 : decode cX6_move 86 = .ok (.iconst 0, 1) := by decide +kernel
theorem dX6_move_87 : decode cX6_move 87 = .ok (.iadd, 1) := by decide +kernel
theorem dX6_move_88 : decode cX6_move 88 = .ok (.istore 5, 2) := by decide +kernel
theorem dX6_move_90 : decode cX6_move 90 = .ok (.aload_n 0, 1) := by decide +kernel
theorem dX6_move_91 : decode cX6_move 91 = .ok (.getfield 7, 3) := by decide +kernel
theorem dX6_move_94 : decode cX6_move 94 = .ok (.iload_n 3, 1) := by decide +kernel
theorem dX6_move_95 : decode cX6_move 95 = .ok (.iload 4, 2) := by decide +kernel
theorem dX6_move_97 : decode cX6_move 97 = .ok (.iload 5, 2) := by decide +kernel
theorem dX6_move_99 : decode cX6_move 99 = .ok (.invokestatic 104, 3) := by decide +kernel
theorem dX6_move_102 : decode cX6_move 102 = .ok (.ifCond .eq 21, 3) := by decide +kernel
theorem dX6_move_105 : decode cX6_move 105 = .ok (.aload_n 0, 1) := by decide +kernel
theorem dX6_move_106 : decode cX6_move 106 = .ok (.getfield 13, 3) := by decide +kernel
theorem dX6_move_109 : decode cX6_move 109 = .ok (.iload_n 2, 1) := by decide +kernel
theorem dX6_move_110 : decode cX6_move 110 = .ok (.bipush 24, 2) := by decide +kernel
theorem dX6_move_112 : decode cX6_move 112 = .ok (.iload 5, 2) := by decide +kernel
theorem dX6_move_114 : decode cX6_move 114 = .ok (.imul, 1) := by decide +kernel
theorem dX6_move_115 : decode cX6_move 115 = .ok (.iadd, 1) := by decide +kernel
theorem dX6_move_116 : decode cX6_move 116 = .ok (.iload 4, 2) := by decide +kernel
theorem dX6_move_118 : decode cX6_move 118 = .ok (.iadd, 1) := by decide +kernel
theorem dX6_move_119 : decode cX6_move 119 = .ok (.iaload, 1) := by decide +kernel
theorem dX6_move_120 : decode cX6_move 120 = .ok (.goto 4, 3) := by decide +kernel
theorem dX6_move_123 : decode cX6_move 123 = .ok (.iconst 0, 1) := by decide +kernel
theorem dX6_move_124 : decode cX6_move 124 = .ok (.iastore, 1) := by decide +kernel
theorem dX6_move_125 : decode cX6_move 125 = .ok (.iinc 3 1, 3) := by decide +kernel
theorem dX6_move_128 : decode cX6_move 128 = .ok (.goto (-96), 3) := by decide +kernel
theorem dX6_move_131 : decode cX6_move 131 = .ok (.aload_n 0, 1) := by decide +kernel
theorem dX6_move_132 : decode cX6_move 132 = .ok (.invokevirtual 114, 3) := by decide +kernel
theorem dX6_move_135 : decode cX6_move 135 = .ok (.ireturn, 1) := by decide +kernel
set_option maxRecDepth 20000 in
theorem ggX6_kill_X6_isZone : GoodIn wsX6_kill wsX6_isZone := goodIn_r _ [5, 6, 7, 8, 4, 9] (by decide +kernel) (by decide +kernel)
set_option maxRecDepth 20000 in
theorem gX6_kill_X6_isZone : GoodIn wsX6_kill (va_wsS RX6 118 yX6_isZone wsX6_isZone) := goodIn_app (goodIn_of _ (by decide +kernel)) ggX6_kill_X6_isZone
set_option maxRecDepth 20000 in
theorem ggX6_kill_X6_acts : GoodIn wsX6_kill wsX6_acts := goodIn_r _ [13, 14, 15, 1, 16, 17, 18, 19, 20, 21, 22, 23, 24, 25] (by decide +kernel) (by decide +kernel)
set_option maxRecDepth 20000 in
theorem gX6_kill_X6_acts : GoodIn wsX6_kill (wsV RX6 109 RX6 yX6_acts wsX6_acts) := goodIn_app (goodIn_of _ (by decide +kernel)) ggX6_kill_X6_acts
theorem dX6_kill_0 : decode cX6_kill 0 = .ok (.iload_n 1, 1) := by decide +kernel
theorem dX6_kill_1 : decode cX6_kill 1 = .ok (.invokestatic 118, 3) := by decide +kernel
theorem dX6_kill_4 : decode cX6_kill 4 = .ok (.ifCond .ne 5, 3) := by decide +kernel
theorem dX6_kill_7 : decode cX6_kill 7 = .ok (.iconst (-1), 1) := by decide +kernel
theorem dX6_kill_8 : decode cX6_kill 8 = .ok (.ireturn, 1) := by decide +kernel
theorem dX6_kill_9 : decode cX6_kill 9 = .ok (.iload_n 2, 1) := by decide +kernel
theorem dX6_kill_10 : decode cX6_kill 10 = .ok (.ifCond .eq 7, 3) := by decide +kernel
theorem dX6_kill_13 : decode cX6_kill 13 = .ok (.iconst 1, 1) := by decide +kernel
theorem dX6_kill_14 : decode cX6_kill 14 = .ok (.goto 4, 3) := by decide +kernel
theorem dX6_kill_17 : decode cX6_kill 17 = .ok (.iconst 0, 1) := by decide +kernel
theorem dX6_kill_18 : decode cX6_kill 18 = .ok (.istore_n 3, 1) := by decide +kernel
theorem dX6_kill_19 : decode cX6_kill 19 = .ok (.aload_n 0, 1) := by decide +kernel
theorem dX6_kill_20 : decode cX6_kill 20 = .ok (.getfield 7, 3) := by decide +kernel
theorem dX6_kill_23 : decode cX6_kill 23 = .ok (.sipush 306, 3) := by decide +kernel
theorem dX6_kill_26 : decode cX6_kill 26 = .ok (.iload_n 1, 1) := by decide +kernel
theorem dX6_kill_27 : decode cX6_kill 27 = .ok (.iadd, 1) := by decide +kernel
theorem dX6_kill_28 : decode cX6_kill 28 = .ok (.iaload, 1) := by decide +kernel
theorem dX6_kill_29 : decode cX6_kill 29 = .ok (.iload_n 3, 1) := by decide +kernel
theorem dX6_kill_30 : decode cX6_kill 30 = .ok (.if_icmp .ne 6, 3) := by decide +kernel
theorem dX6_kill_33 : decode cX6_kill 33 = .ok (.bipush (-5), 2) := by decide +kernel
theorem dX6_kill_35 : decode cX6_kill 35 = .ok (.ireturn, 1) := by decide +kernel
theorem dX6_kill_36 : decode cX6_kill 36 = .ok (.aload_n 0, 1) := by decide +kernel
theorem dX6_kill_37 : decode cX6_kill 37 = .ok (.invokevirtual 109, 3) := by decide +kernel
theorem dX6_kill_40 : decode cX6_kill 40 = .ok (.aload_n 0, 1) := by decide +kernel
theorem dX6_kill_41 : decode cX6_kill 41 = .ok (.getfield 7, 3) := by decide +kernel
theorem dX6_kill_44 : decode cX6_kill 44 = .ok (.sipush 288, 3) := by decide +kernel
theorem dX6_kill_47 : decode cX6_kill 47 = .ok (.iload_n 1, 1) := by decide +kernel
theorem dX6_kill_48 : decode cX6_kill 48 = .ok (.iadd, 1) := by decide +kernel
theorem dX6_kill_49 : decode cX6_kill 49 = .ok (.iaload, 1) := by decide +kernel
theorem dX6_kill_50 : decode cX6_kill 50 = .ok (.istore 4, 2) := by decide +kernel
theorem dX6_kill_52 : decode cX6_kill 52 = .ok (.aload_n 0, 1) := by decide +kernel
theorem dX6_kill_53 : decode cX6_kill 53 = .ok (.getfield 7, 3) := by decide +kernel
theorem dX6_kill_56 : decode cX6_kill 56 = .ok (.sipush 306, 3) := by decide +kernel
theorem dX6_kill_59 : decode cX6_kill 59 = .ok (.iload_n 1, 1) := by decide +kernel
theorem dX6_kill_60 : decode cX6_kill 60 = .ok (.iadd, 1) := by decide +kernel
theorem dX6_kill_61 : decode cX6_kill 61 = .ok (.iload_n 3, 1) := by decide +kernel
theorem dX6_kill_62 : decode cX6_kill 62 = .ok (.iastore, 1) := by decide +kernel
theorem dX6_kill_63 : decode cX6_kill 63 = .ok (.aload_n 0, 1) := by decide +kernel
theorem dX6_kill_64 : decode cX6_kill 64 = .ok (.getfield 7, 3) := by decide +kernel
theorem dX6_kill_67 : decode cX6_kill 67 = .ok (.sipush 288, 3) := by decide +kernel
theorem dX6_kill_70 : decode cX6_kill 70 = .ok (.iload_n 1, 1) := by decide +kernel
theorem dX6_kill_71 : decode cX6_kill 71 = .ok (.iadd, 1) := by decide +kernel
theorem dX6_kill_72 : decode cX6_kill 72 = .ok (.iconst 0, 1) := by decide +kernel
theorem dX6_kill_73 : decode cX6_kill 73 = .ok (.iastore, 1) := by decide +kernel
theorem dX6_kill_74 : decode cX6_kill 74 = .ok (.iload 4, 2) := by decide +kernel
theorem dX6_kill_76 : decode cX6_kill 76 = .ok (.ireturn, 1) := by decide +kernel
set_option maxRecDepth 20000 in
theorem ggX6_frame_X6_off : GoodIn wsX6_frame wsX6_off := goodIn_r _ [6] (by decide +kernel) (by decide +kernel)
set_option maxRecDepth 20000 in
theorem gX6_frame_X6_off : GoodIn wsX6_frame (va_wsS RX6 42 yX6_off wsX6_off) := goodIn_app (goodIn_of _ (by decide +kernel)) ggX6_frame_X6_off
set_option maxRecDepth 20000 in
theorem ggX6_frame_X6_power : GoodIn wsX6_frame wsX6_power := goodIn_r _ [10, 1, 2, 11, 12, 13, 14, 15, 16, 17, 18, 19, 20] (by decide +kernel) (by decide +kernel)
set_option maxRecDepth 20000 in
theorem gX6_frame_X6_power : GoodIn wsX6_frame (wsV RX6 121 RX6 yX6_power wsX6_power) := goodIn_app (goodIn_of _ (by decide +kernel)) ggX6_frame_X6_power
theorem dX6_frame_0 : decode cX6_frame 0 = .ok (.iconst 0, 1) := by decide +kernel
theorem dX6_frame_1 : decode cX6_frame 1 = .ok (.istore_n 1, 1) := by decide +kernel
theorem dX6_frame_2 : decode cX6_frame 2 = .ok (.iload_n 1, 1) := by decide +kernel
theorem dX6_frame_3 : decode cX6_frame 3 = .ok (.bipush 18, 2) := by decide +kernel
theorem dX6_frame_5 : decode cX6_frame 5 = .ok (.if_icmp .ge 106, 3) := by decide +kernel
theorem dX6_frame_8 : decode cX6_frame 8 = .ok (.aload_n 0, 1) := by decide +kernel
theorem dX6_frame_9 : decode cX6_frame 9 = .ok (.getfield 19, 3) := by decide +kernel
theorem dX6_frame_12 : decode cX6_frame 12 = .ok (.iload_n 1, 1) := by decide +kernel
theorem dX6_frame_13 : decode cX6_frame 13 = .ok (.iaload, 1) := by decide +kernel
theorem dX6_frame_14 : decode cX6_frame 14 = .ok (.aload_n 0, 1) := by decide +kernel
theorem dX6_frame_15 : decode cX6_frame 15 = .ok (.getfield 7, 3) := by decide +kernel
theorem dX6_frame_18 : decode cX6_frame 18 = .ok (.sipush 288, 3) := by decide +kernel
theorem dX6_frame_21 : decode cX6_frame 21 = .ok (.iload_n 1, 1) := by decide +kernel
theorem dX6_frame_22 : decode cX6_frame 22 = .ok (.iadd, 1) := by decide +kernel
theorem dX6_frame_23 : decode cX6_frame 23 = .ok (.iaload, 1) := by decide +kernel
theorem dX6_frame_24 : decode cX6_frame 24 = .ok (.isub, 1) := by decide +kernel
theorem dX6_frame_25 : decode cX6_frame 25 = .ok (.istore_n 2, 1) := by decide +kernel
theorem dX6_frame_26 : decode cX6_frame 26 = .ok (.iload_n 2, 1) := by decide +kernel
theorem dX6_frame_27 : decode cX6_frame 27 = .ok (.aload_n 0, 1) := by decide +kernel
theorem dX6_frame_28 : decode cX6_frame 28 = .ok (.getfield 7, 3) := by decide +kernel
theorem dX6_frame_31 : decode cX6_frame 31 = .ok (.sipush 331, 3) := by decide +kernel
theorem dX6_frame_34 : decode cX6_frame 34 = .ok (.iaload, 1) := by decide +kernel
theorem dX6_frame_35 : decode cX6_frame 35 = .ok (.if_icmp .le 14, 3) := by decide +kernel
theorem dX6_frame_38 : decode cX6_frame 38 = .ok (.aload_n 0, 1) := by decide +kernel
theorem dX6_frame_39 : decode cX6_frame 39 = .ok (.getfield 7, 3) := by decide +kernel
theorem dX6_frame_42 : decode cX6_frame 42 = .ok (.sipush 331, 3) := by decide +kernel
theorem dX6_frame_45 : decode cX6_frame 45 = .ok (.iaload, 1) := by decide +kernel
theorem dX6_frame_46 : decode cX6_frame 46 = .ok (.goto 29, 3) := by decide +kernel
theorem dX6_frame_49 : decode cX6_frame 49 = .ok (.iload_n 2, 1) := by decide +kernel
theorem dX6_frame_50 : decode cX6_frame 50 = .ok (.aload_n 0, 1) := by decide +kernel
theorem dX6_frame_51 : decode cX6_frame 51 = .ok (.getfield 7, 3) := by decide +kernel
theorem dX6_frame_54 : decode cX6_frame 54 = .ok (.sipush 331, 3) := by decide +kernel
theorem dX6_frame_57 : decode cX6_frame 57 = .ok (.iaload, 1) := by decide +kernel
theorem dX6_frame_58 : decode cX6_frame 58 = .ok (.ineg, 1) := by decide +kernel
theorem dX6_frame_59 : decode cX6_frame 59 = .ok (.if_icmp .ge 15, 3) := by decide +kernel
theorem dX6_frame_62 : decode cX6_frame 62 = .ok (.aload_n 0, 1) := by decide +kernel
theorem dX6_frame_63 : decode cX6_frame 63 = .ok (.getfield 7, 3) := by decide +kernel
theorem dX6_frame_66 : decode cX6_frame 66 = .ok (.sipush 331, 3) := by decide +kernel
theorem dX6_frame_69 : decode cX6_frame 69 = .ok (.iaload, 1) := by decide +kernel
theorem dX6_frame_70 : decode cX6_frame 70 = .ok (.ineg, 1) := by decide +kernel
theorem dX6_frame_71 : decode cX6_frame 71 = .ok (.goto 4, 3) := by decide +kernel
theorem dX6_frame_74 : decode cX6_frame 74 = .ok (.iload_n 2, 1) := by decide +kernel
theorem dX6_frame_75 : decode cX6_frame 75 = .ok (.istore_n 3, 1) := by decide +kernel
theorem dX6_frame_76 : decode cX6_frame 76 = .ok (.aload_n 0, 1) := by decide +kernel
theorem dX6_frame_77 : decode cX6_frame 77 = .ok (.getfield 7, 3) := by decide +kernel
theorem dX6_frame_80 : decode cX6_frame 80 = .ok (.sipush 288, 3) := by decide +kernel
theorem dX6_frame_83 : decode cX6_frame 83 = .ok (.iload_n 1, 1) := by decide +kernel
theorem dX6_frame_84 : decode cX6_frame 84 = .ok (.iadd, 1) := by decide +kernel
theorem dX6_frame_85 : decode cX6_frame 85 = .ok (.dup2, 1) := by decide +kernel
theorem dX6_frame_86 : decode cX6_frame 86 = .ok (.iaload, 1) := by decide +kernel
theorem dX6_frame_87 : decode cX6_frame 87 = .ok (.iload_n 3, 1) := by decide +kernel
theorem dX6_frame_88 : decode cX6_frame 88 = .ok (.iadd, 1) := by decide +kernel
theorem dX6_frame_89 : decode cX6_frame 89 = .ok (.iastore, 1) := by decide +kernel
theorem dX6_frame_90 : decode cX6_frame 90 = .ok (.aload_n 0, 1) := by decide +kernel
theorem dX6_frame_91 : decode cX6_frame 91 = .ok (.getfield 7, 3) := by decide +kernel
theorem dX6_frame_94 : decode cX6_frame 94 = .ok (.sipush 333, 3) := by decide +kernel
theorem dX6_frame_97 : decode cX6_frame 97 = .ok (.dup2, 1) := by decide +kernel
theorem dX6_frame_98 : decode cX6_frame 98 = .ok (.iaload, 1) := by decide +kernel
theorem dX6_frame_99 : decode cX6_frame 99 = .ok (.iload_n 3, 1) := by decide +kernel
theorem dX6_frame_100 : decode cX6_frame 100 = .ok (.invokestatic 42, 3) := by decide +kernel
theorem dX6_frame_103 : decode cX6_frame 103 = .ok (.iadd, 1) := by decide +kernel
theorem dX6_frame_104 : decode cX6_frame 104 = .ok (.iastore, 1) := by decide +kernel
theorem dX6_frame_105 : decode cX6_frame 105 = .ok (.iinc 1 1, 3) := by decide +kernel
theorem dX6_frame_108 : decode cX6_frame 108 = .ok (.goto (-106), 3) := by decide +kernel
theorem dX6_frame_111 : decode cX6_frame 111 = .ok (.aload_n 0, 1) := by decide +kernel
theorem dX6_frame_112 : decode cX6_frame 112 = .ok (.getfield 7, 3) := by decide +kernel
theorem dX6_frame_115 : decode cX6_frame 115 = .ok (.sipush 332, 3) := by decide +kernel
theorem dX6_frame_118 : decode cX6_frame 118 = .ok (.dup2, 1) := by decide +kernel
theorem dX6_frame_119 : decode cX6_frame 119 = .ok (.iaload, 1) := by decide +kernel
theorem dX6_frame_120 : decode cX6_frame 120 = .ok (.iconst 1, 1) := by decide +kernel
theorem dX6_frame_121 : decode cX6_frame 121 = .ok (.iadd, 1) := by decide +kernel
theorem dX6_frame_122 : decode cX6_frame 122 = .ok (.iastore, 1) := by decide +kernel
theorem dX6_frame_123 : decode cX6_frame 123 = .ok (.aload_n 0, 1) := by decide +kernel
theorem dX6_frame_124 : decode cX6_frame 124 = .ok (.getfield 7, 3) := by decide +kernel
theorem dX6_frame_127 : decode cX6_frame 127 = .ok (.sipush 334, 3) := by decide +kernel
theorem dX6_frame_130 : decode cX6_frame 130 = .ok (.dup2, 1) := by decide +kernel
theorem dX6_frame_131 : decode cX6_frame 131 = .ok (.iaload, 1) := by decide +kernel
theorem dX6_frame_132 : decode cX6_frame 132 = .ok (.aload_n 0, 1) := by decide +kernel
theorem dX6_frame_133 : decode cX6_frame 133 = .ok (.iconst 0, 1) := by decide +kernel
theorem dX6_frame_134 : decode cX6_frame 134 = .ok (.invokevirtual 121, 3) := by decide +kernel
theorem dX6_frame_137 : decode cX6_frame 137 = .ok (.iadd, 1) := by decide +kernel
theorem dX6_frame_138 : decode cX6_frame 138 = .ok (.iastore, 1) := by decide +kernel
theorem dX6_frame_139 : decode cX6_frame 139 = .ok (.return_, 1) := by decide +kernel
set_option maxRecDepth 20000 in
theorem ggX6_pass_X6_in : GoodIn wsX6_pass wsX6_in := goodIn_r _ [6] (by decide +kernel) (by decide +kernel)
set_option maxRecDepth 20000 in
theorem gX6_pass_X6_in : GoodIn wsX6_pass (va_wsS RX6 34 yX6_in wsX6_in) := goodIn_app (goodIn_of _ (by decide +kernel)) ggX6_pass_X6_in
set_option maxRecDepth 20000 in
theorem ggX6_pass_X6_acts : GoodIn wsX6_pass wsX6_acts := goodIn_r _ [10, 11, 12, 2, 82, 83, 84, 85, 86, 87, 88, 89, 90, 91] (by decide +kernel) (by decide +kernel)
set_option maxRecDepth 20000 in
theorem gX6_pass_X6_acts : GoodIn wsX6_pass (wsV RX6 109 RX6 yX6_acts wsX6_acts) := goodIn_app (goodIn_of _ (by decide +kernel)) ggX6_pass_X6_acts
set_option maxRecDepth 20000 in
theorem ggX6_pass_X6_wants : GoodIn wsX6_pass wsX6_wants := goodIn_r _ [16, 17, 2, 18, 19, 20, 5, 21, 22, 23, 24, 25, 26, 27, 28, 29, 30, 31, 32, 33, 34, 35, 36, 37, 38, 39, 40, 41, 42, 43, 44, 45, 46, 47, 48, 49, 50, 51, 52, 53, 54, 55, 56, 57, 58, 59, 60, 61, 62, 63, 64, 65, 66, 67, 68, 69, 70, 71, 72, 73, 82, 83, 84, 85, 86, 87, 88, 89, 90, 91] (by decide +kernel) (by decide +kernel)
set_option maxRecDepth 20000 in
theorem gX6_pass_X6_wants : GoodIn wsX6_pass (wsV RX6 100 RX6 yX6_wants wsX6_wants) := goodIn_app (goodIn_of _ (by decide +kernel)) ggX6_pass_X6_wants
set_option maxRecDepth 20000 in
theorem ggX6_pass_X6_frame : GoodIn wsX6_pass wsX6_frame := goodIn_r _ [77, 17, 2, 47, 48, 5, 49, 78, 79, 80, 81, 82, 83, 84, 85, 86, 87, 88, 89, 90, 91] (by decide +kernel) (by decide +kernel)
set_option maxRecDepth 20000 in
theorem gX6_pass_X6_frame : GoodIn wsX6_pass (wsV RX6 127 RX6 yX6_frame wsX6_frame) := goodIn_app (goodIn_of _ (by decide +kernel)) ggX6_pass_X6_frame
set_option maxRecDepth 20000 in
theorem ggX6_pass_X6_power : GoodIn wsX6_pass wsX6_power := goodIn_r _ [81, 17, 2, 82, 83, 84, 85, 86, 87, 88, 89, 90, 91] (by decide +kernel) (by decide +kernel)
set_option maxRecDepth 20000 in
theorem gX6_pass_X6_power : GoodIn wsX6_pass (wsV RX6 121 RX6 yX6_power wsX6_power) := goodIn_app (goodIn_of _ (by decide +kernel)) ggX6_pass_X6_power
theorem dX6_pass_0 : decode cX6_pass 0 = .ok (.iload_n 1, 1) := by decide +kernel
theorem dX6_pass_1 : decode cX6_pass 1 = .ok (.i2l, 1) := by decide +kernel
theorem dX6_pass_2 : decode cX6_pass 2 = .ok (.lconst 1, 1) := by decide +kernel
theorem dX6_pass_3 : decode cX6_pass 3 = .ok (.ldc2_w 125, 3) := by decide +kernel
theorem dX6_pass_6 : decode cX6_pass 6 = .ok (.invokestatic 34, 3) := by decide +kernel
theorem dX6_pass_9 : decode cX6_pass 9 = .ok (.ifCond .ne 6, 3) := by decide +kernel
theorem dX6_pass_12 : decode cX6_pass 12 = .ok (.bipush (-2), 2) := by decide +kernel
theorem dX6_pass_14 : decode cX6_pass 14 = .ok (.ireturn, 1) := by decide +kernel
theorem dX6_pass_15 : decode cX6_pass 15 = .ok (.aload_n 0, 1) := by decide +kernel
theorem dX6_pass_16 : decode cX6_pass 16 = .ok (.invokevirtual 109, 3) := by decide +kernel
theorem dX6_pass_19 : decode cX6_pass 19 = .ok (.aload_n 0, 1) := by decide +kernel
theorem dX6_pass_20 : decode cX6_pass 20 = .ok (.aload_n 0, 1) := by decide +kernel
theorem dX6_pass_21 : decode cX6_pass 21 = .ok (.getfield 7, 3) := by decide +kernel
theorem dX6_pass_24 : decode cX6_pass 24 = .ok (.sipush 327, 3) := by decide +kernel
theorem dX6_pass_27 : decode cX6_pass 27 = .ok (.iaload, 1) := by decide +kernel
theorem dX6_pass_28 : decode cX6_pass 28 = .ok (.invokevirtual 100, 3) := by decide +kernel
theorem dX6_pass_31 : decode cX6_pass 31 = .ok (.iconst 0, 1) := by decide +kernel
theorem dX6_pass_32 : decode cX6_pass 32 = .ok (.istore_n 2, 1) := by decide +kernel
theorem dX6_pass_33 : decode cX6_pass 33 = .ok (.iload_n 2, 1) := by decide +kernel
theorem dX6_pass_34 : decode cX6_pass 34 = .ok (.iload_n 1, 1) := by decide +kernel
theorem dX6_pass_35 : decode cX6_pass 35 = .ok (.if_icmp .ge 13, 3) := by decide +kernel
theorem dX6_pass_38 : decode cX6_pass 38 = .ok (.aload_n 0, 1) := by decide +kernel
theorem dX6_pass_39 : decode cX6_pass 39 = .ok (.invokevirtual 127, 3) := by decide +kernel
theorem dX6_pass_42 : decode cX6_pass 42 = .ok (.iinc 2 1, 3) := by decide +kernel
theorem dX6_pass_45 : decode cX6_pass 45 = .ok (.goto (-12), 3) := by decide +kernel
theorem dX6_pass_48 : decode cX6_pass 48 = .ok (.aload_n 0, 1) := by decide +kernel
theorem dX6_pass_49 : decode cX6_pass 49 = .ok (.iconst 0, 1) := by decide +kernel
theorem dX6_pass_50 : decode cX6_pass 50 = .ok (.invokevirtual 121, 3) := by decide +kernel
theorem dX6_pass_53 : decode cX6_pass 53 = .ok (.ireturn, 1) := by decide +kernel
set_option maxRecDepth 20000 in
theorem ggX6_isSetting_X6_in : GoodIn wsX6_isSetting wsX6_in := goodIn_r _ [12] (by decide +kernel) (by decide +kernel)
set_option maxRecDepth 20000 in
theorem gX6_isSetting_X6_in : GoodIn wsX6_isSetting (va_wsS RX6 34 yX6_in wsX6_in) := goodIn_app (goodIn_of _ (by decide +kernel)) ggX6_isSetting_X6_in
theorem dX6_isSetting_0 : decode cX6_isSetting 0 = .ok (.iload_n 0, 1) := by decide +kernel
theorem dX6_isSetting_1 : decode cX6_isSetting 1 = .ok (.tableswitch 119 0 7 #[47, 59, 69, 79, 69, 89, 99, 109], 47) := by decide +kernel
theorem dX6_isSetting_48 : decode cX6_isSetting 48 = .ok (.iload_n 1, 1) := by decide +kernel
theorem dX6_isSetting_49 : decode cX6_isSetting 49 = .ok (.i2l, 1) := by decide +kernel
theorem dX6_isSetting_50 : decode cX6_isSetting 50 = .ok (.ldc2_w 130, 3) := by decide +kernel
theorem dX6_isSetting_53 : decode cX6_isSetting 53 = .ok (.ldc2_w 132, 3) := by decide +kernel
theorem dX6_isSetting_56 : decode cX6_isSetting 56 = .ok (.invokestatic 34, 3) := by decide +kernel
theorem dX6_isSetting_59 : decode cX6_isSetting 59 = .ok (.ireturn, 1) := by decide +kernel
theorem dX6_isSetting_60 : decode cX6_isSetting 60 = .ok (.iload_n 1, 1) := by decide +kernel
theorem dX6_isSetting_61 : decode cX6_isSetting 61 = .ok (.i2l, 1) := by decide +kernel
theorem dX6_isSetting_62 : decode cX6_isSetting 62 = .ok (.lconst 0, 1) := by decide +kernel
theorem dX6_isSetting_63 : decode cX6_isSetting 63 = .ok (.ldc2_w 134, 3) := by decide +kernel
theorem dX6_isSetting_66 : decode cX6_isSetting 66 = .ok (.invokestatic 34, 3) := by decide +kernel
theorem dX6_isSetting_69 : decode cX6_isSetting 69 = .ok (.ireturn, 1) := by decide +kernel
theorem dX6_isSetting_70 : decode cX6_isSetting 70 = .ok (.iload_n 1, 1) := by decide +kernel
theorem dX6_isSetting_71 : decode cX6_isSetting 71 = .ok (.i2l, 1) := by decide +kernel
theorem dX6_isSetting_72 : decode cX6_isSetting 72 = .ok (.lconst 0, 1) := by decide +kernel
theorem dX6_isSetting_73 : decode cX6_isSetting 73 = .ok (.ldc2_w 136, 3) := by decide +kernel
theorem dX6_isSetting_76 : decode cX6_isSetting 76 = .ok (.invokestatic 34, 3) := by decide +kernel
theorem dX6_isSetting_79 : decode cX6_isSetting 79 = .ok (.ireturn, 1) := by decide +kernel
theorem dX6_isSetting_80 : decode cX6_isSetting 80 = .ok (.iload_n 1, 1) := by decide +kernel
theorem dX6_isSetting_81 : decode cX6_isSetting 81 = .ok (.i2l, 1) := by decide +kernel
theorem dX6_isSetting_82 : decode cX6_isSetting 82 = .ok (.lconst 0, 1) := by decide +kernel
theorem dX6_isSetting_83 : decode cX6_isSetting 83 = .ok (.ldc2_w 138, 3) := by decide +kernel
theorem dX6_isSetting_86 : decode cX6_isSetting 86 = .ok (.invokestatic 34, 3) := by decide +kernel
theorem dX6_isSetting_89 : decode cX6_isSetting 89 = .ok (.ireturn, 1) := by decide +kernel
theorem dX6_isSetting_90 : decode cX6_isSetting 90 = .ok (.iload_n 1, 1) := by decide +kernel
theorem dX6_isSetting_91 : decode cX6_isSetting 91 = .ok (.i2l, 1) := by decide +kernel
theorem dX6_isSetting_92 : decode cX6_isSetting 92 = .ok (.lconst 0, 1) := by decide +kernel
theorem dX6_isSetting_93 : decode cX6_isSetting 93 = .ok (.ldc2_w 140, 3) := by decide +kernel
theorem dX6_isSetting_96 : decode cX6_isSetting 96 = .ok (.invokestatic 34, 3) := by decide +kernel
theorem dX6_isSetting_99 : decode cX6_isSetting 99 = .ok (.ireturn, 1) := by decide +kernel
theorem dX6_isSetting_100 : decode cX6_isSetting 100 = .ok (.iload_n 1, 1) := by decide +kernel
theorem dX6_isSetting_101 : decode cX6_isSetting 101 = .ok (.i2l, 1) := by decide +kernel
theorem dX6_isSetting_102 : decode cX6_isSetting 102 = .ok (.lconst 0, 1) := by decide +kernel
theorem dX6_isSetting_103 : decode cX6_isSetting 103 = .ok (.ldc2_w 142, 3) := by decide +kernel
theorem dX6_isSetting_106 : decode cX6_isSetting 106 = .ok (.invokestatic 34, 3) := by decide +kernel
theorem dX6_isSetting_109 : decode cX6_isSetting 109 = .ok (.ireturn, 1) := by decide +kernel
theorem dX6_isSetting_110 : decode cX6_isSetting 110 = .ok (.iload_n 1, 1) := by decide +kernel
theorem dX6_isSetting_111 : decode cX6_isSetting 111 = .ok (.i2l, 1) := by decide +kernel
theorem dX6_isSetting_112 : decode cX6_isSetting 112 = .ok (.lconst 1, 1) := by decide +kernel
theorem dX6_isSetting_113 : decode cX6_isSetting 113 = .ok (.ldc2_w 107, 3) := by decide +kernel
theorem dX6_isSetting_116 : decode cX6_isSetting 116 = .ok (.invokestatic 34, 3) := by decide +kernel
theorem dX6_isSetting_119 : decode cX6_isSetting 119 = .ok (.ireturn, 1) := by decide +kernel
theorem dX6_isSetting_120 : decode cX6_isSetting 120 = .ok (.iconst 0, 1) := by decide +kernel
theorem dX6_isSetting_121 : decode cX6_isSetting 121 = .ok (.ireturn, 1) := by decide +kernel
set_option maxRecDepth 20000 in
theorem ggX6_set_X6_isSetting : GoodIn wsX6_set wsX6_isSetting := goodIn_r _ [5, 6, 7, 8, 9, 10, 11, 12, 13, 14, 15, 4, 16] (by decide +kernel) (by decide +kernel)
set_option maxRecDepth 20000 in
theorem gX6_set_X6_isSetting : GoodIn wsX6_set (va_wsS RX6 144 yX6_isSetting wsX6_isSetting) := goodIn_app (goodIn_of _ (by decide +kernel)) ggX6_set_X6_isSetting
set_option maxRecDepth 20000 in
theorem ggX6_set_X6_acts : GoodIn wsX6_set wsX6_acts := goodIn_r _ [20, 21, 22, 1, 23, 24, 25, 26, 27, 28, 29, 30, 31, 32] (by decide +kernel) (by decide +kernel)
set_option maxRecDepth 20000 in
theorem gX6_set_X6_acts : GoodIn wsX6_set (wsV RX6 109 RX6 yX6_acts wsX6_acts) := goodIn_app (goodIn_of _ (by decide +kernel)) ggX6_set_X6_acts
theorem dX6_set_0 : decode cX6_set 0 = .ok (.iload_n 1, 1) := by decide +kernel
theorem dX6_set_1 : decode cX6_set 1 = .ok (.iload_n 2, 1) := by decide +kernel
theorem dX6_set_2 : decode cX6_set 2 = .ok (.invokestatic 144, 3) := by decide +kernel
theorem dX6_set_5 : decode cX6_set 5 = .ok (.ifCond .ne 6, 3) := by decide +kernel
theorem dX6_set_8 : decode cX6_set 8 = .ok (.bipush (-2), 2) := by decide +kernel
theorem dX6_set_10 : decode cX6_set 10 = .ok (.ireturn, 1) := by decide +kernel
theorem dX6_set_11 : decode cX6_set 11 = .ok (.aload_n 0, 1) := by decide +kernel
theorem dX6_set_12 : decode cX6_set 12 = .ok (.getfield 7, 3) := by decide +kernel
theorem dX6_set_15 : decode cX6_set 15 = .ok (.sipush 324, 3) := by decide +kernel
theorem dX6_set_18 : decode cX6_set 18 = .ok (.iload_n 1, 1) := by decide +kernel
theorem dX6_set_19 : decode cX6_set 19 = .ok (.iadd, 1) := by decide +kernel
theorem dX6_set_20 : decode cX6_set 20 = .ok (.iaload, 1) := by decide +kernel
theorem dX6_set_21 : decode cX6_set 21 = .ok (.istore_n 3, 1) := by decide +kernel
theorem dX6_set_22 : decode cX6_set 22 = .ok (.iload_n 3, 1) := by decide +kernel
theorem dX6_set_23 : decode cX6_set 23 = .ok (.iload_n 2, 1) := by decide +kernel
theorem dX6_set_24 : decode cX6_set 24 = .ok (.if_icmp .ne 6, 3) := by decide +kernel
theorem dX6_set_27 : decode cX6_set 27 = .ok (.bipush (-5), 2) := by decide +kernel
theorem dX6_set_29 : decode cX6_set 29 = .ok (.ireturn, 1) := by decide +kernel
theorem dX6_set_30 : decode cX6_set 30 = .ok (.aload_n 0, 1) := by decide +kernel
theorem dX6_set_31 : decode cX6_set 31 = .ok (.invokevirtual 109, 3) := by decide +kernel
theorem dX6_set_34 : decode cX6_set 34 = .ok (.aload_n 0, 1) := by decide +kernel
theorem dX6_set_35 : decode cX6_set 35 = .ok (.getfield 7, 3) := by decide +kernel
theorem dX6_set_38 : decode cX6_set 38 = .ok (.sipush 324, 3) := by decide +kernel
theorem dX6_set_41 : decode cX6_set 41 = .ok (.iload_n 1, 1) := by decide +kernel
theorem dX6_set_42 : decode cX6_set 42 = .ok (.iadd, 1) := by decide +kernel
theorem dX6_set_43 : decode cX6_set 43 = .ok (.iload_n 2, 1) := by decide +kernel
theorem dX6_set_44 : decode cX6_set 44 = .ok (.iastore, 1) := by decide +kernel
theorem dX6_set_45 : decode cX6_set 45 = .ok (.iload_n 3, 1) := by decide +kernel
theorem dX6_set_46 : decode cX6_set 46 = .ok (.ireturn, 1) := by decide +kernel
theorem dX6_type_0 : decode cX6_type 0 = .ok (.aload_n 0, 1) := by decide +kernel
theorem dX6_type_1 : decode cX6_type 1 = .ok (.getfield 147, 3) := by decide +kernel
theorem dX6_type_4 : decode cX6_type 4 = .ok (.bipush 60, 2) := by decide +kernel
theorem dX6_type_6 : decode cX6_type 6 = .ok (.if_icmp .ne 6, 3) := by decide +kernel
theorem dX6_type_9 : decode cX6_type 9 = .ok (.bipush (-3), 2) := by decide +kernel
theorem dX6_type_11 : decode cX6_type 11 = .ok (.ireturn, 1) := by decide +kernel
theorem dX6_type_12 : decode cX6_type 12 = .ok (.aload_n 0, 1) := by decide +kernel
theorem dX6_type_13 : decode cX6_type 13 = .ok (.getfield 22, 3) := by decide +kernel
theorem dX6_type_16 : decode cX6_type 16 = .ok (.aload_n 0, 1) := by decide +kernel
theorem dX6_type_17 : decode cX6_type 17 = .ok (.getfield 147, 3) := by decide +kernel
theorem dX6_type_20 : decode cX6_type 20 = .ok (.iload_n 1, 1) := by decide +kernel
theorem dX6_type_21 : decode cX6_type 21 = .ok (.iastore, 1) := by decide +kernel
theorem dX6_type_22 : decode cX6_type 22 = .ok (.aload_n 0, 1) := by decide +kernel
theorem dX6_type_23 : decode cX6_type 23 = .ok (.dup, 1) := by decide +kernel
theorem dX6_type_24 : decode cX6_type 24 = .ok (.getfield 147, 3) := by decide +kernel
theorem dX6_type_27 : decode cX6_type 27 = .ok (.iconst 1, 1) := by decide +kernel
theorem dX6_type_28 : decode cX6_type 28 = .ok (.iadd, 1) := by decide +kernel
theorem dX6_type_29 : decode cX6_type 29 = .ok (.putfield 147, 3) := by decide +kernel
theorem dX6_type_32 : decode cX6_type 32 = .ok (.aload_n 0, 1) := by decide +kernel
theorem dX6_type_33 : decode cX6_type 33 = .ok (.getfield 147, 3) := by decide +kernel
theorem dX6_type_36 : decode cX6_type 36 = .ok (.ireturn, 1) := by decide +kernel
theorem dX6_clearText_0 : decode cX6_clearText 0 = .ok (.aload_n 0, 1) := by decide +kernel
theorem dX6_clearText_1 : decode cX6_clearText 1 = .ok (.getfield 147, 3) := by decide +kernel
theorem dX6_clearText_4 : decode cX6_clearText 4 = .ok (.istore_n 1, 1) := by decide +kernel
theorem dX6_clearText_5 : decode cX6_clearText 5 = .ok (.aload_n 0, 1) := by decide +kernel
theorem dX6_clearText_6 : decode cX6_clearText 6 = .ok (.iconst 0, 1) := by decide +kernel
theorem dX6_clearText_7 : decode cX6_clearText 7 = .ok (.putfield 147, 3) := by decide +kernel
theorem dX6_clearText_10 : decode cX6_clearText 10 = .ok (.iload_n 1, 1) := by decide +kernel
theorem dX6_clearText_11 : decode cX6_clearText 11 = .ok (.ireturn, 1) := by decide +kernel
set_option maxRecDepth 20000 in
theorem ggX6_isHere_X6_in : GoodIn wsX6_isHere wsX6_in := goodIn_r _ [7] (by decide +kernel) (by decide +kernel)
set_option maxRecDepth 20000 in
theorem gX6_isHere_X6_in : GoodIn wsX6_isHere (va_wsS RX6 34 yX6_in wsX6_in) := goodIn_app (goodIn_of _ (by decide +kernel)) ggX6_isHere_X6_in
theorem dX6_isHere_0 : decode cX6_isHere 0 = .ok (.aload_n 0, 1) := by decide +kernel
theorem dX6_isHere_1 : decode cX6_isHere 1 = .ok (.getfield 150, 3) := by decide +kernel
theorem dX6_isHere_4 : decode cX6_isHere 4 = .ok (.aload_n 0, 1) := by decide +kernel
theorem dX6_isHere_5 : decode cX6_isHere 5 = .ok (.getfield 147, 3) := by decide +kernel
theorem dX6_isHere_8 : decode cX6_isHere 8 = .ok (.if_icmp .ge 27, 3) := by decide +kernel
theorem dX6_isHere_11 : decode cX6_isHere 11 = .ok (.aload_n 0, 1) := by decide +kernel
theorem dX6_isHere_12 : decode cX6_isHere 12 = .ok (.getfield 22, 3) := by decide +kernel
theorem dX6_isHere_15 : decode cX6_isHere 15 = .ok (.aload_n 0, 1) := by decide +kernel
theorem dX6_isHere_16 : decode cX6_isHere 16 = .ok (.getfield 150, 3) := by decide +kernel
theorem dX6_isHere_19 : decode cX6_isHere 19 = .ok (.iaload, 1) := by decide +kernel
theorem dX6_isHere_20 : decode cX6_isHere 20 = .ok (.i2l, 1) := by decide +kernel
theorem dX6_isHere_21 : decode cX6_isHere 21 = .ok (.iload_n 1, 1) := by decide +kernel
theorem dX6_isHere_22 : decode cX6_isHere 22 = .ok (.i2l, 1) := by decide +kernel
theorem dX6_isHere_23 : decode cX6_isHere 23 = .ok (.iload_n 2, 1) := by decide +kernel
theorem dX6_isHere_24 : decode cX6_isHere 24 = .ok (.i2l, 1) := by decide +kernel
theorem dX6_isHere_25 : decode cX6_isHere 25 = .ok (.invokestatic 34, 3) := by decide +kernel
theorem dX6_isHere_28 : decode cX6_isHere 28 = .ok (.ifCond .eq 7, 3) := by decide +kernel
theorem dX6_isHere_31 : decode cX6_isHere 31 = .ok (.iconst 1, 1) := by decide +kernel
theorem dX6_isHere_32 : decode cX6_isHere 32 = .ok (.goto 4, 3) := by decide +kernel
theorem dX6_isHere_35 : decode cX6_isHere 35 = .ok (.iconst 0, 1) := by decide +kernel
theorem dX6_isHere_36 : decode cX6_isHere 36 = .ok (.ireturn, 1) := by decide +kernel
set_option maxRecDepth 20000 in
theorem ggX6_takes_X6_isHere : GoodIn wsX6_takes wsX6_isHere := goodIn_r _ [6, 1, 7, 8, 9, 10, 5, 11, 12, 13, 14, 15, 16, 17, 18, 19, 20, 21] (by decide +kernel) (by decide +kernel)
set_option maxRecDepth 20000 in
theorem gX6_takes_X6_isHere : GoodIn wsX6_takes (wsV RX6 153 RX6 yX6_isHere wsX6_isHere) := goodIn_app (goodIn_of _ (by decide +kernel)) ggX6_takes_X6_isHere
theorem dX6_takes_0 : decode cX6_takes 0 = .ok (.aload_n 0, 1) := by decide +kernel
theorem dX6_takes_1 : decode cX6_takes 1 = .ok (.iload_n 1, 1) := by decide +kernel
theorem dX6_takes_2 : decode cX6_takes 2 = .ok (.iload_n 1, 1) := by decide +kernel
theorem dX6_takes_3 : decode cX6_takes 3 = .ok (.invokevirtual 153, 3) := by decide +kernel
theorem dX6_takes_6 : decode cX6_takes 6 = .ok (.istore_n 2, 1) := by decide +kernel
theorem dX6_takes_7 : decode cX6_takes 7 = .ok (.aload_n 0, 1) := by decide +kernel
theorem dX6_takes_8 : decode cX6_takes 8 = .ok (.dup, 1) := by decide +kernel
theorem dX6_takes_9 : decode cX6_takes 9 = .ok (.getfield 150, 3) := by decide +kernel
theorem dX6_takes_12 : decode cX6_takes 12 = .ok (.iload_n 2, 1) := by decide +kernel
theorem dX6_takes_13 : decode cX6_takes 13 = .ok (.ifCond .eq 7, 3) := by decide +kernel
theorem dX6_takes_16 : decode cX6_takes 16 = .ok (.iconst 1, 1) := by decide +kernel
theorem dX6_takes_17 : decode cX6_takes 17 = .ok (.goto 4, 3) := by decide +kernel
theorem dX6_takes_20 : decode cX6_takes 20 = .ok (.iconst 0, 1) := by decide +kernel
theorem dX6_takes_21 : decode cX6_takes 21 = .ok (.iadd, 1) := by decide +kernel
theorem dX6_takes_22 : decode cX6_takes 22 = .ok (.putfield 150, 3) := by decide +kernel
theorem dX6_takes_25 : decode cX6_takes 25 = .ok (.iload_n 2, 1) := by decide +kernel
theorem dX6_takes_26 : decode cX6_takes 26 = .ok (.ireturn, 1) := by decide +kernel
set_option maxRecDepth 20000 in
theorem ggX6_readsNumber_X6_isHere : GoodIn wsX6_readsNumber wsX6_isHere := goodIn_r _ [8, 2, 9, 1, 10, 11, 7, 12, 13, 14, 15, 16, 17, 18, 19, 20, 21, 22] (by decide +kernel) (by decide +kernel)
set_option maxRecDepth 20000 in
theorem gX6_readsNumber_X6_isHere : GoodIn wsX6_readsNumber (wsV RX6 153 RX6 yX6_isHere wsX6_isHere) := goodIn_app (goodIn_of _ (by decide +kernel)) ggX6_readsNumber_X6_isHere
theorem dX6_readsNumber_0 : decode cX6_readsNumber 0 = .ok (.aload_n 0, 1) := by decide +kernel
theorem dX6_readsNumber_1 : decode cX6_readsNumber 1 = .ok (.bipush 48, 2) := by decide +kernel
theorem dX6_readsNumber_3 : decode cX6_readsNumber 3 = .ok (.iload_n 2, 1) := by decide +kernel
theorem dX6_readsNumber_4 : decode cX6_readsNumber 4 = .ok (.iadd, 1) := by decide +kernel
theorem dX6_readsNumber_5 : decode cX6_readsNumber 5 = .ok (.bipush 57, 2) := by decide +kernel
theorem dX6_readsNumber_7 : decode cX6_readsNumber 7 = .ok (.invokevirtual 153, 3) := by decide +kernel
theorem dX6_readsNumber_10 : decode cX6_readsNumber 10 = .ok (.ifCond .ne 5, 3) := by decide +kernel
theorem dX6_readsNumber_13 : decode cX6_readsNumber 13 = .ok (.iconst 0, 1) := by decide +kernel
theorem dX6_readsNumber_14 : decode cX6_readsNumber 14 = .ok (.ireturn, 1) := by decide +kernel
theorem dX6_readsNumber_15 : decode cX6_readsNumber 15 = .ok (.aload_n 0, 1) := by decide +kernel
theorem dX6_readsNumber_16 : decode cX6_readsNumber 16 = .ok (.getfield 22, 3) := by decide +kernel
theorem dX6_readsNumber_19 : decode cX6_readsNumber 19 = .ok (.aload_n 0, 1) := by decide +kernel
theorem dX6_readsNumber_20 : decode cX6_readsNumber 20 = .ok (.getfield 150, 3) := by decide +kernel
theorem dX6_readsNumber_23 : decode cX6_readsNumber 23 = .ok (.iaload, 1) := by decide +kernel
theorem dX6_readsNumber_24 : decode cX6_readsNumber 24 = .ok (.bipush 48, 2) := by decide +kernel
theorem dX6_readsNumber_26 : decode cX6_readsNumber 26 = .ok (.isub, 1) := by decide +kernel
theorem dX6_readsNumber_27 : decode cX6_readsNumber 27 = .ok (.istore 4, 2) := by decide +kernel
theorem dX6_readsNumber_29 : decode cX6_readsNumber 29 = .ok (.aload_n 0, 1) := by decide +kernel
theorem dX6_readsNumber_30 : decode cX6_readsNumber 30 = .ok (.dup, 1) := by decide +kernel
theorem dX6_readsNumber_31 : decode cX6_readsNumber 31 = .ok (.getfield 150, 3) := by decide +kernel
theorem dX6_readsNumber_34 : decode cX6_readsNumber 34 = .ok (.iconst 1, 1) := by decide +kernel
theorem dX6_readsNumber_35 : decode cX6_readsNumber 35 = .ok (.iadd, 1) := by decide +kernel
theorem dX6_readsNumber_36 : decode cX6_readsNumber 36 = .ok (.putfield 150, 3) := by decide +kernel
theorem dX6_readsNumber_39 : decode cX6_readsNumber 39 = .ok (.iload 4, 2) := by decide +kernel
theorem dX6_readsNumber_41 : decode cX6_readsNumber 41 = .ok (.ifCond .le 69, 3) := by decide +kernel
theorem dX6_readsNumber_44 : decode cX6_readsNumber 44 = .ok (.aload_n 0, 1) := by decide +kernel
theorem dX6_readsNumber_45 : decode cX6_readsNumber 45 = .ok (.bipush 48, 2) := by decide +kernel
theorem dX6_readsNumber_47 : decode cX6_readsNumber 47 = .ok (.bipush 57, 2) := by decide +kernel
theorem dX6_readsNumber_49 : decode cX6_readsNumber 49 = .ok (.invokevirtual 153, 3) := by decide +kernel
theorem dX6_readsNumber_52 : decode cX6_readsNumber 52 = .ok (.ifCond .eq 58, 3) := by decide +kernel
theorem dX6_readsNumber_55 : decode cX6_readsNumber 55 = .ok (.bipush 10, 2) := by decide +kernel
theorem dX6_readsNumber_57 : decode cX6_readsNumber 57 = .ok (.iload 4, 2) := by decide +kernel
theorem dX6_readsNumber_59 : decode cX6_readsNumber 59 = .ok (.imul, 1) := by decide +kernel
theorem dX6_readsNumber_60 : decode cX6_readsNumber 60 = .ok (.aload_n 0, 1) := by decide +kernel
theorem dX6_readsNumber_61 : decode cX6_readsNumber 61 = .ok (.getfield 22, 3) := by decide +kernel
theorem dX6_readsNumber_64 : decode cX6_readsNumber 64 = .ok (.aload_n 0, 1) := by decide +kernel
theorem dX6_readsNumber_65 : decode cX6_readsNumber 65 = .ok (.getfield 150, 3) := by decide +kernel
theorem dX6_readsNumber_68 : decode cX6_readsNumber 68 = .ok (.iaload, 1) := by decide +kernel
theorem dX6_readsNumber_69 : decode cX6_readsNumber 69 = .ok (.iadd, 1) := by decide +kernel
theorem dX6_readsNumber_70 : decode cX6_readsNumber 70 = .ok (.bipush 48, 2) := by decide +kernel
theorem dX6_readsNumber_72 : decode cX6_readsNumber 72 = .ok (.isub, 1) := by decide +kernel
theorem dX6_readsNumber_73 : decode cX6_readsNumber 73 = .ok (.iload_n 3, 1) := by decide +kernel
theorem dX6_readsNumber_74 : decode cX6_readsNumber 74 = .ok (.if_icmp .gt 36, 3) := by decide +kernel
theorem dX6_readsNumber_77 : decode cX6_readsNumber 77 = .ok (.bipush 10, 2) := by decide +kernel
theorem dX6_readsNumber_79 : decode cX6_readsNumber 79 = .ok (.iload 4, 2) := by decide +kernel
theorem dX6_readsNumber_81 : decode cX6_readsNumber 81 = .ok (.imul, 1) := by decide +kernel
theorem dX6_readsNumber_82 : decode cX6_readsNumber 82 = .ok (.aload_n 0, 1) := by decide +kernel
theorem dX6_readsNumber_83 : decode cX6_readsNumber 83 = .ok (.getfield 22, 3) := by decide +kernel
theorem dX6_readsNumber_86 : decode cX6_readsNumber 86 = .ok (.aload_n 0, 1) := by decide +kernel
theorem dX6_readsNumber_87 : decode cX6_readsNumber 87 = .ok (.getfield 150, 3) := by decide +kernel
theorem dX6_readsNumber_90 : decode cX6_readsNumber 90 = .ok (.iaload, 1) := by decide +kernel
theorem dX6_readsNumber_91 : decode cX6_readsNumber 91 = .ok (.iadd, 1) := by decide +kernel
theorem dX6_readsNumber_92 : decode cX6_readsNumber 92 = .ok (.bipush 48, 2) := by decide +kernel
theorem dX6_readsNumber_94 : decode cX6_readsNumber 94 = .ok (.isub, 1) := by decide +kernel
theorem dX6_readsNumber_95 : decode cX6_readsNumber 95 = .ok (.istore 4, 2) := by decide +kernel
theorem dX6_readsNumber_97 : decode cX6_readsNumber 97 = .ok (.aload_n 0, 1) := by decide +kernel
theorem dX6_readsNumber_98 : decode cX6_readsNumber 98 = .ok (.dup, 1) := by decide +kernel
theorem dX6_readsNumber_99 : decode cX6_readsNumber 99 = .ok (.getfield 150, 3) := by decide +kernel
theorem dX6_readsNumber_102 : decode cX6_readsNumber 102 = .ok (.iconst 1, 1) := by decide +kernel
theorem dX6_readsNumber_103 : decode cX6_readsNumber 103 = .ok (.iadd, 1) := by decide +kernel
theorem dX6_readsNumber_104 : decode cX6_readsNumber 104 = .ok (.putfield 150, 3) := by decide +kernel
theorem dX6_readsNumber_107 : decode cX6_readsNumber 107 = .ok (.goto (-68), 3) := by decide +kernel
theorem dX6_readsNumber_110 : decode cX6_readsNumber 110 = .ok (.aload_n 0, 1) := by decide +kernel
theorem dX6_readsNumber_111 : decode cX6_readsNumber 111 = .ok (.getfield 25, 3) := by decide +kernel
theorem dX6_readsNumber_114 : decode cX6_readsNumber 114 = .ok (.iload_n 1, 1) := by decide +kernel
theorem dX6_readsNumber_115 : decode cX6_readsNumber 115 = .ok (.iload 4, 2) := by decide +kernel
theorem dX6_readsNumber_117 : decode cX6_readsNumber 117 = .ok (.iastore, 1) := by decide +kernel
theorem dX6_readsNumber_118 : decode cX6_readsNumber 118 = .ok (.iconst 1, 1) := by decide +kernel
theorem dX6_readsNumber_119 : decode cX6_readsNumber 119 = .ok (.ireturn, 1) := by decide +kernel
set_option maxRecDepth 20000 in
theorem ggX6_readsPart_X6_readsNumber : GoodIn wsX6_readsPart wsX6_readsNumber := goodIn_r _ [5, 6, 7, 8, 9, 10, 11, 4, 12, 13, 14, 15, 16, 21, 22, 23, 24, 25, 26, 27, 28, 29, 30] (by decide +kernel) (by decide +kernel)
set_option maxRecDepth 20000 in
theorem gX6_readsPart_X6_readsNumber : GoodIn wsX6_readsPart (wsV RX6 156 RX6 yX6_readsNumber wsX6_readsNumber) := goodIn_app (goodIn_of _ (by decide +kernel)) ggX6_readsPart_X6_readsNumber
set_option maxRecDepth 20000 in
theorem ggX6_readsPart_X6_takes : GoodIn wsX6_readsPart wsX6_takes := goodIn_r _ [20, 7, 9, 10, 11, 4, 12, 13, 6, 14, 15, 16, 21, 22, 23, 24, 25, 26, 27, 28, 29, 30] (by decide +kernel) (by decide +kernel)
set_option maxRecDepth 20000 in
theorem gX6_readsPart_X6_takes : GoodIn wsX6_readsPart (wsV RX6 160 RX6 yX6_takes wsX6_takes) := goodIn_app (goodIn_of _ (by decide +kernel)) ggX6_readsPart_X6_takes
theorem dX6_readsPart_0 : decode cX6_readsPart 0 = .ok (.aload_n 0, 1) := by decide +kernel
theorem dX6_readsPart_1 : decode cX6_readsPart 1 = .ok (.iconst 0, 1) := by decide +kernel
theorem dX6_readsPart_2 : decode cX6_readsPart 2 = .ok (.iconst 0, 1) := by decide +kernel
theorem dX6_readsPart_3 : decode cX6_readsPart 3 = .ok (.bipush 23, 2) := by decide +kernel
theorem dX6_readsPart_5 : decode cX6_readsPart 5 = .ok (.invokevirtual 156, 3) := by decide +kernel
theorem dX6_readsPart_8 : decode cX6_readsPart 8 = .ok (.ifCond .eq 88, 3) := by decide +kernel
theorem dX6_readsPart_11 : decode cX6_readsPart 11 = .ok (.aload_n 0, 1) := by decide +kernel
theorem dX6_readsPart_12 : decode cX6_readsPart 12 = .ok (.bipush 44, 2) := by decide +kernel
theorem dX6_readsPart_14 : decode cX6_readsPart 14 = .ok (.invokevirtual 160, 3) := by decide +kernel
theorem dX6_readsPart_17 : decode cX6_readsPart 17 = .ok (.ifCond .eq 79, 3) := by decide +kernel
theorem dX6_readsPart_20 : decode cX6_readsPart 20 = .ok (.aload_n 0, 1) := by decide +kernel
theorem dX6_readsPart_21 : decode cX6_readsPart 21 = .ok (.iconst 1, 1) := by decide +kernel
theorem dX6_readsPart_22 : decode cX6_readsPart 22 = .ok (.iconst 0, 1) := by decide +kernel
theorem dX6_readsPart_23 : decode cX6_readsPart 23 = .ok (.bipush 11, 2) := by decide +kernel
theorem dX6_readsPart_25 : decode cX6_readsPart 25 = .ok (.invokevirtual 156, 3) := by decide +kernel
theorem dX6_readsPart_28 : decode cX6_readsPart 28 = .ok (.ifCond .eq 68, 3) := by decide +kernel
theorem dX6_readsPart_31 : decode cX6_readsPart 31 = .ok (.aload_n 0, 1) := by decide +kernel
theorem dX6_readsPart_32 : decode cX6_readsPart 32 = .ok (.bipush 43, 2) := by decide +kernel
theorem dX6_readsPart_34 : decode cX6_readsPart 34 = .ok (.invokevirtual 160, 3) := by decide +kernel
theorem dX6_readsPart_37 : decode cX6_readsPart 37 = .ok (.ifCond .eq 59, 3) := by decide +kernel
theorem dX6_readsPart_40 : decode cX6_readsPart 40 = .ok (.aload_n 0, 1) := by decide +kernel
theorem dX6_readsPart_41 : decode cX6_readsPart 41 = .ok (.iconst 2, 1) := by decide +kernel
theorem dX6_readsPart_42 : decode cX6_readsPart 42 = .ok (.iconst 1, 1) := by decide +kernel
theorem dX6_readsPart_43 : decode cX6_readsPart 43 = .ok (.bipush 24, 2) := by decide +kernel
theorem dX6_readsPart_45 : decode cX6_readsPart 45 = .ok (.invokevirtual 156, 3) := by decide +kernel
theorem dX6_readsPart_48 : decode cX6_readsPart 48 = .ok (.ifCond .eq 48, 3) := by decide +kernel
theorem dX6_readsPart_51 : decode cX6_readsPart 51 = .ok (.aload_n 0, 1) := by decide +kernel
theorem dX6_readsPart_52 : decode cX6_readsPart 52 = .ok (.bipush 120, 2) := by decide +kernel
theorem dX6_readsPart_54 : decode cX6_readsPart 54 = .ok (.invokevirtual 160, 3) := by decide +kernel
theorem dX6_readsPart_57 : decode cX6_readsPart 57 = .ok (.ifCond .eq 39, 3) := by decide +kernel
theorem dX6_readsPart_60 : decode cX6_readsPart 60 = .ok (.aload_n 0, 1) := by decide +kernel
theorem dX6_readsPart_61 : decode cX6_readsPart 61 = .ok (.iconst 3, 1) := by decide +kernel
theorem dX6_readsPart_62 : decode cX6_readsPart 62 = .ok (.iconst 1, 1) := by decide +kernel
theorem dX6_readsPart_63 : decode cX6_readsPart 63 = .ok (.bipush 12, 2) := by decide +kernel
theorem dX6_readsPart_65 : decode cX6_readsPart 65 = .ok (.invokevirtual 156, 3) := by decide +kernel
theorem dX6_readsPart_68 : decode cX6_readsPart 68 = .ok (.ifCond .eq 28, 3) := by decide +kernel
theorem dX6_readsPart_71 : decode cX6_readsPart 71 = .ok (.aload_n 0, 1) := by decide +kernel
theorem dX6_readsPart_72 : decode cX6_readsPart 72 = .ok (.bipush 61, 2) := by decide +kernel
theorem dX6_readsPart_74 : decode cX6_readsPart 74 = .ok (.invokevirtual 160, 3) := by decide +kernel
theorem dX6_readsPart_77 : decode cX6_readsPart 77 = .ok (.ifCond .eq 19, 3) := by decide +kernel
theorem dX6_readsPart_80 : decode cX6_readsPart 80 = .ok (.aload_n 0, 1) := by decide +kernel
theorem dX6_readsPart_81 : decode cX6_readsPart 81 = .ok (.iconst 4, 1) := by decide +kernel
theorem dX6_readsPart_82 : decode cX6_readsPart 82 = .ok (.iconst 0, 1) := by decide +kernel
theorem dX6_readsPart_83 : decode cX6_readsPart 83 = .ok (.sipush 255, 3) := by decide +kernel
theorem dX6_readsPart_86 : decode cX6_readsPart 86 = .ok (.invokevirtual 156, 3) := by decide +kernel
theorem dX6_readsPart_89 : decode cX6_readsPart 89 = .ok (.ifCond .eq 7, 3) := by decide +kernel
theorem dX6_readsPart_92 : decode cX6_readsPart 92 = .ok (.iconst 1, 1) := by decide +kernel
theorem dX6_readsPart_93 : decode cX6_readsPart 93 = .ok (.goto 4, 3) := by decide +kernel
theorem dX6_readsPart_96 : decode cX6_readsPart 96 = .ok (.iconst 0, 1) := by decide +kernel
theorem dX6_readsPart_97 : decode cX6_readsPart 97 = .ok (.ireturn, 1) := by decide +kernel
set_option maxRecDepth 20000 in
theorem ggX6_fault_X6_readsPart : GoodIn wsX6_fault wsX6_readsPart := goodIn_r _ [7, 8, 9, 10, 6, 11, 12, 1, 13, 14, 15, 16, 17, 2, 18, 19, 20, 21, 22, 23, 24, 25, 26, 27, 28, 29, 30, 31, 32, 33, 34] (by decide +kernel) (by decide +kernel)
set_option maxRecDepth 20000 in
theorem gX6_fault_X6_readsPart : GoodIn wsX6_fault (wsV RX6 163 RX6 yX6_readsPart wsX6_readsPart) := goodIn_app (goodIn_of _ (by decide +kernel)) ggX6_fault_X6_readsPart
set_option maxRecDepth 20000 in
theorem ggX6_fault_X6_takes : GoodIn wsX6_fault wsX6_takes := goodIn_r _ [24, 1, 14, 15, 16, 6, 17, 2, 12, 18, 19, 20, 25, 26, 27, 28, 29, 30, 31, 32, 33, 34] (by decide +kernel) (by decide +kernel)
set_option maxRecDepth 20000 in
theorem gX6_fault_X6_takes : GoodIn wsX6_fault (wsV RX6 160 RX6 yX6_takes wsX6_takes) := goodIn_app (goodIn_of _ (by decide +kernel)) ggX6_fault_X6_takes
theorem dX6_fault_0 : decode cX6_fault 0 = .ok (.aload_n 0, 1) := by decide +kernel
theorem dX6_fault_1 : decode cX6_fault 1 = .ok (.iconst 0, 1) := by decide +kernel
theorem dX6_fault_2 : decode cX6_fault 2 = .ok (.putfield 150, 3) := by decide +kernel
theorem dX6_fault_5 : decode cX6_fault 5 = .ok (.iconst 1, 1) := by decide +kernel
theorem dX6_fault_6 : decode cX6_fault 6 = .ok (.istore_n 1, 1) := by decide +kernel
theorem dX6_fault_7 : decode cX6_fault 7 = .ok (.iload_n 1, 1) := by decide +kernel
theorem dX6_fault_8 : decode cX6_fault 8 = .ok (.ifCond .eq 25, 3) := by decide +kernel
theorem dX6_fault_11 : decode cX6_fault 11 = .ok (.aload_n 0, 1) := by decide +kernel
theorem dX6_fault_12 : decode cX6_fault 12 = .ok (.invokevirtual 163, 3) := by decide +kernel
theorem dX6_fault_15 : decode cX6_fault 15 = .ok (.ifCond .ne 8, 3) := by decide +kernel
theorem dX6_fault_18 : decode cX6_fault 18 = .ok (.aload_n 0, 1) := by decide +kernel
theorem dX6_fault_19 : decode cX6_fault 19 = .ok (.getfield 150, 3) := by decide +kernel
theorem dX6_fault_22 : decode cX6_fault 22 = .ok (.ireturn, 1) := by decide +kernel
theorem dX6_fault_23 : decode cX6_fault 23 = .ok (.aload_n 0, 1) := by decide +kernel
theorem dX6_fault_24 : decode cX6_fault 24 = .ok (.bipush 59, 2) := by decide +kernel
theorem dX6_fault_26 : decode cX6_fault 26 = .ok (.invokevirtual 160, 3) := by decide +kernel
theorem dX6_fault_29 : decode cX6_fault 29 = .ok (.istore_n 1, 1) := by decide +kernel
theorem dX6_fault_30 : decode cX6_fault 30 = .ok (.goto (-23), 3) := by decide +kernel
theorem dX6_fault_33 : decode cX6_fault 33 = .ok (.aload_n 0, 1) := by decide +kernel
theorem dX6_fault_34 : decode cX6_fault 34 = .ok (.getfield 150, 3) := by decide +kernel
theorem dX6_fault_37 : decode cX6_fault 37 = .ok (.aload_n 0, 1) := by decide +kernel
theorem dX6_fault_38 : decode cX6_fault 38 = .ok (.getfield 147, 3) := by decide +kernel
theorem dX6_fault_41 : decode cX6_fault 41 = .ok (.if_icmp .ne 8, 3) := by decide +kernel
theorem dX6_fault_44 : decode cX6_fault 44 = .ok (.bipush (-5), 2) := by decide +kernel
theorem dX6_fault_46 : decode cX6_fault 46 = .ok (.goto 7, 3) := by decide +kernel
theorem dX6_fault_49 : decode cX6_fault 49 = .ok (.aload_n 0, 1) := by decide +kernel
theorem dX6_fault_50 : decode cX6_fault 50 = .ok (.getfield 150, 3) := by decide +kernel
theorem dX6_fault_53 : decode cX6_fault 53 = .ok (.ireturn, 1) := by decide +kernel
theorem dX6_asksPart_0 : decode cX6_asksPart 0 = .ok (.aload_n 0, 1) := by decide +kernel
theorem dX6_asksPart_1 : decode cX6_asksPart 1 = .ok (.getfield 25, 3) := by decide +kernel
theorem dX6_asksPart_4 : decode cX6_asksPart 4 = .ok (.iconst 1, 1) := by decide +kernel
theorem dX6_asksPart_5 : decode cX6_asksPart 5 = .ok (.iaload, 1) := by decide +kernel
theorem dX6_asksPart_6 : decode cX6_asksPart 6 = .ok (.istore_n 1, 1) := by decide +kernel
theorem dX6_asksPart_7 : decode cX6_asksPart 7 = .ok (.iload_n 1, 1) := by decide +kernel
theorem dX6_asksPart_8 : decode cX6_asksPart 8 = .ok (.aload_n 0, 1) := by decide +kernel
theorem dX6_asksPart_9 : decode cX6_asksPart 9 = .ok (.getfield 25, 3) := by decide +kernel
theorem dX6_asksPart_12 : decode cX6_asksPart 12 = .ok (.iconst 1, 1) := by decide +kernel
theorem dX6_asksPart_13 : decode cX6_asksPart 13 = .ok (.iaload, 1) := by decide +kernel
theorem dX6_asksPart_14 : decode cX6_asksPart 14 = .ok (.aload_n 0, 1) := by decide +kernel
theorem dX6_asksPart_15 : decode cX6_asksPart 15 = .ok (.getfield 25, 3) := by decide +kernel
theorem dX6_asksPart_18 : decode cX6_asksPart 18 = .ok (.iconst 3, 1) := by decide +kernel
theorem dX6_asksPart_19 : decode cX6_asksPart 19 = .ok (.iaload, 1) := by decide +kernel
theorem dX6_asksPart_20 : decode cX6_asksPart 20 = .ok (.iadd, 1) := by decide +kernel
theorem dX6_asksPart_21 : decode cX6_asksPart 21 = .ok (.if_icmp .ge 68, 3) := by decide +kernel
theorem dX6_asksPart_24 : decode cX6_asksPart 24 = .ok (.iload_n 1, 1) := by decide +kernel
theorem dX6_asksPart_25 : decode cX6_asksPart 25 = .ok (.bipush 12, 2) := by decide +kernel
theorem dX6_asksPart_27 : decode cX6_asksPart 27 = .ok (.if_icmp .ge 62, 3) := by decide +kernel
theorem dX6_asksPart_30 : decode cX6_asksPart 30 = .ok (.aload_n 0, 1) := by decide +kernel
theorem dX6_asksPart_31 : decode cX6_asksPart 31 = .ok (.getfield 25, 3) := by decide +kernel
theorem dX6_asksPart_34 : decode cX6_asksPart 34 = .ok (.iconst 0, 1) := by decide +kernel
theorem dX6_asksPart_35 : decode cX6_asksPart 35 = .ok (.iaload, 1) := by decide +kernel
theorem dX6_asksPart_36 : decode cX6_asksPart 36 = .ok (.istore_n 2, 1) := by decide +kernel
theorem dX6_asksPart_37 : decode cX6_asksPart 37 = .ok (.iload_n 2, 1) := by decide +kernel
theorem dX6_asksPart_38 : decode cX6_asksPart 38 = .ok (.aload_n 0, 1) := by decide +kernel
theorem dX6_asksPart_39 : decode cX6_asksPart 39 = .ok (.getfield 25, 3) := by decide +kernel
theorem dX6_asksPart_42 : decode cX6_asksPart 42 = .ok (.iconst 0, 1) := by decide +kernel
theorem dX6_asksPart_43 : decode cX6_asksPart 43 = .ok (.iaload, 1) := by decide +kernel
theorem dX6_asksPart_44 : decode cX6_asksPart 44 = .ok (.aload_n 0, 1) := by decide +kernel
theorem dX6_asksPart_45 : decode cX6_asksPart 45 = .ok (.getfield 25, 3) := by decide +kernel
theorem dX6_asksPart_48 : decode cX6_asksPart 48 = .ok (.iconst 2, 1) := by decide +kernel
theorem dX6_asksPart_49 : decode cX6_asksPart 49 = .ok (.iaload, 1) := by decide +kernel
theorem dX6_asksPart_50 : decode cX6_asksPart 50 = .ok (.iadd, 1) := by decide +kernel
theorem dX6_asksPart_51 : decode cX6_asksPart 51 = .ok (.if_icmp .ge 32, 3) := by decide +kernel
theorem dX6_asksPart_54 : decode cX6_asksPart 54 = .ok (.iload_n 2, 1) := by decide +kernel
theorem dX6_asksPart_55 : decode cX6_asksPart 55 = .ok (.bipush 24, 2) := by decide +kernel
theorem dX6_asksPart_57 : decode cX6_asksPart 57 = .ok (.if_icmp .ge 26, 3) := by decide +kernel
theorem dX6_asksPart_60 : decode cX6_asksPart 60 = .ok (.aload_n 0, 1) := by decide +kernel
theorem dX6_asksPart_61 : decode cX6_asksPart 61 = .ok (.getfield 7, 3) := by decide +kernel
theorem dX6_asksPart_64 : decode cX6_asksPart 64 = .ok (.bipush 24, 2) := by decide +kernel
theorem dX6_asksPart_66 : decode cX6_asksPart 66 = .ok (.iload_n 1, 1) := by decide +kernel
theorem dX6_asksPart_67 : decode cX6_asksPart 67 = .ok (.imul, 1) := by decide +kernel
theorem dX6_asksPart_68 : decode cX6_asksPart 68 = .ok (.iload_n 2, 1) := by decide +kernel
theorem dX6_asksPart_69 : decode cX6_asksPart 69 = .ok (.iadd, 1) := by decide +kernel
theorem dX6_asksPart_70 : decode cX6_asksPart 70 = .ok (.aload_n 0, 1) := by decide +kernel
theorem dX6_asksPart_71 : decode cX6_asksPart 71 = .ok (.getfield 25, 3) := by decide +kernel
theorem dX6_asksPart_74 : decode cX6_asksPart 74 = .ok (.iconst 4, 1) := by decide +kernel
theorem dX6_asksPart_75 : decode cX6_asksPart 75 = .ok (.iaload, 1) := by decide +kernel
theorem dX6_asksPart_76 : decode cX6_asksPart 76 = .ok (.iastore, 1) := by decide +kernel
theorem dX6_asksPart_77 : decode cX6_asksPart 77 = .ok (.iinc 2 1, 3) := by decide +kernel
theorem dX6_asksPart_80 : decode cX6_asksPart 80 = .ok (.goto (-43), 3) := by decide +kernel
theorem dX6_asksPart_83 : decode cX6_asksPart 83 = .ok (.iinc 1 1, 3) := by decide +kernel
theorem dX6_asksPart_86 : decode cX6_asksPart 86 = .ok (.goto (-79), 3) := by decide +kernel
theorem dX6_asksPart_89 : decode cX6_asksPart 89 = .ok (.return_, 1) := by decide +kernel
set_option maxRecDepth 20000 in
theorem ggX6_askAll_X6_fault : GoodIn wsX6_askAll wsX6_fault := goodIn_r _ [6, 1, 7, 8, 9, 10, 5, 11, 12, 13, 14, 15, 16, 17, 18, 19, 20, 21, 22, 23, 24, 25, 26, 27, 28, 44, 45, 46, 47, 48, 49, 50, 51, 52, 53] (by decide +kernel) (by decide +kernel)
set_option maxRecDepth 20000 in
theorem gX6_askAll_X6_fault : GoodIn wsX6_askAll (wsV RX6 167 RX6 yX6_fault wsX6_fault) := goodIn_app (goodIn_of _ (by decide +kernel)) ggX6_askAll_X6_fault
set_option maxRecDepth 20000 in
theorem ggX6_askAll_X6_acts : GoodIn wsX6_askAll wsX6_acts := goodIn_r _ [32, 33, 34, 35, 44, 45, 46, 47, 48, 49, 50, 51, 52, 53] (by decide +kernel) (by decide +kernel)
set_option maxRecDepth 20000 in
theorem gX6_askAll_X6_acts : GoodIn wsX6_askAll (wsV RX6 109 RX6 yX6_acts wsX6_acts) := goodIn_app (goodIn_of _ (by decide +kernel)) ggX6_askAll_X6_acts
set_option maxRecDepth 20000 in
theorem ggX6_askAll_X6_readsPart : GoodIn wsX6_askAll wsX6_readsPart := goodIn_r _ [11, 12, 13, 14, 5, 15, 16, 1, 17, 18, 19, 20, 21, 7, 22, 23, 24, 25, 26, 27, 28, 44, 45, 46, 47, 48, 49, 50, 51, 52, 53] (by decide +kernel) (by decide +kernel)
set_option maxRecDepth 20000 in
theorem gX6_askAll_X6_readsPart : GoodIn wsX6_askAll (wsV RX6 163 RX6 yX6_readsPart wsX6_readsPart) := goodIn_app (goodIn_of _ (by decide +kernel)) ggX6_askAll_X6_readsPart
set_option maxRecDepth 20000 in
theorem ggX6_askAll_X6_asksPart : GoodIn wsX6_askAll wsX6_asksPart := goodIn_r _ [39, 17, 35, 44, 45, 46, 47, 48, 49, 50, 51, 52, 53] (by decide +kernel) (by decide +kernel)
set_option maxRecDepth 20000 in
theorem gX6_askAll_X6_asksPart : GoodIn wsX6_askAll (wsV RX6 170 RX6 yX6_asksPart wsX6_asksPart) := goodIn_app (goodIn_of _ (by decide +kernel)) ggX6_askAll_X6_asksPart
set_option maxRecDepth 20000 in
theorem ggX6_askAll_X6_takes : GoodIn wsX6_askAll wsX6_takes := goodIn_r _ [28, 1, 18, 19, 20, 5, 21, 7, 16, 22, 23, 24, 44, 45, 46, 47, 48, 49, 50, 51, 52, 53] (by decide +kernel) (by decide +kernel)
set_option maxRecDepth 20000 in
theorem gX6_askAll_X6_takes : GoodIn wsX6_askAll (wsV RX6 160 RX6 yX6_takes wsX6_takes) := goodIn_app (goodIn_of _ (by decide +kernel)) ggX6_askAll_X6_takes
set_option maxRecDepth 20000 in
theorem ggX6_askAll_X6_otherSpots : GoodIn wsX6_askAll wsX6_otherSpots := goodIn_r _ [43, 35, 34, 33, 44, 45, 46, 47, 48, 49, 50, 51, 52, 53] (by decide +kernel) (by decide +kernel)
set_option maxRecDepth 20000 in
theorem gX6_askAll_X6_otherSpots : GoodIn wsX6_askAll (wsV RX6 114 RX6 yX6_otherSpots wsX6_otherSpots) := goodIn_app (goodIn_of _ (by decide +kernel)) ggX6_askAll_X6_otherSpots
theorem dX6_askAll_0 : decode cX6_askAll 0 = .ok (.aload_n 0, 1) := by decide +kernel
theorem dX6_askAll_1 : decode cX6_askAll 1 = .ok (.invokevirtual 167, 3) := by decide +kernel
theorem dX6_askAll_4 : decode cX6_askAll 4 = .ok (.istore_n 1, 1) := by decide +kernel
theorem dX6_askAll_5 : decode cX6_askAll 5 = .ok (.iload_n 1, 1) := by decide +kernel
theorem dX6_askAll_6 : decode cX6_askAll 6 = .ok (.bipush (-5), 2) := by decide +kernel
theorem dX6_askAll_8 : decode cX6_askAll 8 = .ok (.if_icmp .eq 8, 3) := by decide +kernel
theorem dX6_askAll_11 : decode cX6_askAll 11 = .ok (.bipush (-100), 2) := by decide +kernel
theorem dX6_askAll_13 : decode cX6_askAll 13 = .ok (.iload_n 1, 1) := by decide +kernel
theorem dX6_askAll_14 : decode cX6_askAll 14 = .ok (.isub, 1) := by decide +kernel
theorem dX6_askAll_15 : decode cX6_askAll 15 = .ok (.ireturn, 1) := by decide +kernel
theorem dX6_askAll_16 : decode cX6_askAll 16 = .ok (.aload_n 0, 1) := by decide +kernel
theorem dX6_askAll_17 : decode cX6_askAll 17 = .ok (.invokevirtual 109, 3) := by decide +kernel
theorem dX6_askAll_20 : decode cX6_askAll 20 = .ok (.aload_n 0, 1) := by decide +kernel
theorem dX6_askAll_21 : decode cX6_askAll 21 = .ok (.iconst 0, 1) := by decide +kernel
theorem dX6_askAll_22 : decode cX6_askAll 22 = .ok (.putfield 150, 3) := by decide +kernel
theorem dX6_askAll_25 : decode cX6_askAll 25 = .ok (.iconst 1, 1) := by decide +kernel
theorem dX6_askAll_26 : decode cX6_askAll 26 = .ok (.istore_n 2, 1) := by decide +kernel
theorem dX6_askAll_27 : decode cX6_askAll 27 = .ok (.iload_n 2, 1) := by decide +kernel
theorem dX6_askAll_28 : decode cX6_askAll 28 = .ok (.ifCond .eq 22, 3) := by decide +kernel
theorem dX6_askAll_31 : decode cX6_askAll 31 = .ok (.aload_n 0, 1) := by decide +kernel
theorem dX6_askAll_32 : decode cX6_askAll 32 = .ok (.invokevirtual 163, 3) := by decide +kernel
theorem dX6_askAll_35 : decode cX6_askAll 35 = .ok (.istore_n 3, 1) := by decide +kernel
theorem dX6_askAll_36 : decode cX6_askAll 36 = .ok (.aload_n 0, 1) := by decide +kernel
theorem dX6_askAll_37 : decode cX6_askAll 37 = .ok (.invokevirtual 170, 3) := by decide +kernel
theorem dX6_askAll_40 : decode cX6_askAll 40 = .ok (.aload_n 0, 1) := by decide +kernel
theorem dX6_askAll_41 : decode cX6_askAll 41 = .ok (.bipush 59, 2) := by decide +kernel
theorem dX6_askAll_43 : decode cX6_askAll 43 = .ok (.invokevirtual 160, 3) := by decide +kernel
theorem dX6_askAll_46 : decode cX6_askAll 46 = .ok (.istore_n 2, 1) := by decide +kernel
theorem dX6_askAll_47 : decode cX6_askAll 47 = .ok (.goto (-20), 3) := by decide +kernel
theorem dX6_askAll_50 : decode cX6_askAll 50 = .ok (.aload_n 0, 1) := by decide +kernel
theorem dX6_askAll_51 : decode cX6_askAll 51 = .ok (.invokevirtual 114, 3) := by decide +kernel
theorem dX6_askAll_54 : decode cX6_askAll 54 = .ok (.ireturn, 1) := by decide +kernel
theorem dX6_undo_0 : decode cX6_undo 0 = .ok (.aload_n 0, 1) := by decide +kernel
theorem dX6_undo_1 : decode cX6_undo 1 = .ok (.getfield 28, 3) := by decide +kernel
theorem dX6_undo_4 : decode cX6_undo 4 = .ok (.ifCond .ne 6, 3) := by decide +kernel
theorem dX6_undo_7 : decode cX6_undo 7 = .ok (.bipush (-5), 2) := by decide +kernel
theorem dX6_undo_9 : decode cX6_undo 9 = .ok (.ireturn, 1) := by decide +kernel
theorem dX6_undo_10 : decode cX6_undo 10 = .ok (.aload_n 0, 1) := by decide +kernel
theorem dX6_undo_11 : decode cX6_undo 11 = .ok (.dup, 1) := by decide +kernel
theorem dX6_undo_12 : decode cX6_undo 12 = .ok (.getfield 28, 3) := by decide +kernel
theorem dX6_undo_15 : decode cX6_undo 15 = .ok (.iconst 1, 1) := by decide +kernel
theorem dX6_undo_16 : decode cX6_undo 16 = .ok (.isub, 1) := by decide +kernel
theorem dX6_undo_17 : decode cX6_undo 17 = .ok (.putfield 28, 3) := by decide +kernel
theorem dX6_undo_20 : decode cX6_undo 20 = .ok (.iconst 0, 1) := by decide +kernel
theorem dX6_undo_21 : decode cX6_undo 21 = .ok (.istore_n 1, 1) := by decide +kernel
theorem dX6_undo_22 : decode cX6_undo 22 = .ok (.iload_n 1, 1) := by decide +kernel
theorem dX6_undo_23 : decode cX6_undo 23 = .ok (.sipush 335, 3) := by decide +kernel
theorem dX6_undo_26 : decode cX6_undo 26 = .ok (.if_icmp .ge 30, 3) := by decide +kernel
theorem dX6_undo_29 : decode cX6_undo 29 = .ok (.aload_n 0, 1) := by decide +kernel
theorem dX6_undo_30 : decode cX6_undo 30 = .ok (.getfield 7, 3) := by decide +kernel
theorem dX6_undo_33 : decode cX6_undo 33 = .ok (.iload_n 1, 1) := by decide +kernel
theorem dX6_undo_34 : decode cX6_undo 34 = .ok (.aload_n 0, 1) := by decide +kernel
theorem dX6_undo_35 : decode cX6_undo 35 = .ok (.getfield 13, 3) := by decide +kernel
theorem dX6_undo_38 : decode cX6_undo 38 = .ok (.sipush 335, 3) := by decide +kernel
theorem dX6_undo_41 : decode cX6_undo 41 = .ok (.aload_n 0, 1) := by decide +kernel
theorem dX6_undo_42 : decode cX6_undo 42 = .ok (.getfield 28, 3) := by decide +kernel
theorem dX6_undo_45 : decode cX6_undo 45 = .ok (.imul, 1) := by decide +kernel
theorem dX6_undo_46 : decode cX6_undo 46 = .ok (.iload_n 1, 1) := by decide +kernel
theorem dX6_undo_47 : decode cX6_undo 47 = .ok (.iadd, 1) := by decide +kernel
theorem dX6_undo_48 : decode cX6_undo 48 = .ok (.iaload, 1) := by decide +kernel
theorem dX6_undo_49 : decode cX6_undo 49 = .ok (.iastore, 1) := by decide +kernel
theorem dX6_undo_50 : decode cX6_undo 50 = .ok (.iinc 1 1, 3) := by decide +kernel
theorem dX6_undo_53 : decode cX6_undo 53 = .ok (.goto (-31), 3) := by decide +kernel
theorem dX6_undo_56 : decode cX6_undo 56 = .ok (.aload_n 0, 1) := by decide +kernel
theorem dX6_undo_57 : decode cX6_undo 57 = .ok (.getfield 28, 3) := by decide +kernel
theorem dX6_undo_60 : decode cX6_undo 60 = .ok (.ireturn, 1) := by decide +kernel
theorem dX6_keep_0 : decode cX6_keep 0 = .ok (.iconst 0, 1) := by decide +kernel
theorem dX6_keep_1 : decode cX6_keep 1 = .ok (.istore_n 1, 1) := by decide +kernel
theorem dX6_keep_2 : decode cX6_keep 2 = .ok (.iload_n 1, 1) := by decide +kernel
theorem dX6_keep_3 : decode cX6_keep 3 = .ok (.sipush 335, 3) := by decide +kernel
theorem dX6_keep_6 : decode cX6_keep 6 = .ok (.if_icmp .ge 21, 3) := by decide +kernel
theorem dX6_keep_9 : decode cX6_keep 9 = .ok (.aload_n 0, 1) := by decide +kernel
theorem dX6_keep_10 : decode cX6_keep 10 = .ok (.getfield 16, 3) := by decide +kernel
theorem dX6_keep_13 : decode cX6_keep 13 = .ok (.iload_n 1, 1) := by decide +kernel
theorem dX6_keep_14 : decode cX6_keep 14 = .ok (.aload_n 0, 1) := by decide +kernel
theorem dX6_keep_15 : decode cX6_keep 15 = .ok (.getfield 7, 3) := by decide +kernel
theorem dX6_keep_18 : decode cX6_keep 18 = .ok (.iload_n 1, 1) := by decide +kernel
theorem dX6_keep_19 : decode cX6_keep 19 = .ok (.iaload, 1) := by decide +kernel
theorem dX6_keep_20 : decode cX6_keep 20 = .ok (.iastore, 1) := by decide +kernel
theorem dX6_keep_21 : decode cX6_keep 21 = .ok (.iinc 1 1, 3) := by decide +kernel
theorem dX6_keep_24 : decode cX6_keep 24 = .ok (.goto (-22), 3) := by decide +kernel
theorem dX6_keep_27 : decode cX6_keep 27 = .ok (.aload_n 0, 1) := by decide +kernel
theorem dX6_keep_28 : decode cX6_keep 28 = .ok (.iconst 1, 1) := by decide +kernel
theorem dX6_keep_29 : decode cX6_keep 29 = .ok (.putfield 173, 3) := by decide +kernel
theorem dX6_keep_32 : decode cX6_keep 32 = .ok (.aload_n 0, 1) := by decide +kernel
theorem dX6_keep_33 : decode cX6_keep 33 = .ok (.getfield 7, 3) := by decide +kernel
theorem dX6_keep_36 : decode cX6_keep 36 = .ok (.sipush 332, 3) := by decide +kernel
theorem dX6_keep_39 : decode cX6_keep 39 = .ok (.iaload, 1) := by decide +kernel
theorem dX6_keep_40 : decode cX6_keep 40 = .ok (.ireturn, 1) := by decide +kernel
set_option maxRecDepth 20000 in
theorem ggX6_restore_X6_acts : GoodIn wsX6_restore wsX6_acts := goodIn_r _ [8, 9, 10, 2, 11, 12, 13, 14, 15, 16, 17, 18, 19, 20] (by decide +kernel) (by decide +kernel)
set_option maxRecDepth 20000 in
theorem gX6_restore_X6_acts : GoodIn wsX6_restore (wsV RX6 109 RX6 yX6_acts wsX6_acts) := goodIn_app (goodIn_of _ (by decide +kernel)) ggX6_restore_X6_acts
theorem dX6_restore_0 : decode cX6_restore 0 = .ok (.aload_n 0, 1) := by decide +kernel
theorem dX6_restore_1 : decode cX6_restore 1 = .ok (.getfield 173, 3) := by decide +kernel
theorem dX6_restore_4 : decode cX6_restore 4 = .ok (.ifCond .ne 6, 3) := by decide +kernel
theorem dX6_restore_7 : decode cX6_restore 7 = .ok (.bipush (-5), 2) := by decide +kernel
theorem dX6_restore_9 : decode cX6_restore 9 = .ok (.ireturn, 1) := by decide +kernel
theorem dX6_restore_10 : decode cX6_restore 10 = .ok (.aload_n 0, 1) := by decide +kernel
theorem dX6_restore_11 : decode cX6_restore 11 = .ok (.invokevirtual 109, 3) := by decide +kernel
theorem dX6_restore_14 : decode cX6_restore 14 = .ok (.iconst 0, 1) := by decide +kernel
theorem dX6_restore_15 : decode cX6_restore 15 = .ok (.istore_n 1, 1) := by decide +kernel
theorem dX6_restore_16 : decode cX6_restore 16 = .ok (.iload_n 1, 1) := by decide +kernel
theorem dX6_restore_17 : decode cX6_restore 17 = .ok (.sipush 335, 3) := by decide +kernel
theorem dX6_restore_20 : decode cX6_restore 20 = .ok (.if_icmp .ge 21, 3) := by decide +kernel
theorem dX6_restore_23 : decode cX6_restore 23 = .ok (.aload_n 0, 1) := by decide +kernel
theorem dX6_restore_24 : decode cX6_restore 24 = .ok (.getfield 7, 3) := by decide +kernel
theorem dX6_restore_27 : decode cX6_restore 27 = .ok (.iload_n 1, 1) := by decide +kernel
theorem dX6_restore_28 : decode cX6_restore 28 = .ok (.aload_n 0, 1) := by decide +kernel
theorem dX6_restore_29 : decode cX6_restore 29 = .ok (.getfield 16, 3) := by decide +kernel
theorem dX6_restore_32 : decode cX6_restore 32 = .ok (.iload_n 1, 1) := by decide +kernel
theorem dX6_restore_33 : decode cX6_restore 33 = .ok (.iaload, 1) := by decide +kernel
theorem dX6_restore_34 : decode cX6_restore 34 = .ok (.iastore, 1) := by decide +kernel
theorem dX6_restore_35 : decode cX6_restore 35 = .ok (.iinc 1 1, 3) := by decide +kernel
theorem dX6_restore_38 : decode cX6_restore 38 = .ok (.goto (-22), 3) := by decide +kernel
theorem dX6_restore_41 : decode cX6_restore 41 = .ok (.aload_n 0, 1) := by decide +kernel
theorem dX6_restore_42 : decode cX6_restore 42 = .ok (.getfield 7, 3) := by decide +kernel
theorem dX6_restore_45 : decode cX6_restore 45 = .ok (.sipush 332, 3) := by decide +kernel
theorem dX6_restore_48 : decode cX6_restore 48 = .ok (.iaload, 1) := by decide +kernel
theorem dX6_restore_49 : decode cX6_restore 49 = .ok (.ireturn, 1) := by decide +kernel
set_option maxRecDepth 20000 in
theorem ggX6_spot_X6_isSpot : GoodIn wsX6_spot wsX6_isSpot := goodIn_r _ [5, 6, 7, 8, 9, 4, 10] (by decide +kernel) (by decide +kernel)
set_option maxRecDepth 20000 in
theorem gX6_spot_X6_isSpot : GoodIn wsX6_spot (va_wsS RX6 104 yX6_isSpot wsX6_isSpot) := goodIn_app (goodIn_of _ (by decide +kernel)) ggX6_spot_X6_isSpot
set_option maxRecDepth 20000 in
theorem ggX6_spot_X6_zoneOf : GoodIn wsX6_spot wsX6_zoneOf := goodIn_r _ [13] (by decide +kernel) (by decide +kernel)
set_option maxRecDepth 20000 in
theorem gX6_spot_X6_zoneOf : GoodIn wsX6_spot (va_wsS RX6 176 yX6_zoneOf wsX6_zoneOf) := goodIn_app (goodIn_of _ (by decide +kernel)) ggX6_spot_X6_zoneOf
set_option maxRecDepth 20000 in
theorem ggX6_spot_X6_light : GoodIn wsX6_spot wsX6_light := goodIn_r _ [17, 18, 1, 19, 20, 4, 21, 22, 23, 24, 25, 26, 27, 28, 29, 30, 31, 43, 44, 45, 46, 47, 48, 49, 50, 51, 52] (by decide +kernel) (by decide +kernel)
set_option maxRecDepth 20000 in
theorem gX6_spot_X6_light : GoodIn wsX6_spot (wsV RX6 79 RX6 yX6_light wsX6_light) := goodIn_app (goodIn_of _ (by decide +kernel)) ggX6_spot_X6_light
set_option maxRecDepth 20000 in
theorem ggX6_spot_X6_shown : GoodIn wsX6_spot wsX6_shown := goodIn_r _ [35, 36, 37, 4, 38, 29, 30, 31, 39, 40, 41, 42, 1, 43, 44, 45, 46, 47, 48, 49, 50, 51, 52] (by decide +kernel) (by decide +kernel)
set_option maxRecDepth 20000 in
theorem gX6_spot_X6_shown : GoodIn wsX6_spot (wsV RX6 97 RX6 yX6_shown wsX6_shown) := goodIn_app (goodIn_of _ (by decide +kernel)) ggX6_spot_X6_shown
set_option maxRecDepth 20000 in
theorem ggX6_spot_X6_glass : GoodIn wsX6_spot wsX6_glass := goodIn_r _ [38, 29, 30, 4, 31] (by decide +kernel) (by decide +kernel)
set_option maxRecDepth 20000 in
theorem gX6_spot_X6_glass : GoodIn wsX6_spot (va_wsS RX6 56 yX6_glass wsX6_glass) := goodIn_app (goodIn_of _ (by decide +kernel)) ggX6_spot_X6_glass
theorem dX6_spot_0 : decode cX6_spot 0 = .ok (.iload_n 1, 1) := by decide +kernel
theorem dX6_spot_1 : decode cX6_spot 1 = .ok (.iload_n 2, 1) := by decide +kernel
theorem dX6_spot_2 : decode cX6_spot 2 = .ok (.invokestatic 104, 3) := by decide +kernel
theorem dX6_spot_5 : decode cX6_spot 5 = .ok (.ifCond .ne 5, 3) := by decide +kernel
theorem dX6_spot_8 : decode cX6_spot 8 = .ok (.iconst (-1), 1) := by decide +kernel
theorem dX6_spot_9 : decode cX6_spot 9 = .ok (.ireturn, 1) := by decide +kernel
theorem dX6_spot_10 : decode cX6_spot 10 = .ok (.aload_n 0, 1) := by decide +kernel
theorem dX6_spot_11 : decode cX6_spot 11 = .ok (.getfield 7, 3) := by decide +kernel
theorem dX6_spot_14 : decode cX6_spot 14 = .ok (.bipush 24, 2) := by decide +kernel
theorem dX6_spot_16 : decode cX6_spot 16 = .ok (.iload_n 2, 1) := by decide +kernel
theorem dX6_spot_17 : decode cX6_spot 17 = .ok (.imul, 1) := by decide +kernel
theorem dX6_spot_18 : decode cX6_spot 18 = .ok (.iload_n 1, 1) := by decide +kernel
theorem dX6_spot_19 : decode cX6_spot 19 = .ok (.iadd, 1) := by decide +kernel
theorem dX6_spot_20 : decode cX6_spot 20 = .ok (.iaload, 1) := by decide +kernel
theorem dX6_spot_21 : decode cX6_spot 21 = .ok (.istore 4, 2) := by decide +kernel
theorem dX6_spot_23 : decode cX6_spot 23 = .ok (.aload_n 0, 1) := by decide +kernel
theorem dX6_spot_24 : decode cX6_spot 24 = .ok (.bipush 24, 2) := by decide +kernel
theorem dX6_spot_26 : decode cX6_spot 26 = .ok (.iload_n 2, 1) := by decide +kernel
theorem dX6_spot_27 : decode cX6_spot 27 = .ok (.imul, 1) := by decide +kernel
theorem dX6_spot_28 : decode cX6_spot 28 = .ok (.iload_n 1, 1) := by decide +kernel
theorem dX6_spot_29 : decode cX6_spot 29 = .ok (.iadd, 1) := by decide +kernel
theorem dX6_spot_30 : decode cX6_spot 30 = .ok (.invokestatic 176, 3) := by decide +kernel
theorem dX6_spot_33 : decode cX6_spot 33 = .ok (.iconst 0, 1) := by decide +kernel
theorem dX6_spot_34 : decode cX6_spot 34 = .ok (.invokevirtual 79, 3) := by decide +kernel
theorem dX6_spot_37 : decode cX6_spot 37 = .ok (.istore 5, 2) := by decide +kernel
theorem dX6_spot_39 : decode cX6_spot 39 = .ok (.aload_n 0, 1) := by decide +kernel
theorem dX6_spot_40 : decode cX6_spot 40 = .ok (.iload 4, 2) := by decide +kernel
theorem dX6_spot_42 : decode cX6_spot 42 = .ok (.iload 5, 2) := by decide +kernel
theorem dX6_spot_44 : decode cX6_spot 44 = .ok (.invokevirtual 97, 3) := by decide +kernel
theorem dX6_spot_47 : decode cX6_spot 47 = .ok (.istore 6, 2) := by decide +kernel
theorem dX6_spot_49 : decode cX6_spot 49 = .ok (.iload_n 3, 1) := by decide +kernel
theorem dX6_spot_50 : decode cX6_spot 50 = .ok (.tableswitch 75 0 4 #[34, 37, 40, 48, 51], 34) := by decide +kernel
theorem dX6_spot_84 : decode cX6_spot 84 = .ok (.iload 4, 2) := by decide +kernel
theorem dX6_spot_86 : decode cX6_spot 86 = .ok (.ireturn, 1) := by decide +kernel
theorem dX6_spot_87 : decode cX6_spot 87 = .ok (.iload 5, 2) := by decide +kernel
theorem dX6_spot_89 : decode cX6_spot 89 = .ok (.ireturn, 1) := by decide +kernel
theorem dX6_spot_90 : decode cX6_spot 90 = .ok (.iload 4, 2) := by decide +kernel
theorem dX6_spot_92 : decode cX6_spot 92 = .ok (.iload 5, 2) := by decide +kernel
theorem dX6_spot_94 : decode cX6_spot 94 = .ok (.invokestatic 56, 3) := by decide +kernel
theorem dX6_spot_97 : decode cX6_spot 97 = .ok (.ireturn, 1) := by decide +kernel
theorem dX6_spot_98 : decode cX6_spot 98 = .ok (.iload 6, 2) := by decide +kernel
theorem dX6_spot_100 : decode cX6_spot 100 = .ok (.ireturn, 1) := by decide +kernel
theorem dX6_spot_101 : decode cX6_spot 101 = .ok (.iload 6, 2) := by decide +kernel
theorem dX6_spot_103 : decode cX6_spot 103 = .ok (.iload 4, 2) := by decide +kernel
theorem dX6_spot_105 : decode cX6_spot 105 = .ok (.if_icmp .ne 7, 3) := by decide +kernel
theorem dX6_spot_108 : decode cX6_spot 108 = .ok (.iconst 0, 1) := by decide +kernel
theorem dX6_spot_109 : decode cX6_spot 109 = .ok (.goto 15, 3) := by decide +kernel
theorem dX6_spot_112 : decode cX6_spot 112 = .ok (.iload 6, 2) := by decide +kernel
theorem dX6_spot_114 : decode cX6_spot 114 = .ok (.iload 4, 2) := by decide +kernel
theorem dX6_spot_116 : decode cX6_spot 116 = .ok (.if_icmp .ge 7, 3) := by decide +kernel
theorem dX6_spot_119 : decode cX6_spot 119 = .ok (.iconst 1, 1) := by decide +kernel
theorem dX6_spot_120 : decode cX6_spot 120 = .ok (.goto 4, 3) := by decide +kernel
theorem dX6_spot_123 : decode cX6_spot 123 = .ok (.iconst 2, 1) := by decide +kernel
theorem dX6_spot_124 : decode cX6_spot 124 = .ok (.ireturn, 1) := by decide +kernel
theorem dX6_spot_125 : decode cX6_spot 125 = .ok (.bipush (-2), 2) := by decide +kernel
theorem dX6_spot_127 : decode cX6_spot 127 = .ok (.ireturn, 1) := by decide +kernel
set_option maxRecDepth 20000 in
theorem ggX6_wantedFor_X6_wants : GoodIn wsX6_wantedFor wsX6_wants := goodIn_r _ [7, 2, 1, 8, 9, 10, 6, 11, 12, 13, 14, 15, 16, 17, 18, 19, 20, 21, 22, 23, 24, 25, 26, 27, 28, 29, 30, 31, 32, 33, 34, 35, 36, 37, 38, 39, 40, 41, 42, 43, 44, 45, 46, 47, 48, 49, 50, 51, 52, 53, 54, 55, 56, 57, 58, 59, 60, 61, 62, 63, 64, 65, 66, 67, 68, 69, 70, 71, 72, 73] (by decide +kernel) (by decide +kernel)
set_option maxRecDepth 20000 in
theorem gX6_wantedFor_X6_wants : GoodIn wsX6_wantedFor (wsV RX6 100 RX6 yX6_wants wsX6_wants) := goodIn_app (goodIn_of _ (by decide +kernel)) ggX6_wantedFor_X6_wants
theorem dX6_wantedFor_0 : decode cX6_wantedFor 0 = .ok (.aload_n 0, 1) := by decide +kernel
theorem dX6_wantedFor_1 : decode cX6_wantedFor 1 = .ok (.aload_n 0, 1) := by decide +kernel
theorem dX6_wantedFor_2 : decode cX6_wantedFor 2 = .ok (.getfield 7, 3) := by decide +kernel
theorem dX6_wantedFor_5 : decode cX6_wantedFor 5 = .ok (.sipush 327, 3) := by decide +kernel
theorem dX6_wantedFor_8 : decode cX6_wantedFor 8 = .ok (.iaload, 1) := by decide +kernel
theorem dX6_wantedFor_9 : decode cX6_wantedFor 9 = .ok (.invokevirtual 100, 3) := by decide +kernel
theorem dX6_wantedFor_12 : decode cX6_wantedFor 12 = .ok (.aload_n 0, 1) := by decide +kernel
theorem dX6_wantedFor_13 : decode cX6_wantedFor 13 = .ok (.getfield 19, 3) := by decide +kernel
theorem dX6_wantedFor_16 : decode cX6_wantedFor 16 = .ok (.iload_n 1, 1) := by decide +kernel
theorem dX6_wantedFor_17 : decode cX6_wantedFor 17 = .ok (.iaload, 1) := by decide +kernel
theorem dX6_wantedFor_18 : decode cX6_wantedFor 18 = .ok (.ireturn, 1) := by decide +kernel
set_option maxRecDepth 20000 in
theorem ggX6_zone_X6_isZone : GoodIn wsX6_zone wsX6_isZone := goodIn_r _ [5, 6, 7, 8, 4, 9] (by decide +kernel) (by decide +kernel)
set_option maxRecDepth 20000 in
theorem gX6_zone_X6_isZone : GoodIn wsX6_zone (va_wsS RX6 118 yX6_isZone wsX6_isZone) := goodIn_app (goodIn_of _ (by decide +kernel)) ggX6_zone_X6_isZone
set_option maxRecDepth 20000 in
theorem ggX6_zone_X6_wantedFor : GoodIn wsX6_zone wsX6_wantedFor := goodIn_r _ [13, 1, 14, 15, 16, 17, 4, 18, 19, 20, 21, 22, 23, 24, 25, 26, 27, 28, 29, 30, 31, 32, 33, 34, 35, 36, 37, 38, 39, 40, 41, 42, 43, 44, 45, 46, 47, 48, 49, 50, 51, 52, 53, 54, 55, 56, 57, 58, 59, 60, 61, 62, 63, 64, 65, 66, 67, 68, 69, 70, 71, 72, 73, 74, 86, 87, 88, 89, 90, 91, 92, 93, 94, 95] (by decide +kernel) (by decide +kernel)
set_option maxRecDepth 20000 in
theorem gX6_zone_X6_wantedFor : GoodIn wsX6_zone (wsV RX6 179 RX6 yX6_wantedFor wsX6_wantedFor) := goodIn_app (goodIn_of _ (by decide +kernel)) ggX6_zone_X6_wantedFor
set_option maxRecDepth 20000 in
theorem ggX6_zone_X6_light : GoodIn wsX6_zone wsX6_light := goodIn_r _ [44, 14, 1, 45, 46, 4, 47, 48, 49, 50, 51, 52, 53, 54, 34, 35, 36, 86, 87, 88, 89, 90, 91, 92, 93, 94, 95] (by decide +kernel) (by decide +kernel)
set_option maxRecDepth 20000 in
theorem gX6_zone_X6_light : GoodIn wsX6_zone (wsV RX6 79 RX6 yX6_light wsX6_light) := goodIn_app (goodIn_of _ (by decide +kernel)) ggX6_zone_X6_light
set_option maxRecDepth 20000 in
theorem ggX6_zone_X6_greatestIn : GoodIn wsX6_zone wsX6_greatestIn := goodIn_r _ [26, 1, 27, 28, 4, 29, 86, 87, 88, 89, 90, 91, 92, 93, 94, 95] (by decide +kernel) (by decide +kernel)
set_option maxRecDepth 20000 in
theorem gX6_zone_X6_greatestIn : GoodIn wsX6_zone (wsV RX6 65 RX6 yX6_greatestIn wsX6_greatestIn) := goodIn_app (goodIn_of _ (by decide +kernel)) ggX6_zone_X6_greatestIn
set_option maxRecDepth 20000 in
theorem ggX6_zone_X6_meanIn : GoodIn wsX6_zone wsX6_meanIn := goodIn_r _ [33, 1, 27, 28, 4, 29, 86, 87, 88, 89, 90, 91, 92, 93, 94, 95] (by decide +kernel) (by decide +kernel)
set_option maxRecDepth 20000 in
theorem gX6_zone_X6_meanIn : GoodIn wsX6_zone (wsV RX6 68 RX6 yX6_meanIn wsX6_meanIn) := goodIn_app (goodIn_of _ (by decide +kernel)) ggX6_zone_X6_meanIn
set_option maxRecDepth 20000 in
theorem ggX6_zone_X6_leakOf : GoodIn wsX6_zone wsX6_leakOf := goodIn_r _ [74, 1, 86, 87, 88, 89, 90, 91, 92, 93, 94, 95] (by decide +kernel) (by decide +kernel)
set_option maxRecDepth 20000 in
theorem gX6_zone_X6_leakOf : GoodIn wsX6_zone (wsV RX6 59 RX6 yX6_leakOf wsX6_leakOf) := goodIn_app (goodIn_of _ (by decide +kernel)) ggX6_zone_X6_leakOf
end
section
set_option maxRecDepth 20000 in
theorem ggX6_zone_X6_over : GoodIn wsX6_zone wsX6_over := goodIn_r _ [78, 1, 41, 42, 43, 4, 44, 14, 45, 46, 47, 48, 49, 50, 51, 52, 53, 54, 34, 35, 36, 27, 28, 29, 79, 80, 81, 82, 83, 84, 85, 71, 72, 73, 74, 86, 87, 88, 89, 90, 91, 92, 93, 94, 95] (by decide +kernel) (by decide +kernel)
set_option maxRecDepth 20000 in
theorem gX6_zone_X6_over : GoodIn wsX6_zone (wsV RX6 182 RX6 yX6_over wsX6_over) := goodIn_app (goodIn_of _ (by decide +kernel)) ggX6_zone_X6_over
theorem dX6_zone_0 : decode cX6_zone 0 = .ok (.iload_n 1, 1) := by decide +kernel
theorem dX6_zone_1 : decode cX6_zone 1 = .ok (.invokestatic 118, 3) := by decide +kernel
theorem dX6_zone_4 : decode cX6_zone 4 = .ok (.ifCond .ne 5, 3) := by decide +kernel
theorem dX6_zone_7 : decode cX6_zone 7 = .ok (.iconst (-1), 1) := by decide +kernel
theorem dX6_zone_8 : decode cX6_zone 8 = .ok (.ireturn, 1) := by decide +kernel
theorem dX6_zone_9 : decode cX6_zone 9 = .ok (.iload_n 2, 1) := by decide +kernel
theorem dX6_zone_10 : decode cX6_zone 10 = .ok (.tableswitch 119 0 8 #[50, 61, 67, 74, 85, 91, 97, 108, 108], 50) := by decide +kernel
theorem dX6_zone_60 : decode cX6_zone 60 = .ok (.aload_n 0, 1) := by decide +kernel
theorem dX6_zone_61 : decode cX6_zone 61 = .ok (.getfield 7, 3) := by decide +kernel
theorem dX6_zone_64 : decode cX6_zone 64 = .ok (.sipush 288, 3) := by decide +kernel
theorem dX6_zone_67 : decode cX6_zone 67 = .ok (.iload_n 1, 1) := by decide +kernel
theorem dX6_zone_68 : decode cX6_zone 68 = .ok (.iadd, 1) := by decide +kernel
theorem dX6_zone_69 : decode cX6_zone 69 = .ok (.iaload, 1) := by decide +kernel
theorem dX6_zone_70 : decode cX6_zone 70 = .ok (.ireturn, 1) := by decide +kernel
theorem dX6_zone_71 : decode cX6_zone 71 = .ok (.aload_n 0, 1) := by decide +kernel
theorem dX6_zone_72 : decode cX6_zone 72 = .ok (.iload_n 1, 1) := by decide +kernel
theorem dX6_zone_73 : decode cX6_zone 73 = .ok (.invokevirtual 179, 3) := by decide +kernel
theorem dX6_zone_76 : decode cX6_zone 76 = .ok (.ireturn, 1) := by decide +kernel
theorem dX6_zone_77 : decode cX6_zone 77 = .ok (.aload_n 0, 1) := by decide +kernel
theorem dX6_zone_78 : decode cX6_zone 78 = .ok (.iload_n 1, 1) := by decide +kernel
theorem dX6_zone_79 : decode cX6_zone 79 = .ok (.iconst 0, 1) := by decide +kernel
theorem dX6_zone_80 : decode cX6_zone 80 = .ok (.invokevirtual 79, 3) := by decide +kernel
theorem dX6_zone_83 : decode cX6_zone 83 = .ok (.ireturn, 1) := by decide +kernel
theorem dX6_zone_84 : decode cX6_zone 84 = .ok (.aload_n 0, 1) := by decide +kernel
theorem dX6_zone_85 : decode cX6_zone 85 = .ok (.getfield 7, 3) := by decide +kernel
theorem dX6_zone_88 : decode cX6_zone 88 = .ok (.sipush 306, 3) := by decide +kernel
theorem dX6_zone_91 : decode cX6_zone 91 = .ok (.iload_n 1, 1) := by decide +kernel
theorem dX6_zone_92 : decode cX6_zone 92 = .ok (.iadd, 1) := by decide +kernel
theorem dX6_zone_93 : decode cX6_zone 93 = .ok (.iaload, 1) := by decide +kernel
theorem dX6_zone_94 : decode cX6_zone 94 = .ok (.ireturn, 1) := by decide +kernel
theorem dX6_zone_95 : decode cX6_zone 95 = .ok (.aload_n 0, 1) := by decide +kernel
theorem dX6_zone_96 : decode cX6_zone 96 = .ok (.iload_n 1, 1) := by decide +kernel
theorem dX6_zone_97 : decode cX6_zone 97 = .ok (.invokevirtual 65, 3) := by decide +kernel
theorem dX6_zone_100 : decode cX6_zone 100 = .ok (.ireturn, 1) := by decide +kernel
theorem dX6_zone_101 : decode cX6_zone 101 = .ok (.aload_n 0, 1) := by decide +kernel
theorem dX6_zone_102 : decode cX6_zone 102 = .ok (.iload_n 1, 1) := by decide +kernel
theorem dX6_zone_103 : decode cX6_zone 103 = .ok (.invokevirtual 68, 3) := by decide +kernel
theorem dX6_zone_106 : decode cX6_zone 106 = .ok (.ireturn, 1) := by decide +kernel
theorem dX6_zone_107 : decode cX6_zone 107 = .ok (.aload_n 0, 1) := by decide +kernel
theorem dX6_zone_108 : decode cX6_zone 108 = .ok (.aload_n 0, 1) := by decide +kernel
theorem dX6_zone_109 : decode cX6_zone 109 = .ok (.iload_n 1, 1) := by decide +kernel
theorem dX6_zone_110 : decode cX6_zone 110 = .ok (.iconst 0, 1) := by decide +kernel
theorem dX6_zone_111 : decode cX6_zone 111 = .ok (.invokevirtual 79, 3) := by decide +kernel
theorem dX6_zone_114 : decode cX6_zone 114 = .ok (.invokevirtual 59, 3) := by decide +kernel
theorem dX6_zone_117 : decode cX6_zone 117 = .ok (.ireturn, 1) := by decide +kernel
theorem dX6_zone_118 : decode cX6_zone 118 = .ok (.aload_n 0, 1) := by decide +kernel
theorem dX6_zone_119 : decode cX6_zone 119 = .ok (.iload_n 1, 1) := by decide +kernel
theorem dX6_zone_120 : decode cX6_zone 120 = .ok (.iload_n 2, 1) := by decide +kernel
theorem dX6_zone_121 : decode cX6_zone 121 = .ok (.bipush 6, 2) := by decide +kernel
theorem dX6_zone_123 : decode cX6_zone 123 = .ok (.isub, 1) := by decide +kernel
theorem dX6_zone_124 : decode cX6_zone 124 = .ok (.iconst 0, 1) := by decide +kernel
theorem dX6_zone_125 : decode cX6_zone 125 = .ok (.invokevirtual 182, 3) := by decide +kernel
theorem dX6_zone_128 : decode cX6_zone 128 = .ok (.ireturn, 1) := by decide +kernel
theorem dX6_zone_129 : decode cX6_zone 129 = .ok (.bipush (-2), 2) := by decide +kernel
theorem dX6_zone_131 : decode cX6_zone 131 = .ok (.ireturn, 1) := by decide +kernel
theorem dX6_deadZones_0 : decode cX6_deadZones 0 = .ok (.iconst 0, 1) := by decide +kernel
theorem dX6_deadZones_1 : decode cX6_deadZones 1 = .ok (.istore_n 1, 1) := by decide +kernel
theorem dX6_deadZones_2 : decode cX6_deadZones 2 = .ok (.iconst 0, 1) := by decide +kernel
theorem dX6_deadZones_3 : decode cX6_deadZones 3 = .ok (.istore_n 2, 1) := by decide +kernel
theorem dX6_deadZones_4 : decode cX6_deadZones 4 = .ok (.iload_n 2, 1) := by decide +kernel
theorem dX6_deadZones_5 : decode cX6_deadZones 5 = .ok (.bipush 18, 2) := by decide +kernel
theorem dX6_deadZones_7 : decode cX6_deadZones 7 = .ok (.if_icmp .ge 22, 3) := by decide +kernel
theorem dX6_deadZones_10 : decode cX6_deadZones 10 = .ok (.iload_n 1, 1) := by decide +kernel
theorem dX6_deadZones_11 : decode cX6_deadZones 11 = .ok (.aload_n 0, 1) := by decide +kernel
theorem dX6_deadZones_12 : decode cX6_deadZones 12 = .ok (.getfield 7, 3) := by decide +kernel
theorem dX6_deadZones_15 : decode cX6_deadZones 15 = .ok (.sipush 306, 3) := by decide +kernel
theorem dX6_deadZones_18 : decode cX6_deadZones 18 = .ok (.iload_n 2, 1) := by decide +kernel
theorem dX6_deadZones_19 : decode cX6_deadZones 19 = .ok (.iadd, 1) := by decide +kernel
theorem dX6_deadZones_20 : decode cX6_deadZones 20 = .ok (.iaload, 1) := by decide +kernel
theorem dX6_deadZones_21 : decode cX6_deadZones 21 = .ok (.iadd, 1) := by decide +kernel
theorem dX6_deadZones_22 : decode cX6_deadZones 22 = .ok (.istore_n 1, 1) := by decide +kernel
theorem dX6_deadZones_23 : decode cX6_deadZones 23 = .ok (.iinc 2 1, 3) := by decide +kernel
theorem dX6_deadZones_26 : decode cX6_deadZones 26 = .ok (.goto (-22), 3) := by decide +kernel
theorem dX6_deadZones_29 : decode cX6_deadZones 29 = .ok (.iload_n 1, 1) := by decide +kernel
theorem dX6_deadZones_30 : decode cX6_deadZones 30 = .ok (.ireturn, 1) := by decide +kernel
set_option maxRecDepth 20000 in
theorem ggX6_count_X6_power : GoodIn wsX6_count wsX6_power := goodIn_r _ [10, 11, 1, 94, 95, 96, 97, 98, 99, 100, 101, 102, 103] (by decide +kernel) (by decide +kernel)
set_option maxRecDepth 20000 in
theorem gX6_count_X6_power : GoodIn wsX6_count (wsV RX6 121 RX6 yX6_power wsX6_power) := goodIn_app (goodIn_of _ (by decide +kernel)) ggX6_count_X6_power
set_option maxRecDepth 20000 in
theorem ggX6_count_X6_over : GoodIn wsX6_count wsX6_over := goodIn_r _ [15, 1, 16, 17, 18, 9, 19, 11, 20, 21, 22, 23, 24, 25, 26, 27, 28, 29, 30, 31, 32, 33, 34, 35, 36, 37, 38, 39, 40, 41, 42, 43, 44, 45, 46, 94, 95, 96, 97, 98, 99, 100, 101, 102, 103] (by decide +kernel) (by decide +kernel)
set_option maxRecDepth 20000 in
theorem gX6_count_X6_over : GoodIn wsX6_count (wsV RX6 182 RX6 yX6_over wsX6_over) := goodIn_app (goodIn_of _ (by decide +kernel)) ggX6_count_X6_over
set_option maxRecDepth 20000 in
theorem ggX6_count_X6_deadZones : GoodIn wsX6_count wsX6_deadZones := goodIn_r _ [50, 1, 94, 95, 96, 97, 98, 99, 100, 101, 102, 103] (by decide +kernel) (by decide +kernel)
set_option maxRecDepth 20000 in
theorem gX6_count_X6_deadZones : GoodIn wsX6_count (wsV RX6 186 RX6 yX6_deadZones wsX6_deadZones) := goodIn_app (goodIn_of _ (by decide +kernel)) ggX6_count_X6_deadZones
set_option maxRecDepth 20000 in
theorem ggX6_count_X6_farthest : GoodIn wsX6_count wsX6_farthest := goodIn_r _ [54, 1, 11, 55, 56, 57, 9, 58, 59, 60, 61, 62, 63, 64, 65, 66, 33, 34, 35, 67, 68, 69, 70, 30, 31, 32, 71, 72, 73, 74, 16, 17, 18, 19, 20, 21, 22, 23, 24, 25, 26, 27, 28, 29, 75, 76, 77, 78, 79, 80, 81, 82, 83, 84, 85, 86, 87, 88, 89, 90, 43, 44, 45, 46, 94, 95, 96, 97, 98, 99, 100, 101, 102, 103] (by decide +kernel) (by decide +kernel)
set_option maxRecDepth 20000 in
theorem gX6_count_X6_farthest : GoodIn wsX6_count (wsV RX6 189 RX6 yX6_farthest wsX6_farthest) := goodIn_app (goodIn_of _ (by decide +kernel)) ggX6_count_X6_farthest
set_option maxRecDepth 20000 in
theorem ggX6_count_X6_in : GoodIn wsX6_count wsX6_in := goodIn_r _ [93] (by decide +kernel) (by decide +kernel)
set_option maxRecDepth 20000 in
theorem gX6_count_X6_in : GoodIn wsX6_count (va_wsS RX6 34 yX6_in wsX6_in) := goodIn_app (goodIn_of _ (by decide +kernel)) ggX6_count_X6_in
theorem dX6_count_0 : decode cX6_count 0 = .ok (.iload_n 1, 1) := by decide +kernel
theorem dX6_count_1 : decode cX6_count 1 = .ok (.tableswitch 139 0 12 #[67, 76, 82, 91, 100, 100, 100, 100, 100, 111, 116, 129, 134], 67) := by decide +kernel
theorem dX6_count_68 : decode cX6_count 68 = .ok (.aload_n 0, 1) := by decide +kernel
theorem dX6_count_69 : decode cX6_count 69 = .ok (.getfield 7, 3) := by decide +kernel
theorem dX6_count_72 : decode cX6_count 72 = .ok (.sipush 332, 3) := by decide +kernel
theorem dX6_count_75 : decode cX6_count 75 = .ok (.iaload, 1) := by decide +kernel
theorem dX6_count_76 : decode cX6_count 76 = .ok (.ireturn, 1) := by decide +kernel
theorem dX6_count_77 : decode cX6_count 77 = .ok (.aload_n 0, 1) := by decide +kernel
theorem dX6_count_78 : decode cX6_count 78 = .ok (.iconst 0, 1) := by decide +kernel
theorem dX6_count_79 : decode cX6_count 79 = .ok (.invokevirtual 121, 3) := by decide +kernel
theorem dX6_count_82 : decode cX6_count 82 = .ok (.ireturn, 1) := by decide +kernel
theorem dX6_count_83 : decode cX6_count 83 = .ok (.aload_n 0, 1) := by decide +kernel
theorem dX6_count_84 : decode cX6_count 84 = .ok (.getfield 7, 3) := by decide +kernel
theorem dX6_count_87 : decode cX6_count 87 = .ok (.sipush 333, 3) := by decide +kernel
theorem dX6_count_90 : decode cX6_count 90 = .ok (.iaload, 1) := by decide +kernel
theorem dX6_count_91 : decode cX6_count 91 = .ok (.ireturn, 1) := by decide +kernel
theorem dX6_count_92 : decode cX6_count 92 = .ok (.aload_n 0, 1) := by decide +kernel
theorem dX6_count_93 : decode cX6_count 93 = .ok (.getfield 7, 3) := by decide +kernel
theorem dX6_count_96 : decode cX6_count 96 = .ok (.sipush 334, 3) := by decide +kernel
theorem dX6_count_99 : decode cX6_count 99 = .ok (.iaload, 1) := by decide +kernel
theorem dX6_count_100 : decode cX6_count 100 = .ok (.ireturn, 1) := by decide +kernel
theorem dX6_count_101 : decode cX6_count 101 = .ok (.aload_n 0, 1) := by decide +kernel
theorem dX6_count_102 : decode cX6_count 102 = .ok (.bipush (-5), 2) := by decide +kernel
theorem dX6_count_104 : decode cX6_count 104 = .ok (.iload_n 1, 1) := by decide +kernel
theorem dX6_count_105 : decode cX6_count 105 = .ok (.iconst 4, 1) := by decide +kernel
theorem dX6_count_106 : decode cX6_count 106 = .ok (.isub, 1) := by decide +kernel
theorem dX6_count_107 : decode cX6_count 107 = .ok (.iconst 0, 1) := by decide +kernel
theorem dX6_count_108 : decode cX6_count 108 = .ok (.invokevirtual 182, 3) := by decide +kernel
theorem dX6_count_111 : decode cX6_count 111 = .ok (.ireturn, 1) := by decide +kernel
theorem dX6_count_112 : decode cX6_count 112 = .ok (.aload_n 0, 1) := by decide +kernel
theorem dX6_count_113 : decode cX6_count 113 = .ok (.invokevirtual 186, 3) := by decide +kernel
theorem dX6_count_116 : decode cX6_count 116 = .ok (.ireturn, 1) := by decide +kernel
theorem dX6_count_117 : decode cX6_count 117 = .ok (.aload_n 0, 1) := by decide +kernel
theorem dX6_count_118 : decode cX6_count 118 = .ok (.invokevirtual 189, 3) := by decide +kernel
theorem dX6_count_121 : decode cX6_count 121 = .ok (.ifCond .ne 7, 3) := by decide +kernel
theorem dX6_count_124 : decode cX6_count 124 = .ok (.iconst 1, 1) := by decide +kernel
theorem dX6_count_125 : decode cX6_count 125 = .ok (.goto 4, 3) := by decide +kernel
theorem dX6_count_128 : decode cX6_count 128 = .ok (.iconst 0, 1) := by decide +kernel
theorem dX6_count_129 : decode cX6_count 129 = .ok (.ireturn, 1) := by decide +kernel
theorem dX6_count_130 : decode cX6_count 130 = .ok (.aload_n 0, 1) := by decide +kernel
theorem dX6_count_131 : decode cX6_count 131 = .ok (.getfield 28, 3) := by decide +kernel
theorem dX6_count_134 : decode cX6_count 134 = .ok (.ireturn, 1) := by decide +kernel
theorem dX6_count_135 : decode cX6_count 135 = .ok (.aload_n 0, 1) := by decide +kernel
theorem dX6_count_136 : decode cX6_count 136 = .ok (.getfield 147, 3) := by decide +kernel
theorem dX6_count_139 : decode cX6_count 139 = .ok (.ireturn, 1) := by decide +kernel
theorem dX6_count_140 : decode cX6_count 140 = .ok (.iload_n 1, 1) := by decide +kernel
theorem dX6_count_141 : decode cX6_count 141 = .ok (.i2l, 1) := by decide +kernel
theorem dX6_count_142 : decode cX6_count 142 = .ok (.ldc2_w 192, 3) := by decide +kernel
theorem dX6_count_145 : decode cX6_count 145 = .ok (.ldc2_w 142, 3) := by decide +kernel
theorem dX6_count_148 : decode cX6_count 148 = .ok (.invokestatic 34, 3) := by decide +kernel
theorem dX6_count_151 : decode cX6_count 151 = .ok (.ifCond .eq 19, 3) := by decide +kernel
theorem dX6_count_154 : decode cX6_count 154 = .ok (.aload_n 0, 1) := by decide +kernel
theorem dX6_count_155 : decode cX6_count 155 = .ok (.getfield 7, 3) := by decide +kernel
theorem dX6_count_158 : decode cX6_count 158 = .ok (.sipush 324, 3) := by decide +kernel
theorem dX6_count_161 : decode cX6_count 161 = .ok (.iload_n 1, 1) := by decide +kernel
theorem dX6_count_162 : decode cX6_count 162 = .ok (.iadd, 1) := by decide +kernel
theorem dX6_count_163 : decode cX6_count 163 = .ok (.bipush 13, 2) := by decide +kernel
theorem dX6_count_165 : decode cX6_count 165 = .ok (.isub, 1) := by decide +kernel
theorem dX6_count_166 : decode cX6_count 166 = .ok (.iaload, 1) := by decide +kernel
theorem dX6_count_167 : decode cX6_count 167 = .ok (.goto 5, 3) := by decide +kernel
theorem dX6_count_170 : decode cX6_count 170 = .ok (.bipush (-2), 2) := by decide +kernel
theorem dX6_count_172 : decode cX6_count 172 = .ok (.ireturn, 1) := by decide +kernel
set_option maxRecDepth 20000 in
theorem ggX6_meanShown_X6_over : GoodIn wsX6_meanShown wsX6_over := goodIn_r _ [6, 7, 8, 9, 10, 5, 11, 12, 13, 14, 15, 16, 17, 18, 19, 20, 21, 22, 23, 24, 25, 26, 27, 28, 29, 30, 31, 32, 33, 34, 35, 36, 37, 38, 39, 40, 41, 42, 43, 44, 45, 46, 47, 48, 49] (by decide +kernel) (by decide +kernel)
set_option maxRecDepth 20000 in
theorem gX6_meanShown_X6_over : GoodIn wsX6_meanShown (wsV RX6 182 RX6 yX6_over wsX6_over) := goodIn_app (goodIn_of _ (by decide +kernel)) ggX6_meanShown_X6_over
theorem dX6_meanShown_0 : decode cX6_meanShown 0 = .ok (.aload_n 0, 1) := by decide +kernel
theorem dX6_meanShown_1 : decode cX6_meanShown 1 = .ok (.bipush (-5), 2) := by decide +kernel
theorem dX6_meanShown_3 : decode cX6_meanShown 3 = .ok (.iconst 5, 1) := by decide +kernel
theorem dX6_meanShown_4 : decode cX6_meanShown 4 = .ok (.iconst 0, 1) := by decide +kernel
theorem dX6_meanShown_5 : decode cX6_meanShown 5 = .ok (.invokevirtual 182, 3) := by decide +kernel
theorem dX6_meanShown_8 : decode cX6_meanShown 8 = .ok (.i2d, 1) := by decide +kernel
theorem dX6_meanShown_9 : decode cX6_meanShown 9 = .ok (.ldc2_w 194, 3) := by decide +kernel
theorem dX6_meanShown_12 : decode cX6_meanShown 12 = .ok (.ddiv, 1) := by decide +kernel
theorem dX6_meanShown_13 : decode cX6_meanShown 13 = .ok (.dreturn, 1) := by decide +kernel
set_option maxRecDepth 20000 in
theorem ggX6_restsIn_X6_farthest : GoodIn wsX6_restsIn wsX6_farthest := goodIn_r _ [6, 1, 7, 8, 9, 10, 5, 11, 12, 13, 14, 15, 16, 17, 18, 19, 20, 21, 22, 23, 24, 25, 26, 27, 28, 29, 30, 31, 32, 33, 34, 35, 36, 37, 38, 39, 40, 41, 42, 43, 44, 45, 46, 47, 48, 49, 50, 51, 52, 53, 54, 55, 56, 57, 58, 59, 60, 61, 62, 63, 64, 65, 66, 67, 68, 69, 70, 71, 72, 73, 74, 75, 76, 77] (by decide +kernel) (by decide +kernel)
set_option maxRecDepth 20000 in
theorem gX6_restsIn_X6_farthest : GoodIn wsX6_restsIn (wsV RX6 189 RX6 yX6_farthest wsX6_farthest) := goodIn_app (goodIn_of _ (by decide +kernel)) ggX6_restsIn_X6_farthest
theorem dX6_restsIn_0 : decode cX6_restsIn 0 = .ok (.aload_n 0, 1) := by decide +kernel
theorem dX6_restsIn_1 : decode cX6_restsIn 1 = .ok (.invokevirtual 189, 3) := by decide +kernel
theorem dX6_restsIn_4 : decode cX6_restsIn 4 = .ok (.aload_n 0, 1) := by decide +kernel
theorem dX6_restsIn_5 : decode cX6_restsIn 5 = .ok (.getfield 7, 3) := by decide +kernel
theorem dX6_restsIn_8 : decode cX6_restsIn 8 = .ok (.sipush 331, 3) := by decide +kernel
theorem dX6_restsIn_11 : decode cX6_restsIn 11 = .ok (.iaload, 1) := by decide +kernel
theorem dX6_restsIn_12 : decode cX6_restsIn 12 = .ok (.iadd, 1) := by decide +kernel
theorem dX6_restsIn_13 : decode cX6_restsIn 13 = .ok (.iconst 1, 1) := by decide +kernel
theorem dX6_restsIn_14 : decode cX6_restsIn 14 = .ok (.isub, 1) := by decide +kernel
theorem dX6_restsIn_15 : decode cX6_restsIn 15 = .ok (.aload_n 0, 1) := by decide +kernel
theorem dX6_restsIn_16 : decode cX6_restsIn 16 = .ok (.getfield 7, 3) := by decide +kernel
theorem dX6_restsIn_19 : decode cX6_restsIn 19 = .ok (.sipush 331, 3) := by decide +kernel
theorem dX6_restsIn_22 : decode cX6_restsIn 22 = .ok (.iaload, 1) := by decide +kernel
theorem dX6_restsIn_23 : decode cX6_restsIn 23 = .ok (.idiv, 1) := by decide +kernel
theorem dX6_restsIn_24 : decode cX6_restsIn 24 = .ok (.ireturn, 1) := by decide +kernel
set_option maxRecDepth 20000 in
theorem ggX6_rested_X6_power : GoodIn wsX6_rested wsX6_power := goodIn_r _ [5, 6, 7, 43, 44, 45, 46, 47, 48, 49, 50, 51, 52] (by decide +kernel) (by decide +kernel)
set_option maxRecDepth 20000 in
theorem gX6_rested_X6_power : GoodIn wsX6_rested (wsV RX6 121 RX6 yX6_power wsX6_power) := goodIn_app (goodIn_of _ (by decide +kernel)) ggX6_rested_X6_power
set_option maxRecDepth 20000 in
theorem ggX6_rested_X6_over : GoodIn wsX6_rested wsX6_over := goodIn_r _ [11, 7, 12, 13, 14, 4, 15, 6, 16, 17, 18, 19, 20, 21, 22, 23, 24, 25, 26, 27, 28, 29, 30, 31, 32, 33, 34, 35, 36, 37, 38, 39, 40, 41, 42, 43, 44, 45, 46, 47, 48, 49, 50, 51, 52] (by decide +kernel) (by decide +kernel)
set_option maxRecDepth 20000 in
theorem gX6_rested_X6_over : GoodIn wsX6_rested (wsV RX6 182 RX6 yX6_over wsX6_over) := goodIn_app (goodIn_of _ (by decide +kernel)) ggX6_rested_X6_over
theorem dX6_rested_0 : decode cX6_rested 0 = .ok (.iload_n 1, 1) := by decide +kernel
theorem dX6_rested_1 : decode cX6_rested 1 = .ok (.ifCond .ne 11, 3) := by decide +kernel
theorem dX6_rested_4 : decode cX6_rested 4 = .ok (.aload_n 0, 1) := by decide +kernel
theorem dX6_rested_5 : decode cX6_rested 5 = .ok (.iconst 1, 1) := by decide +kernel
theorem dX6_rested_6 : decode cX6_rested 6 = .ok (.invokevirtual 121, 3) := by decide +kernel
theorem dX6_rested_9 : decode cX6_rested 9 = .ok (.goto 22, 3) := by decide +kernel
theorem dX6_rested_12 : decode cX6_rested 12 = .ok (.aload_n 0, 1) := by decide +kernel
theorem dX6_rested_13 : decode cX6_rested 13 = .ok (.bipush (-5), 2) := by decide +kernel
theorem dX6_rested_15 : decode cX6_rested 15 = .ok (.iload_n 1, 1) := by decide +kernel
theorem dX6_rested_16 : decode cX6_rested 16 = .ok (.iconst 1, 1) := by decide +kernel
theorem dX6_rested_17 : decode cX6_rested 17 = .ok (.if_icmp .ne 7, 3) := by decide +kernel
theorem dX6_rested_20 : decode cX6_rested 20 = .ok (.iconst 3, 1) := by decide +kernel
theorem dX6_rested_21 : decode cX6_rested 21 = .ok (.goto 6, 3) := by decide +kernel
theorem dX6_rested_24 : decode cX6_rested 24 = .ok (.iload_n 1, 1) := by decide +kernel
theorem dX6_rested_25 : decode cX6_rested 25 = .ok (.iconst 1, 1) := by decide +kernel
theorem dX6_rested_26 : decode cX6_rested 26 = .ok (.isub, 1) := by decide +kernel
theorem dX6_rested_27 : decode cX6_rested 27 = .ok (.iconst 1, 1) := by decide +kernel
theorem dX6_rested_28 : decode cX6_rested 28 = .ok (.invokevirtual 182, 3) := by decide +kernel
theorem dX6_rested_31 : decode cX6_rested 31 = .ok (.ireturn, 1) := by decide +kernel
set_option maxRecDepth 20000 in
theorem ggX6_ifRule_X6_in : GoodIn wsX6_ifRule wsX6_in := goodIn_r _ [6] (by decide +kernel) (by decide +kernel)
set_option maxRecDepth 20000 in
theorem gX6_ifRule_X6_in : GoodIn wsX6_ifRule (va_wsS RX6 34 yX6_in wsX6_in) := goodIn_app (goodIn_of _ (by decide +kernel)) ggX6_ifRule_X6_in
set_option maxRecDepth 20000 in
theorem ggX6_ifRule_X6_wants : GoodIn wsX6_ifRule wsX6_wants := goodIn_r _ [10, 11, 12, 13, 14, 15, 5, 16, 17, 18, 19, 20, 21, 22, 23, 24, 25, 26, 27, 28, 29, 30, 31, 32, 33, 34, 35, 36, 37, 38, 39, 40, 41, 42, 43, 44, 45, 46, 47, 48, 49, 50, 51, 52, 53, 54, 55, 56, 57, 58, 59, 60, 61, 62, 63, 64, 65, 66, 67, 68, 88, 89, 90, 91, 92, 93, 94, 95, 96, 97] (by decide +kernel) (by decide +kernel)
set_option maxRecDepth 20000 in
theorem gX6_ifRule_X6_wants : GoodIn wsX6_ifRule (wsV RX6 100 RX6 yX6_wants wsX6_wants) := goodIn_app (goodIn_of _ (by decide +kernel)) ggX6_ifRule_X6_wants
set_option maxRecDepth 20000 in
theorem ggX6_ifRule_X6_rested : GoodIn wsX6_ifRule wsX6_rested := goodIn_r _ [72, 73, 74, 75, 5, 76, 11, 12, 77, 78, 79, 80, 35, 36, 37, 38, 39, 40, 41, 42, 43, 44, 45, 46, 47, 48, 28, 29, 30, 21, 22, 23, 81, 82, 83, 84, 85, 86, 87, 65, 66, 67, 68, 88, 89, 90, 91, 92, 93, 94, 95, 96, 97] (by decide +kernel) (by decide +kernel)
set_option maxRecDepth 20000 in
theorem gX6_ifRule_X6_rested : GoodIn wsX6_ifRule (wsV RX6 196 RX6 yX6_rested wsX6_rested) := goodIn_app (goodIn_of _ (by decide +kernel)) ggX6_ifRule_X6_rested
theorem dX6_ifRule_0 : decode cX6_ifRule 0 = .ok (.iload_n 1, 1) := by decide +kernel
theorem dX6_ifRule_1 : decode cX6_ifRule 1 = .ok (.i2l, 1) := by decide +kernel
theorem dX6_ifRule_2 : decode cX6_ifRule 2 = .ok (.lconst 0, 1) := by decide +kernel
theorem dX6_ifRule_3 : decode cX6_ifRule 3 = .ok (.ldc2_w 138, 3) := by decide +kernel
theorem dX6_ifRule_6 : decode cX6_ifRule 6 = .ok (.invokestatic 34, 3) := by decide +kernel
theorem dX6_ifRule_9 : decode cX6_ifRule 9 = .ok (.ifCond .eq 15, 3) := by decide +kernel
theorem dX6_ifRule_12 : decode cX6_ifRule 12 = .ok (.iload_n 2, 1) := by decide +kernel
theorem dX6_ifRule_13 : decode cX6_ifRule 13 = .ok (.i2l, 1) := by decide +kernel
theorem dX6_ifRule_14 : decode cX6_ifRule 14 = .ok (.lconst 0, 1) := by decide +kernel
theorem dX6_ifRule_15 : decode cX6_ifRule 15 = .ok (.ldc2_w 112, 3) := by decide +kernel
theorem dX6_ifRule_18 : decode cX6_ifRule 18 = .ok (.invokestatic 34, 3) := by decide +kernel
theorem dX6_ifRule_21 : decode cX6_ifRule 21 = .ok (.ifCond .ne 6, 3) := by decide +kernel
theorem dX6_ifRule_24 : decode cX6_ifRule 24 = .ok (.bipush (-2), 2) := by decide +kernel
theorem dX6_ifRule_26 : decode cX6_ifRule 26 = .ok (.ireturn, 1) := by decide +kernel
theorem dX6_ifRule_27 : decode cX6_ifRule 27 = .ok (.aload_n 0, 1) := by decide +kernel
theorem dX6_ifRule_28 : decode cX6_ifRule 28 = .ok (.iload_n 1, 1) := by decide +kernel
theorem dX6_ifRule_29 : decode cX6_ifRule 29 = .ok (.invokevirtual 100, 3) := by decide +kernel
theorem dX6_ifRule_32 : decode cX6_ifRule 32 = .ok (.aload_n 0, 1) := by decide +kernel
theorem dX6_ifRule_33 : decode cX6_ifRule 33 = .ok (.iload_n 2, 1) := by decide +kernel
theorem dX6_ifRule_34 : decode cX6_ifRule 34 = .ok (.invokevirtual 196, 3) := by decide +kernel
theorem dX6_ifRule_37 : decode cX6_ifRule 37 = .ok (.ireturn, 1) := by decide +kernel
set_option maxRecDepth 20000 in
theorem ggX6_bestRule_X6_wants : GoodIn wsX6_bestRule wsX6_wants := goodIn_r _ [5, 6, 7, 8, 9, 10, 4, 11, 12, 13, 14, 15, 16, 17, 18, 19, 20, 21, 22, 23, 24, 25, 26, 27, 28, 29, 30, 31, 32, 33, 34, 35, 36, 37, 38, 39, 40, 41, 42, 43, 44, 45, 46, 47, 48, 49, 50, 51, 52, 53, 54, 55, 56, 57, 58, 59, 60, 61, 62, 63, 83, 84, 85, 86, 87, 88, 89, 90, 91, 92] (by decide +kernel) (by decide +kernel)
set_option maxRecDepth 20000 in
theorem gX6_bestRule_X6_wants : GoodIn wsX6_bestRule (wsV RX6 100 RX6 yX6_wants wsX6_wants) := goodIn_app (goodIn_of _ (by decide +kernel)) ggX6_bestRule_X6_wants
set_option maxRecDepth 20000 in
theorem ggX6_bestRule_X6_rested : GoodIn wsX6_bestRule wsX6_rested := goodIn_r _ [67, 68, 69, 70, 4, 71, 6, 7, 72, 73, 74, 75, 30, 31, 32, 33, 34, 35, 36, 37, 38, 39, 40, 41, 42, 43, 23, 24, 25, 16, 17, 18, 76, 77, 78, 79, 80, 81, 82, 60, 61, 62, 63, 83, 84, 85, 86, 87, 88, 89, 90, 91, 92] (by decide +kernel) (by decide +kernel)
set_option maxRecDepth 20000 in
theorem gX6_bestRule_X6_rested : GoodIn wsX6_bestRule (wsV RX6 196 RX6 yX6_rested wsX6_rested) := goodIn_app (goodIn_of _ (by decide +kernel)) ggX6_bestRule_X6_rested
theorem dX6_bestRule_0 : decode cX6_bestRule 0 = .ok (.iconst 0, 1) := by decide +kernel
theorem dX6_bestRule_1 : decode cX6_bestRule 1 = .ok (.istore_n 1, 1) := by decide +kernel
theorem dX6_bestRule_2 : decode cX6_bestRule 2 = .ok (.iconst 0, 1) := by decide +kernel
theorem dX6_bestRule_3 : decode cX6_bestRule 3 = .ok (.istore_n 2, 1) := by decide +kernel
theorem dX6_bestRule_4 : decode cX6_bestRule 4 = .ok (.iconst 0, 1) := by decide +kernel
theorem dX6_bestRule_5 : decode cX6_bestRule 5 = .ok (.istore_n 3, 1) := by decide +kernel
theorem dX6_bestRule_6 : decode cX6_bestRule 6 = .ok (.iconst 0, 1) := by decide +kernel
theorem dX6_bestRule_7 : decode cX6_bestRule 7 = .ok (.istore 4, 2) := by decide +kernel
theorem dX6_bestRule_9 : decode cX6_bestRule 9 = .ok (.iload 4, 2) := by decide +kernel
theorem dX6_bestRule_11 : decode cX6_bestRule 11 = .ok (.iconst 3, 1) := by decide +kernel
theorem dX6_bestRule_12 : decode cX6_bestRule 12 = .ok (.if_icmp .ge 95, 3) := by decide +kernel
theorem dX6_bestRule_15 : decode cX6_bestRule 15 = .ok (.aload_n 0, 1) := by decide +kernel
theorem dX6_bestRule_16 : decode cX6_bestRule 16 = .ok (.iload 4, 2) := by decide +kernel
theorem dX6_bestRule_18 : decode cX6_bestRule 18 = .ok (.invokevirtual 100, 3) := by decide +kernel
theorem dX6_bestRule_21 : decode cX6_bestRule 21 = .ok (.aload_n 0, 1) := by decide +kernel
theorem dX6_bestRule_22 : decode cX6_bestRule 22 = .ok (.iconst 1, 1) := by decide +kernel
theorem dX6_bestRule_23 : decode cX6_bestRule 23 = .ok (.invokevirtual 196, 3) := by decide +kernel
theorem dX6_bestRule_26 : decode cX6_bestRule 26 = .ok (.istore 5, 2) := by decide +kernel
theorem dX6_bestRule_28 : decode cX6_bestRule 28 = .ok (.aload_n 0, 1) := by decide +kernel
theorem dX6_bestRule_29 : decode cX6_bestRule 29 = .ok (.iconst 0, 1) := by decide +kernel
theorem dX6_bestRule_30 : decode cX6_bestRule 30 = .ok (.invokevirtual 196, 3) := by decide +kernel
theorem dX6_bestRule_33 : decode cX6_bestRule 33 = .ok (.istore 6, 2) := by decide +kernel
theorem dX6_bestRule_35 : decode cX6_bestRule 35 = .ok (.iload 4, 2) := by decide +kernel
theorem dX6_bestRule_37 : decode cX6_bestRule 37 = .ok (.ifCond .eq 21, 3) := by decide +kernel
theorem dX6_bestRule_40 : decode cX6_bestRule 40 = .ok (.iload 5, 2) := by decide +kernel
theorem dX6_bestRule_42 : decode cX6_bestRule 42 = .ok (.iload_n 2, 1) := by decide +kernel
theorem dX6_bestRule_43 : decode cX6_bestRule 43 = .ok (.if_icmp .lt 15, 3) := by decide +kernel
theorem dX6_bestRule_46 : decode cX6_bestRule 46 = .ok (.iload 5, 2) := by decide +kernel
theorem dX6_bestRule_48 : decode cX6_bestRule 48 = .ok (.iload_n 2, 1) := by decide +kernel
theorem dX6_bestRule_49 : decode cX6_bestRule 49 = .ok (.if_icmp .ne 13, 3) := by decide +kernel
theorem dX6_bestRule_52 : decode cX6_bestRule 52 = .ok (.iload 6, 2) := by decide +kernel
theorem dX6_bestRule_54 : decode cX6_bestRule 54 = .ok (.iload_n 3, 1) := by decide +kernel
theorem dX6_bestRule_55 : decode cX6_bestRule 55 = .ok (.if_icmp .ge 7, 3) := by decide +kernel
theorem dX6_bestRule_58 : decode cX6_bestRule 58 = .ok (.iconst 1, 1) := by decide +kernel
theorem dX6_bestRule_59 : decode cX6_bestRule 59 = .ok (.goto 4, 3) := by decide +kernel
theorem dX6_bestRule_62 : decode cX6_bestRule 62 = .ok (.iconst 0, 1) := by decide +kernel
theorem dX6_bestRule_63 : decode cX6_bestRule 63 = .ok (.istore 7, 2) := by decide +kernel
theorem dX6_bestRule_65 : decode cX6_bestRule 65 = .ok (.iload 7, 2) := by decide +kernel
theorem dX6_bestRule_67 : decode cX6_bestRule 67 = .ok (.ifCond .eq 8, 3) := by decide +kernel
theorem dX6_bestRule_70 : decode cX6_bestRule 70 = .ok (.iload 4, 2) := by decide +kernel
theorem dX6_bestRule_72 : decode cX6_bestRule 72 = .ok (.goto 4, 3) := by decide +kernel
theorem dX6_bestRule_75 : decode cX6_bestRule 75 = .ok (.iload_n 1, 1) := by decide +kernel
theorem dX6_bestRule_76 : decode cX6_bestRule 76 = .ok (.istore_n 1, 1) := by decide +kernel
theorem dX6_bestRule_77 : decode cX6_bestRule 77 = .ok (.iload 7, 2) := by decide +kernel
theorem dX6_bestRule_79 : decode cX6_bestRule 79 = .ok (.ifCond .eq 8, 3) := by decide +kernel
theorem dX6_bestRule_82 : decode cX6_bestRule 82 = .ok (.iload 5, 2) := by decide +kernel
theorem dX6_bestRule_84 : decode cX6_bestRule 84 = .ok (.goto 4, 3) := by decide +kernel
theorem dX6_bestRule_87 : decode cX6_bestRule 87 = .ok (.iload_n 2, 1) := by decide +kernel
theorem dX6_bestRule_88 : decode cX6_bestRule 88 = .ok (.istore_n 2, 1) := by decide +kernel
theorem dX6_bestRule_89 : decode cX6_bestRule 89 = .ok (.iload 7, 2) := by decide +kernel
theorem dX6_bestRule_91 : decode cX6_bestRule 91 = .ok (.ifCond .eq 8, 3) := by decide +kernel
theorem dX6_bestRule_94 : decode cX6_bestRule 94 = .ok (.iload 6, 2) := by decide +kernel
theorem dX6_bestRule_96 : decode cX6_bestRule 96 = .ok (.goto 4, 3) := by decide +kernel
theorem dX6_bestRule_99 : decode cX6_bestRule 99 = .ok (.iload_n 3, 1) := by decide +kernel
theorem dX6_bestRule_100 : decode cX6_bestRule 100 = .ok (.istore_n 3, 1) := by decide +kernel
theorem dX6_bestRule_101 : decode cX6_bestRule 101 = .ok (.iinc 4 1, 3) := by decide +kernel
theorem dX6_bestRule_104 : decode cX6_bestRule 104 = .ok (.goto (-95), 3) := by decide +kernel
theorem dX6_bestRule_107 : decode cX6_bestRule 107 = .ok (.iload_n 1, 1) := by decide +kernel
theorem dX6_bestRule_108 : decode cX6_bestRule 108 = .ok (.ireturn, 1) := by decide +kernel
set_option maxRecDepth 20000 in
theorem ggX6_leastStep_X6_in : GoodIn wsX6_leastStep wsX6_in := goodIn_r _ [5] (by decide +kernel) (by decide +kernel)
set_option maxRecDepth 20000 in
theorem gX6_leastStep_X6_in : GoodIn wsX6_leastStep (va_wsS RX6 34 yX6_in wsX6_in) := goodIn_app (goodIn_of _ (by decide +kernel)) ggX6_leastStep_X6_in
set_option maxRecDepth 20000 in
theorem ggX6_leastStep_X6_farthest : GoodIn wsX6_leastStep wsX6_farthest := goodIn_r _ [9, 10, 11, 12, 13, 14, 4, 15, 16, 17, 18, 19, 20, 21, 22, 23, 24, 25, 26, 27, 28, 29, 30, 31, 32, 33, 34, 35, 36, 37, 38, 39, 40, 41, 42, 43, 44, 45, 46, 47, 48, 49, 50, 51, 52, 53, 54, 55, 56, 57, 58, 59, 60, 61, 62, 63, 64, 65, 66, 67, 68, 69, 70, 71, 72, 73, 74, 75, 76, 77, 78, 79, 80, 81] (by decide +kernel) (by decide +kernel)
set_option maxRecDepth 20000 in
theorem gX6_leastStep_X6_farthest : GoodIn wsX6_leastStep (wsV RX6 189 RX6 yX6_farthest wsX6_farthest) := goodIn_app (goodIn_of _ (by decide +kernel)) ggX6_leastStep_X6_farthest
theorem dX6_leastStep_0 : decode cX6_leastStep 0 = .ok (.iload_n 1, 1) := by decide +kernel
theorem dX6_leastStep_1 : decode cX6_leastStep 1 = .ok (.i2l, 1) := by decide +kernel
theorem dX6_leastStep_2 : decode cX6_leastStep 2 = .ok (.lconst 1, 1) := by decide +kernel
theorem dX6_leastStep_3 : decode cX6_leastStep 3 = .ok (.ldc2_w 107, 3) := by decide +kernel
theorem dX6_leastStep_6 : decode cX6_leastStep 6 = .ok (.invokestatic 34, 3) := by decide +kernel
theorem dX6_leastStep_9 : decode cX6_leastStep 9 = .ok (.ifCond .ne 6, 3) := by decide +kernel
theorem dX6_leastStep_12 : decode cX6_leastStep 12 = .ok (.bipush (-2), 2) := by decide +kernel
theorem dX6_leastStep_14 : decode cX6_leastStep 14 = .ok (.ireturn, 1) := by decide +kernel
theorem dX6_leastStep_15 : decode cX6_leastStep 15 = .ok (.aload_n 0, 1) := by decide +kernel
theorem dX6_leastStep_16 : decode cX6_leastStep 16 = .ok (.invokevirtual 189, 3) := by decide +kernel
theorem dX6_leastStep_19 : decode cX6_leastStep 19 = .ok (.iload_n 1, 1) := by decide +kernel
theorem dX6_leastStep_20 : decode cX6_leastStep 20 = .ok (.iadd, 1) := by decide +kernel
theorem dX6_leastStep_21 : decode cX6_leastStep 21 = .ok (.iconst 1, 1) := by decide +kernel
theorem dX6_leastStep_22 : decode cX6_leastStep 22 = .ok (.isub, 1) := by decide +kernel
theorem dX6_leastStep_23 : decode cX6_leastStep 23 = .ok (.iload_n 1, 1) := by decide +kernel
theorem dX6_leastStep_24 : decode cX6_leastStep 24 = .ok (.idiv, 1) := by decide +kernel
theorem dX6_leastStep_25 : decode cX6_leastStep 25 = .ok (.ireturn, 1) := by decide +kernel
set_option maxRecDepth 20000 in
theorem ggX6_dearest_X6_in : GoodIn wsX6_dearest wsX6_in := goodIn_r _ [5] (by decide +kernel) (by decide +kernel)
set_option maxRecDepth 20000 in
theorem gX6_dearest_X6_in : GoodIn wsX6_dearest (va_wsS RX6 34 yX6_in wsX6_in) := goodIn_app (goodIn_of _ (by decide +kernel)) ggX6_dearest_X6_in
set_option maxRecDepth 20000 in
theorem ggX6_dearest_X6_wants : GoodIn wsX6_dearest wsX6_wants := goodIn_r _ [9, 10, 1, 11, 12, 13, 4, 14, 15, 16, 17, 18, 19, 20, 21, 22, 23, 24, 25, 26, 27, 28, 29, 30, 31, 32, 33, 34, 35, 36, 37, 38, 39, 40, 41, 42, 43, 44, 45, 46, 47, 48, 49, 50, 51, 52, 53, 54, 55, 56, 57, 58, 59, 60, 61, 62, 63, 64, 65, 66, 86, 87, 88, 89, 90, 91, 92, 93, 94, 95] (by decide +kernel) (by decide +kernel)
set_option maxRecDepth 20000 in
theorem gX6_dearest_X6_wants : GoodIn wsX6_dearest (wsV RX6 100 RX6 yX6_wants wsX6_wants) := goodIn_app (goodIn_of _ (by decide +kernel)) ggX6_dearest_X6_wants
set_option maxRecDepth 20000 in
theorem ggX6_dearest_X6_rested : GoodIn wsX6_dearest wsX6_rested := goodIn_r _ [70, 71, 72, 73, 4, 74, 10, 1, 75, 76, 77, 78, 33, 34, 35, 36, 37, 38, 39, 40, 41, 42, 43, 44, 45, 46, 26, 27, 28, 19, 20, 21, 79, 80, 81, 82, 83, 84, 85, 63, 64, 65, 66, 86, 87, 88, 89, 90, 91, 92, 93, 94, 95] (by decide +kernel) (by decide +kernel)
set_option maxRecDepth 20000 in
theorem gX6_dearest_X6_rested : GoodIn wsX6_dearest (wsV RX6 196 RX6 yX6_rested wsX6_rested) := goodIn_app (goodIn_of _ (by decide +kernel)) ggX6_dearest_X6_rested
theorem dX6_dearest_0 : decode cX6_dearest 0 = .ok (.iload_n 1, 1) := by decide +kernel
theorem dX6_dearest_1 : decode cX6_dearest 1 = .ok (.i2l, 1) := by decide +kernel
theorem dX6_dearest_2 : decode cX6_dearest 2 = .ok (.lconst 0, 1) := by decide +kernel
theorem dX6_dearest_3 : decode cX6_dearest 3 = .ok (.lconst 1, 1) := by decide +kernel
theorem dX6_dearest_4 : decode cX6_dearest 4 = .ok (.invokestatic 34, 3) := by decide +kernel
theorem dX6_dearest_7 : decode cX6_dearest 7 = .ok (.ifCond .ne 6, 3) := by decide +kernel
theorem dX6_dearest_10 : decode cX6_dearest 10 = .ok (.bipush (-2), 2) := by decide +kernel
theorem dX6_dearest_12 : decode cX6_dearest 12 = .ok (.ireturn, 1) := by decide +kernel
theorem dX6_dearest_13 : decode cX6_dearest 13 = .ok (.bipush (-5), 2) := by decide +kernel
theorem dX6_dearest_15 : decode cX6_dearest 15 = .ok (.istore_n 2, 1) := by decide +kernel
theorem dX6_dearest_16 : decode cX6_dearest 16 = .ok (.iconst 0, 1) := by decide +kernel
theorem dX6_dearest_17 : decode cX6_dearest 17 = .ok (.istore_n 3, 1) := by decide +kernel
theorem dX6_dearest_18 : decode cX6_dearest 18 = .ok (.iconst 0, 1) := by decide +kernel
theorem dX6_dearest_19 : decode cX6_dearest 19 = .ok (.istore 4, 2) := by decide +kernel
theorem dX6_dearest_21 : decode cX6_dearest 21 = .ok (.iload 4, 2) := by decide +kernel
theorem dX6_dearest_23 : decode cX6_dearest 23 = .ok (.bipush 18, 2) := by decide +kernel
theorem dX6_dearest_25 : decode cX6_dearest 25 = .ok (.if_icmp .ge 109, 3) := by decide +kernel
theorem dX6_dearest_28 : decode cX6_dearest 28 = .ok (.aload_n 0, 1) := by decide +kernel
theorem dX6_dearest_29 : decode cX6_dearest 29 = .ok (.getfield 7, 3) := by decide +kernel
theorem dX6_dearest_32 : decode cX6_dearest 32 = .ok (.sipush 306, 3) := by decide +kernel
theorem dX6_dearest_35 : decode cX6_dearest 35 = .ok (.iload 4, 2) := by decide +kernel
theorem dX6_dearest_37 : decode cX6_dearest 37 = .ok (.iadd, 1) := by decide +kernel
theorem dX6_dearest_38 : decode cX6_dearest 38 = .ok (.iaload, 1) := by decide +kernel
theorem dX6_dearest_39 : decode cX6_dearest 39 = .ok (.ifCond .ne 89, 3) := by decide +kernel
theorem dX6_dearest_42 : decode cX6_dearest 42 = .ok (.aload_n 0, 1) := by decide +kernel
theorem dX6_dearest_43 : decode cX6_dearest 43 = .ok (.getfield 7, 3) := by decide +kernel
theorem dX6_dearest_46 : decode cX6_dearest 46 = .ok (.sipush 306, 3) := by decide +kernel
theorem dX6_dearest_49 : decode cX6_dearest 49 = .ok (.iload 4, 2) := by decide +kernel
theorem dX6_dearest_51 : decode cX6_dearest 51 = .ok (.iadd, 1) := by decide +kernel
theorem dX6_dearest_52 : decode cX6_dearest 52 = .ok (.iconst 1, 1) := by decide +kernel
theorem dX6_dearest_53 : decode cX6_dearest 53 = .ok (.iastore, 1) := by decide +kernel
theorem dX6_dearest_54 : decode cX6_dearest 54 = .ok (.aload_n 0, 1) := by decide +kernel
theorem dX6_dearest_55 : decode cX6_dearest 55 = .ok (.aload_n 0, 1) := by decide +kernel
theorem dX6_dearest_56 : decode cX6_dearest 56 = .ok (.getfield 7, 3) := by decide +kernel
theorem dX6_dearest_59 : decode cX6_dearest 59 = .ok (.sipush 327, 3) := by decide +kernel
theorem dX6_dearest_62 : decode cX6_dearest 62 = .ok (.iaload, 1) := by decide +kernel
theorem dX6_dearest_63 : decode cX6_dearest 63 = .ok (.invokevirtual 100, 3) := by decide +kernel
theorem dX6_dearest_66 : decode cX6_dearest 66 = .ok (.aload_n 0, 1) := by decide +kernel
theorem dX6_dearest_67 : decode cX6_dearest 67 = .ok (.iconst 1, 1) := by decide +kernel
theorem dX6_dearest_68 : decode cX6_dearest 68 = .ok (.invokevirtual 196, 3) := by decide +kernel
theorem dX6_dearest_71 : decode cX6_dearest 71 = .ok (.istore 5, 2) := by decide +kernel
theorem dX6_dearest_73 : decode cX6_dearest 73 = .ok (.aload_n 0, 1) := by decide +kernel
theorem dX6_dearest_74 : decode cX6_dearest 74 = .ok (.getfield 7, 3) := by decide +kernel
theorem dX6_dearest_77 : decode cX6_dearest 77 = .ok (.sipush 306, 3) := by decide +kernel
theorem dX6_dearest_80 : decode cX6_dearest 80 = .ok (.iload 4, 2) := by decide +kernel
theorem dX6_dearest_82 : decode cX6_dearest 82 = .ok (.iadd, 1) := by decide +kernel
theorem dX6_dearest_83 : decode cX6_dearest 83 = .ok (.iconst 0, 1) := by decide +kernel
theorem dX6_dearest_84 : decode cX6_dearest 84 = .ok (.iastore, 1) := by decide +kernel
theorem dX6_dearest_85 : decode cX6_dearest 85 = .ok (.iload_n 2, 1) := by decide +kernel
theorem dX6_dearest_86 : decode cX6_dearest 86 = .ok (.bipush (-5), 2) := by decide +kernel
theorem dX6_dearest_88 : decode cX6_dearest 88 = .ok (.if_icmp .eq 9, 3) := by decide +kernel
theorem dX6_dearest_91 : decode cX6_dearest 91 = .ok (.iload 5, 2) := by decide +kernel
theorem dX6_dearest_93 : decode cX6_dearest 93 = .ok (.iload_n 3, 1) := by decide +kernel
theorem dX6_dearest_94 : decode cX6_dearest 94 = .ok (.if_icmp .le 7, 3) := by decide +kernel
theorem dX6_dearest_97 : decode cX6_dearest 97 = .ok (.iconst 1, 1) := by decide +kernel
theorem dX6_dearest_98 : decode cX6_dearest 98 = .ok (.goto 4, 3) := by decide +kernel
theorem dX6_dearest_101 : decode cX6_dearest 101 = .ok (.iconst 0, 1) := by decide +kernel
theorem dX6_dearest_102 : decode cX6_dearest 102 = .ok (.istore 6, 2) := by decide +kernel
theorem dX6_dearest_104 : decode cX6_dearest 104 = .ok (.iload 6, 2) := by decide +kernel
theorem dX6_dearest_106 : decode cX6_dearest 106 = .ok (.ifCond .eq 8, 3) := by decide +kernel
theorem dX6_dearest_109 : decode cX6_dearest 109 = .ok (.iload 4, 2) := by decide +kernel
theorem dX6_dearest_111 : decode cX6_dearest 111 = .ok (.goto 4, 3) := by decide +kernel
theorem dX6_dearest_114 : decode cX6_dearest 114 = .ok (.iload_n 2, 1) := by decide +kernel
theorem dX6_dearest_115 : decode cX6_dearest 115 = .ok (.istore_n 2, 1) := by decide +kernel
theorem dX6_dearest_116 : decode cX6_dearest 116 = .ok (.iload 6, 2) := by decide +kernel
theorem dX6_dearest_118 : decode cX6_dearest 118 = .ok (.ifCond .eq 8, 3) := by decide +kernel
theorem dX6_dearest_121 : decode cX6_dearest 121 = .ok (.iload 5, 2) := by decide +kernel
theorem dX6_dearest_123 : decode cX6_dearest 123 = .ok (.goto 4, 3) := by decide +kernel
theorem dX6_dearest_126 : decode cX6_dearest 126 = .ok (.iload_n 3, 1) := by decide +kernel
theorem dX6_dearest_127 : decode cX6_dearest 127 = .ok (.istore_n 3, 1) := by decide +kernel
theorem dX6_dearest_128 : decode cX6_dearest 128 = .ok (.iinc 4 1, 3) := by decide +kernel
theorem dX6_dearest_131 : decode cX6_dearest 131 = .ok (.goto (-110), 3) := by decide +kernel
theorem dX6_dearest_134 : decode cX6_dearest 134 = .ok (.iload_n 2, 1) := by decide +kernel
theorem dX6_dearest_135 : decode cX6_dearest 135 = .ok (.bipush (-5), 2) := by decide +kernel
theorem dX6_dearest_137 : decode cX6_dearest 137 = .ok (.if_icmp .eq 7, 3) := by decide +kernel
theorem dX6_dearest_140 : decode cX6_dearest 140 = .ok (.iload_n 1, 1) := by decide +kernel
theorem dX6_dearest_141 : decode cX6_dearest 141 = .ok (.ifCond .ne 7, 3) := by decide +kernel
theorem dX6_dearest_144 : decode cX6_dearest 144 = .ok (.iload_n 2, 1) := by decide +kernel
theorem dX6_dearest_145 : decode cX6_dearest 145 = .ok (.goto 4, 3) := by decide +kernel
theorem dX6_dearest_148 : decode cX6_dearest 148 = .ok (.iload_n 3, 1) := by decide +kernel
theorem dX6_dearest_149 : decode cX6_dearest 149 = .ok (.ireturn, 1) := by decide +kernel
theorem dJ9_abs_0f7a4_0 : decode cJ9_abs_0f7a4 0 = .ok (.iload_n 0, 1) := by decide +kernel
theorem dJ9_abs_0f7a4_1 : decode cJ9_abs_0f7a4 1 = .ok (.ifCond .ge 8, 3) := by decide +kernel
theorem dJ9_abs_0f7a4_4 : decode cJ9_abs_0f7a4 4 = .ok (.iload_n 0, 1) := by decide +kernel
theorem dJ9_abs_0f7a4_5 : decode cJ9_abs_0f7a4 5 = .ok (.ineg, 1) := by decide +kernel
theorem dJ9_abs_0f7a4_6 : decode cJ9_abs_0f7a4 6 = .ok (.goto 4, 3) := by decide +kernel
theorem dJ9_abs_0f7a4_9 : decode cJ9_abs_0f7a4 9 = .ok (.iload_n 0, 1) := by decide +kernel
theorem dJ9_abs_0f7a4_10 : decode cJ9_abs_0f7a4 10 = .ok (.ireturn, 1) := by decide +kernel
theorem dJ9_max_7cf53_0 : decode cJ9_max_7cf53 0 = .ok (.iload_n 0, 1) := by decide +kernel
theorem dJ9_max_7cf53_1 : decode cJ9_max_7cf53 1 = .ok (.iload_n 1, 1) := by decide +kernel
theorem dJ9_max_7cf53_2 : decode cJ9_max_7cf53 2 = .ok (.if_icmp .lt 7, 3) := by decide +kernel
theorem dJ9_max_7cf53_5 : decode cJ9_max_7cf53 5 = .ok (.iload_n 0, 1) := by decide +kernel
theorem dJ9_max_7cf53_6 : decode cJ9_max_7cf53 6 = .ok (.goto 4, 3) := by decide +kernel
theorem dJ9_max_7cf53_9 : decode cJ9_max_7cf53 9 = .ok (.iload_n 1, 1) := by decide +kernel
theorem dJ9_max_7cf53_10 : decode cJ9_max_7cf53 10 = .ok (.ireturn, 1) := by decide +kernel
theorem dJ9_min_7cf53_0 : decode cJ9_min_7cf53 0 = .ok (.iload_n 0, 1) := by decide +kernel
theorem dJ9_min_7cf53_1 : decode cJ9_min_7cf53 1 = .ok (.iload_n 1, 1) := by decide +kernel
theorem dJ9_min_7cf53_2 : decode cJ9_min_7cf53 2 = .ok (.if_icmp .gt 7, 3) := by decide +kernel
theorem dJ9_min_7cf53_5 : decode cJ9_min_7cf53 5 = .ok (.iload_n 0, 1) := by decide +kernel
theorem dJ9_min_7cf53_6 : decode cJ9_min_7cf53 6 = .ok (.goto 4, 3) := by decide +kernel
theorem dJ9_min_7cf53_9 : decode cJ9_min_7cf53 9 = .ok (.iload_n 1, 1) := by decide +kernel
theorem dJ9_min_7cf53_10 : decode cJ9_min_7cf53 10 = .ok (.ireturn, 1) := by decide +kernel
abbrev vwCl : List vw_C := [(RX0, TX0, 3), (RX1, TX1, 4), (RX2, TX2, 2), (RX3, TX3, 7), (RX4, TX4, 5), (RX5, TX5, 9), (RX6, TX6, 10)]
end
section
/-! THE WORLD: the cells that both objects have once they are made, by kind and number; their numbers as one function -/
abbrev St : Type := Nat → Nat → Nat → Int32
/-- how many cells of a kind -/
def pCnt : Nat → Nat
  | 0 => 7 | 1 => 7 | 2 => 7 | 3 => 7 | 4 => 7
  | 5 => 1 | 6 => 1 | 7 => 1 | 8 => 1 | 9 => 1 | 10 => 1 | 11 => 1 | 12 => 1 | 13 => 1 | 14 => 1 | 15 => 1
  | 16 => 1 | 17 => 1 | 18 => 1 | 19 => 1 | 20 => 1 | 21 => 1 | 22 => 1
  | _ => 0
/-- how many numbers a cell of a kind has -/
def pLen : Nat → Nat
  | 0 => 7 | 1 => 288 | 2 => 18 | 3 => 18 | 4 => 8
  | 5 => 9 | 6 => 3 | 7 => 0 | 8 => 4 | 9 => 60 | 10 => 30 | 11 => 2 | 12 => 18 | 13 => 18 | 14 => 5 | 15 => 288
  | 16 => 10 | 17 => 335 | 18 => 1340 | 19 => 335 | 20 => 18 | 21 => 60 | 22 => 5
  | _ => 0
def pAll : List (Nat × Nat) := (List.range 23).flatMap (fun k => (List.range (pCnt k)).map (fun i => (k, i)))
theorem pAll_in {k i : Nat} (h : i < pCnt k) : (k, i) ∈ pAll := by
  have hk : k < 23 := by
    rcases Nat.lt_or_ge k 23 with q | q
    · exact q
    · exfalso
      have : pCnt k = 0 := by
        match k, q with
        | n + 23, _ => rfl
      omega
  exact List.mem_flatMap.mpr ⟨k, List.mem_range.mpr hk, List.mem_map.mpr ⟨i, List.mem_range.mpr h, rfl⟩⟩
theorem pAll_nodup : pAll.Nodup := by decide +kernel
/-- the addresses; the classes' numbers and slots; the array classes of int, char, boolean, Screen -/
abbrev GG : Type := (Nat → Nat → Nat) × va_G × ClassId × ClassId × ClassId × ClassId
abbrev gI (G : GG) : ClassId := G.2.2.1
abbrev gC (G : GG) : ClassId := G.2.2.2.1
abbrev gZ (G : GG) : ClassId := G.2.2.2.2.1
abbrev gQ (G : GG) : ClassId := G.2.2.2.2.2
def shape (G : GG) (k i : Nat) (r : Nat → Int32) : va_E := match k with
  | 0 => .inr (3, [.ref (G.1 1 i), .ref (G.1 2 i), .ref (G.1 3 i), .ref (G.1 4 i), .int (r 4), .int (r 5), .int (r 6)])
  | 1 => .inl (gI G, 288, .inl r)
  | 2 => .inl (gI G, 18, .inl r)
  | 3 => .inl (gZ G, 18, .inl r)
  | 4 => .inl (gI G, 8, .inl r)
  | 5 => .inr (5, [.ref (G.1 0 0), .ref (G.1 0 1), .int (r 2), .ref (G.1 6 0), .ref (G.1 8 0), .ref (G.1 0 2), .ref (G.1 11 0), .ref (G.1 14 0), .ref (G.1 15 0)])
  | 6 => .inr (0, [.ref (G.1 7 0), .int (r 1), .int (r 2)])
  | 7 => .inl (gQ G, 4, .inr (.inr (.inr (.inr (fun j => some (G.1 0 (3 + j)))))))
  | 8 => .inr (1, [.ref (G.1 9 0), .int (r 1), .ref (G.1 10 0), .int (r 3)])
  | 9 => .inl (gC G, 60, .inl r)
  | 10 => .inl (gI G, 30, .inl r)
  | 11 => .inr (2, [.ref (G.1 12 0), .ref (G.1 13 0)])
  | 12 => .inl (gI G, 18, .inl r)
  | 13 => .inl (gI G, 18, .inl r)
  | 14 => .inr (4, [.int (r 0), .int (r 1), .int (r 2), .int (r 3), .int (r 4)])
  | 15 => .inl (gI G, 288, .inl r)
  | 16 => .inr (6, [.ref (G.1 17 0), .ref (G.1 18 0), .int (r 2), .ref (G.1 19 0), .int (r 4), .ref (G.1 20 0), .ref (G.1 21 0), .int (r 7), .int (r 8), .ref (G.1 22 0)])
  | 17 => .inl (gI G, 335, .inl r)
  | 18 => .inl (gI G, 1340, .inl r)
  | 19 => .inl (gI G, 335, .inl r)
  | 20 => .inl (gI G, 18, .inl r)
  | 21 => .inl (gI G, 60, .inl r)
  | _ => .inl (gI G, 5, .inl r)
def wl (G : GG) (σ : St) : va_W := pAll.map (fun q => (G.1 q.1 q.2, shape G q.1 q.2 (σ q.1 q.2)))
/-- one row for another -/
def ur (σ : St) (k i : Nat) (r : Nat → Int32) : St := fun k' i' => if k' = k ∧ i' = i then r else σ k' i'
/-- one number for another -/
def us (σ : St) (k i j : Nat) (v : Int32) : St := ur σ k i (upd (σ k i) j v)
theorem ur_same {σ : St} {k i : Nat} {r : Nat → Int32} : ur σ k i r k i = r := if_pos ⟨rfl, rfl⟩
theorem ur_other {σ : St} {k i k' i' : Nat} {r : Nat → Int32} (h : ¬ (k' = k ∧ i' = i)) : ur σ k i r k' i' = σ k' i' := if_neg h
theorem ur_k {σ : St} {k i k' i' : Nat} {r : Nat → Int32} (h : k' ≠ k) : ur σ k i r k' i' = σ k' i' := if_neg (fun q => h q.1)
theorem us_k {σ : St} {k i k' i' j : Nat} {v : Int32} (h : k' ≠ k) : us σ k i j v k' i' = σ k' i' := if_neg (fun q => h q.1)
theorem us_same {σ : St} {k i j : Nat} {v : Int32} : us σ k i j v k i = upd (σ k i) j v := if_pos ⟨rfl, rfl⟩
theorem us_at {σ : St} {k i j : Nat} {v : Int32} : us σ k i j v k i j = v := by rw [us_same, pk_us]
theorem us_not {σ : St} {k i j j' : Nat} {v : Int32} (h : j' ≠ j) : us σ k i j v k i j' = σ k i j' := by rw [us_same, pk_un h]
/-- behind their end rows hold 0; the dead rows hold 0 and 1 -/
def can (σ : St) : Prop := (∀ k i j, pLen k ≤ j → σ k i j = 0) ∧ ∀ i j, σ 3 i j = 0 ∨ σ 3 i j = 1
theorem can_ur {σ : St} {k i : Nat} {r : Nat → Int32} (h : can σ) (hr : ∀ j, pLen k ≤ j → r j = 0) (h3 : k = 3 → ∀ j, r j = 0 ∨ r j = 1) : can (ur σ k i r) := by
  refine ⟨fun k' i' j hj => ?_, fun i' j => ?_⟩
  · unfold ur
    split
    · rename_i q
      exact hr j (by rw [← q.1]; exact hj)
    · exact h.1 k' i' j hj
  · unfold ur
    split
    · rename_i q
      exact h3 q.1.symm j
    · exact h.2 i' j
theorem can_us {σ : St} {k i j : Nat} {v : Int32} (h : can σ) (hj : j < pLen k) (h3 : k = 3 → v = 0 ∨ v = 1) : can (us σ k i j v) := by
  refine can_ur h (fun j' h' => ?_) (fun e j' => ?_)
  · rw [pk_un (by omega)]
    exact h.1 k i j' h'
  · by_cases q : j' = j
    · subst q
      rw [pk_us]
      exact h3 e
    · rw [pk_un q]
      subst e
      exact h.2 i j'
theorem wl_get (G : GG) (σ : St) {k i : Nat} (h : i < pCnt k) : ∃ q : Nat, pAll[q]? = some (k, i) ∧ (wl G σ)[q]? = some (G.1 k i, shape G k i (σ k i)) := by
  obtain ⟨q, hq⟩ := List.getElem?_of_mem (pAll_in h)
  exact ⟨q, hq, by unfold wl; rw [List.getElem?_map, hq]; rfl⟩
theorem wl_set (G : GG) (σ : St) {k i q : Nat} {r : Nat → Int32} (h : pAll[q]? = some (k, i)) : (wl G σ).set q (G.1 k i, shape G k i r) = wl G (ur σ k i r) := by
  apply List.ext_getElem?
  intro j
  have hl : q < (wl G σ).length := by
    unfold wl
    rw [List.length_map]
    exact (List.getElem?_eq_some_iff.mp h).1
  by_cases e : j = q
  · subst e
    rw [List.getElem?_set_self hl]
    unfold wl
    rw [List.getElem?_map, h]
    show _ = some (G.1 k i, shape G k i (ur σ k i r k i))
    rw [ur_same]
  · rw [List.getElem?_set_ne (Ne.symm e)]
    unfold wl
    rw [List.getElem?_map, List.getElem?_map]
    cases hj : pAll[j]? with
    | none => rfl
    | some z =>
      show some (G.1 z.1 z.2, shape G z.1 z.2 (σ z.1 z.2)) = some (G.1 z.1 z.2, shape G z.1 z.2 (ur σ k i r z.1 z.2))
      rw [ur_other]
      intro hz
      apply e
      have hz2 : pAll[j]? = some (k, i) := by rw [hj, ← hz.1, ← hz.2]
      exact (List.getElem?_inj (List.getElem?_eq_some_iff.mp hj).1 pAll_nodup).mp (hz2.trans h.symm)
theorem wl_D {A : Nat → Prop} {G : GG} {σ τ : St} (h : va_D A (wl G σ)) : va_D A (wl G τ) := by
  have key : ∀ (k : Nat) (q : Nat × va_E), (wl G τ)[k]? = some q → ∃ q0, (wl G σ)[k]? = some q0 ∧ q0.1 = q.1 := by
    intro k q hq
    unfold wl at hq ⊢
    rw [List.getElem?_map] at hq ⊢
    cases hj : pAll[k]? with
    | none => rw [hj] at hq; cases hq
    | some z => rw [hj] at hq; cases hq; exact ⟨_, rfl, rfl⟩
  refine ⟨fun i j x y hi hj hxy => ?_, fun k q hk => ?_⟩
  · obtain ⟨x0, h1, h2⟩ := key i x hi
    obtain ⟨y0, h3, h4⟩ := key j y hj
    exact h.1 i j x0 y0 h1 h3 (by rw [h2, h4]; exact hxy)
  · obtain ⟨q0, h1, h2⟩ := key k q hk
    rw [← h2]
    exact h.2 k q0 h1
/-- the cells hold σ -/
def Wcel (G : GG) (σ : St) (H : Heap) : Prop := va_P G.2.1 vwCl (wl G σ) H ∧ can σ
/-- words that every method may use -/
def tbL : List Cond := wsX00 ++ wsX10 ++ wsX20 ++ wsX30 ++ wsX40 ++ wsX50 ++ wsX60 ++ [.static Lib.Math.max.name, .static Lib.Math.min.name, .static Lib.Math.abs.name, .initialized "java/lang/Math", .code Lib.Math.max.name Lib.Math.max.code 2 (some .int), .code Lib.Math.min.name Lib.Math.min.code 2 (some .int), .code Lib.Math.abs.name Lib.Math.abs.code 1 (some .int), .native arraycopyName, .static arraycopyName, .initialized "java/lang/System"]
theorem tbL_ok : ∀ w ∈ tbL, (w.onTables && w.keeps) = true := by
  intro w hw
  have h : tbL.all (fun w => w.onTables && w.keeps) = true := by decide +kernel
  exact List.all_eq_true.mp h w hw
abbrev nestW : Type := String × Nat × MethodName × String
def tbN : List nestW := [("ZonedLight$Screen", 53, yX5_spotAt, "ZonedLight"), ("ZonedLight$Screen", 56, yX5_onScreen, "ZonedLight"), ("ZonedLight$Screen", 60, yX5_spotOfZone, "ZonedLight"), ("ZonedLight$Screen", 63, yX5_zonesApart, "ZonedLight"), ("ZonedLight$Plan", 62, yX5_lightOf, "ZonedLight"), ("ZonedLight$Plan", 83, yX5_zonesApart, "ZonedLight"), ("ZonedLight$Plan", 72, yX5_roundedUp, "ZonedLight"), ("ZonedLight$Screen", 70, yX5_lightOf, "ZonedLight"), ("ZonedLight$Screen", 74, yX5_glassFor, "ZonedLight"), ("ZonedLight$Tally", 44, yX5_spotOfZone, "ZonedLight"), ("ZonedLight$Tally", 54, yX5_verdict, "ZonedLight")]
/-- a static array that nobody writes -/
def Wst (A : Nat → Prop) (U : State) (H : Heap) (C n d : String) (ty : FieldType) (N : Nat) (xs : List Int32) : Prop := ∃ t : Nat, va_Z C n d (.ref t) A U H ∧ va_T ty t N (fun j => .int (xs.getD j 0)) A U H
theorem Wst.kept {A : Nat → Prop} {u U : State} {H H1 : Heap} {C n d : String} {ty : FieldType} {N : Nat} {xs : List Int32} (hvm : u.vm.Alike U.vm) (hq : ∀ a : Nat, a < H.size → ¬ A a → H1[a]? = H[a]?) (h : Wst A u H C n d ty N xs) : Wst A U H1 C n d ty N xs := by
  obtain ⟨t, h1, h2⟩ := h
  exact ⟨t, (h1.kept hq).moved hvm, (h2.kept hq).moved hvm⟩
abbrev tab_GREATEST_SETTING : List Int32 := [256, 30, 9, 2, 9, 50, 20, 255]
abbrev tab_LEAST_SETTING : List Int32 := [100, 0, 0, 0, 0, 0, 0, 1]
abbrev tab_FROM_X : List Int32 := [1, -1, 0, 0]
abbrev tab_FROM_Y : List Int32 := [0, 0, 1, -1]
abbrev tab_LEAST : List Int32 := [0, 0, 1, 1, 0]
abbrev tab_GREATEST : List Int32 := [23, 11, 24, 12, 255]
abbrev tab_END : List Int32 := [44, 43, 120, 61, 59]
def Wsts (A : Nat → Prop) (U : State) (H : Heap) : Prop :=
  Wst A U H "ZonedLight" "LEAST_SETTING" "[I" .int 8 tab_LEAST_SETTING ∧ Wst A U H "ZonedLight" "GREATEST_SETTING" "[I" .int 8 tab_GREATEST_SETTING ∧
  Wst A U H "ZonedLight" "FROM_X" "[I" .int 4 tab_FROM_X ∧ Wst A U H "ZonedLight" "FROM_Y" "[I" .int 4 tab_FROM_Y ∧
  Wst A U H "ZonedLight$PictureText" "LEAST" "[I" .int 5 tab_LEAST ∧ Wst A U H "ZonedLight$PictureText" "GREATEST" "[I" .int 5 tab_GREATEST ∧
  Wst A U H "ZonedLight$PictureText" "END" "[C" .char 5 tab_END
/-- what stays of a state: the classes, the addresses, the tables, the static arrays -/
def Wenv (G : GG) (A : Nat → Prop) (U : State) (H : Heap) : Prop :=
  va_K G.2.1 vwCl [(gI G, .int), (gC G, .char), (gZ G, .boolean), (gQ G, .object RX3)] U ∧ va_D A (wl G (fun _ _ _ => 0)) ∧
  (∀ w ∈ tbL, va_Nw w U) ∧ (∀ w ∈ tbN, va_Nw (.methodLinkNest w.1 w.2.1 w.2.2.1 w.2.2.2) U) ∧ Wsts A U H
/-- the world of a state -/
def gP (G : GG) (A : Nat → Prop) (σ : St) (U : State) : Prop := Wenv G A U U.heap ∧ Wcel G σ U.heap
theorem Wenv.go {G : GG} {A : Nat → Prop} {s U : State} {H : Heap} {locs : List Loc} (hE : Wenv G A s s.heap) (hS : va_S A s.heap H locs) (hW : s.WarmedH U.vm) (hU : U.heap = H) : Wenv G A U U.heap := by
  obtain ⟨h1, h2, h3, h4, h5⟩ := hE
  have hq : ∀ a : Nat, a < s.heap.size → ¬ A a → U.heap[a]? = s.heap[a]? := fun a g1 g2 => by rw [hU]; exact hS.2.1 a g1 g2
  refine ⟨va_K.moved hW.alike h1, h2, fun w hw => ?_, fun w hw => va_Nw.warmM hW (h4 w hw), ?_⟩
  · exact word_at hW (Or.inl (tbL_ok w hw)) (h3 w hw)
  · obtain ⟨g1, g2, g3, g4, g5, g6, g7⟩ := h5
    exact ⟨g1.kept hW.alike hq, g2.kept hW.alike hq, g3.kept hW.alike hq, g4.kept hW.alike hq, g5.kept hW.alike hq, g6.kept hW.alike hq, g7.kept hW.alike hq⟩
theorem gP_call {G : GG} {A : Nat → Prop} {σ : St} {U : State} {a : Array Value} {g : JFrame} {mk : MethodId} (h : gP G A σ U) : gP G A σ (U.calling g mk a) := by
  obtain ⟨⟨h1, h2, h3, h4, g1, g2, g3, g4, g5, g6, g7⟩, h6⟩ := h
  have hq : ∀ a : Nat, a < U.heap.size → ¬ A a → U.heap[a]? = U.heap[a]? := fun _ _ _ => rfl
  have al : U.vm.Alike (U.calling g mk a).vm := Vm.Alike.refl U.vm
  refine ⟨⟨va_K.moved al h1, h2, fun w hw => ?_, fun w hw => ?_, ?_⟩, h6⟩
  · exact va_Nw.same (by have := tbL_ok w hw; simp only [Bool.and_eq_true] at this; exact this.1) (rfl : U.vm = (U.calling g mk a).vm) (h3 w hw)
  · exact va_Nw.same rfl (rfl : U.vm = (U.calling g mk a).vm) (h4 w hw)
  · exact ⟨g1.kept al hq, g2.kept al hq, g3.kept al hq, g4.kept al hq, g5.kept al hq, g6.kept al hq, g7.kept al hq⟩
theorem Wenv.D {G : GG} {A : Nat → Prop} {U : State} {H : Heap} (h : Wenv G A U H) (σ : St) : va_D A (wl G σ) := wl_D h.2.1
theorem Wenv.A {G : GG} {A : Nat → Prop} {U : State} {H : Heap} (h : Wenv G A U H) {k i : Nat} (hp : i < pCnt k) : A (G.1 k i) := by
  obtain ⟨q, -, hq⟩ := wl_get G (fun _ _ _ => 0) hp
  exact h.2.1.2 q _ hq
end
section
/-! ROWS over the world: an instruction each -/
/-- what a method's body has at its entry -/
def Ctx (p : Program) (s : State) (m : MethodId) (meth : Method) (c : Code) (cc : ByteArray) (nL : Nat) (ret : Option FieldType) (own : String) (args : Array Value) (ws : List Cond) : Prop :=
  p.tables.exec = Jvm.exec ∧ c.code = cc ∧ c.maxLocals = nL ∧ meth.sig.returnType = ret ∧ s.vm.findClass own = some m.cls ∧ meth.locks = false ∧ (∀ w ∈ ws, w.before args s = true)
/-- contracts: over σ, args av; the answer and the new numbers are in post; only cells of A change, none is made -/
def MI (l : Launch) (y : MethodName) (ws : List Cond) (fr lo : Nat) (G : GG) (A : Nat → Prop) (σ : St) (av : List Value) (post : Int32 → St → Prop) : Prop :=
  Met l y ws { frames := fr, cells := 0, slots := 0, locals := lo } (va_Pc av (gP G A σ)) (va_Qi post (fun τ t => gP G A τ t) A) 0 0 A
def MV (l : Launch) (y : MethodName) (ws : List Cond) (fr lo : Nat) (G : GG) (A : Nat → Prop) (σ : St) (av : List Value) (post : St → Prop) : Prop :=
  Met l y ws { frames := fr, cells := 0, slots := 0, locals := lo } (va_Pc av (gP G A σ)) (va_Qv post (fun τ t => gP G A τ t) A) 0 0 A
theorem MI.on {l : Launch} {y : MethodName} {ws ws' : List Cond} {fr lo nL : Nat} {G : GG} {A : Nat → Prop} {σ : St} {av : List Value} {post : Int32 → St → Prop} {cc : ByteArray} {ret : Option FieldType} (hy : plainName y.cls = true) (hw : ws = Cond.code y cc nL ret :: ws') (hn : (lg_sl av).length ≤ nL)
    (body : ∀ (p : Program) (e : Env) (s : State) (m : MethodId) (args : Array Value) (below : List Frame) (meth : Method) (c : Code) (ls : Array Slot), p.tables.exec = Jvm.exec → c.code = cc → c.maxLocals = nL → meth.sig.returnType = ret → s.vm.findClass y.cls = some m.cls → meth.locks = false → (∀ w ∈ ws, w.before args s = true) → Wenv G A s s.heap → Wcel G σ s.heap → va_S A s.heap s.heap [] → lv_has ls nL (lv_args 0 av) →
      W p l e { frames := fr, cells := 0, slots := 0, locals := lo } s m args below meth c s.heap [] 0 0 (MQ below (va_Qi post (fun τ t => gP G A τ t) A) args s 0 0 A) (F0 m 0 ls [])) : MI l y ws fr lo G A σ av post := by
  refine Met.ofW hy hw ?_
  intro p e s m args below meth c s₁ B hml hv
  obtain ⟨rfl, hE, hC⟩ := hv
  have hl := lv_entry av (n := nL) hn
  rw [lg_entry_eq]
  exact body p e s m _ below meth c _ B.exec B.bytes hml B.returns (findClass_of_methodNamed B.named) B.notSynchronized (atoms_spec (ws := ws) B.pre) hE hC va_S.rf hl
theorem MV.on {l : Launch} {y : MethodName} {ws ws' : List Cond} {fr lo nL : Nat} {G : GG} {A : Nat → Prop} {σ : St} {av : List Value} {post : St → Prop} {cc : ByteArray} {ret : Option FieldType} (hy : plainName y.cls = true) (hw : ws = Cond.code y cc nL ret :: ws') (hn : (lg_sl av).length ≤ nL)
    (body : ∀ (p : Program) (e : Env) (s : State) (m : MethodId) (args : Array Value) (below : List Frame) (meth : Method) (c : Code) (ls : Array Slot), p.tables.exec = Jvm.exec → c.code = cc → c.maxLocals = nL → meth.sig.returnType = ret → s.vm.findClass y.cls = some m.cls → meth.locks = false → (∀ w ∈ ws, w.before args s = true) → Wenv G A s s.heap → Wcel G σ s.heap → va_S A s.heap s.heap [] → lv_has ls nL (lv_args 0 av) →
      W p l e { frames := fr, cells := 0, slots := 0, locals := lo } s m args below meth c s.heap [] 0 0 (MQ below (va_Qv post (fun τ t => gP G A τ t) A) args s 0 0 A) (F0 m 0 ls [])) : MV l y ws fr lo G A σ av post := by
  refine Met.ofW hy hw ?_
  intro p e s m args below meth c s₁ B hml hv
  obtain ⟨rfl, hE, hC⟩ := hv
  have hl := lv_entry av (n := nL) hn
  rw [lg_entry_eq]
  exact body p e s m _ below meth c _ B.exec B.bytes hml B.returns (findClass_of_methodNamed B.named) B.notSynchronized (atoms_spec (ws := ws) B.pre) hE hC va_S.rf hl
section GR
variable {p : Program} {l : Launch} {e : Env} {R : Room} {s : State} {m : MethodId} {args : Array Value} {below : List Frame} {meth : Method} {c : Code} {H : Heap} {locs : List Loc} {cells slots : Nat} {Q : State → Prop}
variable {cc : ByteArray} {pc : Nat} {ls : Array Slot} {rest : List Value} {G : GG} {A : Nat → Prop} {σ : St}
/-- the ends -/
theorem g_iret {post : Int32 → St → Prop} {v : Int32} (hx : p.tables.exec = Jvm.exec) (hb : c.code = cc) (hr : meth.sig.returnType = some .int) (hlk : meth.locks = false) (hE : Wenv G A s s.heap) (hw : Wcel G σ H) (hS : va_S A s.heap H locs) (hdg : decode cc pc = .ok (.ireturn, 1)) (hp : post v σ) :
    W p l e R s m args below meth c H locs 0 0 (MQ below (va_Qi post (fun τ t => gP G A τ t) A) args s 0 0 A) (F0 m pc ls [.int v]) :=
  W.iret hx hb hr (fun t ht hW => ⟨⟨v, σ, rfl, hp, hE.go hS hW ht, by rw [ht]; exact hw⟩, hS.F ht⟩) hS.2.2 hdg hlk
theorem g_vret {post : St → Prop} (hx : p.tables.exec = Jvm.exec) (hb : c.code = cc) (hr : meth.sig.returnType = none) (hlk : meth.locks = false) (hE : Wenv G A s s.heap) (hw : Wcel G σ H) (hS : va_S A s.heap H locs) (hdg : decode cc pc = .ok (.return_, 1)) (hp : post σ) :
    W p l e R s m args below meth c H locs 0 0 (MQ below (va_Qv post (fun τ t => gP G A τ t) A) args s 0 0 A) (F0 m pc ls []) :=
  W.vret hx hb hr (fun t ht hW => ⟨⟨σ, rfl, hp, hE.go hS hW ht, by rw [ht]; exact hw⟩, hS.F ht⟩) hS.2.2 hdg hlk
/-- fields -/
theorem g_get (hx : p.tables.exec = Jvm.exec) (hb : c.code = cc) (hE : Wenv G A s s.heap) (hw : Wcel G σ H) {k i ci f N : Nat} {own C : String} {T : u_T} {index : Nat} {fs : List Value} {v : Value} (hpl : i < pCnt k) (hsh : shape G k i (σ k i) = .inr (ci, fs)) (hc : vwCl[ci]? = some (C, T, N)) (hf : f < N) (hv : fs[f]? = some v) (hin : ∀ w ∈ u_ws C T N, w ∈ tbL) (hown : s.vm.findClass own = some m.cls) (hlink : (Cond.fieldLink own index (T f).1 (T f).2.1 (T f).2.2.1).before args s = true) (hdg : decode cc pc = .ok (.getfield index, 3))
    (kk : W p l e R s m args below meth c H locs cells slots Q (F0 m (pc + 3) ls (v :: rest))) : W p l e R s m args below meth c H locs cells slots Q (F0 m pc ls (.ref (G.1 k i) :: rest)) := by
  obtain ⟨q, -, hq⟩ := wl_get G σ hpl
  exact va_get hx hb (fun w h => va_Nw.use (by have := tbL_ok w h; simp only [Bool.and_eq_true] at this; exact this.1) (hE.2.2.1 w h)) hin hown hE.1 hw.1 q (hq.trans (by rw [hsh])) hc f hf hlink (fun _ h => h) hv hdg kk
theorem g_put (hx : p.tables.exec = Jvm.exec) (hb : c.code = cc) (hE : Wenv G A s s.heap) (hw : Wcel G σ H) (hS : va_S A s.heap H locs) {k i ci f N : Nat} {own C : String} {T : u_T} {index : Nat} {fs : List Value} {v : Int32} {ty : FieldType} (hpl : i < pCnt k) (hsh : shape G k i (σ k i) = .inr (ci, fs)) (hsh2 : shape G k i (upd (σ k i) f v) = .inr (ci, fs.set f (.int v))) (hc : vwCl[ci]? = some (C, T, N)) (hf : f < N) (hfl : f < fs.length) (hfp : f < pLen k) (hk3 : ¬ k = 3) (ty0 : Nat → FieldType) (hty : ∀ k, k < N → parseFieldDescriptor (T k).2.2.1 = some (ty0 k)) (hnm : ∀ a, a < N → ∀ b, b < N → a ≠ b → (T a).2.1 ≠ (T b).2.1) (hin : ∀ w ∈ u_ws C T N, w ∈ tbL) (hown : s.vm.findClass own = some m.cls) (hlink : (Cond.fieldLink own index (T f).1 (T f).2.1 (T f).2.2.1).before args s = true) (hfin : (T f).2.2.2 = false) (hd : parseFieldDescriptor (T f).2.2.1 = some ty) (hn : narrow ty (.int v) = .int v) (hfit : fits ty (.int v) = true) (hdg : decode cc pc = .ok (.putfield index, 3))
    (kk : ∀ (H1 : Heap) (locs1 : List Loc), Wcel G (us σ k i f v) H1 → va_S A s.heap H1 locs1 → W p l e R s m args below meth c H1 locs1 cells slots Q (F0 m (pc + 3) ls rest)) : W p l e R s m args below meth c H locs cells slots Q (F0 m pc ls (.int v :: .ref (G.1 k i) :: rest)) := by
  obtain ⟨q, hq0, hq⟩ := wl_get G σ hpl
  refine va_put hx hb (fun w h => va_Nw.use (by have := tbL_ok w h; simp only [Bool.and_eq_true] at this; exact this.1) (hE.2.2.1 w h)) hin ty0 hty hnm hown hE.1 hw.1 (hE.D σ) hS q (hq.trans (by rw [hsh])) hc f hf hlink (fun _ h => h) hfin hd hn hfit hfl hdg (fun H1 locs1 hP1 hD1 hS1 => kk H1 locs1 ⟨?_, can_us hw.2 hfp (fun e => absurd e hk3)⟩ hS1)
  rw [← hsh2, wl_set G σ hq0] at hP1
  exact hP1
/-- arrays of ints -/
theorem g_ald (hx : p.tables.exec = Jvm.exec) (hb : c.code = cc) (hE : Wenv G A s s.heap) (hw : Wcel G σ H) {k i j n : Nat} (hpl : i < pCnt k) (hsh : shape G k i (σ k i) = .inl (gI G, n, .inl (σ k i))) (hn : n < 2 ^ 31) (hj : j < n) (hdg : decode cc pc = .ok (.iaload, 1))
    (kk : W p l e R s m args below meth c H locs cells slots Q (F0 m (pc + 1) ls (.int (σ k i j) :: rest))) : W p l e R s m args below meth c H locs cells slots Q (F0 m pc ls (.int (nI j) :: .ref (G.1 k i) :: rest)) := by
  obtain ⟨q, -, hq⟩ := wl_get G σ hpl
  refine va_iald hx hb hE.1 hw.1 q 0 (hq.trans (by rw [hsh])) rfl (vp_in_nI hj hn) hdg ?_
  rw [nI_clamp (Nat.lt_trans hj hn)]
  exact kk
theorem g_zald (hx : p.tables.exec = Jvm.exec) (hb : c.code = cc) (hE : Wenv G A s s.heap) (hw : Wcel G σ H) {k i j n : Nat} (hpl : i < pCnt k) (hsh : shape G k i (σ k i) = .inl (gZ G, n, .inl (σ k i))) (hn : n < 2 ^ 31) (hj : j < n) (hdg : decode cc pc = .ok (.baload, 1))
    (kk : W p l e R s m args below meth c H locs cells slots Q (F0 m (pc + 1) ls (.int (σ k i j) :: rest))) : W p l e R s m args below meth c H locs cells slots Q (F0 m pc ls (.int (nI j) :: .ref (G.1 k i) :: rest)) := by
  obtain ⟨q, -, hq⟩ := wl_get G σ hpl
  refine va_zald hx hb hE.1 hw.1 q 2 (hq.trans (by rw [hsh])) rfl (vp_in_nI hj hn) hdg ?_
  rw [nI_clamp (Nat.lt_trans hj hn)]
  exact kk
theorem g_cald (hx : p.tables.exec = Jvm.exec) (hb : c.code = cc) (hE : Wenv G A s s.heap) (hw : Wcel G σ H) {k i j n : Nat} (hpl : i < pCnt k) (hsh : shape G k i (σ k i) = .inl (gC G, n, .inl (σ k i))) (hn : n < 2 ^ 31) (hj : j < n) (hdg : decode cc pc = .ok (.caload, 1))
    (kk : W p l e R s m args below meth c H locs cells slots Q (F0 m (pc + 1) ls (.int (σ k i j) :: rest))) : W p l e R s m args below meth c H locs cells slots Q (F0 m pc ls (.int (nI j) :: .ref (G.1 k i) :: rest)) := by
  obtain ⟨q, -, hq⟩ := wl_get G σ hpl
  refine va_cald hx hb hE.1 hw.1 q 1 (hq.trans (by rw [hsh])) rfl (vp_in_nI hj hn) hdg ?_
  rw [nI_clamp (Nat.lt_trans hj hn)]
  exact kk
/-- the ring's screens -/
theorem g_qald (hx : p.tables.exec = Jvm.exec) (hb : c.code = cc) (hE : Wenv G A s s.heap) (hw : Wcel G σ H) {j : Nat} (hj : j < 4) (hdg : decode cc pc = .ok (.aaload, 1))
    (kk : W p l e R s m args below meth c H locs cells slots Q (F0 m (pc + 1) ls (.ref (G.1 0 (3 + j)) :: rest))) : W p l e R s m args below meth c H locs cells slots Q (F0 m pc ls (.int (nI j) :: .ref (G.1 7 0) :: rest)) := by
  obtain ⟨q, -, hq⟩ := wl_get G σ (k := 7) (i := 0) (by decide)
  refine va_aldq hx hb hE.1 hw.1 q 3 (C := RX3) (f := fun j => some (G.1 0 (3 + j))) (n := 4) hq rfl (vp_in_nI hj (by decide)) hdg ?_
  rw [nI_clamp (by omega)]
  exact kk
theorem g_ast (hx : p.tables.exec = Jvm.exec) (hb : c.code = cc) (hE : Wenv G A s s.heap) (hw : Wcel G σ H) (hS : va_S A s.heap H locs) {k i j n : Nat} {v : Int32} (hpl : i < pCnt k) (hk3 : ¬ k = 3) (hsh : ∀ r, shape G k i r = .inl (gI G, n, .inl r)) (hnp : n = pLen k) (hn : n < 2 ^ 31) (hj : j < n) (hdg : decode cc pc = .ok (.iastore, 1))
    (kk : ∀ (H1 : Heap) (locs1 : List Loc), Wcel G (us σ k i j v) H1 → va_S A s.heap H1 locs1 → W p l e R s m args below meth c H1 locs1 cells slots Q (F0 m (pc + 1) ls rest)) : W p l e R s m args below meth c H locs cells slots Q (F0 m pc ls (.int v :: .int (nI j) :: .ref (G.1 k i) :: rest)) := by
  obtain ⟨q, hq0, hq⟩ := wl_get G σ hpl
  refine va_iast hx hb hE.1 hw.1 (hE.D σ) hS q 0 (hq.trans (by rw [hsh])) rfl (vp_in_nI hj hn) hdg (fun H1 locs1 hP1 hD1 hS1 => kk H1 locs1 ⟨?_, can_us hw.2 (by omega) (fun e => absurd e hk3)⟩ hS1)
  rw [nI_clamp (Nat.lt_trans hj hn), ← hsh, wl_set G σ hq0] at hP1
  exact hP1
theorem g_zast (hx : p.tables.exec = Jvm.exec) (hb : c.code = cc) (hE : Wenv G A s s.heap) (hw : Wcel G σ H) (hS : va_S A s.heap H locs) {k i j n : Nat} {v : Int32} (hpl : i < pCnt k) (hsh : ∀ r, shape G k i r = .inl (gZ G, n, .inl r)) (hnp : n = pLen k) (hn : n < 2 ^ 31) (hj : j < n) (hv : v = 0 ∨ v = 1) (hdg : decode cc pc = .ok (.bastore, 1))
    (kk : ∀ (H1 : Heap) (locs1 : List Loc), Wcel G (us σ k i j v) H1 → va_S A s.heap H1 locs1 → W p l e R s m args below meth c H1 locs1 cells slots Q (F0 m (pc + 1) ls rest)) : W p l e R s m args below meth c H locs cells slots Q (F0 m pc ls (.int v :: .int (nI j) :: .ref (G.1 k i) :: rest)) := by
  obtain ⟨q, hq0, hq⟩ := wl_get G σ hpl
  refine va_zast hx hb hE.1 hw.1 (hE.D σ) hS q 2 (hq.trans (by rw [hsh])) rfl (vp_in_nI hj hn) hdg (fun H1 locs1 hP1 hD1 hS1 => kk H1 locs1 ⟨?_, can_us hw.2 (by omega) (fun _ => hv)⟩ hS1)
  rw [nI_clamp (Nat.lt_trans hj hn), (show vp_nar .boolean v = v by rcases hv with rfl | rfl <;> rfl), ← hsh, wl_set G σ hq0] at hP1
  exact hP1
theorem g_cast (hx : p.tables.exec = Jvm.exec) (hb : c.code = cc) (hE : Wenv G A s s.heap) (hw : Wcel G σ H) (hS : va_S A s.heap H locs) {k i j n : Nat} {v : Int32} (hpl : i < pCnt k) (hk3 : ¬ k = 3) (hsh : ∀ r, shape G k i r = .inl (gC G, n, .inl r)) (hnp : n = pLen k) (hn : n < 2 ^ 31) (hj : j < n) (hv : vp_nar .char v = v) (hdg : decode cc pc = .ok (.castore, 1))
    (kk : ∀ (H1 : Heap) (locs1 : List Loc), Wcel G (us σ k i j v) H1 → va_S A s.heap H1 locs1 → W p l e R s m args below meth c H1 locs1 cells slots Q (F0 m (pc + 1) ls rest)) : W p l e R s m args below meth c H locs cells slots Q (F0 m pc ls (.int v :: .int (nI j) :: .ref (G.1 k i) :: rest)) := by
  obtain ⟨q, hq0, hq⟩ := wl_get G σ hpl
  refine va_cast hx hb hE.1 hw.1 (hE.D σ) hS q 1 (hq.trans (by rw [hsh])) rfl (vp_in_nI hj hn) hdg (fun H1 locs1 hP1 hD1 hS1 => kk H1 locs1 ⟨?_, can_us hw.2 (by omega) (fun e => absurd e hk3)⟩ hS1)
  rw [nI_clamp (Nat.lt_trans hj hn), hv, ← hsh, wl_set G σ hq0] at hP1
  exact hP1
theorem g_len (hx : p.tables.exec = Jvm.exec) (hb : c.code = cc) (hE : Wenv G A s s.heap) (hw : Wcel G σ H) {k i n : Nat} (hpl : i < pCnt k) (hsh : shape G k i (σ k i) = .inl (gI G, n, .inl (σ k i))) (hdg : decode cc pc = .ok (.arraylength, 1))
    (kk : W p l e R s m args below meth c H locs cells slots Q (F0 m (pc + 1) ls (.int (nI n) :: rest))) : W p l e R s m args below meth c H locs cells slots Q (F0 m pc ls (.ref (G.1 k i) :: rest)) := by
  obtain ⟨q, -, hq⟩ := wl_get G σ hpl
  exact va_alen (x := (n, .inl (σ k i))) (v := nI n) hx hb hE.1 hw.1 q 0 (hq.trans (by rw [hsh])) rfl rfl hdg kk
/-- System.arraycopy of whole rows of ints -/
theorem cpy_all {f g : Nat → Int32} {n : Nat} (hf : ∀ j, n ≤ j → f j = 0) (hg : ∀ j, n ≤ j → g j = 0) : va_cpy f g 0 0 n = f := by
  funext j
  by_cases h : j < n
  · rw [pk_cpy_in (Nat.zero_le _) (by omega)]
    congr 1
    omega
  · rw [pk_cpy_out (by omega), hf j (by omega), hg j (by omega)]
theorem g_copy (hx : p.tables.exec = Jvm.exec) (hb : c.code = cc) (hml : c.maxLocals = ls.size) (hE : Wenv G A s s.heap) (hw : Wcel G σ H) (hS : va_S A s.heap H locs) {own : String} {index : Nat} (hown : s.vm.findClass own = some m.cls) (hlink : (Cond.methodLink own index arraycopyName).before args s = true) {k i k1 i1 n n0 n1 : Nat} (hpl : i < pCnt k) (hpl1 : i1 < pCnt k1) (hsh : shape G k i (σ k i) = .inl (gI G, n0, .inl (σ k i))) (hsh1 : ∀ r, shape G k1 i1 r = .inl (gI G, n1, .inl r)) (hk3 : ¬ k1 = 3) (hn0 : n = pLen k) (hn1 : n = pLen k1) (hn : n < 2 ^ 31) (h0 : n ≤ n0) (h1 : n ≤ n1)
    (hframes : 1 ≤ R.frames) (hlocals : (rest.map fun v => v.category).sum + (nativeFrameWords "java/lang/System" "arraycopy" 5 + 11) ≤ R.locals) (hdg : decode cc pc = .ok (.invokestatic index, 3))
    (kk : ∀ (H1 : Heap) (locs1 : List Loc), Wcel G (ur σ k1 i1 (σ k i)) H1 → va_S A s.heap H1 locs1 → W p l e R s m args below meth c H1 locs1 cells slots Q (F0 m (pc + 3) ls rest)) : W p l e R s m args below meth c H locs cells slots Q (F0 m pc ls (.int (nI n) :: .int (nI 0) :: .ref (G.1 k1 i1) :: .int (nI 0) :: .ref (G.1 k i) :: rest)) := by
  obtain ⟨q, -, hq⟩ := wl_get G σ hpl
  obtain ⟨q1, hq10, hq1⟩ := wl_get G σ hpl1
  have hT : ∀ w ∈ tbL, w.before args s = true := fun w h => va_Nw.use (by have := tbL_ok w h; simp only [Bool.and_eq_true] at this; exact this.1) (hE.2.2.1 w h)
  have e0 : (nI 0).toNatClampNeg = 0 := nI_clamp (by decide)
  have en : (nI n).toNatClampNeg = n := nI_clamp hn
  refine va_copyi hx hb hml hown hlink (hT _ (by decide +kernel)) (hT _ (by decide +kernel)) (hT _ (by decide +kernel)) hE.1 hw.1 (hE.D σ) hS q q1 0 0 (hq.trans (by rw [hsh])) (hq1.trans (by rw [hsh1])) rfl rfl rfl (by decide) (by decide) (nI_pos hn) (by rw [e0, en]; omega) (by rw [e0, en]; omega) (fun _ _ => rfl) hframes hlocals hdg (fun H1 locs1 hP1 hD1 hS1 => kk H1 locs1 ⟨?_, can_ur hw.2 (fun j hj => hw.2.1 k i j (by omega)) (fun e => absurd e hk3)⟩ hS1)
  rw [e0, en, cpy_all (fun j hj => hw.2.1 k i j (by omega)) (fun j hj => hw.2.1 k1 i1 j (by omega)), ← hsh1, wl_set G σ hq10] at hP1
  exact hP1
/-- static arrays -/
theorem g_gets (hx : p.tables.exec = Jvm.exec) (hb : c.code = cc) (hS : va_S A s.heap H locs) {C n d own : String} {ty : FieldType} {N index : Nat} {xs : List Int32} (hZ : Wst A s s.heap C n d ty N xs) (hown : s.vm.findClass own = some m.cls) (hlink : (Cond.fieldLink own index C n d).before args s = true) (hdg : decode cc pc = .ok (.getstatic index, 3))
    (kk : ∀ t : Nat, va_T ty t N (fun j => .int (xs.getD j 0)) A s s.heap → W p l e R s m args below meth c H locs cells slots Q (F0 m (pc + 3) ls (.ref t :: rest))) : W p l e R s m args below meth c H locs cells slots Q (F0 m pc ls rest) := by
  obtain ⟨t, h1, h2⟩ := hZ
  exact va_gets hx hb h1 hS hown hlink (fun _ h => h) hdg (kk t h2)
theorem g_tld (hx : p.tables.exec = Jvm.exec) (hb : c.code = cc) (hS : va_S A s.heap H locs) {t N j : Nat} {xs : List Int32} (hT : va_T .int t N (fun j => .int (xs.getD j 0)) A s s.heap) (hN : N < 2 ^ 31) (hj : j < N) (hdg : decode cc pc = .ok (.iaload, 1))
    (kk : W p l e R s m args below meth c H locs cells slots Q (F0 m (pc + 1) ls (.int (xs.getD j 0) :: rest))) : W p l e R s m args below meth c H locs cells slots Q (F0 m pc ls (.int (nI j) :: .ref t :: rest)) :=
  va_ti hx hb hT hS (vp_in_nI hj hN) (by show Value.int (xs.getD (nI j).toNatClampNeg 0) = _; rw [nI_clamp (Nat.lt_trans hj hN)]) hdg kk
theorem g_tcd (hx : p.tables.exec = Jvm.exec) (hb : c.code = cc) (hS : va_S A s.heap H locs) {t N j : Nat} {xs : List Int32} (hT : va_T .char t N (fun j => .int (xs.getD j 0)) A s s.heap) (hN : N < 2 ^ 31) (hj : j < N) (hdg : decode cc pc = .ok (.caload, 1))
    (kk : W p l e R s m args below meth c H locs cells slots Q (F0 m (pc + 1) ls (.int (xs.getD j 0) :: rest))) : W p l e R s m args below meth c H locs cells slots Q (F0 m pc ls (.int (nI j) :: .ref t :: rest)) :=
  va_tc hx hb hT hS (vp_in_nI hj hN) (by show Value.int (xs.getD (nI j).toNatClampNeg 0) = _; rw [nI_clamp (Nat.lt_trans hj hN)]) hdg kk
/-- Math -/
theorem g_max (hx : p.tables.exec = Jvm.exec) (hb : c.code = cc) (hml : c.maxLocals = ls.size) (hE : Wenv G A s s.heap) {own : String} {index : Nat} (hown : s.vm.findClass own = some m.cls) (hlink : (Cond.methodLink own index Lib.Math.max.name).before args s = true) (hR : 1 ≤ R.frames ∧ (rest.map fun v => v.category).sum + 13 ≤ R.locals) (hcs : cells ≤ R.cells ∧ slots ≤ R.slots) {x y : Int32} (hdg : decode cc pc = .ok (.invokestatic index, 3))
    (kk : W p l e R s m args below meth c H locs cells slots Q (F0 m (pc + 3) ls (.int (if x < y then y else x) :: rest))) : W p l e R s m args below meth c H locs cells slots Q (F0 m pc ls (.int y :: .int x :: rest)) := by
  have hT : ∀ w ∈ tbL, w.before args s = true := fun w h => va_Nw.use (by have := tbL_ok w h; simp only [Bool.and_eq_true] at this; exact this.1) (hE.2.2.1 w h)
  exact va_mmax hx hb hml hown hlink (hT _ (by decide +kernel)) (hT _ (by decide +kernel)) (hT _ (by decide +kernel)) hR.1 hR.2 hcs.1 hcs.2 hdg kk
theorem g_min (hx : p.tables.exec = Jvm.exec) (hb : c.code = cc) (hml : c.maxLocals = ls.size) (hE : Wenv G A s s.heap) {own : String} {index : Nat} (hown : s.vm.findClass own = some m.cls) (hlink : (Cond.methodLink own index Lib.Math.min.name).before args s = true) (hR : 1 ≤ R.frames ∧ (rest.map fun v => v.category).sum + 13 ≤ R.locals) (hcs : cells ≤ R.cells ∧ slots ≤ R.slots) {x y : Int32} (hdg : decode cc pc = .ok (.invokestatic index, 3))
    (kk : W p l e R s m args below meth c H locs cells slots Q (F0 m (pc + 3) ls (.int (if y < x then y else x) :: rest))) : W p l e R s m args below meth c H locs cells slots Q (F0 m pc ls (.int y :: .int x :: rest)) := by
  have hT : ∀ w ∈ tbL, w.before args s = true := fun w h => va_Nw.use (by have := tbL_ok w h; simp only [Bool.and_eq_true] at this; exact this.1) (hE.2.2.1 w h)
  exact va_mmin hx hb hml hown hlink (hT _ (by decide +kernel)) (hT _ (by decide +kernel)) (hT _ (by decide +kernel)) hR.1 hR.2 hcs.1 hcs.2 hdg kk
theorem g_abs (hx : p.tables.exec = Jvm.exec) (hb : c.code = cc) (hml : c.maxLocals = ls.size) (hE : Wenv G A s s.heap) {own : String} {index : Nat} (hown : s.vm.findClass own = some m.cls) (hlink : (Cond.methodLink own index Lib.Math.abs.name).before args s = true) (hR : 1 ≤ R.frames ∧ (rest.map fun v => v.category).sum + 13 ≤ R.locals) (hcs : cells ≤ R.cells ∧ slots ≤ R.slots) {x : Int32} (hdg : decode cc pc = .ok (.invokestatic index, 3))
    (kk : W p l e R s m args below meth c H locs cells slots Q (F0 m (pc + 3) ls (.int (if 0 ≤ x then x else 0 - x) :: rest))) : W p l e R s m args below meth c H locs cells slots Q (F0 m pc ls (.int x :: rest)) := by
  have hT : ∀ w ∈ tbL, w.before args s = true := fun w h => va_Nw.use (by have := tbL_ok w h; simp only [Bool.and_eq_true] at this; exact this.1) (hE.2.2.1 w h)
  exact va_mabs hx hb hml hown hlink (hT _ (by decide +kernel)) (hT _ (by decide +kernel)) (hT _ (by decide +kernel)) hR.1 hR.2 hcs.1 hcs.2 hdg kk
end GR
end
section
/-! ROWS: calls, and arithmetic on numbers that aren't negative -/
section GC
variable {p : Program} {l : Launch} {e : Env} {R : Room} {s : State} {m : MethodId} {args : Array Value} {below : List Frame} {meth : Method} {c : Code} {H : Heap} {locs : List Loc} {cells slots : Nat} {Q : State → Prop}
variable {cc bytes : ByteArray} {pc : Nat} {ls : Array Slot} {rest st0 As : List Value} {G : GG} {A : Nat → Prop} {σ : St}
variable {y : MethodName} {ws ws' Ts : List Cond} {fr lo n index nL maxL : Nat} {own C host : String} {ret : Option FieldType} {k i ci : Nat} {fs : List Value} {q : vw_C}
theorem gP_blind {av : List Value} : FrameBlind (va_Pc av (gP G A σ)) := fun _ _ _ _ h => ⟨h.1, gP_call h.2⟩
theorem gP_at {av : List Value} (hE : Wenv G A s s.heap) (hw : Wcel G σ H) (hS : va_S A s.heap H locs) (U : State) (hU : U.heap = H) (hW : s.WarmedH U.vm) : va_Pc av (gP G A σ) av.toArray U := ⟨rfl, hE.go hS hW hU, by rw [hU]; exact hw⟩
theorem g_Vi {post : Int32 → St → Prop} (hx : p.tables.exec = Jvm.exec) (hb : c.code = cc) (hml : c.maxLocals = nL) (hown : s.vm.findClass own = some m.cls) (hts : ∀ w ∈ Ts, w.before args s = true) (hE : Wenv G A s s.heap) (hw : Wcel G σ H) (hS : va_S A s.heap H locs)
    (hG : GoodIn Ts (wsV own index C y ws)) (hM : MI l y ws fr lo G A σ (.ref (G.1 k i) :: As) post) (hwd : ws = Cond.code y bytes maxL ret :: ws') (hd : y.cls = C ∧ y.cls ≠ "java/lang/invoke/MethodHandle" ∧ y.cls ≠ "java/lang/invoke/VarHandle" ∧ (parseMethodDescriptor y.desc).map (fun d => d.parameters.length) = some n) (hR : fr + 1 ≤ R.frames ∧ 8 + (maxL + 11) + lo ≤ R.locals)
    (hpl : i < pCnt k) (hsh : shape G k i (σ k i) = .inr (ci, fs)) (hc : vwCl[ci]? = some q) (hq : q.1 = C) (hn : As.length = n) (hsz : ls.size = nL) (hst : st0 = As.reverse ++ .ref (G.1 k i) :: rest) (hrm : (rest.map fun v => v.category).sum ≤ 8) (hcs : cells ≤ R.cells ∧ slots ≤ R.slots) (hdg : decode cc pc = .ok (.invokevirtual index, 3))
    (kk : ∀ (r : Int32) (τ : St) (H1 : Heap) (locs1 : List Loc), post r τ → Wcel G τ H1 → va_S A s.heap H1 locs1 → W p l e R s m args below meth c H1 locs1 cells slots Q (F0 m (pc + 3) ls (.int r :: rest))) : W p l e R s m args below meth c H locs cells slots Q (F0 m pc ls st0) := by
  obtain ⟨q0, -, hq0⟩ := wl_get G σ hpl
  subst hq
  refine va_calli (va_runV (As := As) (rest := rest) ⟨hx, hb, hml, hown, hts⟩ hM (cwV n hts hG hwd rfl rfl hd hR) ⟨gP_blind, va_recv hE.1 hw.1 hc (hq0.trans (by rw [hsh])), gP_at hE hw hS⟩ rfl hn hsz hst (lv_room hrm) hdg hcs) hS (fun _ _ h => h) (fun _ h => h) (fun r τ t H1 locs1 ht hvm hp hB hz1 hk1 hS1 => ?_)
  rw [gP, ht] at hB
  exact kk r τ H1 locs1 hp hB.2 hS1
theorem g_Vv {post : St → Prop} (hx : p.tables.exec = Jvm.exec) (hb : c.code = cc) (hml : c.maxLocals = nL) (hown : s.vm.findClass own = some m.cls) (hts : ∀ w ∈ Ts, w.before args s = true) (hE : Wenv G A s s.heap) (hw : Wcel G σ H) (hS : va_S A s.heap H locs)
    (hG : GoodIn Ts (wsV own index C y ws)) (hM : MV l y ws fr lo G A σ (.ref (G.1 k i) :: As) post) (hwd : ws = Cond.code y bytes maxL ret :: ws') (hd : y.cls = C ∧ y.cls ≠ "java/lang/invoke/MethodHandle" ∧ y.cls ≠ "java/lang/invoke/VarHandle" ∧ (parseMethodDescriptor y.desc).map (fun d => d.parameters.length) = some n) (hR : fr + 1 ≤ R.frames ∧ 8 + (maxL + 11) + lo ≤ R.locals)
    (hpl : i < pCnt k) (hsh : shape G k i (σ k i) = .inr (ci, fs)) (hc : vwCl[ci]? = some q) (hq : q.1 = C) (hn : As.length = n) (hsz : ls.size = nL) (hst : st0 = As.reverse ++ .ref (G.1 k i) :: rest) (hrm : (rest.map fun v => v.category).sum ≤ 8) (hcs : cells ≤ R.cells ∧ slots ≤ R.slots) (hdg : decode cc pc = .ok (.invokevirtual index, 3))
    (kk : ∀ (τ : St) (H1 : Heap) (locs1 : List Loc), post τ → Wcel G τ H1 → va_S A s.heap H1 locs1 → W p l e R s m args below meth c H1 locs1 cells slots Q (F0 m (pc + 3) ls rest)) : W p l e R s m args below meth c H locs cells slots Q (F0 m pc ls st0) := by
  obtain ⟨q0, -, hq0⟩ := wl_get G σ hpl
  subst hq
  refine va_callv (va_runV (As := As) (rest := rest) ⟨hx, hb, hml, hown, hts⟩ hM (cwV n hts hG hwd rfl rfl hd hR) ⟨gP_blind, va_recv hE.1 hw.1 hc (hq0.trans (by rw [hsh])), gP_at hE hw hS⟩ rfl hn hsz hst (lv_room hrm) hdg hcs) hS (fun _ _ h => h) (fun _ h => h) (fun τ t H1 locs1 ht hvm hp hB hz1 hk1 hS1 => ?_)
  rw [gP, ht] at hB
  exact kk τ H1 locs1 hp hB.2 hS1
theorem g_Si {post : Int32 → St → Prop} (hx : p.tables.exec = Jvm.exec) (hb : c.code = cc) (hml : c.maxLocals = nL) (hown : s.vm.findClass own = some m.cls) (hts : ∀ w ∈ Ts, w.before args s = true) (hE : Wenv G A s s.heap) (hw : Wcel G σ H) (hS : va_S A s.heap H locs)
    (hG : GoodIn Ts (va_wsS own index y ws)) (hM : MI l y ws fr lo G A σ As post) (hwd : ws = Cond.code y bytes maxL ret :: ws') (hd : y.cls ≠ "java/lang/invoke/MethodHandle" ∧ y.cls ≠ "java/lang/invoke/VarHandle" ∧ (parseMethodDescriptor y.desc).map (fun d => d.parameters.length) = some n) (hR : fr + 1 ≤ R.frames ∧ 8 + (maxL + 11) + lo ≤ R.locals)
    (hn : As.length = n) (hsz : ls.size = nL) (hst : st0 = As.reverse ++ rest) (hrm : (rest.map fun v => v.category).sum ≤ 8) (hcs : cells ≤ R.cells ∧ slots ≤ R.slots) (hdg : decode cc pc = .ok (.invokestatic index, 3))
    (kk : ∀ (r : Int32) (τ : St) (H1 : Heap) (locs1 : List Loc), post r τ → Wcel G τ H1 → va_S A s.heap H1 locs1 → W p l e R s m args below meth c H1 locs1 cells slots Q (F0 m (pc + 3) ls (.int r :: rest))) : W p l e R s m args below meth c H locs cells slots Q (F0 m pc ls st0) := by
  refine va_calli (va_runS (As := As) (rest := rest) ⟨hx, hb, hml, hown, hts⟩ hM (va_cwS n hts hG hwd rfl rfl hd hR) ⟨gP_blind, gP_at hE hw hS⟩ rfl hn hsz hst (lv_room hrm) hdg hcs) hS (fun _ _ h => h) (fun _ h => h) (fun r τ t H1 locs1 ht hvm hp hB hz1 hk1 hS1 => ?_)
  rw [gP, ht] at hB
  exact kk r τ H1 locs1 hp hB.2 hS1
theorem g_SNi {post : Int32 → St → Prop} (hx : p.tables.exec = Jvm.exec) (hb : c.code = cc) (hml : c.maxLocals = nL) (hown : s.vm.findClass own = some m.cls) (hts : ∀ w ∈ Ts, w.before args s = true) (hE : Wenv G A s s.heap) (hw : Wcel G σ H) (hS : va_S A s.heap H locs)
    (hG : GoodIn Ts ws) (hin : (own, index, y, host) ∈ tbN) (hini : (Cond.initialized y.cls).before args s = true) (hstat : (Cond.static y).before args s = true) (hM : MI l y ws fr lo G A σ As post) (hwd : ws = Cond.code y bytes maxL ret :: ws') (hd : y.cls ≠ "java/lang/invoke/MethodHandle" ∧ y.cls ≠ "java/lang/invoke/VarHandle" ∧ (parseMethodDescriptor y.desc).map (fun d => d.parameters.length) = some n) (hR : fr + 1 ≤ R.frames ∧ 8 + (maxL + 11) + lo ≤ R.locals)
    (hn : As.length = n) (hsz : ls.size = nL) (hst : st0 = As.reverse ++ rest) (hrm : (rest.map fun v => v.category).sum ≤ 8) (hcs : cells ≤ R.cells ∧ slots ≤ R.slots) (hdg : decode cc pc = .ok (.invokestatic index, 3))
    (kk : ∀ (r : Int32) (τ : St) (H1 : Heap) (locs1 : List Loc), post r τ → Wcel G τ H1 → va_S A s.heap H1 locs1 → W p l e R s m args below meth c H1 locs1 cells slots Q (F0 m (pc + 3) ls (.int r :: rest))) : W p l e R s m args below meth c H locs cells slots Q (F0 m pc ls st0) := by
  refine va_calli (va_runSN (As := As) (rest := rest) ⟨hx, hb, hml, hown, hts⟩ hM ⟨va_cnB n hts hG hwd rfl rfl (hE.2.2.2.1 _ hin) hini hd hR, hstat, trivial⟩ ⟨gP_blind, gP_at hE hw hS⟩ rfl hn hsz hst (lv_room hrm) hdg hcs) hS (fun _ _ h => h) (fun _ h => h) (fun r τ t H1 locs1 ht hvm hp hB hz1 hk1 hS1 => ?_)
  rw [gP, ht] at hB
  exact kk r τ H1 locs1 hp hB.2 hS1
end GC
section GN
variable {p : Program} {l : Launch} {e : Env} {R : Room} {s : State} {m : MethodId} {args : Array Value} {below : List Frame} {meth : Method} {c : Code} {H : Heap} {locs : List Loc} {cells slots : Nat} {Q : State → Prop}
variable {cc : ByteArray} {pc : Nat} {ls : Array Slot} {rest : List Value} {a b : Nat} {off : Int} {tgt : Nat}
theorem n_iadd (hx : p.tables.exec = Jvm.exec) (hb : c.code = cc) (hdg : decode cc pc = .ok (.iadd, 1)) (kk : W p l e R s m args below meth c H locs cells slots Q (F0 m (pc + 1) ls (.int (nI (a + b)) :: rest))) : W p l e R s m args below meth c H locs cells slots Q (F0 m pc ls (.int (nI b) :: .int (nI a) :: rest)) := lv_iadd hx hb hdg (by rw [nI_add]; exact kk)
theorem n_isub (hx : p.tables.exec = Jvm.exec) (hb : c.code = cc) (hdg : decode cc pc = .ok (.isub, 1)) (h : b ≤ a) (kk : W p l e R s m args below meth c H locs cells slots Q (F0 m (pc + 1) ls (.int (nI (a - b)) :: rest))) : W p l e R s m args below meth c H locs cells slots Q (F0 m pc ls (.int (nI b) :: .int (nI a) :: rest)) := lv_isub hx hb hdg (by rw [pk_sub h]; exact kk)
theorem n_imul (hx : p.tables.exec = Jvm.exec) (hb : c.code = cc) (hdg : decode cc pc = .ok (.imul, 1)) (kk : W p l e R s m args below meth c H locs cells slots Q (F0 m (pc + 1) ls (.int (nI (a * b)) :: rest))) : W p l e R s m args below meth c H locs cells slots Q (F0 m pc ls (.int (nI b) :: .int (nI a) :: rest)) := lv_imul hx hb hdg (by rw [pk_mul]; exact kk)
theorem n_idiv (hx : p.tables.exec = Jvm.exec) (hb : c.code = cc) (hdg : decode cc pc = .ok (.idiv, 1)) (ha : a < 2 ^ 31) (h0 : 0 < b) (h1 : b < 2 ^ 31) (kk : W p l e R s m args below meth c H locs cells slots Q (F0 m (pc + 1) ls (.int (nI (a / b)) :: rest))) : W p l e R s m args below meth c H locs cells slots Q (F0 m pc ls (.int (nI b) :: .int (nI a) :: rest)) := lv_idiv hx hb hdg (nI_ne0 h0 h1) (by rw [pk_div ha h0 h1]; exact kk)
theorem n_irem (hx : p.tables.exec = Jvm.exec) (hb : c.code = cc) (hdg : decode cc pc = .ok (.irem, 1)) (ha : a < 2 ^ 31) (h0 : 0 < b) (h1 : b < 2 ^ 31) (kk : W p l e R s m args below meth c H locs cells slots Q (F0 m (pc + 1) ls (.int (nI (a % b)) :: rest))) : W p l e R s m args below meth c H locs cells slots Q (F0 m pc ls (.int (nI b) :: .int (nI a) :: rest)) := lv_irem hx hb hdg (nI_ne0 h0 h1) (by rw [pk_rem ha h0 h1]; exact kk)
theorem n_cmp_ge (hx : p.tables.exec = Jvm.exec) (hb : c.code = cc) (hdg : decode cc pc = .ok (.if_icmp .ge off, 3)) (ht : (pc : Int) + off = (tgt : Int)) (h1 : a < 2 ^ 31) (h2 : b < 2 ^ 31) (kt : b ≤ a → W p l e R s m args below meth c H locs cells slots Q (F0 m tgt ls rest)) (kf : a < b → W p l e R s m args below meth c H locs cells slots Q (F0 m (pc + 3) ls rest)) : W p l e R s m args below meth c H locs cells slots Q (F0 m pc ls (.int (nI b) :: .int (nI a) :: rest)) :=
  lv_icmp_ge hx hb hdg ht (fun h => kt ((nI_leI h2 h1).mp h)) (fun h => kf (Nat.not_le.mp (fun q => h ((nI_leI h2 h1).mpr q))))
theorem n_cmp_lt (hx : p.tables.exec = Jvm.exec) (hb : c.code = cc) (hdg : decode cc pc = .ok (.if_icmp .lt off, 3)) (ht : (pc : Int) + off = (tgt : Int)) (h1 : a < 2 ^ 31) (h2 : b < 2 ^ 31) (kt : a < b → W p l e R s m args below meth c H locs cells slots Q (F0 m tgt ls rest)) (kf : b ≤ a → W p l e R s m args below meth c H locs cells slots Q (F0 m (pc + 3) ls rest)) : W p l e R s m args below meth c H locs cells slots Q (F0 m pc ls (.int (nI b) :: .int (nI a) :: rest)) :=
  lv_icmp_lt hx hb hdg ht (fun h => kt ((nI_ltI h1 h2).mp h)) (fun h => kf (Nat.not_lt.mp (fun q => h ((nI_ltI h1 h2).mpr q))))
theorem n_cmp_gt (hx : p.tables.exec = Jvm.exec) (hb : c.code = cc) (hdg : decode cc pc = .ok (.if_icmp .gt off, 3)) (ht : (pc : Int) + off = (tgt : Int)) (h1 : a < 2 ^ 31) (h2 : b < 2 ^ 31) (kt : b < a → W p l e R s m args below meth c H locs cells slots Q (F0 m tgt ls rest)) (kf : a ≤ b → W p l e R s m args below meth c H locs cells slots Q (F0 m (pc + 3) ls rest)) : W p l e R s m args below meth c H locs cells slots Q (F0 m pc ls (.int (nI b) :: .int (nI a) :: rest)) :=
  lv_icmp_gt hx hb hdg ht (fun h => kt ((nI_ltI h2 h1).mp h)) (fun h => kf (Nat.not_lt.mp (fun q => h ((nI_ltI h2 h1).mpr q))))
theorem n_cmp_le (hx : p.tables.exec = Jvm.exec) (hb : c.code = cc) (hdg : decode cc pc = .ok (.if_icmp .le off, 3)) (ht : (pc : Int) + off = (tgt : Int)) (h1 : a < 2 ^ 31) (h2 : b < 2 ^ 31) (kt : a ≤ b → W p l e R s m args below meth c H locs cells slots Q (F0 m tgt ls rest)) (kf : b < a → W p l e R s m args below meth c H locs cells slots Q (F0 m (pc + 3) ls rest)) : W p l e R s m args below meth c H locs cells slots Q (F0 m pc ls (.int (nI b) :: .int (nI a) :: rest)) :=
  lv_icmp_le hx hb hdg ht (fun h => kt ((nI_leI h1 h2).mp h)) (fun h => kf (Nat.not_le.mp (fun q => h ((nI_leI h1 h2).mpr q))))
theorem n_cmp_eq (hx : p.tables.exec = Jvm.exec) (hb : c.code = cc) (hdg : decode cc pc = .ok (.if_icmp .eq off, 3)) (ht : (pc : Int) + off = (tgt : Int)) (h1 : a < 2 ^ 31) (h2 : b < 2 ^ 31) (kt : a = b → W p l e R s m args below meth c H locs cells slots Q (F0 m tgt ls rest)) (kf : ¬ a = b → W p l e R s m args below meth c H locs cells slots Q (F0 m (pc + 3) ls rest)) : W p l e R s m args below meth c H locs cells slots Q (F0 m pc ls (.int (nI b) :: .int (nI a) :: rest)) :=
  lv_icmp_eq hx hb hdg ht (fun h => kt ((nI_eq h1 h2).mp h)) (fun h => kf (fun q => h ((nI_eq h1 h2).mpr q)))
theorem n_cmp_ne (hx : p.tables.exec = Jvm.exec) (hb : c.code = cc) (hdg : decode cc pc = .ok (.if_icmp .ne off, 3)) (ht : (pc : Int) + off = (tgt : Int)) (h1 : a < 2 ^ 31) (h2 : b < 2 ^ 31) (kt : ¬ a = b → W p l e R s m args below meth c H locs cells slots Q (F0 m tgt ls rest)) (kf : a = b → W p l e R s m args below meth c H locs cells slots Q (F0 m (pc + 3) ls rest)) : W p l e R s m args below meth c H locs cells slots Q (F0 m pc ls (.int (nI b) :: .int (nI a) :: rest)) :=
  lv_icmp_ne hx hb hdg ht (fun h => kt (fun q => h ((nI_eq h1 h2).mpr q))) (fun h => kf ((nI_eq h1 h2).mp h))
theorem n_if_le (hx : p.tables.exec = Jvm.exec) (hb : c.code = cc) (hdg : decode cc pc = .ok (.ifCond .le off, 3)) (ht : (pc : Int) + off = (tgt : Int)) (h1 : a < 2 ^ 31) (kt : a = 0 → W p l e R s m args below meth c H locs cells slots Q (F0 m tgt ls rest)) (kf : 0 < a → W p l e R s m args below meth c H locs cells slots Q (F0 m (pc + 3) ls rest)) : W p l e R s m args below meth c H locs cells slots Q (F0 m pc ls (.int (nI a) :: rest)) :=
  lv_if_le hx hb hdg ht (fun h => kt (Nat.eq_zero_of_not_pos (fun q => nI_nle q h1 h))) (fun h => kf (Nat.pos_of_ne_zero (fun q => h (by rw [q]; decide))))
theorem n_if_eq (hx : p.tables.exec = Jvm.exec) (hb : c.code = cc) (hdg : decode cc pc = .ok (.ifCond .eq off, 3)) (ht : (pc : Int) + off = (tgt : Int)) (h1 : a < 2 ^ 31) (kt : a = 0 → W p l e R s m args below meth c H locs cells slots Q (F0 m tgt ls rest)) (kf : 0 < a → W p l e R s m args below meth c H locs cells slots Q (F0 m (pc + 3) ls rest)) : W p l e R s m args below meth c H locs cells slots Q (F0 m pc ls (.int (nI a) :: rest)) :=
  lv_if_eq hx hb hdg ht (fun h => kt (Nat.eq_zero_of_not_pos (fun q => nI_ne0 q h1 h))) (fun h => kf (Nat.pos_of_ne_zero (fun q => h (by rw [q]; decide))))
theorem n_if_ne (hx : p.tables.exec = Jvm.exec) (hb : c.code = cc) (hdg : decode cc pc = .ok (.ifCond .ne off, 3)) (ht : (pc : Int) + off = (tgt : Int)) (h1 : a < 2 ^ 31) (kt : 0 < a → W p l e R s m args below meth c H locs cells slots Q (F0 m tgt ls rest)) (kf : a = 0 → W p l e R s m args below meth c H locs cells slots Q (F0 m (pc + 3) ls rest)) : W p l e R s m args below meth c H locs cells slots Q (F0 m pc ls (.int (nI a) :: rest)) :=
  lv_if_ne hx hb hdg ht (fun h => kt (Nat.pos_of_ne_zero (fun q => h (by rw [q]; decide)))) (fun h => kf (Nat.eq_zero_of_not_pos (fun q => nI_ne0 q h1 h)))
end GN
section GZ
variable {p : Program} {l : Launch} {e : Env} {R : Room} {s : State} {m : MethodId} {args : Array Value} {below : List Frame} {meth : Method} {c : Code} {H : Heap} {locs : List Loc}
variable {cc : ByteArray} {pc : Nat} {ls : Array Slot} {G : GG} {A : Nat → Prop} {σ : St}
theorem g_zret {post : Int32 → St → Prop} {v : Int32} (hx : p.tables.exec = Jvm.exec) (hb : c.code = cc) (hr : meth.sig.returnType = some .boolean) (hlk : meth.locks = false) (hE : Wenv G A s s.heap) (hw : Wcel G σ H) (hS : va_S A s.heap H locs) (hn : narrow .boolean (.int v) = .int v) (hdg : decode cc pc = .ok (.ireturn, 1)) (hp : post v σ) :
    W p l e R s m args below meth c H locs 0 0 (MQ below (va_Qi post (fun τ t => gP G A τ t) A) args s 0 0 A) (F0 m pc ls [.int v]) :=
  W.zret hx hb hr hn (fun t ht hW => ⟨⟨v, σ, rfl, hp, hE.go hS hW ht, by rw [ht]; exact hw⟩, hS.F ht⟩) hS.2.2 hdg hlk
end GZ
/-- a number below n -/
def inN (x : Int32) (n : Nat) : Prop := ∃ k, k < n ∧ x = nI k
theorem inN_iff {x : Int32} {n : Nat} (hn : n < 2 ^ 31) : inN x n ↔ ¬ x < 0 ∧ ¬ nI n ≤ x := by
  constructor
  · rintro ⟨k, hk, rfl⟩
    exact ⟨nI_pos (by omega), nI_ge hk hn⟩
  · rintro ⟨h1, h2⟩
    rcases pk_ix x hn with h | h | h
    · exact absurd h h1
    · exact absurd h h2
    · exact h
def onP (x y : Int32) : Prop := inN x 24 ∧ inN y 12
theorem onP_iff {x y : Int32} : onP x y ↔ ¬ x < 0 ∧ ¬ nI 24 ≤ x ∧ ¬ y < 0 ∧ ¬ nI 12 ≤ y := by
  unfold onP
  rw [inN_iff (by decide), inN_iff (by decide)]
  exact ⟨fun h => ⟨h.1.1, h.1.2, h.2.1, h.2.2⟩, fun h => ⟨⟨h.1, h.2.1⟩, h.2.2.1, h.2.2.2⟩⟩
/-- a boolean answer -/
def bP (r : Int32) (P : Prop) : Prop := (r = nI 1 ∧ P) ∨ (r = nI 0 ∧ ¬ P)
theorem bP_t {r : Int32} {P : Prop} (h : bP r P) (c : ¬ r = 0) : P := by
  rcases h with h | h
  · exact h.2
  · exact absurd h.1 c
theorem bP_f {r : Int32} {P : Prop} (h : bP r P) (c : r = 0) : ¬ P := by
  rcases h with h | h
  · rw [h.1] at c
    exact absurd c (by decide)
  · exact h.2
theorem bP_n {r : Int32} {P : Prop} (h : bP r P) : narrow .boolean (.int r) = .int r := by
  rcases h with h | h
  · rw [h.1]; rfl
  · rw [h.1]; rfl
theorem bP_if {P : Prop} [Decidable P] : bP (if P then 1 else 0) P := by
  by_cases h : P
  · rw [if_pos h]; exact Or.inl ⟨rfl, h⟩
  · rw [if_neg h]; exact Or.inr ⟨rfl, h⟩
theorem bP_eq {r q : Int32} {P : Prop} (h : bP r P) (h2 : bP q P) : r = q := by
  rcases h with h | h <;> rcases h2 with h2 | h2
  · rw [h.1, h2.1]
  · exact absurd h.2 h2.2
  · exact absurd h2.2 h.2
  · rw [h.1, h2.1]
theorem bP_iff {r : Int32} {P P' : Prop} (e : P ↔ P') (h : bP r P) : bP r P' := by
  rcases h with h | h
  · exact Or.inl ⟨h.1, e.mp h.2⟩
  · exact Or.inr ⟨h.1, fun q => h.2 (e.mpr q)⟩
theorem n_dec {k : Nat} (h : 0 < k) : nI k + Int32.ofInt (-1) = nI (k - 1) := by
  obtain ⟨j, rfl⟩ : ∃ j, k = j + 1 := ⟨k - 1, by omega⟩
  exact pk_m1 j
end
section
/-! ROWS: fields, one by one -/
section GF
variable {p : Program} {l : Launch} {e : Env} {R : Room} {s : State} {m : MethodId} {args : Array Value} {below : List Frame} {meth : Method} {c : Code} {H : Heap} {locs : List Loc} {cells slots : Nat} {Q : State → Prop}
variable {cc : ByteArray} {pc : Nat} {ls : Array Slot} {rest : List Value} {G : GG} {A : Nat → Prop} {σ : St} {own : String} {index : Nat}
theorem tb_X0 : ∀ w ∈ u_ws RX0 TX0 3, w ∈ tbL := by decide +kernel
theorem tb_X1 : ∀ w ∈ u_ws RX1 TX1 4, w ∈ tbL := by decide +kernel
theorem tb_X2 : ∀ w ∈ u_ws RX2 TX2 2, w ∈ tbL := by decide +kernel
theorem tb_X3 : ∀ w ∈ u_ws RX3 TX3 7, w ∈ tbL := by decide +kernel
theorem tb_X4 : ∀ w ∈ u_ws RX4 TX4 5, w ∈ tbL := by decide +kernel
theorem tb_X5 : ∀ w ∈ u_ws RX5 TX5 9, w ∈ tbL := by decide +kernel
theorem tb_X6 : ∀ w ∈ u_ws RX6 TX6 10, w ∈ tbL := by decide +kernel
theorem gf_X0_ring (hx : p.tables.exec = Jvm.exec) (hb : c.code = cc) (hE : Wenv G A s s.heap) (hw : Wcel G σ H) (hpl : 0 < pCnt 6) (hown : s.vm.findClass own = some m.cls) (hlink : (Cond.fieldLink own index "ZonedLight$History" "ring" "[LZonedLight$Screen;").before args s = true) (hdg : decode cc pc = .ok (.getfield index, 3)) (kk : W p l e R s m args below meth c H locs cells slots Q (F0 m (pc + 3) ls (.ref (G.1 7 0) :: rest))) : W p l e R s m args below meth c H locs cells slots Q (F0 m pc ls (.ref (G.1 6 0) :: rest)) := g_get (T := TX0) hx hb hE hw hpl rfl rfl (f := 0) (by decide) rfl tb_X0 hown hlink hdg kk
theorem gf_X0_oldest (hx : p.tables.exec = Jvm.exec) (hb : c.code = cc) (hE : Wenv G A s s.heap) (hw : Wcel G σ H) (hpl : 0 < pCnt 6) (hown : s.vm.findClass own = some m.cls) (hlink : (Cond.fieldLink own index "ZonedLight$History" "oldest" "I").before args s = true) (hdg : decode cc pc = .ok (.getfield index, 3)) (kk : W p l e R s m args below meth c H locs cells slots Q (F0 m (pc + 3) ls (.int (σ 6 0 1) :: rest))) : W p l e R s m args below meth c H locs cells slots Q (F0 m pc ls (.ref (G.1 6 0) :: rest)) := g_get (T := TX0) hx hb hE hw hpl rfl rfl (f := 1) (by decide) rfl tb_X0 hown hlink hdg kk
theorem gp_X0_oldest {v : Int32} (hx : p.tables.exec = Jvm.exec) (hb : c.code = cc) (hE : Wenv G A s s.heap) (hw : Wcel G σ H) (hS : va_S A s.heap H locs) (hpl : 0 < pCnt 6) (hown : s.vm.findClass own = some m.cls) (hlink : (Cond.fieldLink own index "ZonedLight$History" "oldest" "I").before args s = true) (hdg : decode cc pc = .ok (.putfield index, 3)) (kk : ∀ (H1 : Heap) (locs1 : List Loc), Wcel G (us σ 6 0 1 v) H1 → va_S A s.heap H1 locs1 → W p l e R s m args below meth c H1 locs1 cells slots Q (F0 m (pc + 3) ls rest)) : W p l e R s m args below meth c H locs cells slots Q (F0 m pc ls (.int v :: .ref (G.1 6 0) :: rest)) := g_put (T := TX0) (ty := .int) hx hb hE hw hS hpl rfl rfl rfl (f := 1) (by decide) (Nat.le_of_ble_eq_true rfl) (by decide) (by decide) tyX0 tyX0_ok nmX0 tb_X0 hown hlink rfl (by decide +kernel) rfl rfl hdg kk
theorem gf_X0_size (hx : p.tables.exec = Jvm.exec) (hb : c.code = cc) (hE : Wenv G A s s.heap) (hw : Wcel G σ H) (hpl : 0 < pCnt 6) (hown : s.vm.findClass own = some m.cls) (hlink : (Cond.fieldLink own index "ZonedLight$History" "size" "I").before args s = true) (hdg : decode cc pc = .ok (.getfield index, 3)) (kk : W p l e R s m args below meth c H locs cells slots Q (F0 m (pc + 3) ls (.int (σ 6 0 2) :: rest))) : W p l e R s m args below meth c H locs cells slots Q (F0 m pc ls (.ref (G.1 6 0) :: rest)) := g_get (T := TX0) hx hb hE hw hpl rfl rfl (f := 2) (by decide) rfl tb_X0 hown hlink hdg kk
theorem gp_X0_size {v : Int32} (hx : p.tables.exec = Jvm.exec) (hb : c.code = cc) (hE : Wenv G A s s.heap) (hw : Wcel G σ H) (hS : va_S A s.heap H locs) (hpl : 0 < pCnt 6) (hown : s.vm.findClass own = some m.cls) (hlink : (Cond.fieldLink own index "ZonedLight$History" "size" "I").before args s = true) (hdg : decode cc pc = .ok (.putfield index, 3)) (kk : ∀ (H1 : Heap) (locs1 : List Loc), Wcel G (us σ 6 0 2 v) H1 → va_S A s.heap H1 locs1 → W p l e R s m args below meth c H1 locs1 cells slots Q (F0 m (pc + 3) ls rest)) : W p l e R s m args below meth c H locs cells slots Q (F0 m pc ls (.int v :: .ref (G.1 6 0) :: rest)) := g_put (T := TX0) (ty := .int) hx hb hE hw hS hpl rfl rfl rfl (f := 2) (by decide) (Nat.le_of_ble_eq_true rfl) (by decide) (by decide) tyX0 tyX0_ok nmX0 tb_X0 hown hlink rfl (by decide +kernel) rfl rfl hdg kk
theorem gf_X1_characters (hx : p.tables.exec = Jvm.exec) (hb : c.code = cc) (hE : Wenv G A s s.heap) (hw : Wcel G σ H) (hpl : 0 < pCnt 8) (hown : s.vm.findClass own = some m.cls) (hlink : (Cond.fieldLink own index "ZonedLight$PictureText" "characters" "[C").before args s = true) (hdg : decode cc pc = .ok (.getfield index, 3)) (kk : W p l e R s m args below meth c H locs cells slots Q (F0 m (pc + 3) ls (.ref (G.1 9 0) :: rest))) : W p l e R s m args below meth c H locs cells slots Q (F0 m pc ls (.ref (G.1 8 0) :: rest)) := g_get (T := TX1) hx hb hE hw hpl rfl rfl (f := 0) (by decide) rfl tb_X1 hown hlink hdg kk
theorem gf_X1_length (hx : p.tables.exec = Jvm.exec) (hb : c.code = cc) (hE : Wenv G A s s.heap) (hw : Wcel G σ H) (hpl : 0 < pCnt 8) (hown : s.vm.findClass own = some m.cls) (hlink : (Cond.fieldLink own index "ZonedLight$PictureText" "length" "I").before args s = true) (hdg : decode cc pc = .ok (.getfield index, 3)) (kk : W p l e R s m args below meth c H locs cells slots Q (F0 m (pc + 3) ls (.int (σ 8 0 1) :: rest))) : W p l e R s m args below meth c H locs cells slots Q (F0 m pc ls (.ref (G.1 8 0) :: rest)) := g_get (T := TX1) hx hb hE hw hpl rfl rfl (f := 1) (by decide) rfl tb_X1 hown hlink hdg kk
theorem gp_X1_length {v : Int32} (hx : p.tables.exec = Jvm.exec) (hb : c.code = cc) (hE : Wenv G A s s.heap) (hw : Wcel G σ H) (hS : va_S A s.heap H locs) (hpl : 0 < pCnt 8) (hown : s.vm.findClass own = some m.cls) (hlink : (Cond.fieldLink own index "ZonedLight$PictureText" "length" "I").before args s = true) (hdg : decode cc pc = .ok (.putfield index, 3)) (kk : ∀ (H1 : Heap) (locs1 : List Loc), Wcel G (us σ 8 0 1 v) H1 → va_S A s.heap H1 locs1 → W p l e R s m args below meth c H1 locs1 cells slots Q (F0 m (pc + 3) ls rest)) : W p l e R s m args below meth c H locs cells slots Q (F0 m pc ls (.int v :: .ref (G.1 8 0) :: rest)) := g_put (T := TX1) (ty := .int) hx hb hE hw hS hpl rfl rfl rfl (f := 1) (by decide) (Nat.le_of_ble_eq_true rfl) (by decide) (by decide) tyX1 tyX1_ok nmX1 tb_X1 hown hlink rfl (by decide +kernel) rfl rfl hdg kk
theorem gf_X1_numbers (hx : p.tables.exec = Jvm.exec) (hb : c.code = cc) (hE : Wenv G A s s.heap) (hw : Wcel G σ H) (hpl : 0 < pCnt 8) (hown : s.vm.findClass own = some m.cls) (hlink : (Cond.fieldLink own index "ZonedLight$PictureText" "numbers" "[I").before args s = true) (hdg : decode cc pc = .ok (.getfield index, 3)) (kk : W p l e R s m args below meth c H locs cells slots Q (F0 m (pc + 3) ls (.ref (G.1 10 0) :: rest))) : W p l e R s m args below meth c H locs cells slots Q (F0 m pc ls (.ref (G.1 8 0) :: rest)) := g_get (T := TX1) hx hb hE hw hpl rfl rfl (f := 2) (by decide) rfl tb_X1 hown hlink hdg kk
theorem gf_X1_numbersRead (hx : p.tables.exec = Jvm.exec) (hb : c.code = cc) (hE : Wenv G A s s.heap) (hw : Wcel G σ H) (hpl : 0 < pCnt 8) (hown : s.vm.findClass own = some m.cls) (hlink : (Cond.fieldLink own index "ZonedLight$PictureText" "numbersRead" "I").before args s = true) (hdg : decode cc pc = .ok (.getfield index, 3)) (kk : W p l e R s m args below meth c H locs cells slots Q (F0 m (pc + 3) ls (.int (σ 8 0 3) :: rest))) : W p l e R s m args below meth c H locs cells slots Q (F0 m pc ls (.ref (G.1 8 0) :: rest)) := g_get (T := TX1) hx hb hE hw hpl rfl rfl (f := 3) (by decide) rfl tb_X1 hown hlink hdg kk
theorem gp_X1_numbersRead {v : Int32} (hx : p.tables.exec = Jvm.exec) (hb : c.code = cc) (hE : Wenv G A s s.heap) (hw : Wcel G σ H) (hS : va_S A s.heap H locs) (hpl : 0 < pCnt 8) (hown : s.vm.findClass own = some m.cls) (hlink : (Cond.fieldLink own index "ZonedLight$PictureText" "numbersRead" "I").before args s = true) (hdg : decode cc pc = .ok (.putfield index, 3)) (kk : ∀ (H1 : Heap) (locs1 : List Loc), Wcel G (us σ 8 0 3 v) H1 → va_S A s.heap H1 locs1 → W p l e R s m args below meth c H1 locs1 cells slots Q (F0 m (pc + 3) ls rest)) : W p l e R s m args below meth c H locs cells slots Q (F0 m pc ls (.int v :: .ref (G.1 8 0) :: rest)) := g_put (T := TX1) (ty := .int) hx hb hE hw hS hpl rfl rfl rfl (f := 3) (by decide) (Nat.le_of_ble_eq_true rfl) (by decide) (by decide) tyX1 tyX1_ok nmX1 tb_X1 hown hlink rfl (by decide +kernel) rfl rfl hdg kk
theorem gf_X2_level (hx : p.tables.exec = Jvm.exec) (hb : c.code = cc) (hE : Wenv G A s s.heap) (hw : Wcel G σ H) (hpl : 0 < pCnt 11) (hown : s.vm.findClass own = some m.cls) (hlink : (Cond.fieldLink own index "ZonedLight$Plan" "level" "[I").before args s = true) (hdg : decode cc pc = .ok (.getfield index, 3)) (kk : W p l e R s m args below meth c H locs cells slots Q (F0 m (pc + 3) ls (.ref (G.1 12 0) :: rest))) : W p l e R s m args below meth c H locs cells slots Q (F0 m pc ls (.ref (G.1 11 0) :: rest)) := g_get (T := TX2) hx hb hE hw hpl rfl rfl (f := 0) (by decide) rfl tb_X2 hown hlink hdg kk
theorem gf_X2_peak (hx : p.tables.exec = Jvm.exec) (hb : c.code = cc) (hE : Wenv G A s s.heap) (hw : Wcel G σ H) (hpl : 0 < pCnt 11) (hown : s.vm.findClass own = some m.cls) (hlink : (Cond.fieldLink own index "ZonedLight$Plan" "peak" "[I").before args s = true) (hdg : decode cc pc = .ok (.getfield index, 3)) (kk : W p l e R s m args below meth c H locs cells slots Q (F0 m (pc + 3) ls (.ref (G.1 13 0) :: rest))) : W p l e R s m args below meth c H locs cells slots Q (F0 m pc ls (.ref (G.1 11 0) :: rest)) := g_get (T := TX2) hx hb hE hw hpl rfl rfl (f := 1) (by decide) rfl tb_X2 hown hlink hdg kk
theorem gf_X3_asked {i : Nat} (hx : p.tables.exec = Jvm.exec) (hb : c.code = cc) (hE : Wenv G A s s.heap) (hw : Wcel G σ H) (hpl : i < pCnt 0) (hown : s.vm.findClass own = some m.cls) (hlink : (Cond.fieldLink own index "ZonedLight$Screen" "asked" "[I").before args s = true) (hdg : decode cc pc = .ok (.getfield index, 3)) (kk : W p l e R s m args below meth c H locs cells slots Q (F0 m (pc + 3) ls (.ref (G.1 1 i) :: rest))) : W p l e R s m args below meth c H locs cells slots Q (F0 m pc ls (.ref (G.1 0 i) :: rest)) := g_get (T := TX3) hx hb hE hw hpl rfl rfl (f := 0) (by decide) rfl tb_X3 hown hlink hdg kk
theorem gf_X3_level {i : Nat} (hx : p.tables.exec = Jvm.exec) (hb : c.code = cc) (hE : Wenv G A s s.heap) (hw : Wcel G σ H) (hpl : i < pCnt 0) (hown : s.vm.findClass own = some m.cls) (hlink : (Cond.fieldLink own index "ZonedLight$Screen" "level" "[I").before args s = true) (hdg : decode cc pc = .ok (.getfield index, 3)) (kk : W p l e R s m args below meth c H locs cells slots Q (F0 m (pc + 3) ls (.ref (G.1 2 i) :: rest))) : W p l e R s m args below meth c H locs cells slots Q (F0 m pc ls (.ref (G.1 0 i) :: rest)) := g_get (T := TX3) hx hb hE hw hpl rfl rfl (f := 1) (by decide) rfl tb_X3 hown hlink hdg kk
theorem gf_X3_dead {i : Nat} (hx : p.tables.exec = Jvm.exec) (hb : c.code = cc) (hE : Wenv G A s s.heap) (hw : Wcel G σ H) (hpl : i < pCnt 0) (hown : s.vm.findClass own = some m.cls) (hlink : (Cond.fieldLink own index "ZonedLight$Screen" "dead" "[Z").before args s = true) (hdg : decode cc pc = .ok (.getfield index, 3)) (kk : W p l e R s m args below meth c H locs cells slots Q (F0 m (pc + 3) ls (.ref (G.1 3 i) :: rest))) : W p l e R s m args below meth c H locs cells slots Q (F0 m pc ls (.ref (G.1 0 i) :: rest)) := g_get (T := TX3) hx hb hE hw hpl rfl rfl (f := 2) (by decide) rfl tb_X3 hown hlink hdg kk
theorem gf_X3_setting {i : Nat} (hx : p.tables.exec = Jvm.exec) (hb : c.code = cc) (hE : Wenv G A s s.heap) (hw : Wcel G σ H) (hpl : i < pCnt 0) (hown : s.vm.findClass own = some m.cls) (hlink : (Cond.fieldLink own index "ZonedLight$Screen" "setting" "[I").before args s = true) (hdg : decode cc pc = .ok (.getfield index, 3)) (kk : W p l e R s m args below meth c H locs cells slots Q (F0 m (pc + 3) ls (.ref (G.1 4 i) :: rest))) : W p l e R s m args below meth c H locs cells slots Q (F0 m pc ls (.ref (G.1 0 i) :: rest)) := g_get (T := TX3) hx hb hE hw hpl rfl rfl (f := 3) (by decide) rfl tb_X3 hown hlink hdg kk
theorem gf_X3_frames {i : Nat} (hx : p.tables.exec = Jvm.exec) (hb : c.code = cc) (hE : Wenv G A s s.heap) (hw : Wcel G σ H) (hpl : i < pCnt 0) (hown : s.vm.findClass own = some m.cls) (hlink : (Cond.fieldLink own index "ZonedLight$Screen" "frames" "I").before args s = true) (hdg : decode cc pc = .ok (.getfield index, 3)) (kk : W p l e R s m args below meth c H locs cells slots Q (F0 m (pc + 3) ls (.int (σ 0 i 4) :: rest))) : W p l e R s m args below meth c H locs cells slots Q (F0 m pc ls (.ref (G.1 0 i) :: rest)) := g_get (T := TX3) hx hb hE hw hpl rfl rfl (f := 4) (by decide) rfl tb_X3 hown hlink hdg kk
theorem gp_X3_frames {i : Nat} {v : Int32} (hx : p.tables.exec = Jvm.exec) (hb : c.code = cc) (hE : Wenv G A s s.heap) (hw : Wcel G σ H) (hS : va_S A s.heap H locs) (hpl : i < pCnt 0) (hown : s.vm.findClass own = some m.cls) (hlink : (Cond.fieldLink own index "ZonedLight$Screen" "frames" "I").before args s = true) (hdg : decode cc pc = .ok (.putfield index, 3)) (kk : ∀ (H1 : Heap) (locs1 : List Loc), Wcel G (us σ 0 i 4 v) H1 → va_S A s.heap H1 locs1 → W p l e R s m args below meth c H1 locs1 cells slots Q (F0 m (pc + 3) ls rest)) : W p l e R s m args below meth c H locs cells slots Q (F0 m pc ls (.int v :: .ref (G.1 0 i) :: rest)) := g_put (T := TX3) (ty := .int) hx hb hE hw hS hpl rfl rfl rfl (f := 4) (by decide) (Nat.le_of_ble_eq_true rfl) (by decide) (by decide) tyX3 tyX3_ok nmX3 tb_X3 hown hlink rfl (by decide +kernel) rfl rfl hdg kk
theorem gf_X3_flicker {i : Nat} (hx : p.tables.exec = Jvm.exec) (hb : c.code = cc) (hE : Wenv G A s s.heap) (hw : Wcel G σ H) (hpl : i < pCnt 0) (hown : s.vm.findClass own = some m.cls) (hlink : (Cond.fieldLink own index "ZonedLight$Screen" "flicker" "I").before args s = true) (hdg : decode cc pc = .ok (.getfield index, 3)) (kk : W p l e R s m args below meth c H locs cells slots Q (F0 m (pc + 3) ls (.int (σ 0 i 5) :: rest))) : W p l e R s m args below meth c H locs cells slots Q (F0 m pc ls (.ref (G.1 0 i) :: rest)) := g_get (T := TX3) hx hb hE hw hpl rfl rfl (f := 5) (by decide) rfl tb_X3 hown hlink hdg kk
theorem gp_X3_flicker {i : Nat} {v : Int32} (hx : p.tables.exec = Jvm.exec) (hb : c.code = cc) (hE : Wenv G A s s.heap) (hw : Wcel G σ H) (hS : va_S A s.heap H locs) (hpl : i < pCnt 0) (hown : s.vm.findClass own = some m.cls) (hlink : (Cond.fieldLink own index "ZonedLight$Screen" "flicker" "I").before args s = true) (hdg : decode cc pc = .ok (.putfield index, 3)) (kk : ∀ (H1 : Heap) (locs1 : List Loc), Wcel G (us σ 0 i 5 v) H1 → va_S A s.heap H1 locs1 → W p l e R s m args below meth c H1 locs1 cells slots Q (F0 m (pc + 3) ls rest)) : W p l e R s m args below meth c H locs cells slots Q (F0 m pc ls (.int v :: .ref (G.1 0 i) :: rest)) := g_put (T := TX3) (ty := .int) hx hb hE hw hS hpl rfl rfl rfl (f := 5) (by decide) (Nat.le_of_ble_eq_true rfl) (by decide) (by decide) tyX3 tyX3_ok nmX3 tb_X3 hown hlink rfl (by decide +kernel) rfl rfl hdg kk
theorem gf_X3_powerSoFar {i : Nat} (hx : p.tables.exec = Jvm.exec) (hb : c.code = cc) (hE : Wenv G A s s.heap) (hw : Wcel G σ H) (hpl : i < pCnt 0) (hown : s.vm.findClass own = some m.cls) (hlink : (Cond.fieldLink own index "ZonedLight$Screen" "powerSoFar" "I").before args s = true) (hdg : decode cc pc = .ok (.getfield index, 3)) (kk : W p l e R s m args below meth c H locs cells slots Q (F0 m (pc + 3) ls (.int (σ 0 i 6) :: rest))) : W p l e R s m args below meth c H locs cells slots Q (F0 m pc ls (.ref (G.1 0 i) :: rest)) := g_get (T := TX3) hx hb hE hw hpl rfl rfl (f := 6) (by decide) rfl tb_X3 hown hlink hdg kk
theorem gp_X3_powerSoFar {i : Nat} {v : Int32} (hx : p.tables.exec = Jvm.exec) (hb : c.code = cc) (hE : Wenv G A s s.heap) (hw : Wcel G σ H) (hS : va_S A s.heap H locs) (hpl : i < pCnt 0) (hown : s.vm.findClass own = some m.cls) (hlink : (Cond.fieldLink own index "ZonedLight$Screen" "powerSoFar" "I").before args s = true) (hdg : decode cc pc = .ok (.putfield index, 3)) (kk : ∀ (H1 : Heap) (locs1 : List Loc), Wcel G (us σ 0 i 6 v) H1 → va_S A s.heap H1 locs1 → W p l e R s m args below meth c H1 locs1 cells slots Q (F0 m (pc + 3) ls rest)) : W p l e R s m args below meth c H locs cells slots Q (F0 m pc ls (.int v :: .ref (G.1 0 i) :: rest)) := g_put (T := TX3) (ty := .int) hx hb hE hw hS hpl rfl rfl rfl (f := 6) (by decide) (Nat.le_of_ble_eq_true rfl) (by decide) (by decide) tyX3 tyX3_ok nmX3 tb_X3 hown hlink rfl (by decide +kernel) rfl rfl hdg kk
theorem gf_X4_tooDark (hx : p.tables.exec = Jvm.exec) (hb : c.code = cc) (hE : Wenv G A s s.heap) (hw : Wcel G σ H) (hpl : 0 < pCnt 14) (hown : s.vm.findClass own = some m.cls) (hlink : (Cond.fieldLink own index "ZonedLight$Tally" "tooDark" "I").before args s = true) (hdg : decode cc pc = .ok (.getfield index, 3)) (kk : W p l e R s m args below meth c H locs cells slots Q (F0 m (pc + 3) ls (.int (σ 14 0 0) :: rest))) : W p l e R s m args below meth c H locs cells slots Q (F0 m pc ls (.ref (G.1 14 0) :: rest)) := g_get (T := TX4) hx hb hE hw hpl rfl rfl (f := 0) (by decide) rfl tb_X4 hown hlink hdg kk
theorem gp_X4_tooDark {v : Int32} (hx : p.tables.exec = Jvm.exec) (hb : c.code = cc) (hE : Wenv G A s s.heap) (hw : Wcel G σ H) (hS : va_S A s.heap H locs) (hpl : 0 < pCnt 14) (hown : s.vm.findClass own = some m.cls) (hlink : (Cond.fieldLink own index "ZonedLight$Tally" "tooDark" "I").before args s = true) (hdg : decode cc pc = .ok (.putfield index, 3)) (kk : ∀ (H1 : Heap) (locs1 : List Loc), Wcel G (us σ 14 0 0 v) H1 → va_S A s.heap H1 locs1 → W p l e R s m args below meth c H1 locs1 cells slots Q (F0 m (pc + 3) ls rest)) : W p l e R s m args below meth c H locs cells slots Q (F0 m pc ls (.int v :: .ref (G.1 14 0) :: rest)) := g_put (T := TX4) (ty := .int) hx hb hE hw hS hpl rfl rfl rfl (f := 0) (by decide) (Nat.le_of_ble_eq_true rfl) (by decide) (by decide) tyX4 tyX4_ok nmX4 tb_X4 hown hlink rfl (by decide +kernel) rfl rfl hdg kk
theorem gf_X4_tooBright (hx : p.tables.exec = Jvm.exec) (hb : c.code = cc) (hE : Wenv G A s s.heap) (hw : Wcel G σ H) (hpl : 0 < pCnt 14) (hown : s.vm.findClass own = some m.cls) (hlink : (Cond.fieldLink own index "ZonedLight$Tally" "tooBright" "I").before args s = true) (hdg : decode cc pc = .ok (.getfield index, 3)) (kk : W p l e R s m args below meth c H locs cells slots Q (F0 m (pc + 3) ls (.int (σ 14 0 1) :: rest))) : W p l e R s m args below meth c H locs cells slots Q (F0 m pc ls (.ref (G.1 14 0) :: rest)) := g_get (T := TX4) hx hb hE hw hpl rfl rfl (f := 1) (by decide) rfl tb_X4 hown hlink hdg kk
theorem gp_X4_tooBright {v : Int32} (hx : p.tables.exec = Jvm.exec) (hb : c.code = cc) (hE : Wenv G A s s.heap) (hw : Wcel G σ H) (hS : va_S A s.heap H locs) (hpl : 0 < pCnt 14) (hown : s.vm.findClass own = some m.cls) (hlink : (Cond.fieldLink own index "ZonedLight$Tally" "tooBright" "I").before args s = true) (hdg : decode cc pc = .ok (.putfield index, 3)) (kk : ∀ (H1 : Heap) (locs1 : List Loc), Wcel G (us σ 14 0 1 v) H1 → va_S A s.heap H1 locs1 → W p l e R s m args below meth c H1 locs1 cells slots Q (F0 m (pc + 3) ls rest)) : W p l e R s m args below meth c H locs cells slots Q (F0 m pc ls (.int v :: .ref (G.1 14 0) :: rest)) := g_put (T := TX4) (ty := .int) hx hb hE hw hS hpl rfl rfl rfl (f := 1) (by decide) (Nat.le_of_ble_eq_true rfl) (by decide) (by decide) tyX4 tyX4_ok nmX4 tb_X4 hown hlink rfl (by decide +kernel) rfl rfl hdg kk
theorem gf_X4_off (hx : p.tables.exec = Jvm.exec) (hb : c.code = cc) (hE : Wenv G A s s.heap) (hw : Wcel G σ H) (hpl : 0 < pCnt 14) (hown : s.vm.findClass own = some m.cls) (hlink : (Cond.fieldLink own index "ZonedLight$Tally" "off" "I").before args s = true) (hdg : decode cc pc = .ok (.getfield index, 3)) (kk : W p l e R s m args below meth c H locs cells slots Q (F0 m (pc + 3) ls (.int (σ 14 0 2) :: rest))) : W p l e R s m args below meth c H locs cells slots Q (F0 m pc ls (.ref (G.1 14 0) :: rest)) := g_get (T := TX4) hx hb hE hw hpl rfl rfl (f := 2) (by decide) rfl tb_X4 hown hlink hdg kk
theorem gp_X4_off {v : Int32} (hx : p.tables.exec = Jvm.exec) (hb : c.code = cc) (hE : Wenv G A s s.heap) (hw : Wcel G σ H) (hS : va_S A s.heap H locs) (hpl : 0 < pCnt 14) (hown : s.vm.findClass own = some m.cls) (hlink : (Cond.fieldLink own index "ZonedLight$Tally" "off" "I").before args s = true) (hdg : decode cc pc = .ok (.putfield index, 3)) (kk : ∀ (H1 : Heap) (locs1 : List Loc), Wcel G (us σ 14 0 2 v) H1 → va_S A s.heap H1 locs1 → W p l e R s m args below meth c H1 locs1 cells slots Q (F0 m (pc + 3) ls rest)) : W p l e R s m args below meth c H locs cells slots Q (F0 m pc ls (.int v :: .ref (G.1 14 0) :: rest)) := g_put (T := TX4) (ty := .int) hx hb hE hw hS hpl rfl rfl rfl (f := 2) (by decide) (Nat.le_of_ble_eq_true rfl) (by decide) (by decide) tyX4 tyX4_ok nmX4 tb_X4 hown hlink rfl (by decide +kernel) rfl rfl hdg kk
theorem gf_X4_greatestOff (hx : p.tables.exec = Jvm.exec) (hb : c.code = cc) (hE : Wenv G A s s.heap) (hw : Wcel G σ H) (hpl : 0 < pCnt 14) (hown : s.vm.findClass own = some m.cls) (hlink : (Cond.fieldLink own index "ZonedLight$Tally" "greatestOff" "I").before args s = true) (hdg : decode cc pc = .ok (.getfield index, 3)) (kk : W p l e R s m args below meth c H locs cells slots Q (F0 m (pc + 3) ls (.int (σ 14 0 3) :: rest))) : W p l e R s m args below meth c H locs cells slots Q (F0 m pc ls (.ref (G.1 14 0) :: rest)) := g_get (T := TX4) hx hb hE hw hpl rfl rfl (f := 3) (by decide) rfl tb_X4 hown hlink hdg kk
theorem gp_X4_greatestOff {v : Int32} (hx : p.tables.exec = Jvm.exec) (hb : c.code = cc) (hE : Wenv G A s s.heap) (hw : Wcel G σ H) (hS : va_S A s.heap H locs) (hpl : 0 < pCnt 14) (hown : s.vm.findClass own = some m.cls) (hlink : (Cond.fieldLink own index "ZonedLight$Tally" "greatestOff" "I").before args s = true) (hdg : decode cc pc = .ok (.putfield index, 3)) (kk : ∀ (H1 : Heap) (locs1 : List Loc), Wcel G (us σ 14 0 3 v) H1 → va_S A s.heap H1 locs1 → W p l e R s m args below meth c H1 locs1 cells slots Q (F0 m (pc + 3) ls rest)) : W p l e R s m args below meth c H locs cells slots Q (F0 m pc ls (.int v :: .ref (G.1 14 0) :: rest)) := g_put (T := TX4) (ty := .int) hx hb hE hw hS hpl rfl rfl rfl (f := 3) (by decide) (Nat.le_of_ble_eq_true rfl) (by decide) (by decide) tyX4 tyX4_ok nmX4 tb_X4 hown hlink rfl (by decide +kernel) rfl rfl hdg kk
theorem gf_X4_shown (hx : p.tables.exec = Jvm.exec) (hb : c.code = cc) (hE : Wenv G A s s.heap) (hw : Wcel G σ H) (hpl : 0 < pCnt 14) (hown : s.vm.findClass own = some m.cls) (hlink : (Cond.fieldLink own index "ZonedLight$Tally" "shown" "I").before args s = true) (hdg : decode cc pc = .ok (.getfield index, 3)) (kk : W p l e R s m args below meth c H locs cells slots Q (F0 m (pc + 3) ls (.int (σ 14 0 4) :: rest))) : W p l e R s m args below meth c H locs cells slots Q (F0 m pc ls (.ref (G.1 14 0) :: rest)) := g_get (T := TX4) hx hb hE hw hpl rfl rfl (f := 4) (by decide) rfl tb_X4 hown hlink hdg kk
theorem gp_X4_shown {v : Int32} (hx : p.tables.exec = Jvm.exec) (hb : c.code = cc) (hE : Wenv G A s s.heap) (hw : Wcel G σ H) (hS : va_S A s.heap H locs) (hpl : 0 < pCnt 14) (hown : s.vm.findClass own = some m.cls) (hlink : (Cond.fieldLink own index "ZonedLight$Tally" "shown" "I").before args s = true) (hdg : decode cc pc = .ok (.putfield index, 3)) (kk : ∀ (H1 : Heap) (locs1 : List Loc), Wcel G (us σ 14 0 4 v) H1 → va_S A s.heap H1 locs1 → W p l e R s m args below meth c H1 locs1 cells slots Q (F0 m (pc + 3) ls rest)) : W p l e R s m args below meth c H locs cells slots Q (F0 m pc ls (.int v :: .ref (G.1 14 0) :: rest)) := g_put (T := TX4) (ty := .int) hx hb hE hw hS hpl rfl rfl rfl (f := 4) (by decide) (Nat.le_of_ble_eq_true rfl) (by decide) (by decide) tyX4 tyX4_ok nmX4 tb_X4 hown hlink rfl (by decide +kernel) rfl rfl hdg kk
theorem gf_X5_now (hx : p.tables.exec = Jvm.exec) (hb : c.code = cc) (hE : Wenv G A s s.heap) (hw : Wcel G σ H) (hpl : 0 < pCnt 5) (hown : s.vm.findClass own = some m.cls) (hlink : (Cond.fieldLink own index "ZonedLight" "now" "LZonedLight$Screen;").before args s = true) (hdg : decode cc pc = .ok (.getfield index, 3)) (kk : W p l e R s m args below meth c H locs cells slots Q (F0 m (pc + 3) ls (.ref (G.1 0 0) :: rest))) : W p l e R s m args below meth c H locs cells slots Q (F0 m pc ls (.ref (G.1 5 0) :: rest)) := g_get (T := TX5) hx hb hE hw hpl rfl rfl (f := 0) (by decide) rfl tb_X5 hown hlink hdg kk
theorem gf_X5_snapshot (hx : p.tables.exec = Jvm.exec) (hb : c.code = cc) (hE : Wenv G A s s.heap) (hw : Wcel G σ H) (hpl : 0 < pCnt 5) (hown : s.vm.findClass own = some m.cls) (hlink : (Cond.fieldLink own index "ZonedLight" "snapshot" "LZonedLight$Screen;").before args s = true) (hdg : decode cc pc = .ok (.getfield index, 3)) (kk : W p l e R s m args below meth c H locs cells slots Q (F0 m (pc + 3) ls (.ref (G.1 0 1) :: rest))) : W p l e R s m args below meth c H locs cells slots Q (F0 m pc ls (.ref (G.1 5 0) :: rest)) := g_get (T := TX5) hx hb hE hw hpl rfl rfl (f := 1) (by decide) rfl tb_X5 hown hlink hdg kk
theorem gf_X5_hasSnapshot (hx : p.tables.exec = Jvm.exec) (hb : c.code = cc) (hE : Wenv G A s s.heap) (hw : Wcel G σ H) (hpl : 0 < pCnt 5) (hown : s.vm.findClass own = some m.cls) (hlink : (Cond.fieldLink own index "ZonedLight" "hasSnapshot" "Z").before args s = true) (hdg : decode cc pc = .ok (.getfield index, 3)) (kk : W p l e R s m args below meth c H locs cells slots Q (F0 m (pc + 3) ls (.int (σ 5 0 2) :: rest))) : W p l e R s m args below meth c H locs cells slots Q (F0 m pc ls (.ref (G.1 5 0) :: rest)) := g_get (T := TX5) hx hb hE hw hpl rfl rfl (f := 2) (by decide) rfl tb_X5 hown hlink hdg kk
theorem gp_X5_hasSnapshot {v : Int32} (hx : p.tables.exec = Jvm.exec) (hb : c.code = cc) (hE : Wenv G A s s.heap) (hw : Wcel G σ H) (hS : va_S A s.heap H locs) (hpl : 0 < pCnt 5) (hown : s.vm.findClass own = some m.cls) (hlink : (Cond.fieldLink own index "ZonedLight" "hasSnapshot" "Z").before args s = true) (hdg : decode cc pc = .ok (.putfield index, 3)) (hn : narrow .boolean (.int v) = .int v) (hfit : fits .boolean (.int v) = true) (kk : ∀ (H1 : Heap) (locs1 : List Loc), Wcel G (us σ 5 0 2 v) H1 → va_S A s.heap H1 locs1 → W p l e R s m args below meth c H1 locs1 cells slots Q (F0 m (pc + 3) ls rest)) : W p l e R s m args below meth c H locs cells slots Q (F0 m pc ls (.int v :: .ref (G.1 5 0) :: rest)) := g_put (T := TX5) (ty := .boolean) hx hb hE hw hS hpl rfl rfl rfl (f := 2) (by decide) (Nat.le_of_ble_eq_true rfl) (by decide) (by decide) tyX5 tyX5_ok nmX5 tb_X5 hown hlink rfl (by decide +kernel) hn hfit hdg kk
theorem gf_X5_history (hx : p.tables.exec = Jvm.exec) (hb : c.code = cc) (hE : Wenv G A s s.heap) (hw : Wcel G σ H) (hpl : 0 < pCnt 5) (hown : s.vm.findClass own = some m.cls) (hlink : (Cond.fieldLink own index "ZonedLight" "history" "LZonedLight$History;").before args s = true) (hdg : decode cc pc = .ok (.getfield index, 3)) (kk : W p l e R s m args below meth c H locs cells slots Q (F0 m (pc + 3) ls (.ref (G.1 6 0) :: rest))) : W p l e R s m args below meth c H locs cells slots Q (F0 m pc ls (.ref (G.1 5 0) :: rest)) := g_get (T := TX5) hx hb hE hw hpl rfl rfl (f := 3) (by decide) rfl tb_X5 hown hlink hdg kk
theorem gf_X5_text (hx : p.tables.exec = Jvm.exec) (hb : c.code = cc) (hE : Wenv G A s s.heap) (hw : Wcel G σ H) (hpl : 0 < pCnt 5) (hown : s.vm.findClass own = some m.cls) (hlink : (Cond.fieldLink own index "ZonedLight" "text" "LZonedLight$PictureText;").before args s = true) (hdg : decode cc pc = .ok (.getfield index, 3)) (kk : W p l e R s m args below meth c H locs cells slots Q (F0 m (pc + 3) ls (.ref (G.1 8 0) :: rest))) : W p l e R s m args below meth c H locs cells slots Q (F0 m pc ls (.ref (G.1 5 0) :: rest)) := g_get (T := TX5) hx hb hE hw hpl rfl rfl (f := 4) (by decide) rfl tb_X5 hown hlink hdg kk
theorem gf_X5_trial (hx : p.tables.exec = Jvm.exec) (hb : c.code = cc) (hE : Wenv G A s s.heap) (hw : Wcel G σ H) (hpl : 0 < pCnt 5) (hown : s.vm.findClass own = some m.cls) (hlink : (Cond.fieldLink own index "ZonedLight" "trial" "LZonedLight$Screen;").before args s = true) (hdg : decode cc pc = .ok (.getfield index, 3)) (kk : W p l e R s m args below meth c H locs cells slots Q (F0 m (pc + 3) ls (.ref (G.1 0 2) :: rest))) : W p l e R s m args below meth c H locs cells slots Q (F0 m pc ls (.ref (G.1 5 0) :: rest)) := g_get (T := TX5) hx hb hE hw hpl rfl rfl (f := 5) (by decide) rfl tb_X5 hown hlink hdg kk
theorem gf_X5_plan (hx : p.tables.exec = Jvm.exec) (hb : c.code = cc) (hE : Wenv G A s s.heap) (hw : Wcel G σ H) (hpl : 0 < pCnt 5) (hown : s.vm.findClass own = some m.cls) (hlink : (Cond.fieldLink own index "ZonedLight" "plan" "LZonedLight$Plan;").before args s = true) (hdg : decode cc pc = .ok (.getfield index, 3)) (kk : W p l e R s m args below meth c H locs cells slots Q (F0 m (pc + 3) ls (.ref (G.1 11 0) :: rest))) : W p l e R s m args below meth c H locs cells slots Q (F0 m pc ls (.ref (G.1 5 0) :: rest)) := g_get (T := TX5) hx hb hE hw hpl rfl rfl (f := 6) (by decide) rfl tb_X5 hown hlink hdg kk
theorem gf_X5_tally (hx : p.tables.exec = Jvm.exec) (hb : c.code = cc) (hE : Wenv G A s s.heap) (hw : Wcel G σ H) (hpl : 0 < pCnt 5) (hown : s.vm.findClass own = some m.cls) (hlink : (Cond.fieldLink own index "ZonedLight" "tally" "LZonedLight$Tally;").before args s = true) (hdg : decode cc pc = .ok (.getfield index, 3)) (kk : W p l e R s m args below meth c H locs cells slots Q (F0 m (pc + 3) ls (.ref (G.1 14 0) :: rest))) : W p l e R s m args below meth c H locs cells slots Q (F0 m pc ls (.ref (G.1 5 0) :: rest)) := g_get (T := TX5) hx hb hE hw hpl rfl rfl (f := 7) (by decide) rfl tb_X5 hown hlink hdg kk
theorem gf_X5_pictureBefore (hx : p.tables.exec = Jvm.exec) (hb : c.code = cc) (hE : Wenv G A s s.heap) (hw : Wcel G σ H) (hpl : 0 < pCnt 5) (hown : s.vm.findClass own = some m.cls) (hlink : (Cond.fieldLink own index "ZonedLight" "pictureBefore" "[I").before args s = true) (hdg : decode cc pc = .ok (.getfield index, 3)) (kk : W p l e R s m args below meth c H locs cells slots Q (F0 m (pc + 3) ls (.ref (G.1 15 0) :: rest))) : W p l e R s m args below meth c H locs cells slots Q (F0 m pc ls (.ref (G.1 5 0) :: rest)) := g_get (T := TX5) hx hb hE hw hpl rfl rfl (f := 8) (by decide) rfl tb_X5 hown hlink hdg kk
theorem gf_X6_all (hx : p.tables.exec = Jvm.exec) (hb : c.code = cc) (hE : Wenv G A s s.heap) (hw : Wcel G σ H) (hpl : 0 < pCnt 16) (hown : s.vm.findClass own = some m.cls) (hlink : (Cond.fieldLink own index "ZonedLightModel" "all" "[I").before args s = true) (hdg : decode cc pc = .ok (.getfield index, 3)) (kk : W p l e R s m args below meth c H locs cells slots Q (F0 m (pc + 3) ls (.ref (G.1 17 0) :: rest))) : W p l e R s m args below meth c H locs cells slots Q (F0 m pc ls (.ref (G.1 16 0) :: rest)) := g_get (T := TX6) hx hb hE hw hpl rfl rfl (f := 0) (by decide) rfl tb_X6 hown hlink hdg kk
theorem gf_X6_history (hx : p.tables.exec = Jvm.exec) (hb : c.code = cc) (hE : Wenv G A s s.heap) (hw : Wcel G σ H) (hpl : 0 < pCnt 16) (hown : s.vm.findClass own = some m.cls) (hlink : (Cond.fieldLink own index "ZonedLightModel" "history" "[I").before args s = true) (hdg : decode cc pc = .ok (.getfield index, 3)) (kk : W p l e R s m args below meth c H locs cells slots Q (F0 m (pc + 3) ls (.ref (G.1 18 0) :: rest))) : W p l e R s m args below meth c H locs cells slots Q (F0 m pc ls (.ref (G.1 16 0) :: rest)) := g_get (T := TX6) hx hb hE hw hpl rfl rfl (f := 1) (by decide) rfl tb_X6 hown hlink hdg kk
theorem gf_X6_historyLong (hx : p.tables.exec = Jvm.exec) (hb : c.code = cc) (hE : Wenv G A s s.heap) (hw : Wcel G σ H) (hpl : 0 < pCnt 16) (hown : s.vm.findClass own = some m.cls) (hlink : (Cond.fieldLink own index "ZonedLightModel" "historyLong" "I").before args s = true) (hdg : decode cc pc = .ok (.getfield index, 3)) (kk : W p l e R s m args below meth c H locs cells slots Q (F0 m (pc + 3) ls (.int (σ 16 0 2) :: rest))) : W p l e R s m args below meth c H locs cells slots Q (F0 m pc ls (.ref (G.1 16 0) :: rest)) := g_get (T := TX6) hx hb hE hw hpl rfl rfl (f := 2) (by decide) rfl tb_X6 hown hlink hdg kk
theorem gp_X6_historyLong {v : Int32} (hx : p.tables.exec = Jvm.exec) (hb : c.code = cc) (hE : Wenv G A s s.heap) (hw : Wcel G σ H) (hS : va_S A s.heap H locs) (hpl : 0 < pCnt 16) (hown : s.vm.findClass own = some m.cls) (hlink : (Cond.fieldLink own index "ZonedLightModel" "historyLong" "I").before args s = true) (hdg : decode cc pc = .ok (.putfield index, 3)) (kk : ∀ (H1 : Heap) (locs1 : List Loc), Wcel G (us σ 16 0 2 v) H1 → va_S A s.heap H1 locs1 → W p l e R s m args below meth c H1 locs1 cells slots Q (F0 m (pc + 3) ls rest)) : W p l e R s m args below meth c H locs cells slots Q (F0 m pc ls (.int v :: .ref (G.1 16 0) :: rest)) := g_put (T := TX6) (ty := .int) hx hb hE hw hS hpl rfl rfl rfl (f := 2) (by decide) (Nat.le_of_ble_eq_true rfl) (by decide) (by decide) tyX6 tyX6_ok nmX6 tb_X6 hown hlink rfl (by decide +kernel) rfl rfl hdg kk
theorem gf_X6_snapshot (hx : p.tables.exec = Jvm.exec) (hb : c.code = cc) (hE : Wenv G A s s.heap) (hw : Wcel G σ H) (hpl : 0 < pCnt 16) (hown : s.vm.findClass own = some m.cls) (hlink : (Cond.fieldLink own index "ZonedLightModel" "snapshot" "[I").before args s = true) (hdg : decode cc pc = .ok (.getfield index, 3)) (kk : W p l e R s m args below meth c H locs cells slots Q (F0 m (pc + 3) ls (.ref (G.1 19 0) :: rest))) : W p l e R s m args below meth c H locs cells slots Q (F0 m pc ls (.ref (G.1 16 0) :: rest)) := g_get (T := TX6) hx hb hE hw hpl rfl rfl (f := 3) (by decide) rfl tb_X6 hown hlink hdg kk
theorem gf_X6_isKept (hx : p.tables.exec = Jvm.exec) (hb : c.code = cc) (hE : Wenv G A s s.heap) (hw : Wcel G σ H) (hpl : 0 < pCnt 16) (hown : s.vm.findClass own = some m.cls) (hlink : (Cond.fieldLink own index "ZonedLightModel" "isKept" "I").before args s = true) (hdg : decode cc pc = .ok (.getfield index, 3)) (kk : W p l e R s m args below meth c H locs cells slots Q (F0 m (pc + 3) ls (.int (σ 16 0 4) :: rest))) : W p l e R s m args below meth c H locs cells slots Q (F0 m pc ls (.ref (G.1 16 0) :: rest)) := g_get (T := TX6) hx hb hE hw hpl rfl rfl (f := 4) (by decide) rfl tb_X6 hown hlink hdg kk
theorem gp_X6_isKept {v : Int32} (hx : p.tables.exec = Jvm.exec) (hb : c.code = cc) (hE : Wenv G A s s.heap) (hw : Wcel G σ H) (hS : va_S A s.heap H locs) (hpl : 0 < pCnt 16) (hown : s.vm.findClass own = some m.cls) (hlink : (Cond.fieldLink own index "ZonedLightModel" "isKept" "I").before args s = true) (hdg : decode cc pc = .ok (.putfield index, 3)) (kk : ∀ (H1 : Heap) (locs1 : List Loc), Wcel G (us σ 16 0 4 v) H1 → va_S A s.heap H1 locs1 → W p l e R s m args below meth c H1 locs1 cells slots Q (F0 m (pc + 3) ls rest)) : W p l e R s m args below meth c H locs cells slots Q (F0 m pc ls (.int v :: .ref (G.1 16 0) :: rest)) := g_put (T := TX6) (ty := .int) hx hb hE hw hS hpl rfl rfl rfl (f := 4) (by decide) (Nat.le_of_ble_eq_true rfl) (by decide) (by decide) tyX6 tyX6_ok nmX6 tb_X6 hown hlink rfl (by decide +kernel) rfl rfl hdg kk
theorem gf_X6_wanted (hx : p.tables.exec = Jvm.exec) (hb : c.code = cc) (hE : Wenv G A s s.heap) (hw : Wcel G σ H) (hpl : 0 < pCnt 16) (hown : s.vm.findClass own = some m.cls) (hlink : (Cond.fieldLink own index "ZonedLightModel" "wanted" "[I").before args s = true) (hdg : decode cc pc = .ok (.getfield index, 3)) (kk : W p l e R s m args below meth c H locs cells slots Q (F0 m (pc + 3) ls (.ref (G.1 20 0) :: rest))) : W p l e R s m args below meth c H locs cells slots Q (F0 m pc ls (.ref (G.1 16 0) :: rest)) := g_get (T := TX6) hx hb hE hw hpl rfl rfl (f := 5) (by decide) rfl tb_X6 hown hlink hdg kk
theorem gf_X6_text (hx : p.tables.exec = Jvm.exec) (hb : c.code = cc) (hE : Wenv G A s s.heap) (hw : Wcel G σ H) (hpl : 0 < pCnt 16) (hown : s.vm.findClass own = some m.cls) (hlink : (Cond.fieldLink own index "ZonedLightModel" "text" "[I").before args s = true) (hdg : decode cc pc = .ok (.getfield index, 3)) (kk : W p l e R s m args below meth c H locs cells slots Q (F0 m (pc + 3) ls (.ref (G.1 21 0) :: rest))) : W p l e R s m args below meth c H locs cells slots Q (F0 m pc ls (.ref (G.1 16 0) :: rest)) := g_get (T := TX6) hx hb hE hw hpl rfl rfl (f := 6) (by decide) rfl tb_X6 hown hlink hdg kk
theorem gf_X6_textLong (hx : p.tables.exec = Jvm.exec) (hb : c.code = cc) (hE : Wenv G A s s.heap) (hw : Wcel G σ H) (hpl : 0 < pCnt 16) (hown : s.vm.findClass own = some m.cls) (hlink : (Cond.fieldLink own index "ZonedLightModel" "textLong" "I").before args s = true) (hdg : decode cc pc = .ok (.getfield index, 3)) (kk : W p l e R s m args below meth c H locs cells slots Q (F0 m (pc + 3) ls (.int (σ 16 0 7) :: rest))) : W p l e R s m args below meth c H locs cells slots Q (F0 m pc ls (.ref (G.1 16 0) :: rest)) := g_get (T := TX6) hx hb hE hw hpl rfl rfl (f := 7) (by decide) rfl tb_X6 hown hlink hdg kk
theorem gp_X6_textLong {v : Int32} (hx : p.tables.exec = Jvm.exec) (hb : c.code = cc) (hE : Wenv G A s s.heap) (hw : Wcel G σ H) (hS : va_S A s.heap H locs) (hpl : 0 < pCnt 16) (hown : s.vm.findClass own = some m.cls) (hlink : (Cond.fieldLink own index "ZonedLightModel" "textLong" "I").before args s = true) (hdg : decode cc pc = .ok (.putfield index, 3)) (kk : ∀ (H1 : Heap) (locs1 : List Loc), Wcel G (us σ 16 0 7 v) H1 → va_S A s.heap H1 locs1 → W p l e R s m args below meth c H1 locs1 cells slots Q (F0 m (pc + 3) ls rest)) : W p l e R s m args below meth c H locs cells slots Q (F0 m pc ls (.int v :: .ref (G.1 16 0) :: rest)) := g_put (T := TX6) (ty := .int) hx hb hE hw hS hpl rfl rfl rfl (f := 7) (by decide) (Nat.le_of_ble_eq_true rfl) (by decide) (by decide) tyX6 tyX6_ok nmX6 tb_X6 hown hlink rfl (by decide +kernel) rfl rfl hdg kk
theorem gf_X6_spot (hx : p.tables.exec = Jvm.exec) (hb : c.code = cc) (hE : Wenv G A s s.heap) (hw : Wcel G σ H) (hpl : 0 < pCnt 16) (hown : s.vm.findClass own = some m.cls) (hlink : (Cond.fieldLink own index "ZonedLightModel" "spot" "I").before args s = true) (hdg : decode cc pc = .ok (.getfield index, 3)) (kk : W p l e R s m args below meth c H locs cells slots Q (F0 m (pc + 3) ls (.int (σ 16 0 8) :: rest))) : W p l e R s m args below meth c H locs cells slots Q (F0 m pc ls (.ref (G.1 16 0) :: rest)) := g_get (T := TX6) hx hb hE hw hpl rfl rfl (f := 8) (by decide) rfl tb_X6 hown hlink hdg kk
theorem gp_X6_spot {v : Int32} (hx : p.tables.exec = Jvm.exec) (hb : c.code = cc) (hE : Wenv G A s s.heap) (hw : Wcel G σ H) (hS : va_S A s.heap H locs) (hpl : 0 < pCnt 16) (hown : s.vm.findClass own = some m.cls) (hlink : (Cond.fieldLink own index "ZonedLightModel" "spot" "I").before args s = true) (hdg : decode cc pc = .ok (.putfield index, 3)) (kk : ∀ (H1 : Heap) (locs1 : List Loc), Wcel G (us σ 16 0 8 v) H1 → va_S A s.heap H1 locs1 → W p l e R s m args below meth c H1 locs1 cells slots Q (F0 m (pc + 3) ls rest)) : W p l e R s m args below meth c H locs cells slots Q (F0 m pc ls (.int v :: .ref (G.1 16 0) :: rest)) := g_put (T := TX6) (ty := .int) hx hb hE hw hS hpl rfl rfl rfl (f := 8) (by decide) (Nat.le_of_ble_eq_true rfl) (by decide) (by decide) tyX6 tyX6_ok nmX6 tb_X6 hown hlink rfl (by decide +kernel) rfl rfl hdg kk
theorem gf_X6_part (hx : p.tables.exec = Jvm.exec) (hb : c.code = cc) (hE : Wenv G A s s.heap) (hw : Wcel G σ H) (hpl : 0 < pCnt 16) (hown : s.vm.findClass own = some m.cls) (hlink : (Cond.fieldLink own index "ZonedLightModel" "part" "[I").before args s = true) (hdg : decode cc pc = .ok (.getfield index, 3)) (kk : W p l e R s m args below meth c H locs cells slots Q (F0 m (pc + 3) ls (.ref (G.1 22 0) :: rest))) : W p l e R s m args below meth c H locs cells slots Q (F0 m pc ls (.ref (G.1 16 0) :: rest)) := g_get (T := TX6) hx hb hE hw hpl rfl rfl (f := 9) (by decide) rfl tb_X6 hown hlink hdg kk
end GF
end
section
/-! PURE: what both sides compute, on the row of a state: 288 spots, 18 levels, 18 dead, 8 settings, frames, flicker, power -/
def imax (x y : Int32) : Int32 := if x < y then y else x
def imin (x y : Int32) : Int32 := if y < x then y else x
def iabs (x : Int32) : Int32 := if 0 ≤ x then x else 0 - x
def spotN (z w : Nat) : Nat := (z / 6 * 4 + w / 4) * 24 + (z % 6 * 4 + w % 4)
def distN (a b : Nat) : Nat := if a < b then b - a else a - b
def maxN (a b : Nat) : Nat := if a < b then b else a
def apartN (z o : Nat) : Nat := maxN (distN (z % 6) (o % 6)) (distN (z / 6) (o / 6))
theorem spotN_lt {z w : Nat} (hz : z < 18) (hw : w < 16) : spotN z w < 288 := by
  unfold spotN
  omega
theorem apartN_lt {z o : Nat} (hz : z < 18) (ho : o < 18) : apartN z o < 6 := by
  unfold apartN maxN distN
  (repeat' split) <;> omega
theorem apartN_self (z : Nat) : apartN z z = 0 := by
  unfold apartN maxN distN
  (repeat' split) <;> omega
theorem iabs_sub {a b : Nat} (ha : a < 2 ^ 30) (hb : b < 2 ^ 30) : iabs (nI a - nI b) = nI (distN a b) := by
  unfold iabs distN
  by_cases h : a < b
  · rw [if_neg, if_pos h]
    · rw [← pk_sub (Nat.le_of_lt h)]
      apply Int32.toBitVec_inj.1
      show (0#32) - (BitVec.ofNat 32 a - BitVec.ofNat 32 b) = BitVec.ofNat 32 b - BitVec.ofNat 32 a
      rw [BitVec.zero_sub, BitVec.neg_sub, BitVec.add_comm, ← BitVec.sub_eq_add_neg]
    · intro q
      have := pk_sneg hb h
      exact absurd (Int32.lt_iff_toInt_lt.mp this) (by have := Int32.le_iff_toInt_le.mp q; omega)
  · rw [if_pos, if_neg h, pk_sub (Nat.le_of_not_lt h)]
    rw [pk_sub (Nat.le_of_not_lt h)]
    exact nI_pos' (by omega)
theorem imax_nI {a b : Nat} (ha : a < 2 ^ 31) (hb : b < 2 ^ 31) : imax (nI a) (nI b) = nI (maxN a b) := by
  unfold imax maxN
  by_cases h : a < b
  · rw [if_pos (nI_lt h hb), if_pos h]
  · rw [if_neg (nI_nlt (Nat.le_of_not_lt h) ha), if_neg h]
/-- over a zone's spots -/
def peakK (a : Nat → Int32) (z : Nat) : Nat → Int32
  | 0 => 0
  | k + 1 => imax (peakK a z k) (a (spotN z k))
def peakF (a : Nat → Int32) (z : Nat) : Int32 := peakK a z 16
def sumK (a : Nat → Int32) (z : Nat) : Nat → Int32
  | 0 => 0
  | k + 1 => sumK a z k + a (spotN z k)
def meanF (a : Nat → Int32) (z : Nat) : Int32 := sumK a z 16 / 16
def blackK (a : Nat → Int32) (z : Nat) : Nat → Bool
  | 0 => false
  | k + 1 => blackK a z k || decide (a (spotN z k) = 0)
def blackF (a : Nat → Int32) (z : Nat) : Bool := blackK a z 16
/-- light -/
def glowK (a lev : Nat → Int32) (z : Nat) : Nat → Int32
  | 0 => 0
  | k + 1 => if apartN z k < 3 then glowK a lev z k + lev k * a (324 + apartN z k) else glowK a lev z k
def lightV (g : Int32) : Int32 := imin 255 (g / 256)
def lightF (a lev : Nat → Int32) (z : Nat) : Int32 := lightV (glowK a lev z 18)
def levO (a : Nat → Int32) : Nat → Int32 := fun k => a (288 + k)
def leakF (a : Nat → Int32) (light : Int32) : Int32 := light * a 329 / 1000
def rupF (x y : Int32) : Int32 := if 0 < y then (x + y - 1) / y else 0
def glassF (asked light : Int32) : Int32 := imin 255 (rupF (asked * 255) light)
def shownF (a : Nat → Int32) (asked light : Int32) : Int32 := imax (light * glassF asked light / 255) (leakF a light)
def verdF (asked shown : Int32) : Int32 := if shown = asked then 0 else if shown < asked then 1 else 2
def powK (lev : Nat → Int32) : Nat → Int32
  | 0 => 0
  | k + 1 => powK lev k + lev k
def deadK (a : Nat → Int32) : Nat → Int32
  | 0 => 0
  | k + 1 => if a (306 + k) = 0 then deadK a k else deadK a k + 1
/-- what spots show, added up: over the spots of a zone, over the zones -/
def accK (f : Int32 → Nat → Nat → Int32) (z : Nat) (acc : Int32) : Nat → Int32
  | 0 => acc
  | k + 1 => f (accK f z acc k) z k
def accZ (f : Int32 → Nat → Nat → Int32) (acc : Int32) : Nat → Int32
  | 0 => acc
  | z + 1 => accK f z (accZ f acc z) 16
def shownAt (a lev : Nat → Int32) (z w : Nat) : Int32 := shownF a (a (spotN z w)) (lightF a lev z)
def fVerd (a lev : Nat → Int32) (v : Int32) : Int32 → Nat → Nat → Int32 := fun acc z w => if verdF (a (spotN z w)) (shownAt a lev z w) = v then acc + 1 else acc
def fOff (a lev : Nat → Int32) : Int32 → Nat → Nat → Int32 := fun acc z w => acc + iabs (shownAt a lev z w - a (spotN z w))
def fMost (a lev : Nat → Int32) : Int32 → Nat → Nat → Int32 := fun acc z w => imax acc (iabs (shownAt a lev z w - a (spotN z w)))
def fShown (a lev : Nat → Int32) : Int32 → Nat → Nat → Int32 := fun acc z w => acc + shownAt a lev z w
/-- wanted levels -/
def aimV (a : Nat → Int32) (r pk : Int32) (z : Nat) : Int32 := if r = 0 then pk else if r = 1 then (pk + meanF a z) / 2 else meanF a z
def ruleV (a : Nat → Int32) (r pk : Int32) (z : Nat) : Int32 := if 0 < a 324 then imin 255 (aimV a r pk z * 256 / a 324) else 0
def lev0 (a : Nat → Int32) (r : Int32) (z : Nat) : Int32 := if a (306 + z) = 0 then ruleV a r (peakF a z) z else 0
def helpB (a : Nat → Int32) (z o : Nat) : Bool := decide (a (306 + o) = 0) && decide (apartN z o = 1)
def helpK (a : Nat → Int32) (z : Nat) : Nat → Nat
  | 0 => 0
  | k + 1 => if helpB a z k = true then helpK a z k + 1 else helpK a z k
def raiseV (v b : Int32) : Int32 := imin 255 (v + b)
def raiseNK (a : Nat → Int32) (z : Nat) (b : Int32) (w : Nat → Int32) : Nat → Nat → Int32
  | 0 => w
  | k + 1 => if helpB a z k = true then upd (raiseNK a z b w k) k (raiseV (raiseNK a z b w k k) b) else raiseNK a z b w k
def lackV (a w : Nat → Int32) (z : Nat) : Int32 := imax 0 (peakF a z - lightF a w z)
def zoneStep (a w : Nat → Int32) (z : Nat) : Nat → Int32 := if a (306 + z) = 0 then upd w z (raiseV (w z) (rupF (lackV a w z * 256) (a 324))) else raiseNK a z (rupF (lackV a w z * 256) (a 325 * nI (helpK a z 18))) w 18
def roundK (a w : Nat → Int32) : Nat → Nat → Int32
  | 0 => w
  | z + 1 => zoneStep a (roundK a w z) z
def roundsK (a w : Nat → Int32) : Nat → Nat → Int32
  | 0 => w
  | k + 1 => roundK a (roundsK a w k) 18
def lowK (a : Nat → Int32) : Nat → Int32 → Nat
  | 0, _ => 0
  | n + 1, g => if a 330 < leakF a (lightV g) then lowK a n (g - a 324) else n + 1
def lowerV (a w : Nat → Int32) (z : Nat) : Nat → Int32 := if blackF a z = true then upd w z (nI (lowK a (w z).toNatClampNeg (glowK a w z 18))) else w
def lowersK (a w : Nat → Int32) : Nat → Nat → Int32
  | 0 => w
  | z + 1 => lowerV a (lowersK a w z) z
def wantF (a : Nat → Int32) (r : Int32) : Nat → Int32 := lowersK a (roundsK a (fun z => if z < 18 then lev0 a r z else 0) (a 328).toNatClampNeg) 18
/-- a frame -/
def chgF (a w : Nat → Int32) (z : Nat) : Int32 := if a (306 + z) = 0 then imax (-(a 331)) (imin (a 331) (w z - a (288 + z))) else 0
def flickK (a w : Nat → Int32) : Nat → Int32
  | 0 => a 333
  | z + 1 => flickK a w z + iabs (chgF a w z)
def frameF (a w : Nat → Int32) : Nat → Int32 := fun j =>
  if 288 ≤ j ∧ j < 306 then a j + chgF a w (j - 288) else if j = 332 then a 332 + 1 else if j = 333 then flickK a w 18
  else if j = 334 then a 334 + powK (fun k => a (288 + k) + chgF a w k) 18 else a j
def framesK (a w : Nat → Int32) : Nat → Nat → Int32
  | 0 => a
  | k + 1 => frameF (framesK a w k) w
/-- the farthest level -/
def gapK (a w : Nat → Int32) : Nat → Int32
  | 0 => 0
  | z + 1 => imax (gapK a w z) (iabs (w z - a (288 + z)))
def gapF (a : Nat → Int32) : Int32 := gapK a (wantF a (a 327)) 18
/-- a screen's row -/
def scr (σ : St) (s : Nat) : Nat → Int32 := fun j => if j < 288 then σ 1 s j else if j < 306 then σ 2 s (j - 288) else if j < 324 then σ 3 s (j - 306) else if j < 332 then σ 4 s (j - 324) else if j < 335 then σ 0 s (j - 328) else 0
theorem scr_asked {σ : St} {s j : Nat} (h : j < 288) : scr σ s j = σ 1 s j := if_pos h
theorem scr_level {σ : St} {s k : Nat} (h : k < 18) : scr σ s (288 + k) = σ 2 s k := by
  unfold scr
  rw [if_neg (by omega), if_pos (by omega)]
  rw [show 288 + k - 288 = k by omega]
theorem scr_dead {σ : St} {s k : Nat} (h : k < 18) : scr σ s (306 + k) = σ 3 s k := by
  unfold scr
  rw [if_neg (by omega), if_neg (by omega), if_pos (by omega)]
  rw [show 306 + k - 306 = k by omega]
theorem scr_set {σ : St} {s k : Nat} (h : k < 8) : scr σ s (324 + k) = σ 4 s k := by
  unfold scr
  rw [if_neg (by omega), if_neg (by omega), if_neg (by omega), if_pos (by omega)]
  rw [show 324 + k - 324 = k by omega]
theorem scr_fld {σ : St} {s k : Nat} (h1 : 4 ≤ k) (h : k < 7) : scr σ s (328 + k) = σ 0 s k := by
  unfold scr
  rw [if_neg (by omega), if_neg (by omega), if_neg (by omega), if_neg (by omega), if_pos (by omega)]
  rw [show 328 + k - 328 = k by omega]
theorem scr_out {σ : St} {s j : Nat} (h : 335 ≤ j) : scr σ s j = 0 := by
  unfold scr
  rw [if_neg (by omega), if_neg (by omega), if_neg (by omega), if_neg (by omega), if_neg (by omega)]
theorem scr_congr {σ τ : St} {s : Nat} (h : ∀ k, k < 5 → σ k s = τ k s) : scr σ s = scr τ s := by
  funext j
  unfold scr
  rw [h 0 (by omega), h 1 (by omega), h 2 (by omega), h 3 (by omega), h 4 (by omega)]
theorem glowK_congr {a lev lev' : Nat → Int32} {z : Nat} (h : ∀ k, k < 18 → lev k = lev' k) : ∀ k, k ≤ 18 → glowK a lev z k = glowK a lev' z k
  | 0, _ => rfl
  | k + 1, hk => by
    unfold glowK
    rw [glowK_congr h k (by omega), h k (by omega)]
theorem powK_congr {lev lev' : Nat → Int32} (h : ∀ k, k < 18 → lev k = lev' k) : ∀ k, k ≤ 18 → powK lev k = powK lev' k
  | 0, _ => rfl
  | k + 1, hk => by
    unfold powK
    rw [powK_congr h k (by omega), h k (by omega)]
theorem blackK_mono {a : Nat → Int32} {z k : Nat} (h : blackK a z k = true) : ∀ n, blackK a z (k + n) = true
  | 0 => h
  | n + 1 => by
    show (blackK a z (k + n) || _) = true
    rw [blackK_mono h n]
    rfl
theorem us_ap (σ : St) (k i j : Nat) (v : Int32) (k' i' j' : Nat) : us σ k i j v k' i' j' = if k' = k ∧ i' = i ∧ j' = j then v else σ k' i' j' := by
  show (if k' = k ∧ i' = i then upd (σ k i) j v else σ k' i') j' = _
  by_cases h : k' = k ∧ i' = i
  · obtain ⟨rfl, rfl⟩ := h
    rw [if_pos ⟨rfl, rfl⟩]
    by_cases hj : j' = j
    · rw [if_pos ⟨rfl, rfl, hj⟩]
      exact if_pos hj
    · rw [if_neg (fun q => hj q.2.2)]
      exact if_neg hj
  · rw [if_neg h, if_neg (fun q => h ⟨q.1, q.2.1⟩)]
theorem ur_ap (σ : St) (k i : Nat) (r : Nat → Int32) (k' i' j' : Nat) : ur σ k i r k' i' j' = if k' = k ∧ i' = i then r j' else σ k' i' j' := by
  unfold ur
  by_cases h : k' = k ∧ i' = i
  · rw [if_pos h, if_pos h]
  · rw [if_neg h, if_neg h]
theorem St_ext {σ τ : St} (h : ∀ k i j, σ k i j = τ k i j) : σ = τ := funext fun k => funext fun i => funext fun j => h k i j
/-- nothing but screen s changes -/
def eqX (σ τ : St) (s : Nat) : Prop := ∀ k i, ¬ (k < 5 ∧ i = s) → τ k i = σ k i
theorem helpB_iff {a : Nat → Int32} {z o : Nat} : helpB a z o = true ↔ a (306 + o) = 0 ∧ apartN z o = 1 := by
  unfold helpB
  rw [Bool.and_eq_true, decide_eq_true_iff, decide_eq_true_iff]
theorem ur_self {σ : St} {k i : Nat} {r : Nat → Int32} (h : σ k i = r) : ur σ k i r = σ := by
  apply St_ext
  intro k1 i1 j1
  rw [ur_ap]
  split
  · rename_i q
    rw [q.1, q.2, h]
  · rfl
theorem us_self {σ : St} {k i j : Nat} {v : Int32} (h : σ k i j = v) : us σ k i j v = σ := by
  apply St_ext
  intro k1 i1 j1
  rw [us_ap]
  split
  · rename_i q
    rw [q.1, q.2.1, q.2.2, h]
  · rfl
theorem ur_ur {σ : St} {k i : Nat} {r q : Nat → Int32} : ur (ur σ k i r) k i q = ur σ k i q := by
  apply St_ext
  intro k1 i1 j1
  simp only [ur_ap]
  split <;> rfl
theorem us_ur {σ : St} {k i j : Nat} {r : Nat → Int32} {v : Int32} : us (ur σ k i r) k i j v = ur σ k i (upd r j v) := by
  rw [us, ur_same, ur_ur]
theorem us_us {σ : St} {k i j : Nat} {v w : Int32} : us (us σ k i j v) k i j w = us σ k i j w := by
  apply St_ext
  intro k1 i1 j1
  simp only [us_ap]
  split <;> rfl
theorem ur_swap {σ : St} {k i k' i' : Nat} {r q : Nat → Int32} (h : k ≠ k') : ur (ur σ k i r) k' i' q = ur (ur σ k' i' q) k i r := by
  apply St_ext
  intro k1 i1 j1
  simp only [ur_ap]
  (repeat' split) <;> first | rfl | (exfalso; omega)
theorem scr_ur {σ : St} {k i s : Nat} {r : Nat → Int32} (h : 5 ≤ k) : scr (ur σ k i r) s = scr σ s := scr_congr fun k1 h1 => ur_k (by omega)
theorem scr_us {σ : St} {k i j s : Nat} {v : Int32} (h : 5 ≤ k) : scr (us σ k i j v) s = scr σ s := scr_congr fun k1 h1 => us_k (by omega)
/-- a tally's row with one spot more: dark, bright, off, most, shown -/
def tAdd (r : Nat → Int32) (x y : Int32) : Nat → Int32 := fun j =>
  if j = 0 then (if verdF x y = 1 then r 0 + 1 else r 0) else if j = 1 then (if verdF x y = 2 then r 1 + 1 else r 1)
  else if j = 2 then r 2 + iabs (y - x) else if j = 3 then imax (r 3) (iabs (y - x)) else if j = 4 then r 4 + y else r j
def tZ (a lev : Nat → Int32) (z : Nat) (r : Nat → Int32) : Nat → Nat → Int32
  | 0 => r
  | k + 1 => tAdd (tZ a lev z r k) (a (spotN z k)) (shownAt a lev z k)
def tAll (a lev : Nat → Int32) : Nat → Nat → Int32
  | 0 => fun _ => 0
  | z + 1 => tZ a lev z (tAll a lev z) 16
end
section
/-! CONTRACTS, laid by program -/
set_option maxHeartbeats 4000000 in
set_option maxRecDepth 100000 in
/-- ZonedLight.spotAt(II)I -/
theorem c_X5_spotAt (l : Launch) (G : GG) (A : Nat → Prop) (σ : St) (x : Nat) (y : Nat)  : MI l yX5_spotAt wsX5_spotAt 0 0 G A σ [.int (nI x), .int (nI y)] (fun r τ => r = nI (y * 24 + x) ∧ τ = σ) := by
  refine MI.on (by decide) rfl (Nat.le_of_ble_eq_true rfl) (fun pP eE sS mM args below meth cC ls hx hb hml hr hown hlk hts hE hw hS hl => ?_)
  have hl : lv_has ls 2 [(0, .int (nI x)), (1, .int (nI y))] := hl
  refine lv_iload_n hx hb dX5_spotAt_0 rfl (lv_at hl 1 rfl) ?_
  refine lv_bipush (v := nI 24) hx hb dX5_spotAt_1 (by decide) ?_
  refine n_imul hx hb dX5_spotAt_3 ?_
  refine lv_iload_n hx hb dX5_spotAt_4 rfl (lv_at hl 0 rfl) ?_
  refine n_iadd hx hb dX5_spotAt_5 ?_
  refine g_iret hx hb hr hlk hE hw hS dX5_spotAt_6 ?_
  exact ⟨rfl, rfl⟩
set_option maxHeartbeats 4000000 in
set_option maxRecDepth 100000 in
/-- ZonedLight.onScreen(II)Z -/
theorem c_X5_onScreen (l : Launch) (G : GG) (A : Nat → Prop) (σ : St) (x : Int32) (y : Int32)  : MI l yX5_onScreen wsX5_onScreen 0 0 G A σ [.int x, .int y] (fun r τ => bP r (onP x y) ∧ τ = σ) := by
  refine MI.on (by decide) rfl (Nat.le_of_ble_eq_true rfl) (fun pP eE sS mM args below meth cC ls hx hb hml hr hown hlk hts hE hw hS hl => ?_)
  have hl : lv_has ls 2 [(0, .int x), (1, .int y)] := hl
  refine lv_iload_n hx hb dX5_onScreen_0 rfl (lv_at hl 0 rfl) ?_
  refine lv_if_lt (tgt := 24) hx hb dX5_onScreen_1 (by decide) (fun c_1 => ?_) (fun c_1 => ?_)
  · refine lv_iconst (v := nI 0) hx hb dX5_onScreen_24 (by decide) ?_
    refine g_zret hx hb hr hlk hE hw hS rfl dX5_onScreen_25 ?_
    first | exact ⟨Or.inl ⟨rfl, onP_iff.mpr ⟨c_1, c_7, c_11, c_17⟩⟩, rfl⟩ | exact ⟨Or.inr ⟨rfl, fun h => absurd c_1 (onP_iff.mp h).1⟩, rfl⟩ | exact ⟨Or.inr ⟨rfl, fun h => absurd c_7 (onP_iff.mp h).2.1⟩, rfl⟩ | exact ⟨Or.inr ⟨rfl, fun h => absurd c_11 (onP_iff.mp h).2.2.1⟩, rfl⟩ | exact ⟨Or.inr ⟨rfl, fun h => (onP_iff.mp h).2.2.2 c_17⟩, rfl⟩
  · refine lv_iload_n hx hb dX5_onScreen_4 rfl (lv_at hl 0 rfl) ?_
    refine lv_bipush (v := nI 24) hx hb dX5_onScreen_5 (by decide) ?_
    refine lv_icmp_ge (tgt := 24) hx hb dX5_onScreen_7 (by decide) (fun c_7 => ?_) (fun c_7 => ?_)
    · refine lv_iconst (v := nI 0) hx hb dX5_onScreen_24 (by decide) ?_
      refine g_zret hx hb hr hlk hE hw hS rfl dX5_onScreen_25 ?_
      first | exact ⟨Or.inl ⟨rfl, onP_iff.mpr ⟨c_1, c_7, c_11, c_17⟩⟩, rfl⟩ | exact ⟨Or.inr ⟨rfl, fun h => absurd c_1 (onP_iff.mp h).1⟩, rfl⟩ | exact ⟨Or.inr ⟨rfl, fun h => absurd c_7 (onP_iff.mp h).2.1⟩, rfl⟩ | exact ⟨Or.inr ⟨rfl, fun h => absurd c_11 (onP_iff.mp h).2.2.1⟩, rfl⟩ | exact ⟨Or.inr ⟨rfl, fun h => (onP_iff.mp h).2.2.2 c_17⟩, rfl⟩
    · refine lv_iload_n hx hb dX5_onScreen_10 rfl (lv_at hl 1 rfl) ?_
      refine lv_if_lt (tgt := 24) hx hb dX5_onScreen_11 (by decide) (fun c_11 => ?_) (fun c_11 => ?_)
      · refine lv_iconst (v := nI 0) hx hb dX5_onScreen_24 (by decide) ?_
        refine g_zret hx hb hr hlk hE hw hS rfl dX5_onScreen_25 ?_
        first | exact ⟨Or.inl ⟨rfl, onP_iff.mpr ⟨c_1, c_7, c_11, c_17⟩⟩, rfl⟩ | exact ⟨Or.inr ⟨rfl, fun h => absurd c_1 (onP_iff.mp h).1⟩, rfl⟩ | exact ⟨Or.inr ⟨rfl, fun h => absurd c_7 (onP_iff.mp h).2.1⟩, rfl⟩ | exact ⟨Or.inr ⟨rfl, fun h => absurd c_11 (onP_iff.mp h).2.2.1⟩, rfl⟩ | exact ⟨Or.inr ⟨rfl, fun h => (onP_iff.mp h).2.2.2 c_17⟩, rfl⟩
      · refine lv_iload_n hx hb dX5_onScreen_14 rfl (lv_at hl 1 rfl) ?_
        refine lv_bipush (v := nI 12) hx hb dX5_onScreen_15 (by decide) ?_
        refine lv_icmp_ge (tgt := 24) hx hb dX5_onScreen_17 (by decide) (fun c_17 => ?_) (fun c_17 => ?_)
        · refine lv_iconst (v := nI 0) hx hb dX5_onScreen_24 (by decide) ?_
          refine g_zret hx hb hr hlk hE hw hS rfl dX5_onScreen_25 ?_
          first | exact ⟨Or.inl ⟨rfl, onP_iff.mpr ⟨c_1, c_7, c_11, c_17⟩⟩, rfl⟩ | exact ⟨Or.inr ⟨rfl, fun h => absurd c_1 (onP_iff.mp h).1⟩, rfl⟩ | exact ⟨Or.inr ⟨rfl, fun h => absurd c_7 (onP_iff.mp h).2.1⟩, rfl⟩ | exact ⟨Or.inr ⟨rfl, fun h => absurd c_11 (onP_iff.mp h).2.2.1⟩, rfl⟩ | exact ⟨Or.inr ⟨rfl, fun h => (onP_iff.mp h).2.2.2 c_17⟩, rfl⟩
        · refine lv_iconst (v := nI 1) hx hb dX5_onScreen_20 (by decide) ?_
          refine lv_goto (tgt := 25) hx hb dX5_onScreen_21 (by decide) ?_
          refine g_zret hx hb hr hlk hE hw hS rfl dX5_onScreen_25 ?_
          first | exact ⟨Or.inl ⟨rfl, onP_iff.mpr ⟨c_1, c_7, c_11, c_17⟩⟩, rfl⟩ | exact ⟨Or.inr ⟨rfl, fun h => absurd c_1 (onP_iff.mp h).1⟩, rfl⟩ | exact ⟨Or.inr ⟨rfl, fun h => absurd c_7 (onP_iff.mp h).2.1⟩, rfl⟩ | exact ⟨Or.inr ⟨rfl, fun h => absurd c_11 (onP_iff.mp h).2.2.1⟩, rfl⟩ | exact ⟨Or.inr ⟨rfl, fun h => (onP_iff.mp h).2.2.2 c_17⟩, rfl⟩
set_option maxHeartbeats 4000000 in
set_option maxRecDepth 100000 in
/-- ZonedLight.isZone(I)Z -/
theorem c_X5_isZone (l : Launch) (G : GG) (A : Nat → Prop) (σ : St) (z : Int32)  : MI l yX5_isZone wsX5_isZone 0 0 G A σ [.int z] (fun r τ => bP r (inN z 18) ∧ τ = σ) := by
  refine MI.on (by decide) rfl (Nat.le_of_ble_eq_true rfl) (fun pP eE sS mM args below meth cC ls hx hb hml hr hown hlk hts hE hw hS hl => ?_)
  have hl : lv_has ls 1 [(0, .int z)] := hl
  refine lv_iload_n hx hb dX5_isZone_0 rfl (lv_at hl 0 rfl) ?_
  refine lv_if_lt (tgt := 14) hx hb dX5_isZone_1 (by decide) (fun c_1 => ?_) (fun c_1 => ?_)
  · refine lv_iconst (v := nI 0) hx hb dX5_isZone_14 (by decide) ?_
    refine g_zret hx hb hr hlk hE hw hS rfl dX5_isZone_15 ?_
    first | exact ⟨Or.inl ⟨rfl, (inN_iff (by decide)).mpr ⟨c_1, c_7⟩⟩, rfl⟩ | exact ⟨Or.inr ⟨rfl, fun h => absurd c_1 ((inN_iff (by decide)).mp h).1⟩, rfl⟩ | exact ⟨Or.inr ⟨rfl, fun h => ((inN_iff (by decide)).mp h).2 c_7⟩, rfl⟩
  · refine lv_iload_n hx hb dX5_isZone_4 rfl (lv_at hl 0 rfl) ?_
    refine lv_bipush (v := nI 18) hx hb dX5_isZone_5 (by decide) ?_
    refine lv_icmp_ge (tgt := 14) hx hb dX5_isZone_7 (by decide) (fun c_7 => ?_) (fun c_7 => ?_)
    · refine lv_iconst (v := nI 0) hx hb dX5_isZone_14 (by decide) ?_
      refine g_zret hx hb hr hlk hE hw hS rfl dX5_isZone_15 ?_
      first | exact ⟨Or.inl ⟨rfl, (inN_iff (by decide)).mpr ⟨c_1, c_7⟩⟩, rfl⟩ | exact ⟨Or.inr ⟨rfl, fun h => absurd c_1 ((inN_iff (by decide)).mp h).1⟩, rfl⟩ | exact ⟨Or.inr ⟨rfl, fun h => ((inN_iff (by decide)).mp h).2 c_7⟩, rfl⟩
    · refine lv_iconst (v := nI 1) hx hb dX5_isZone_10 (by decide) ?_
      refine lv_goto (tgt := 15) hx hb dX5_isZone_11 (by decide) ?_
      refine g_zret hx hb hr hlk hE hw hS rfl dX5_isZone_15 ?_
      first | exact ⟨Or.inl ⟨rfl, (inN_iff (by decide)).mpr ⟨c_1, c_7⟩⟩, rfl⟩ | exact ⟨Or.inr ⟨rfl, fun h => absurd c_1 ((inN_iff (by decide)).mp h).1⟩, rfl⟩ | exact ⟨Or.inr ⟨rfl, fun h => ((inN_iff (by decide)).mp h).2 c_7⟩, rfl⟩
set_option maxHeartbeats 4000000 in
set_option maxRecDepth 100000 in
/-- ZonedLight.spotOfZone(II)I -/
theorem c_X5_spotOfZone (l : Launch) (G : GG) (A : Nat → Prop) (σ : St) (z : Nat) (w : Nat) (hz : z < 18) (hw2 : w < 16) : MI l yX5_spotOfZone wsX5_spotOfZone 1 21 G A σ [.int (nI z), .int (nI w)] (fun r τ => r = nI (spotN z w) ∧ τ = σ) := by
  refine MI.on (by decide) rfl (Nat.le_of_ble_eq_true rfl) (fun pP eE sS mM args below meth cC ls hx hb hml hr hown hlk hts hE hw hS hl => ?_)
  have hl : lv_has ls 4 [(0, .int (nI z)), (1, .int (nI w))] := hl
  refine lv_iload_n hx hb dX5_spotOfZone_0 rfl (lv_at hl 0 rfl) ?_
  refine lv_bipush (v := nI 6) hx hb dX5_spotOfZone_1 (by decide) ?_
  refine n_irem hx hb dX5_spotOfZone_3 (by omega) (by omega) (by omega) ?_
  refine lv_iconst (v := nI 4) hx hb dX5_spotOfZone_4 (by decide) ?_
  refine n_imul hx hb dX5_spotOfZone_5 ?_
  refine lv_iload_n hx hb dX5_spotOfZone_6 rfl (lv_at hl 1 rfl) ?_
  refine lv_iconst (v := nI 4) hx hb dX5_spotOfZone_7 (by decide) ?_
  refine n_irem hx hb dX5_spotOfZone_8 (by omega) (by omega) (by omega) ?_
  refine n_iadd hx hb dX5_spotOfZone_9 ?_
  refine lv_istore_n (lv' := [(2, .int (nI (((z % 6) * 4) + (w % 4)))), (0, .int (nI z)), (1, .int (nI w))]) hx hb dX5_spotOfZone_10 rfl hl (by decide) rfl (fun ls hl => ?_)
  refine lv_iload_n hx hb dX5_spotOfZone_11 rfl (lv_at hl 1 rfl) ?_
  refine lv_bipush (v := nI 6) hx hb dX5_spotOfZone_12 (by decide) ?_
  refine n_idiv hx hb dX5_spotOfZone_14 (by omega) (by omega) (by omega) ?_
  refine lv_iconst (v := nI 4) hx hb dX5_spotOfZone_15 (by decide) ?_
  refine n_imul hx hb dX5_spotOfZone_16 ?_
  refine lv_iload_n hx hb dX5_spotOfZone_17 rfl (lv_at hl 2 rfl) ?_
  refine lv_iconst (v := nI 4) hx hb dX5_spotOfZone_18 (by decide) ?_
  refine n_idiv hx hb dX5_spotOfZone_19 (by omega) (by omega) (by omega) ?_
  refine n_iadd hx hb dX5_spotOfZone_20 ?_
  refine lv_istore_n (lv' := [(3, .int (nI (((z / 6) * 4) + (w / 4)))), (2, .int (nI (((z % 6) * 4) + (w % 4)))), (0, .int (nI z)), (1, .int (nI w))]) hx hb dX5_spotOfZone_21 rfl hl (by decide) rfl (fun ls hl => ?_)
  refine lv_iload_n hx hb dX5_spotOfZone_22 rfl (lv_at hl 1 rfl) ?_
  refine lv_iload_n hx hb dX5_spotOfZone_23 rfl (lv_at hl 0 rfl) ?_
  refine g_Si (n := 2) (As := [.int (nI (((z % 6) * 4) + (w % 4))), .int (nI (((z / 6) * 4) + (w / 4)))]) (rest := []) hx hb hml hown hts hE hw hS gX5_spotOfZone_X5_spotAt (c_X5_spotAt l G A _ (((z % 6) * 4) + (w % 4)) (((z / 6) * 4) + (w / 4))) rfl (by decide +kernel) ⟨Nat.le_of_ble_eq_true rfl, Nat.le_of_ble_eq_true rfl⟩ rfl hl.1 rfl (Nat.le_of_ble_eq_true rfl) ⟨Nat.le_of_ble_eq_true rfl, Nat.le_of_ble_eq_true rfl⟩ dX5_spotOfZone_24 (fun r_24 τ_24 H locs hp_24 hw hS => ?_)
  obtain ⟨rfl, hτ_24⟩ := hp_24
  rw [hτ_24] at hw
  refine g_iret hx hb hr hlk hE hw hS dX5_spotOfZone_27 ?_
  exact ⟨rfl, rfl⟩
set_option maxHeartbeats 4000000 in
set_option maxRecDepth 100000 in
/-- ZonedLight.zonesApart(II)I -/
theorem c_X5_zonesApart (l : Launch) (G : GG) (A : Nat → Prop) (σ : St) (z : Nat) (o : Nat) (hz : z < 18) (ho : o < 18) : MI l yX5_zonesApart wsX5_zonesApart 1 21 G A σ [.int (nI z), .int (nI o)] (fun r τ => r = nI (apartN z o) ∧ τ = σ) := by
  refine MI.on (by decide) rfl (Nat.le_of_ble_eq_true rfl) (fun pP eE sS mM args below meth cC ls hx hb hml hr hown hlk hts hE hw hS hl => ?_)
  have hl : lv_has ls 4 [(0, .int (nI z)), (1, .int (nI o))] := hl
  refine lv_iload_n hx hb dX5_zonesApart_0 rfl (lv_at hl 0 rfl) ?_
  refine lv_bipush (v := nI 6) hx hb dX5_zonesApart_1 (by decide) ?_
  refine n_irem hx hb dX5_zonesApart_3 (by omega) (by omega) (by omega) ?_
  refine lv_iload_n hx hb dX5_zonesApart_4 rfl (lv_at hl 1 rfl) ?_
  refine lv_bipush (v := nI 6) hx hb dX5_zonesApart_5 (by decide) ?_
  refine n_irem hx hb dX5_zonesApart_7 (by omega) (by omega) (by omega) ?_
  refine lv_isub hx hb dX5_zonesApart_8 ?_
  refine lv_topi (fun x_8 ex_8 => ?_)
  refine g_abs hx hb (hml.trans hl.1.symm) hE hown (hts (.methodLink RX5 227 Lib.Math.abs.name) (by decide +kernel)) ⟨Nat.le_of_ble_eq_true rfl, Nat.le_of_ble_eq_true rfl⟩ ⟨Nat.le_of_ble_eq_true rfl, Nat.le_of_ble_eq_true rfl⟩ dX5_zonesApart_9 ?_
  refine lv_topi (fun x_9 ex_9 => ?_)
  obtain rfl : x_9 = nI (distN (z % 6) (o % 6)) := by rw [ex_9, ex_8]; exact iabs_sub (by omega) (by omega)
  refine lv_istore_n (lv' := [(2, .int (nI (distN (z % 6) (o % 6)))), (0, .int (nI z)), (1, .int (nI o))]) hx hb dX5_zonesApart_12 rfl hl (by decide) rfl (fun ls hl => ?_)
  refine lv_iload_n hx hb dX5_zonesApart_13 rfl (lv_at hl 1 rfl) ?_
  refine lv_bipush (v := nI 6) hx hb dX5_zonesApart_14 (by decide) ?_
  refine n_idiv hx hb dX5_zonesApart_16 (by omega) (by omega) (by omega) ?_
  refine lv_iload_n hx hb dX5_zonesApart_17 rfl (lv_at hl 2 rfl) ?_
  refine lv_bipush (v := nI 6) hx hb dX5_zonesApart_18 (by decide) ?_
  refine n_idiv hx hb dX5_zonesApart_20 (by omega) (by omega) (by omega) ?_
  refine lv_isub hx hb dX5_zonesApart_21 ?_
  refine lv_topi (fun x_21 ex_21 => ?_)
  refine g_abs hx hb (hml.trans hl.1.symm) hE hown (hts (.methodLink RX5 227 Lib.Math.abs.name) (by decide +kernel)) ⟨Nat.le_of_ble_eq_true rfl, Nat.le_of_ble_eq_true rfl⟩ ⟨Nat.le_of_ble_eq_true rfl, Nat.le_of_ble_eq_true rfl⟩ dX5_zonesApart_22 ?_
  refine lv_topi (fun x_22 ex_22 => ?_)
  obtain rfl : x_22 = nI (distN (z / 6) (o / 6)) := by rw [ex_22, ex_21]; exact iabs_sub (by omega) (by omega)
  refine lv_istore_n (lv' := [(3, .int (nI (distN (z / 6) (o / 6)))), (2, .int (nI (distN (z % 6) (o % 6)))), (0, .int (nI z)), (1, .int (nI o))]) hx hb dX5_zonesApart_25 rfl hl (by decide) rfl (fun ls hl => ?_)
  refine lv_iload_n hx hb dX5_zonesApart_26 rfl (lv_at hl 1 rfl) ?_
  refine lv_iload_n hx hb dX5_zonesApart_27 rfl (lv_at hl 0 rfl) ?_
  refine g_max hx hb (hml.trans hl.1.symm) hE hown (hts (.methodLink RX5 232 Lib.Math.max.name) (by decide +kernel)) ⟨Nat.le_of_ble_eq_true rfl, Nat.le_of_ble_eq_true rfl⟩ ⟨Nat.le_of_ble_eq_true rfl, Nat.le_of_ble_eq_true rfl⟩ dX5_zonesApart_28 ?_
  refine lv_topi (fun x_28 ex_28 => ?_)
  obtain rfl : x_28 = nI (apartN z o) := by rw [ex_28]; exact imax_nI (by unfold distN; split <;> omega) (by unfold distN; split <;> omega)
  refine g_iret hx hb hr hlk hE hw hS dX5_zonesApart_31 ?_
  exact ⟨rfl, rfl⟩
set_option maxHeartbeats 4000000 in
set_option maxRecDepth 100000 in
/-- ZonedLight.roundedUp(II)I -/
theorem c_X5_roundedUp (l : Launch) (G : GG) (A : Nat → Prop) (σ : St) (x : Int32) (y : Int32)  : MI l yX5_roundedUp wsX5_roundedUp 0 0 G A σ [.int x, .int y] (fun r τ => r = rupF x y ∧ τ = σ) := by
  refine MI.on (by decide) rfl (Nat.le_of_ble_eq_true rfl) (fun pP eE sS mM args below meth cC ls hx hb hml hr hown hlk hts hE hw hS hl => ?_)
  have hl : lv_has ls 2 [(0, .int x), (1, .int y)] := hl
  refine lv_iload_n hx hb dX5_roundedUp_0 rfl (lv_at hl 1 rfl) ?_
  refine lv_if_le (tgt := 14) hx hb dX5_roundedUp_1 (by decide) (fun c_1 => ?_) (fun c_1 => ?_)
  · refine lv_iconst (v := nI 0) hx hb dX5_roundedUp_14 (by decide) ?_
    refine g_iret hx hb hr hlk hE hw hS dX5_roundedUp_15 ?_
    first | exact ⟨by unfold rupF; rw [if_pos (Int32.not_le.mp c_1), ex_10, ex_8, ex_6]; rfl, rfl⟩ | exact ⟨by unfold rupF; rw [if_neg (Int32.not_lt.mpr c_1)]; rfl, rfl⟩
  · refine lv_iload_n hx hb dX5_roundedUp_4 rfl (lv_at hl 0 rfl) ?_
    refine lv_iload_n hx hb dX5_roundedUp_5 rfl (lv_at hl 1 rfl) ?_
    refine lv_iadd hx hb dX5_roundedUp_6 ?_
    refine lv_topi (fun x_6 ex_6 => ?_)
    refine lv_iconst (v := nI 1) hx hb dX5_roundedUp_7 (by decide) ?_
    refine lv_isub hx hb dX5_roundedUp_8 ?_
    refine lv_topi (fun x_8 ex_8 => ?_)
    refine lv_iload_n hx hb dX5_roundedUp_9 rfl (lv_at hl 1 rfl) ?_
    refine lv_idiv hx hb dX5_roundedUp_10 (fun q => c_1 (by rw [q]; decide)) ?_
    refine lv_topi (fun x_10 ex_10 => ?_)
    refine lv_goto (tgt := 15) hx hb dX5_roundedUp_11 (by decide) ?_
    refine g_iret hx hb hr hlk hE hw hS dX5_roundedUp_15 ?_
    first | exact ⟨by unfold rupF; rw [if_pos (Int32.not_le.mp c_1), ex_10, ex_8, ex_6]; rfl, rfl⟩ | exact ⟨by unfold rupF; rw [if_neg (Int32.not_lt.mpr c_1)]; rfl, rfl⟩
set_option maxHeartbeats 4000000 in
set_option maxRecDepth 100000 in
/-- ZonedLight.lightOf(I)I -/
theorem c_X5_lightOf (l : Launch) (G : GG) (A : Nat → Prop) (σ : St) (g : Int32)  : MI l yX5_lightOf wsX5_lightOf 1 21 G A σ [.int g] (fun r τ => r = lightV g ∧ τ = σ) := by
  refine MI.on (by decide) rfl (Nat.le_of_ble_eq_true rfl) (fun pP eE sS mM args below meth cC ls hx hb hml hr hown hlk hts hE hw hS hl => ?_)
  have hl : lv_has ls 1 [(0, .int g)] := hl
  refine lv_sipush (v := nI 255) hx hb dX5_lightOf_0 (by decide) ?_
  refine lv_iload_n hx hb dX5_lightOf_3 rfl (lv_at hl 0 rfl) ?_
  refine lv_sipush (v := nI 256) hx hb dX5_lightOf_4 (by decide) ?_
  refine lv_idiv hx hb dX5_lightOf_7 (by decide) ?_
  refine lv_topi (fun x_7 ex_7 => ?_)
  refine g_min hx hb (hml.trans hl.1.symm) hE hown (hts (.methodLink RX5 235 Lib.Math.min.name) (by decide +kernel)) ⟨Nat.le_of_ble_eq_true rfl, Nat.le_of_ble_eq_true rfl⟩ ⟨Nat.le_of_ble_eq_true rfl, Nat.le_of_ble_eq_true rfl⟩ dX5_lightOf_8 ?_
  refine lv_topi (fun x_8 ex_8 => ?_)
  refine g_iret hx hb hr hlk hE hw hS dX5_lightOf_11 ?_
  exact ⟨by rw [ex_8, ex_7]; rfl, rfl⟩
set_option maxHeartbeats 4000000 in
set_option maxRecDepth 100000 in
/-- ZonedLight.glassFor(II)I -/
theorem c_X5_glassFor (l : Launch) (G : GG) (A : Nat → Prop) (σ : St) (x : Int32) (y : Int32)  : MI l yX5_glassFor wsX5_glassFor 1 21 G A σ [.int x, .int y] (fun r τ => r = glassF x y ∧ τ = σ) := by
  refine MI.on (by decide) rfl (Nat.le_of_ble_eq_true rfl) (fun pP eE sS mM args below meth cC ls hx hb hml hr hown hlk hts hE hw hS hl => ?_)
  have hl : lv_has ls 2 [(0, .int x), (1, .int y)] := hl
  refine lv_sipush (v := nI 255) hx hb dX5_glassFor_0 (by decide) ?_
  refine lv_iload_n hx hb dX5_glassFor_3 rfl (lv_at hl 0 rfl) ?_
  refine lv_sipush (v := nI 255) hx hb dX5_glassFor_4 (by decide) ?_
  refine lv_imul hx hb dX5_glassFor_7 ?_
  refine lv_topi (fun x_7 ex_7 => ?_)
  refine lv_iload_n hx hb dX5_glassFor_8 rfl (lv_at hl 1 rfl) ?_
  refine g_Si (n := 2) (As := [.int x_7, .int y]) (rest := [.int (nI 255)]) hx hb hml hown hts hE hw hS gX5_glassFor_X5_roundedUp (c_X5_roundedUp l G A _ x_7 y) rfl (by decide +kernel) ⟨Nat.le_of_ble_eq_true rfl, Nat.le_of_ble_eq_true rfl⟩ rfl hl.1 rfl (Nat.le_of_ble_eq_true rfl) ⟨Nat.le_of_ble_eq_true rfl, Nat.le_of_ble_eq_true rfl⟩ dX5_glassFor_9 (fun x_9 τ_9 H locs hp_9 hw hS => ?_)
  obtain ⟨ex_9, hτ_9⟩ := hp_9
  rw [hτ_9] at hw
  refine g_min hx hb (hml.trans hl.1.symm) hE hown (hts (.methodLink RX5 235 Lib.Math.min.name) (by decide +kernel)) ⟨Nat.le_of_ble_eq_true rfl, Nat.le_of_ble_eq_true rfl⟩ ⟨Nat.le_of_ble_eq_true rfl, Nat.le_of_ble_eq_true rfl⟩ dX5_glassFor_12 ?_
  refine lv_topi (fun x_12 ex_12 => ?_)
  refine g_iret hx hb hr hlk hE hw hS dX5_glassFor_15 ?_
  exact ⟨by rw [ex_12, ex_9, ex_7]; rfl, rfl⟩
set_option maxHeartbeats 4000000 in
set_option maxRecDepth 100000 in
/-- ZonedLight.verdict(II)I -/
theorem c_X5_verdict (l : Launch) (G : GG) (A : Nat → Prop) (σ : St) (x : Int32) (y : Int32)  : MI l yX5_verdict wsX5_verdict 0 0 G A σ [.int x, .int y] (fun r τ => r = verdF x y ∧ τ = σ) := by
  refine MI.on (by decide) rfl (Nat.le_of_ble_eq_true rfl) (fun pP eE sS mM args below meth cC ls hx hb hml hr hown hlk hts hE hw hS hl => ?_)
  have hl : lv_has ls 2 [(0, .int x), (1, .int y)] := hl
  refine lv_iload_n hx hb dX5_verdict_0 rfl (lv_at hl 1 rfl) ?_
  refine lv_iload_n hx hb dX5_verdict_1 rfl (lv_at hl 0 rfl) ?_
  refine lv_icmp_ne (tgt := 7) hx hb dX5_verdict_2 (by decide) (fun c_2 => ?_) (fun c_2 => ?_)
  · refine lv_iload_n hx hb dX5_verdict_7 rfl (lv_at hl 1 rfl) ?_
    refine lv_iload_n hx hb dX5_verdict_8 rfl (lv_at hl 0 rfl) ?_
    refine lv_icmp_ge (tgt := 16) hx hb dX5_verdict_9 (by decide) (fun c_9 => ?_) (fun c_9 => ?_)
    · refine lv_iconst (v := nI 2) hx hb dX5_verdict_16 (by decide) ?_
      refine g_iret hx hb hr hlk hE hw hS dX5_verdict_17 ?_
      first | exact ⟨by unfold verdF; rw [if_pos (Decidable.not_not.mp c_2)]; rfl, rfl⟩ | exact ⟨by unfold verdF; rw [if_pos c_2]; rfl, rfl⟩ | exact ⟨by unfold verdF; rw [if_neg c_2, if_pos (Int32.not_le.mp c_9)]; rfl, rfl⟩ | exact ⟨by unfold verdF; rw [if_neg c_2, if_neg (Int32.not_lt.mpr c_9)]; rfl, rfl⟩ | exact ⟨by unfold verdF; rw [if_neg c_2, if_pos c_9]; rfl, rfl⟩ | exact ⟨by unfold verdF; rw [if_neg c_2, if_neg c_9]; rfl, rfl⟩
    · refine lv_iconst (v := nI 1) hx hb dX5_verdict_12 (by decide) ?_
      refine lv_goto (tgt := 17) hx hb dX5_verdict_13 (by decide) ?_
      refine g_iret hx hb hr hlk hE hw hS dX5_verdict_17 ?_
      first | exact ⟨by unfold verdF; rw [if_pos (Decidable.not_not.mp c_2)]; rfl, rfl⟩ | exact ⟨by unfold verdF; rw [if_pos c_2]; rfl, rfl⟩ | exact ⟨by unfold verdF; rw [if_neg c_2, if_pos (Int32.not_le.mp c_9)]; rfl, rfl⟩ | exact ⟨by unfold verdF; rw [if_neg c_2, if_neg (Int32.not_lt.mpr c_9)]; rfl, rfl⟩ | exact ⟨by unfold verdF; rw [if_neg c_2, if_pos c_9]; rfl, rfl⟩ | exact ⟨by unfold verdF; rw [if_neg c_2, if_neg c_9]; rfl, rfl⟩
  · refine lv_iconst (v := nI 0) hx hb dX5_verdict_5 (by decide) ?_
    refine g_iret hx hb hr hlk hE hw hS dX5_verdict_6 ?_
    first | exact ⟨by unfold verdF; rw [if_pos (Decidable.not_not.mp c_2)]; rfl, rfl⟩ | exact ⟨by unfold verdF; rw [if_pos c_2]; rfl, rfl⟩ | exact ⟨by unfold verdF; rw [if_neg c_2, if_pos (Int32.not_le.mp c_9)]; rfl, rfl⟩ | exact ⟨by unfold verdF; rw [if_neg c_2, if_neg (Int32.not_lt.mpr c_9)]; rfl, rfl⟩ | exact ⟨by unfold verdF; rw [if_neg c_2, if_pos c_9]; rfl, rfl⟩ | exact ⟨by unfold verdF; rw [if_neg c_2, if_neg c_9]; rfl, rfl⟩
end
section
/-! CONTRACTS, laid by program -/
set_option maxHeartbeats 4000000 in
set_option maxRecDepth 100000 in
/-- ZonedLight$Screen.peak(I)I -/
theorem c_X3_peak (l : Launch) (G : GG) (A : Nat → Prop) (σ : St) (s : Nat) (z : Nat) (hs : s < 7) (hz : z < 18) : MI l yX3_peak wsX3_peak 2 44 G A σ [.ref (G.1 0 s), .int (nI z)] (fun r τ => r = peakF (scr σ s) z ∧ τ = σ) := by
  refine MI.on (by decide) rfl (Nat.le_of_ble_eq_true rfl) (fun pP eE sS mM args below meth cC ls hx hb hml hr hown hlk hts hE hw hS hl => ?_)
  have hl : lv_has ls 4 [(0, .ref (G.1 0 s)), (1, .int (nI z))] := hl
  refine lv_iconst (v := nI 0) hx hb dX3_peak_0 (by decide) ?_
  refine lv_istore_n (lv' := [(2, .int (nI 0)), (0, .ref (G.1 0 s)), (1, .int (nI z))]) hx hb dX3_peak_1 rfl hl (by decide) rfl (fun ls hl => ?_)
  refine lv_iconst (v := nI 0) hx hb dX3_peak_2 (by decide) ?_
  refine lv_istore_n (lv' := [(3, .int (nI 0)), (2, .int (nI 0)), (0, .ref (G.1 0 s)), (1, .int (nI z))]) hx hb dX3_peak_3 rfl hl (by decide) rfl (fun ls hl => ?_)
  have K_4 : ∀ (fuel : Nat) (k : Nat) (acc : Int32), (k ≤ 16) → (acc = peakK (scr σ s) z k) → 16 - k < fuel → ∀ (H : Heap) (locs : List Loc) (ls : Array Slot), Wcel G σ H → va_S A sS.heap H locs → lv_has ls 4 [(0, .ref (G.1 0 s)), (1, .int (nI z)), (2, .int acc), (3, .int (nI k))] → W pP l eE { frames := 2, cells := 0, slots := 0, locals := 44 } sS mM args below meth cC H locs 0 0 (MQ below (va_Qi (fun r τ => r = peakF (scr σ s) z ∧ τ = σ) (fun τ t => gP G A τ t) A) args sS 0 0 A) (F0 mM 4 ls []) := by
    intro fuel
    induction fuel with
    | zero =>
      intro k acc hk ha hfu
      exact absurd hfu (Nat.not_lt_zero _)
    | succ fuel K_4 =>
      intro k acc hk ha hfu H locs ls hw hS hl
      refine lv_iload_n hx hb dX3_peak_4 rfl (lv_at hl 3 rfl) ?_
      refine lv_bipush (v := nI 16) hx hb dX3_peak_5 (by decide) ?_
      refine n_cmp_ge (tgt := 31) hx hb dX3_peak_7 (by decide) (by omega) (by omega) (fun c_7 => ?_) (fun c_7 => ?_)
      · refine lv_iload_n hx hb dX3_peak_31 rfl (lv_at hl 2 rfl) ?_
        refine g_iret hx hb hr hlk hE hw hS dX3_peak_32 ?_
        exact ⟨by rw [ha, show k = 16 by omega]; rfl, rfl⟩
      · refine lv_iload_n hx hb dX3_peak_10 rfl (lv_at hl 2 rfl) ?_
        refine lv_aload_n hx hb dX3_peak_11 rfl (lv_at hl 0 rfl) ?_
        refine gf_X3_asked hx hb hE hw (show s < 7 by omega) hown (hts (.fieldLink RX3 9 "ZonedLight$Screen" "asked" "[I") (by decide +kernel)) dX3_peak_12 ?_
        refine lv_iload_n hx hb dX3_peak_15 rfl (lv_at hl 1 rfl) ?_
        refine lv_iload_n hx hb dX3_peak_16 rfl (lv_at hl 3 rfl) ?_
        refine g_SNi (n := 2) (As := [.int (nI z), .int (nI k)]) (rest := [.ref (G.1 1 s), .int acc]) hx hb hml hown hts hE hw hS gX3_peak_X5_spotOfZone_n60 (host := "ZonedLight") (by decide +kernel) (hts (.initialized RX5) (by decide +kernel)) (hts (.static yX5_spotOfZone) (by decide +kernel)) (c_X5_spotOfZone l G A _ z k (by omega) (by omega)) rfl (by decide +kernel) ⟨Nat.le_of_ble_eq_true rfl, Nat.le_of_ble_eq_true rfl⟩ rfl hl.1 rfl (Nat.le_of_ble_eq_true rfl) ⟨Nat.le_of_ble_eq_true rfl, Nat.le_of_ble_eq_true rfl⟩ dX3_peak_17 (fun r_17 τ_17 H locs hp_17 hw hS => ?_)
        obtain ⟨rfl, hτ_17⟩ := hp_17
        rw [hτ_17] at hw
        refine g_ald hx hb hE hw (n := 288) (show s < 7 by omega) rfl (by decide) (spotN_lt hz c_7) dX3_peak_20 ?_
        refine lv_topi (fun x_20 ex_20 => ?_)
        refine g_max hx hb (hml.trans hl.1.symm) hE hown (hts (.methodLink RX3 50 Lib.Math.max.name) (by decide +kernel)) ⟨Nat.le_of_ble_eq_true rfl, Nat.le_of_ble_eq_true rfl⟩ ⟨Nat.le_of_ble_eq_true rfl, Nat.le_of_ble_eq_true rfl⟩ dX3_peak_21 ?_
        refine lv_topi (fun x_21 ex_21 => ?_)
        refine lv_istore_n (lv' := [(2, .int x_21), (0, .ref (G.1 0 s)), (1, .int (nI z)), (3, .int (nI k))]) hx hb dX3_peak_24 rfl hl (by decide) rfl (fun ls hl => ?_)
        refine lv_iinc (v := nI (k + 1)) (lv' := [(3, .int (nI (k + 1))), (2, .int x_21), (0, .ref (G.1 0 s)), (1, .int (nI z))]) hx hb dX3_peak_25 hl (k := 3) rfl (nI_add _ _) (by decide) rfl (fun ls hl => ?_)
        refine lv_goto (tgt := 4) hx hb dX3_peak_28 (by decide) ?_
        exact K_4 (k + 1) x_21 (by first | omega | assumption | rfl) (by rw [ex_21, ex_20, ha, ← scr_asked (σ := σ) (s := s) (spotN_lt hz c_7)]; rfl) (by omega) _ _ _ hw hS (lv_sub hl [2, 3, 1, 0] rfl)
  exact K_4 (16 - 0 + 1) 0 (nI 0) (by first | omega | assumption | rfl) (by first | omega | assumption | rfl) (Nat.lt_succ_self _) _ _ _ hw hS (lv_sub hl [2, 3, 1, 0] rfl)
set_option maxHeartbeats 4000000 in
set_option maxRecDepth 100000 in
/-- ZonedLight$Screen.mean(I)I -/
theorem c_X3_mean (l : Launch) (G : GG) (A : Nat → Prop) (σ : St) (s : Nat) (z : Nat) (hs : s < 7) (hz : z < 18) : MI l yX3_mean wsX3_mean 2 44 G A σ [.ref (G.1 0 s), .int (nI z)] (fun r τ => r = meanF (scr σ s) z ∧ τ = σ) := by
  refine MI.on (by decide) rfl (Nat.le_of_ble_eq_true rfl) (fun pP eE sS mM args below meth cC ls hx hb hml hr hown hlk hts hE hw hS hl => ?_)
  have hl : lv_has ls 4 [(0, .ref (G.1 0 s)), (1, .int (nI z))] := hl
  refine lv_iconst (v := nI 0) hx hb dX3_mean_0 (by decide) ?_
  refine lv_istore_n (lv' := [(2, .int (nI 0)), (0, .ref (G.1 0 s)), (1, .int (nI z))]) hx hb dX3_mean_1 rfl hl (by decide) rfl (fun ls hl => ?_)
  refine lv_iconst (v := nI 0) hx hb dX3_mean_2 (by decide) ?_
  refine lv_istore_n (lv' := [(3, .int (nI 0)), (2, .int (nI 0)), (0, .ref (G.1 0 s)), (1, .int (nI z))]) hx hb dX3_mean_3 rfl hl (by decide) rfl (fun ls hl => ?_)
  have K_4 : ∀ (fuel : Nat) (k : Nat) (acc : Int32), (k ≤ 16) → (acc = sumK (scr σ s) z k) → 16 - k < fuel → ∀ (H : Heap) (locs : List Loc) (ls : Array Slot), Wcel G σ H → va_S A sS.heap H locs → lv_has ls 4 [(0, .ref (G.1 0 s)), (1, .int (nI z)), (2, .int acc), (3, .int (nI k))] → W pP l eE { frames := 2, cells := 0, slots := 0, locals := 44 } sS mM args below meth cC H locs 0 0 (MQ below (va_Qi (fun r τ => r = meanF (scr σ s) z ∧ τ = σ) (fun τ t => gP G A τ t) A) args sS 0 0 A) (F0 mM 4 ls []) := by
    intro fuel
    induction fuel with
    | zero =>
      intro k acc hk ha hfu
      exact absurd hfu (Nat.not_lt_zero _)
    | succ fuel K_4 =>
      intro k acc hk ha hfu H locs ls hw hS hl
      refine lv_iload_n hx hb dX3_mean_4 rfl (lv_at hl 3 rfl) ?_
      refine lv_bipush (v := nI 16) hx hb dX3_mean_5 (by decide) ?_
      refine n_cmp_ge (tgt := 29) hx hb dX3_mean_7 (by decide) (by omega) (by omega) (fun c_7 => ?_) (fun c_7 => ?_)
      · refine lv_iload_n hx hb dX3_mean_29 rfl (lv_at hl 2 rfl) ?_
        refine lv_bipush (v := nI 16) hx hb dX3_mean_30 (by decide) ?_
        refine lv_idiv hx hb dX3_mean_32 (by decide) ?_
        refine lv_topi (fun x_32 ex_32 => ?_)
        refine g_iret hx hb hr hlk hE hw hS dX3_mean_33 ?_
        exact ⟨by rw [ex_32, ha, show k = 16 by omega]; rfl, rfl⟩
      · refine lv_iload_n hx hb dX3_mean_10 rfl (lv_at hl 2 rfl) ?_
        refine lv_aload_n hx hb dX3_mean_11 rfl (lv_at hl 0 rfl) ?_
        refine gf_X3_asked hx hb hE hw (show s < 7 by omega) hown (hts (.fieldLink RX3 9 "ZonedLight$Screen" "asked" "[I") (by decide +kernel)) dX3_mean_12 ?_
        refine lv_iload_n hx hb dX3_mean_15 rfl (lv_at hl 1 rfl) ?_
        refine lv_iload_n hx hb dX3_mean_16 rfl (lv_at hl 3 rfl) ?_
        refine g_SNi (n := 2) (As := [.int (nI z), .int (nI k)]) (rest := [.ref (G.1 1 s), .int acc]) hx hb hml hown hts hE hw hS gX3_mean_X5_spotOfZone_n60 (host := "ZonedLight") (by decide +kernel) (hts (.initialized RX5) (by decide +kernel)) (hts (.static yX5_spotOfZone) (by decide +kernel)) (c_X5_spotOfZone l G A _ z k (by omega) (by omega)) rfl (by decide +kernel) ⟨Nat.le_of_ble_eq_true rfl, Nat.le_of_ble_eq_true rfl⟩ rfl hl.1 rfl (Nat.le_of_ble_eq_true rfl) ⟨Nat.le_of_ble_eq_true rfl, Nat.le_of_ble_eq_true rfl⟩ dX3_mean_17 (fun r_17 τ_17 H locs hp_17 hw hS => ?_)
        obtain ⟨rfl, hτ_17⟩ := hp_17
        rw [hτ_17] at hw
        refine g_ald hx hb hE hw (n := 288) (show s < 7 by omega) rfl (by decide) (spotN_lt hz c_7) dX3_mean_20 ?_
        refine lv_topi (fun x_20 ex_20 => ?_)
        refine lv_iadd hx hb dX3_mean_21 ?_
        refine lv_topi (fun x_21 ex_21 => ?_)
        refine lv_istore_n (lv' := [(2, .int x_21), (0, .ref (G.1 0 s)), (1, .int (nI z)), (3, .int (nI k))]) hx hb dX3_mean_22 rfl hl (by decide) rfl (fun ls hl => ?_)
        refine lv_iinc (v := nI (k + 1)) (lv' := [(3, .int (nI (k + 1))), (2, .int x_21), (0, .ref (G.1 0 s)), (1, .int (nI z))]) hx hb dX3_mean_23 hl (k := 3) rfl (nI_add _ _) (by decide) rfl (fun ls hl => ?_)
        refine lv_goto (tgt := 4) hx hb dX3_mean_26 (by decide) ?_
        exact K_4 (k + 1) x_21 (by first | omega | assumption | rfl) (by rw [ex_21, ex_20, ha, ← scr_asked (σ := σ) (s := s) (spotN_lt hz c_7)]; rfl) (by omega) _ _ _ hw hS (lv_sub hl [2, 3, 1, 0] rfl)
  exact K_4 (16 - 0 + 1) 0 (nI 0) (by first | omega | assumption | rfl) (by first | omega | assumption | rfl) (Nat.lt_succ_self _) _ _ _ hw hS (lv_sub hl [2, 3, 1, 0] rfl)
set_option maxHeartbeats 4000000 in
set_option maxRecDepth 100000 in
/-- ZonedLight$Screen.asksBlack(I)Z -/
theorem c_X3_asksBlack (l : Launch) (G : GG) (A : Nat → Prop) (σ : St) (s : Nat) (z : Nat) (hs : s < 7) (hz : z < 18) : MI l yX3_asksBlack wsX3_asksBlack 2 44 G A σ [.ref (G.1 0 s), .int (nI z)] (fun r τ => bP r (blackF (scr σ s) z = true) ∧ τ = σ) := by
  refine MI.on (by decide) rfl (Nat.le_of_ble_eq_true rfl) (fun pP eE sS mM args below meth cC ls hx hb hml hr hown hlk hts hE hw hS hl => ?_)
  have hl : lv_has ls 3 [(0, .ref (G.1 0 s)), (1, .int (nI z))] := hl
  refine lv_iconst (v := nI 0) hx hb dX3_asksBlack_0 (by decide) ?_
  refine lv_istore_n (lv' := [(2, .int (nI 0)), (0, .ref (G.1 0 s)), (1, .int (nI z))]) hx hb dX3_asksBlack_1 rfl hl (by decide) rfl (fun ls hl => ?_)
  have K_2 : ∀ (fuel : Nat) (k : Nat), (k ≤ 16) → (blackK (scr σ s) z k = false) → 16 - k < fuel → ∀ (H : Heap) (locs : List Loc) (ls : Array Slot), Wcel G σ H → va_S A sS.heap H locs → lv_has ls 3 [(0, .ref (G.1 0 s)), (1, .int (nI z)), (2, .int (nI k))] → W pP l eE { frames := 2, cells := 0, slots := 0, locals := 44 } sS mM args below meth cC H locs 0 0 (MQ below (va_Qi (fun r τ => bP r (blackF (scr σ s) z = true) ∧ τ = σ) (fun τ t => gP G A τ t) A) args sS 0 0 A) (F0 mM 2 ls []) := by
    intro fuel
    induction fuel with
    | zero =>
      intro k hk ha hfu
      exact absurd hfu (Nat.not_lt_zero _)
    | succ fuel K_2 =>
      intro k hk ha hfu H locs ls hw hS hl
      refine lv_iload_n hx hb dX3_asksBlack_2 rfl (lv_at hl 2 rfl) ?_
      refine lv_bipush (v := nI 16) hx hb dX3_asksBlack_3 (by decide) ?_
      refine n_cmp_ge (tgt := 29) hx hb dX3_asksBlack_5 (by decide) (by omega) (by omega) (fun c_5 => ?_) (fun c_5 => ?_)
      · refine lv_iconst (v := nI 0) hx hb dX3_asksBlack_29 (by decide) ?_
        refine g_zret hx hb hr hlk hE hw hS rfl dX3_asksBlack_30 ?_
        exact ⟨Or.inr ⟨rfl, fun q => by rw [show k = 16 by omega] at ha; rw [blackF, ha] at q; cases q⟩, rfl⟩
      · refine lv_aload_n hx hb dX3_asksBlack_8 rfl (lv_at hl 0 rfl) ?_
        refine gf_X3_asked hx hb hE hw (show s < 7 by omega) hown (hts (.fieldLink RX3 9 "ZonedLight$Screen" "asked" "[I") (by decide +kernel)) dX3_asksBlack_9 ?_
        refine lv_iload_n hx hb dX3_asksBlack_12 rfl (lv_at hl 1 rfl) ?_
        refine lv_iload_n hx hb dX3_asksBlack_13 rfl (lv_at hl 2 rfl) ?_
        refine g_SNi (n := 2) (As := [.int (nI z), .int (nI k)]) (rest := [.ref (G.1 1 s)]) hx hb hml hown hts hE hw hS gX3_asksBlack_X5_spotOfZone_n60 (host := "ZonedLight") (by decide +kernel) (hts (.initialized RX5) (by decide +kernel)) (hts (.static yX5_spotOfZone) (by decide +kernel)) (c_X5_spotOfZone l G A _ z k (by omega) (by omega)) rfl (by decide +kernel) ⟨Nat.le_of_ble_eq_true rfl, Nat.le_of_ble_eq_true rfl⟩ rfl hl.1 rfl (Nat.le_of_ble_eq_true rfl) ⟨Nat.le_of_ble_eq_true rfl, Nat.le_of_ble_eq_true rfl⟩ dX3_asksBlack_14 (fun r_14 τ_14 H locs hp_14 hw hS => ?_)
        obtain ⟨rfl, hτ_14⟩ := hp_14
        rw [hτ_14] at hw
        refine g_ald hx hb hE hw (n := 288) (show s < 7 by omega) rfl (by decide) (spotN_lt hz c_5) dX3_asksBlack_17 ?_
        refine lv_topi (fun x_17 ex_17 => ?_)
        refine lv_if_ne (tgt := 23) hx hb dX3_asksBlack_18 (by decide) (fun c_18 => ?_) (fun c_18 => ?_)
        · refine lv_iinc (v := nI (k + 1)) (lv' := [(2, .int (nI (k + 1))), (0, .ref (G.1 0 s)), (1, .int (nI z))]) hx hb dX3_asksBlack_23 hl (k := 2) rfl (nI_add _ _) (by decide) rfl (fun ls hl => ?_)
          refine lv_goto (tgt := 2) hx hb dX3_asksBlack_26 (by decide) ?_
          exact K_2 (k + 1) (by first | omega | assumption | rfl) (by show (blackK (scr σ s) z k || decide (scr σ s (spotN z k) = 0)) = false; rw [ha, scr_asked (σ := σ) (s := s) (spotN_lt hz c_5), ← ex_17, decide_eq_false c_18]; rfl) (by omega) _ _ _ hw hS (lv_sub hl [1, 2, 0] rfl)
        · refine lv_iconst (v := nI 1) hx hb dX3_asksBlack_21 (by decide) ?_
          refine g_zret hx hb hr hlk hE hw hS rfl dX3_asksBlack_22 ?_
          refine ⟨Or.inl ⟨rfl, ?_⟩, rfl⟩
          have e1 : blackK (scr σ s) z (k + 1) = true := by
            show (blackK (scr σ s) z k || decide (scr σ s (spotN z k) = 0)) = true
            rw [scr_asked (σ := σ) (s := s) (spotN_lt hz c_5), ← ex_17, decide_eq_true (c_18), Bool.or_true]
          have e2 := blackK_mono e1 (16 - (k + 1))
          rw [show k + 1 + (16 - (k + 1)) = 16 by omega] at e2
          exact e2
  exact K_2 (16 - 0 + 1) 0 (by first | omega | assumption | rfl) (by first | omega | assumption | rfl) (Nat.lt_succ_self _) _ _ _ hw hS (lv_sub hl [1, 2, 0] rfl)
set_option maxHeartbeats 4000000 in
set_option maxRecDepth 100000 in
/-- ZonedLight$Screen.glow(I[I)I -/
theorem c_X3_glow (l : Launch) (G : GG) (A : Nat → Prop) (σ : St) (s : Nat) (z : Nat) (hs : s < 7) (hz : z < 18) : MI l yX3_glow wsX3_glow 2 44 G A σ [.ref (G.1 0 s), .int (nI z), .ref (G.1 12 0)] (fun r τ => r = glowK (scr σ s) (σ 12 0) z 18 ∧ τ = σ) := by
  refine MI.on (by decide) rfl (Nat.le_of_ble_eq_true rfl) (fun pP eE sS mM args below meth cC ls hx hb hml hr hown hlk hts hE hw hS hl => ?_)
  have hl : lv_has ls 6 [(0, .ref (G.1 0 s)), (1, .int (nI z)), (2, .ref (G.1 12 0))] := hl
  refine lv_iconst (v := nI 0) hx hb dX3_glow_0 (by decide) ?_
  refine lv_istore_n (lv' := [(3, .int (nI 0)), (0, .ref (G.1 0 s)), (1, .int (nI z)), (2, .ref (G.1 12 0))]) hx hb dX3_glow_1 rfl hl (by decide) rfl (fun ls hl => ?_)
  refine lv_iconst (v := nI 0) hx hb dX3_glow_2 (by decide) ?_
  refine lv_istore (lv' := [(4, .int (nI 0)), (3, .int (nI 0)), (0, .ref (G.1 0 s)), (1, .int (nI z)), (2, .ref (G.1 12 0))]) hx hb dX3_glow_3 hl (by decide) rfl (fun ls hl => ?_)
  have K_5 : ∀ (fuel : Nat) (k : Nat) (acc : Int32), (k ≤ 18) → (acc = glowK (scr σ s) (σ 12 0) z k) → 18 - k < fuel → ∀ (H : Heap) (locs : List Loc) (ls : Array Slot), Wcel G σ H → va_S A sS.heap H locs → lv_has ls 6 [(0, .ref (G.1 0 s)), (1, .int (nI z)), (2, .ref (G.1 12 0)), (3, .int acc), (4, .int (nI k))] → W pP l eE { frames := 2, cells := 0, slots := 0, locals := 44 } sS mM args below meth cC H locs 0 0 (MQ below (va_Qi (fun r τ => r = glowK (scr σ s) (σ 12 0) z 18 ∧ τ = σ) (fun τ t => gP G A τ t) A) args sS 0 0 A) (F0 mM 5 ls []) := by
    intro fuel
    induction fuel with
    | zero =>
      intro k acc hk ha hfu
      exact absurd hfu (Nat.not_lt_zero _)
    | succ fuel K_5 =>
      intro k acc hk ha hfu H locs ls hw hS hl
      refine lv_iload hx hb dX3_glow_5 (lv_at hl 4 rfl) ?_
      refine lv_bipush (v := nI 18) hx hb dX3_glow_7 (by decide) ?_
      refine n_cmp_ge (tgt := 47) hx hb dX3_glow_9 (by decide) (by omega) (by omega) (fun c_9 => ?_) (fun c_9 => ?_)
      · refine lv_iload_n hx hb dX3_glow_47 rfl (lv_at hl 3 rfl) ?_
        refine g_iret hx hb hr hlk hE hw hS dX3_glow_48 ?_
        exact ⟨by rw [ha, show k = 18 by omega], rfl⟩
      · refine lv_iload_n hx hb dX3_glow_12 rfl (lv_at hl 1 rfl) ?_
        refine lv_iload hx hb dX3_glow_13 (lv_at hl 4 rfl) ?_
        refine g_SNi (n := 2) (As := [.int (nI z), .int (nI k)]) (rest := []) hx hb hml hown hts hE hw hS gX3_glow_X5_zonesApart_n63 (host := "ZonedLight") (by decide +kernel) (hts (.initialized RX5) (by decide +kernel)) (hts (.static yX5_zonesApart) (by decide +kernel)) (c_X5_zonesApart l G A _ z k (by omega) (by omega)) rfl (by decide +kernel) ⟨Nat.le_of_ble_eq_true rfl, Nat.le_of_ble_eq_true rfl⟩ rfl hl.1 rfl (Nat.le_of_ble_eq_true rfl) ⟨Nat.le_of_ble_eq_true rfl, Nat.le_of_ble_eq_true rfl⟩ dX3_glow_15 (fun r_15 τ_15 H locs hp_15 hw hS => ?_)
        obtain ⟨rfl, hτ_15⟩ := hp_15
        rw [hτ_15] at hw
        refine lv_istore (lv' := [(5, .int (nI (apartN z k))), (0, .ref (G.1 0 s)), (1, .int (nI z)), (2, .ref (G.1 12 0)), (3, .int acc), (4, .int (nI k))]) hx hb dX3_glow_18 hl (by decide) rfl (fun ls hl => ?_)
        refine lv_iload hx hb dX3_glow_20 (lv_at hl 0 rfl) ?_
        refine lv_iconst (v := nI 3) hx hb dX3_glow_22 (by decide) ?_
        refine n_cmp_ge (tgt := 41) hx hb dX3_glow_23 (by decide) (Nat.lt_trans (apartN_lt hz c_9) (by decide)) (by decide) (fun c_23 => ?_) (fun c_23 => ?_)
        · refine lv_iinc (v := nI (k + 1)) (lv' := [(4, .int (nI (k + 1))), (5, .int (nI (apartN z k))), (0, .ref (G.1 0 s)), (1, .int (nI z)), (2, .ref (G.1 12 0)), (3, .int acc)]) hx hb dX3_glow_41 hl (k := 5) rfl (nI_add _ _) (by decide) rfl (fun ls hl => ?_)
          refine lv_goto (tgt := 5) hx hb dX3_glow_44 (by decide) ?_
          exact K_5 (k + 1) acc (by first | omega | assumption | rfl) (by first | (rw [glowK, if_neg (Nat.not_lt.mpr c_23)]; exact ha) | (rw [glowK, if_pos c_23, ex_39, ex_38, ex_37, ex_30, ha, ← scr_set (σ := σ) (s := s) (show apartN z k < 8 by omega)])) (by omega) _ _ _ hw hS (lv_sub hl [2, 3, 4, 5, 0] rfl)
        · refine lv_iload_n hx hb dX3_glow_26 rfl (lv_at hl 4 rfl) ?_
          refine lv_aload_n hx hb dX3_glow_27 rfl (lv_at hl 3 rfl) ?_
          refine lv_iload hx hb dX3_glow_28 (lv_at hl 5 rfl) ?_
          refine g_ald hx hb hE hw (n := 18) (Nat.zero_lt_one) rfl (by decide) (by omega) dX3_glow_30 ?_
          refine lv_topi (fun x_30 ex_30 => ?_)
          refine lv_aload_n hx hb dX3_glow_31 rfl (lv_at hl 1 rfl) ?_
          refine gf_X3_setting hx hb hE hw (show s < 7 by omega) hown (hts (.fieldLink RX3 22 "ZonedLight$Screen" "setting" "[I") (by decide +kernel)) dX3_glow_32 ?_
          refine lv_iload hx hb dX3_glow_35 (lv_at hl 0 rfl) ?_
          refine g_ald hx hb hE hw (n := 8) (show s < 7 by omega) rfl (by decide) (by omega) dX3_glow_37 ?_
          refine lv_topi (fun x_37 ex_37 => ?_)
          refine lv_imul hx hb dX3_glow_38 ?_
          refine lv_topi (fun x_38 ex_38 => ?_)
          refine lv_iadd hx hb dX3_glow_39 ?_
          refine lv_topi (fun x_39 ex_39 => ?_)
          refine lv_istore_n (lv' := [(3, .int x_39), (5, .int (nI (apartN z k))), (0, .ref (G.1 0 s)), (1, .int (nI z)), (2, .ref (G.1 12 0)), (4, .int (nI k))]) hx hb dX3_glow_40 rfl hl (by decide) rfl (fun ls hl => ?_)
          refine lv_iinc (v := nI (k + 1)) (lv' := [(4, .int (nI (k + 1))), (3, .int x_39), (5, .int (nI (apartN z k))), (0, .ref (G.1 0 s)), (1, .int (nI z)), (2, .ref (G.1 12 0))]) hx hb dX3_glow_41 hl (k := 5) rfl (nI_add _ _) (by decide) rfl (fun ls hl => ?_)
          refine lv_goto (tgt := 5) hx hb dX3_glow_44 (by decide) ?_
          exact K_5 (k + 1) x_39 (by first | omega | assumption | rfl) (by first | (rw [glowK, if_neg (Nat.not_lt.mpr c_23)]; exact ha) | (rw [glowK, if_pos c_23, ex_39, ex_38, ex_37, ex_30, ha, ← scr_set (σ := σ) (s := s) (show apartN z k < 8 by omega)])) (by omega) _ _ _ hw hS (lv_sub hl [3, 4, 5, 1, 0] rfl)
  exact K_5 (18 - 0 + 1) 0 (nI 0) (by first | omega | assumption | rfl) (by first | omega | assumption | rfl) (Nat.lt_succ_self _) _ _ _ hw hS (lv_sub hl [2, 3, 4, 1, 0] rfl)
set_option maxHeartbeats 4000000 in
set_option maxRecDepth 100000 in
/-- ZonedLight$Screen.glow(I[I)I -/
theorem c_X3_glowS (l : Launch) (G : GG) (A : Nat → Prop) (σ : St) (s : Nat) (z : Nat) (hs : s < 7) (hz : z < 18) : MI l yX3_glow wsX3_glow 2 44 G A σ [.ref (G.1 0 s), .int (nI z), .ref (G.1 2 s)] (fun r τ => r = glowK (scr σ s) (levO (scr σ s)) z 18 ∧ τ = σ) := by
  refine MI.on (by decide) rfl (Nat.le_of_ble_eq_true rfl) (fun pP eE sS mM args below meth cC ls hx hb hml hr hown hlk hts hE hw hS hl => ?_)
  have hl : lv_has ls 6 [(0, .ref (G.1 0 s)), (1, .int (nI z)), (2, .ref (G.1 2 s))] := hl
  refine lv_iconst (v := nI 0) hx hb dX3_glow_0 (by decide) ?_
  refine lv_istore_n (lv' := [(3, .int (nI 0)), (0, .ref (G.1 0 s)), (1, .int (nI z)), (2, .ref (G.1 2 s))]) hx hb dX3_glow_1 rfl hl (by decide) rfl (fun ls hl => ?_)
  refine lv_iconst (v := nI 0) hx hb dX3_glow_2 (by decide) ?_
  refine lv_istore (lv' := [(4, .int (nI 0)), (3, .int (nI 0)), (0, .ref (G.1 0 s)), (1, .int (nI z)), (2, .ref (G.1 2 s))]) hx hb dX3_glow_3 hl (by decide) rfl (fun ls hl => ?_)
  have K_5 : ∀ (fuel : Nat) (k : Nat) (acc : Int32), (k ≤ 18) → (acc = glowK (scr σ s) (levO (scr σ s)) z k) → 18 - k < fuel → ∀ (H : Heap) (locs : List Loc) (ls : Array Slot), Wcel G σ H → va_S A sS.heap H locs → lv_has ls 6 [(0, .ref (G.1 0 s)), (1, .int (nI z)), (2, .ref (G.1 2 s)), (3, .int acc), (4, .int (nI k))] → W pP l eE { frames := 2, cells := 0, slots := 0, locals := 44 } sS mM args below meth cC H locs 0 0 (MQ below (va_Qi (fun r τ => r = glowK (scr σ s) (levO (scr σ s)) z 18 ∧ τ = σ) (fun τ t => gP G A τ t) A) args sS 0 0 A) (F0 mM 5 ls []) := by
    intro fuel
    induction fuel with
    | zero =>
      intro k acc hk ha hfu
      exact absurd hfu (Nat.not_lt_zero _)
    | succ fuel K_5 =>
      intro k acc hk ha hfu H locs ls hw hS hl
      refine lv_iload hx hb dX3_glow_5 (lv_at hl 4 rfl) ?_
      refine lv_bipush (v := nI 18) hx hb dX3_glow_7 (by decide) ?_
      refine n_cmp_ge (tgt := 47) hx hb dX3_glow_9 (by decide) (by omega) (by omega) (fun c_9 => ?_) (fun c_9 => ?_)
      · refine lv_iload_n hx hb dX3_glow_47 rfl (lv_at hl 3 rfl) ?_
        refine g_iret hx hb hr hlk hE hw hS dX3_glow_48 ?_
        exact ⟨by rw [ha, show k = 18 by omega], rfl⟩
      · refine lv_iload_n hx hb dX3_glow_12 rfl (lv_at hl 1 rfl) ?_
        refine lv_iload hx hb dX3_glow_13 (lv_at hl 4 rfl) ?_
        refine g_SNi (n := 2) (As := [.int (nI z), .int (nI k)]) (rest := []) hx hb hml hown hts hE hw hS gX3_glow_X5_zonesApart_n63 (host := "ZonedLight") (by decide +kernel) (hts (.initialized RX5) (by decide +kernel)) (hts (.static yX5_zonesApart) (by decide +kernel)) (c_X5_zonesApart l G A _ z k (by omega) (by omega)) rfl (by decide +kernel) ⟨Nat.le_of_ble_eq_true rfl, Nat.le_of_ble_eq_true rfl⟩ rfl hl.1 rfl (Nat.le_of_ble_eq_true rfl) ⟨Nat.le_of_ble_eq_true rfl, Nat.le_of_ble_eq_true rfl⟩ dX3_glow_15 (fun r_15 τ_15 H locs hp_15 hw hS => ?_)
        obtain ⟨rfl, hτ_15⟩ := hp_15
        rw [hτ_15] at hw
        refine lv_istore (lv' := [(5, .int (nI (apartN z k))), (0, .ref (G.1 0 s)), (1, .int (nI z)), (2, .ref (G.1 2 s)), (3, .int acc), (4, .int (nI k))]) hx hb dX3_glow_18 hl (by decide) rfl (fun ls hl => ?_)
        refine lv_iload hx hb dX3_glow_20 (lv_at hl 0 rfl) ?_
        refine lv_iconst (v := nI 3) hx hb dX3_glow_22 (by decide) ?_
        refine n_cmp_ge (tgt := 41) hx hb dX3_glow_23 (by decide) (Nat.lt_trans (apartN_lt hz c_9) (by decide)) (by decide) (fun c_23 => ?_) (fun c_23 => ?_)
        · refine lv_iinc (v := nI (k + 1)) (lv' := [(4, .int (nI (k + 1))), (5, .int (nI (apartN z k))), (0, .ref (G.1 0 s)), (1, .int (nI z)), (2, .ref (G.1 2 s)), (3, .int acc)]) hx hb dX3_glow_41 hl (k := 5) rfl (nI_add _ _) (by decide) rfl (fun ls hl => ?_)
          refine lv_goto (tgt := 5) hx hb dX3_glow_44 (by decide) ?_
          exact K_5 (k + 1) acc (by first | omega | assumption | rfl) (by first | (rw [glowK, if_neg (Nat.not_lt.mpr c_23)]; exact ha) | (rw [glowK, if_pos c_23, ex_39, ex_38, ex_37, ex_30, ha, ← scr_set (σ := σ) (s := s) (show apartN z k < 8 by omega)]; rw [← scr_level (σ := σ) (s := s) c_9]; rfl)) (by omega) _ _ _ hw hS (lv_sub hl [2, 3, 4, 5, 0] rfl)
        · refine lv_iload_n hx hb dX3_glow_26 rfl (lv_at hl 4 rfl) ?_
          refine lv_aload_n hx hb dX3_glow_27 rfl (lv_at hl 3 rfl) ?_
          refine lv_iload hx hb dX3_glow_28 (lv_at hl 5 rfl) ?_
          refine g_ald hx hb hE hw (n := 18) (show s < 7 by omega) rfl (by decide) (by omega) dX3_glow_30 ?_
          refine lv_topi (fun x_30 ex_30 => ?_)
          refine lv_aload_n hx hb dX3_glow_31 rfl (lv_at hl 1 rfl) ?_
          refine gf_X3_setting hx hb hE hw (show s < 7 by omega) hown (hts (.fieldLink RX3 22 "ZonedLight$Screen" "setting" "[I") (by decide +kernel)) dX3_glow_32 ?_
          refine lv_iload hx hb dX3_glow_35 (lv_at hl 0 rfl) ?_
          refine g_ald hx hb hE hw (n := 8) (show s < 7 by omega) rfl (by decide) (by omega) dX3_glow_37 ?_
          refine lv_topi (fun x_37 ex_37 => ?_)
          refine lv_imul hx hb dX3_glow_38 ?_
          refine lv_topi (fun x_38 ex_38 => ?_)
          refine lv_iadd hx hb dX3_glow_39 ?_
          refine lv_topi (fun x_39 ex_39 => ?_)
          refine lv_istore_n (lv' := [(3, .int x_39), (5, .int (nI (apartN z k))), (0, .ref (G.1 0 s)), (1, .int (nI z)), (2, .ref (G.1 2 s)), (4, .int (nI k))]) hx hb dX3_glow_40 rfl hl (by decide) rfl (fun ls hl => ?_)
          refine lv_iinc (v := nI (k + 1)) (lv' := [(4, .int (nI (k + 1))), (3, .int x_39), (5, .int (nI (apartN z k))), (0, .ref (G.1 0 s)), (1, .int (nI z)), (2, .ref (G.1 2 s))]) hx hb dX3_glow_41 hl (k := 5) rfl (nI_add _ _) (by decide) rfl (fun ls hl => ?_)
          refine lv_goto (tgt := 5) hx hb dX3_glow_44 (by decide) ?_
          exact K_5 (k + 1) x_39 (by first | omega | assumption | rfl) (by first | (rw [glowK, if_neg (Nat.not_lt.mpr c_23)]; exact ha) | (rw [glowK, if_pos c_23, ex_39, ex_38, ex_37, ex_30, ha, ← scr_set (σ := σ) (s := s) (show apartN z k < 8 by omega)]; rw [← scr_level (σ := σ) (s := s) c_9]; rfl)) (by omega) _ _ _ hw hS (lv_sub hl [3, 4, 5, 1, 0] rfl)
  exact K_5 (18 - 0 + 1) 0 (nI 0) (by first | omega | assumption | rfl) (by first | omega | assumption | rfl) (Nat.lt_succ_self _) _ _ _ hw hS (lv_sub hl [2, 3, 4, 1, 0] rfl)
set_option maxHeartbeats 4000000 in
set_option maxRecDepth 100000 in
/-- ZonedLight$Screen.light(I)I -/
theorem c_X3_light (l : Launch) (G : GG) (A : Nat → Prop) (σ : St) (s : Nat) (z : Nat) (hs : s < 7) (hz : z < 18) : MI l yX3_light wsX3_light 3 69 G A σ [.ref (G.1 0 s), .int (nI z)] (fun r τ => r = lightF (scr σ s) (levO (scr σ s)) z ∧ τ = σ) := by
  refine MI.on (by decide) rfl (Nat.le_of_ble_eq_true rfl) (fun pP eE sS mM args below meth cC ls hx hb hml hr hown hlk hts hE hw hS hl => ?_)
  have hl : lv_has ls 2 [(0, .ref (G.1 0 s)), (1, .int (nI z))] := hl
  refine lv_aload_n hx hb dX3_light_0 rfl (lv_at hl 0 rfl) ?_
  refine lv_iload_n hx hb dX3_light_1 rfl (lv_at hl 1 rfl) ?_
  refine lv_aload_n hx hb dX3_light_2 rfl (lv_at hl 0 rfl) ?_
  refine gf_X3_level hx hb hE hw (show s < 7 by omega) hown (hts (.fieldLink RX3 15 "ZonedLight$Screen" "level" "[I") (by decide +kernel)) dX3_light_3 ?_
  refine g_Vi (n := 2) (As := [.int (nI z), .ref (G.1 2 s)]) (rest := []) hx hb hml hown hts hE hw hS gX3_light_X3_glow (c_X3_glowS l G A _ s z (by omega) (by omega)) rfl (by decide +kernel) ⟨Nat.le_of_ble_eq_true rfl, Nat.le_of_ble_eq_true rfl⟩ (show s < 7 by omega) rfl rfl rfl rfl hl.1 rfl (Nat.le_of_ble_eq_true rfl) ⟨Nat.le_of_ble_eq_true rfl, Nat.le_of_ble_eq_true rfl⟩ dX3_light_6 (fun x_6 τ_6 H locs hp_6 hw hS => ?_)
  obtain ⟨ex_6, hτ_6⟩ := hp_6
  rw [hτ_6] at hw
  refine g_SNi (n := 1) (As := [.int x_6]) (rest := []) hx hb hml hown hts hE hw hS gX3_light_X5_lightOf_n70 (host := "ZonedLight") (by decide +kernel) (hts (.initialized RX5) (by decide +kernel)) (hts (.static yX5_lightOf) (by decide +kernel)) (c_X5_lightOf l G A _ x_6) rfl (by decide +kernel) ⟨Nat.le_of_ble_eq_true rfl, Nat.le_of_ble_eq_true rfl⟩ rfl hl.1 rfl (Nat.le_of_ble_eq_true rfl) ⟨Nat.le_of_ble_eq_true rfl, Nat.le_of_ble_eq_true rfl⟩ dX3_light_9 (fun x_9 τ_9 H locs hp_9 hw hS => ?_)
  obtain ⟨ex_9, hτ_9⟩ := hp_9
  rw [hτ_9] at hw
  refine g_iret hx hb hr hlk hE hw hS dX3_light_12 ?_
  exact ⟨by rw [ex_9, ex_6]; rfl, rfl⟩
set_option maxHeartbeats 4000000 in
set_option maxRecDepth 100000 in
/-- ZonedLight$Screen.leakOf(I)I -/
theorem c_X3_leakOf (l : Launch) (G : GG) (A : Nat → Prop) (σ : St) (s : Nat) (x : Int32) (hs : s < 7) : MI l yX3_leakOf wsX3_leakOf 0 0 G A σ [.ref (G.1 0 s), .int x] (fun r τ => r = leakF (scr σ s) x ∧ τ = σ) := by
  refine MI.on (by decide) rfl (Nat.le_of_ble_eq_true rfl) (fun pP eE sS mM args below meth cC ls hx hb hml hr hown hlk hts hE hw hS hl => ?_)
  have hl : lv_has ls 2 [(0, .ref (G.1 0 s)), (1, .int x)] := hl
  refine lv_iload_n hx hb dX3_leakOf_0 rfl (lv_at hl 1 rfl) ?_
  refine lv_aload_n hx hb dX3_leakOf_1 rfl (lv_at hl 0 rfl) ?_
  refine gf_X3_setting hx hb hE hw (show s < 7 by omega) hown (hts (.fieldLink RX3 22 "ZonedLight$Screen" "setting" "[I") (by decide +kernel)) dX3_leakOf_2 ?_
  refine lv_iconst (v := nI 5) hx hb dX3_leakOf_5 (by decide) ?_
  refine g_ald hx hb hE hw (n := 8) (show s < 7 by omega) rfl (by decide) (by omega) dX3_leakOf_6 ?_
  refine lv_topi (fun x_6 ex_6 => ?_)
  refine lv_imul hx hb dX3_leakOf_7 ?_
  refine lv_topi (fun x_7 ex_7 => ?_)
  refine lv_sipush (v := nI 1000) hx hb dX3_leakOf_8 (by decide) ?_
  refine lv_idiv hx hb dX3_leakOf_11 (by decide) ?_
  refine lv_topi (fun x_11 ex_11 => ?_)
  refine g_iret hx hb hr hlk hE hw hS dX3_leakOf_12 ?_
  exact ⟨by rw [ex_11, ex_7, ex_6, ← scr_set (σ := σ) (s := s) (k := 5) (by decide)]; rfl, rfl⟩
set_option maxHeartbeats 4000000 in
set_option maxRecDepth 100000 in
/-- ZonedLight$Screen.shown(II)I -/
theorem c_X3_shown (l : Launch) (G : GG) (A : Nat → Prop) (σ : St) (s : Nat) (x : Int32) (y : Int32) (hs : s < 7) : MI l yX3_shown wsX3_shown 2 42 G A σ [.ref (G.1 0 s), .int x, .int y] (fun r τ => r = shownF (scr σ s) x y ∧ τ = σ) := by
  refine MI.on (by decide) rfl (Nat.le_of_ble_eq_true rfl) (fun pP eE sS mM args below meth cC ls hx hb hml hr hown hlk hts hE hw hS hl => ?_)
  have hl : lv_has ls 3 [(0, .ref (G.1 0 s)), (1, .int x), (2, .int y)] := hl
  refine lv_iload_n hx hb dX3_shown_0 rfl (lv_at hl 2 rfl) ?_
  refine lv_iload_n hx hb dX3_shown_1 rfl (lv_at hl 1 rfl) ?_
  refine lv_iload_n hx hb dX3_shown_2 rfl (lv_at hl 2 rfl) ?_
  refine g_SNi (n := 2) (As := [.int x, .int y]) (rest := [.int y]) hx hb hml hown hts hE hw hS gX3_shown_X5_glassFor_n74 (host := "ZonedLight") (by decide +kernel) (hts (.initialized RX5) (by decide +kernel)) (hts (.static yX5_glassFor) (by decide +kernel)) (c_X5_glassFor l G A _ x y) rfl (by decide +kernel) ⟨Nat.le_of_ble_eq_true rfl, Nat.le_of_ble_eq_true rfl⟩ rfl hl.1 rfl (Nat.le_of_ble_eq_true rfl) ⟨Nat.le_of_ble_eq_true rfl, Nat.le_of_ble_eq_true rfl⟩ dX3_shown_3 (fun x_3 τ_3 H locs hp_3 hw hS => ?_)
  obtain ⟨ex_3, hτ_3⟩ := hp_3
  rw [hτ_3] at hw
  refine lv_imul hx hb dX3_shown_6 ?_
  refine lv_topi (fun x_6 ex_6 => ?_)
  refine lv_sipush (v := nI 255) hx hb dX3_shown_7 (by decide) ?_
  refine lv_idiv hx hb dX3_shown_10 (by decide) ?_
  refine lv_topi (fun x_10 ex_10 => ?_)
  refine lv_aload_n hx hb dX3_shown_11 rfl (lv_at hl 0 rfl) ?_
  refine lv_iload_n hx hb dX3_shown_12 rfl (lv_at hl 2 rfl) ?_
  refine g_Vi (n := 1) (As := [.int y]) (rest := [.int x_10]) hx hb hml hown hts hE hw hS gX3_shown_X3_leakOf (c_X3_leakOf l G A _ s y (by omega)) rfl (by decide +kernel) ⟨Nat.le_of_ble_eq_true rfl, Nat.le_of_ble_eq_true rfl⟩ (show s < 7 by omega) rfl rfl rfl rfl hl.1 rfl (Nat.le_of_ble_eq_true rfl) ⟨Nat.le_of_ble_eq_true rfl, Nat.le_of_ble_eq_true rfl⟩ dX3_shown_13 (fun x_13 τ_13 H locs hp_13 hw hS => ?_)
  obtain ⟨ex_13, hτ_13⟩ := hp_13
  rw [hτ_13] at hw
  refine g_max hx hb (hml.trans hl.1.symm) hE hown (hts (.methodLink RX3 50 Lib.Math.max.name) (by decide +kernel)) ⟨Nat.le_of_ble_eq_true rfl, Nat.le_of_ble_eq_true rfl⟩ ⟨Nat.le_of_ble_eq_true rfl, Nat.le_of_ble_eq_true rfl⟩ dX3_shown_16 ?_
  refine lv_topi (fun x_16 ex_16 => ?_)
  refine g_iret hx hb hr hlk hE hw hS dX3_shown_19 ?_
  exact ⟨by rw [ex_16, ex_13, ex_10, ex_6, ex_3]; rfl, rfl⟩
set_option maxHeartbeats 4000000 in
set_option maxRecDepth 100000 in
/-- ZonedLight$Screen.power()I -/
theorem c_X3_power (l : Launch) (G : GG) (A : Nat → Prop) (σ : St) (s : Nat) (hs : s < 7) : MI l yX3_power wsX3_power 0 0 G A σ [.ref (G.1 0 s)] (fun r τ => r = powK (levO (scr σ s)) 18 ∧ τ = σ) := by
  refine MI.on (by decide) rfl (Nat.le_of_ble_eq_true rfl) (fun pP eE sS mM args below meth cC ls hx hb hml hr hown hlk hts hE hw hS hl => ?_)
  have hl : lv_has ls 3 [(0, .ref (G.1 0 s))] := hl
  refine lv_iconst (v := nI 0) hx hb dX3_power_0 (by decide) ?_
  refine lv_istore_n (lv' := [(1, .int (nI 0)), (0, .ref (G.1 0 s))]) hx hb dX3_power_1 rfl hl (by decide) rfl (fun ls hl => ?_)
  refine lv_iconst (v := nI 0) hx hb dX3_power_2 (by decide) ?_
  refine lv_istore_n (lv' := [(2, .int (nI 0)), (1, .int (nI 0)), (0, .ref (G.1 0 s))]) hx hb dX3_power_3 rfl hl (by decide) rfl (fun ls hl => ?_)
  have K_4 : ∀ (fuel : Nat) (k : Nat) (acc : Int32), (k ≤ 18) → (acc = powK (levO (scr σ s)) k) → 18 - k < fuel → ∀ (H : Heap) (locs : List Loc) (ls : Array Slot), Wcel G σ H → va_S A sS.heap H locs → lv_has ls 3 [(0, .ref (G.1 0 s)), (1, .int acc), (2, .int (nI k))] → W pP l eE { frames := 0, cells := 0, slots := 0, locals := 0 } sS mM args below meth cC H locs 0 0 (MQ below (va_Qi (fun r τ => r = powK (levO (scr σ s)) 18 ∧ τ = σ) (fun τ t => gP G A τ t) A) args sS 0 0 A) (F0 mM 4 ls []) := by
    intro fuel
    induction fuel with
    | zero =>
      intro k acc hk ha hfu
      exact absurd hfu (Nat.not_lt_zero _)
    | succ fuel K_4 =>
      intro k acc hk ha hfu H locs ls hw hS hl
      refine lv_iload_n hx hb dX3_power_4 rfl (lv_at hl 2 rfl) ?_
      refine lv_bipush (v := nI 18) hx hb dX3_power_5 (by decide) ?_
      refine n_cmp_ge (tgt := 25) hx hb dX3_power_7 (by decide) (by omega) (by omega) (fun c_7 => ?_) (fun c_7 => ?_)
      · refine lv_iload_n hx hb dX3_power_25 rfl (lv_at hl 1 rfl) ?_
        refine g_iret hx hb hr hlk hE hw hS dX3_power_26 ?_
        exact ⟨by rw [ha, show k = 18 by omega], rfl⟩
      · refine lv_iload_n hx hb dX3_power_10 rfl (lv_at hl 1 rfl) ?_
        refine lv_aload_n hx hb dX3_power_11 rfl (lv_at hl 0 rfl) ?_
        refine gf_X3_level hx hb hE hw (show s < 7 by omega) hown (hts (.fieldLink RX3 15 "ZonedLight$Screen" "level" "[I") (by decide +kernel)) dX3_power_12 ?_
        refine lv_iload_n hx hb dX3_power_15 rfl (lv_at hl 2 rfl) ?_
        refine g_ald hx hb hE hw (n := 18) (show s < 7 by omega) rfl (by decide) (by omega) dX3_power_16 ?_
        refine lv_topi (fun x_16 ex_16 => ?_)
        refine lv_iadd hx hb dX3_power_17 ?_
        refine lv_topi (fun x_17 ex_17 => ?_)
        refine lv_istore_n (lv' := [(1, .int x_17), (0, .ref (G.1 0 s)), (2, .int (nI k))]) hx hb dX3_power_18 rfl hl (by decide) rfl (fun ls hl => ?_)
        refine lv_iinc (v := nI (k + 1)) (lv' := [(2, .int (nI (k + 1))), (1, .int x_17), (0, .ref (G.1 0 s))]) hx hb dX3_power_19 hl (k := 2) rfl (nI_add _ _) (by decide) rfl (fun ls hl => ?_)
        refine lv_goto (tgt := 4) hx hb dX3_power_22 (by decide) ?_
        exact K_4 (k + 1) x_17 (by first | omega | assumption | rfl) (by rw [powK, ex_17, ex_16, ha, ← scr_level (σ := σ) (s := s) c_7]; rfl) (by omega) _ _ _ hw hS (lv_sub hl [2, 1, 0] rfl)
  exact K_4 (18 - 0 + 1) 0 (nI 0) (by first | omega | assumption | rfl) (by first | omega | assumption | rfl) (Nat.lt_succ_self _) _ _ _ hw hS (lv_sub hl [2, 1, 0] rfl)
set_option maxHeartbeats 4000000 in
set_option maxRecDepth 100000 in
/-- ZonedLight$Screen.deadZones()I -/
theorem c_X3_deadZones (l : Launch) (G : GG) (A : Nat → Prop) (σ : St) (s : Nat) (hs : s < 7) : MI l yX3_deadZones wsX3_deadZones 0 0 G A σ [.ref (G.1 0 s)] (fun r τ => r = deadK (scr σ s) 18 ∧ τ = σ) := by
  refine MI.on (by decide) rfl (Nat.le_of_ble_eq_true rfl) (fun pP eE sS mM args below meth cC ls hx hb hml hr hown hlk hts hE hw hS hl => ?_)
  have hl : lv_has ls 3 [(0, .ref (G.1 0 s))] := hl
  refine lv_iconst (v := nI 0) hx hb dX3_deadZones_0 (by decide) ?_
  refine lv_istore_n (lv' := [(1, .int (nI 0)), (0, .ref (G.1 0 s))]) hx hb dX3_deadZones_1 rfl hl (by decide) rfl (fun ls hl => ?_)
  refine lv_iconst (v := nI 0) hx hb dX3_deadZones_2 (by decide) ?_
  refine lv_istore_n (lv' := [(2, .int (nI 0)), (1, .int (nI 0)), (0, .ref (G.1 0 s))]) hx hb dX3_deadZones_3 rfl hl (by decide) rfl (fun ls hl => ?_)
  have K_4 : ∀ (fuel : Nat) (k : Nat) (acc : Int32), (k ≤ 18) → (acc = deadK (scr σ s) k) → 18 - k < fuel → ∀ (H : Heap) (locs : List Loc) (ls : Array Slot), Wcel G σ H → va_S A sS.heap H locs → lv_has ls 3 [(0, .ref (G.1 0 s)), (1, .int acc), (2, .int (nI k))] → W pP l eE { frames := 0, cells := 0, slots := 0, locals := 0 } sS mM args below meth cC H locs 0 0 (MQ below (va_Qi (fun r τ => r = deadK (scr σ s) 18 ∧ τ = σ) (fun τ t => gP G A τ t) A) args sS 0 0 A) (F0 mM 4 ls []) := by
    intro fuel
    induction fuel with
    | zero =>
      intro k acc hk ha hfu
      exact absurd hfu (Nat.not_lt_zero _)
    | succ fuel K_4 =>
      intro k acc hk ha hfu H locs ls hw hS hl
      refine lv_iload_n hx hb dX3_deadZones_4 rfl (lv_at hl 2 rfl) ?_
      refine lv_bipush (v := nI 18) hx hb dX3_deadZones_5 (by decide) ?_
      refine n_cmp_ge (tgt := 28) hx hb dX3_deadZones_7 (by decide) (by omega) (by omega) (fun c_7 => ?_) (fun c_7 => ?_)
      · refine lv_iload_n hx hb dX3_deadZones_28 rfl (lv_at hl 1 rfl) ?_
        refine g_iret hx hb hr hlk hE hw hS dX3_deadZones_29 ?_
        exact ⟨by rw [ha, show k = 18 by omega], rfl⟩
      · refine lv_aload_n hx hb dX3_deadZones_10 rfl (lv_at hl 0 rfl) ?_
        refine gf_X3_dead hx hb hE hw (show s < 7 by omega) hown (hts (.fieldLink RX3 18 "ZonedLight$Screen" "dead" "[Z") (by decide +kernel)) dX3_deadZones_11 ?_
        refine lv_iload_n hx hb dX3_deadZones_14 rfl (lv_at hl 2 rfl) ?_
        refine g_zald hx hb hE hw (n := 18) (show s < 7 by omega) rfl (by decide) (by omega) dX3_deadZones_15 ?_
        refine lv_topi (fun x_15 ex_15 => ?_)
        refine lv_if_eq (tgt := 22) hx hb dX3_deadZones_16 (by decide) (fun c_16 => ?_) (fun c_16 => ?_)
        · refine lv_iinc (v := nI (k + 1)) (lv' := [(2, .int (nI (k + 1))), (0, .ref (G.1 0 s)), (1, .int acc)]) hx hb dX3_deadZones_22 hl (k := 2) rfl (nI_add _ _) (by decide) rfl (fun ls hl => ?_)
          refine lv_goto (tgt := 4) hx hb dX3_deadZones_25 (by decide) ?_
          exact K_4 (k + 1) acc (by first | omega | assumption | rfl) (by rw [deadK, scr_dead (σ := σ) (s := s) c_7, ← ex_15]; first | (rw [if_pos c_16]; exact ha) | (rw [if_neg c_16, ex_19, ha]; rfl)) (by omega) _ _ _ hw hS (lv_sub hl [1, 2, 0] rfl)
        · obtain ⟨x_19, ex_19⟩ : ∃ y : Int32, y = acc + Int32.ofInt (1) := ⟨_, rfl⟩
          refine lv_iinc (v := x_19) (lv' := [(1, .int x_19), (0, .ref (G.1 0 s)), (2, .int (nI k))]) hx hb dX3_deadZones_19 hl (k := 1) rfl ex_19.symm (by decide) rfl (fun ls hl => ?_)
          refine lv_iinc (v := nI (k + 1)) (lv' := [(2, .int (nI (k + 1))), (1, .int x_19), (0, .ref (G.1 0 s))]) hx hb dX3_deadZones_22 hl (k := 2) rfl (nI_add _ _) (by decide) rfl (fun ls hl => ?_)
          refine lv_goto (tgt := 4) hx hb dX3_deadZones_25 (by decide) ?_
          exact K_4 (k + 1) x_19 (by first | omega | assumption | rfl) (by rw [deadK, scr_dead (σ := σ) (s := s) c_7, ← ex_15]; first | (rw [if_pos c_16]; exact ha) | (rw [if_neg c_16, ex_19, ha]; rfl)) (by omega) _ _ _ hw hS (lv_sub hl [2, 1, 0] rfl)
  exact K_4 (18 - 0 + 1) 0 (nI 0) (by first | omega | assumption | rfl) (by first | omega | assumption | rfl) (Nat.lt_succ_self _) _ _ _ hw hS (lv_sub hl [2, 1, 0] rfl)
end
section
/-! PURE: rows of screens, one frame, tallies -/
theorem if_cong {α : Type} {p q : Prop} [Decidable p] [Decidable q] {x y : α} (h : p ↔ q) : (if p then x else y) = if q then x else y := by
  by_cases hp : p
  · rw [if_pos hp, if_pos (h.mp hp)]
  · rw [if_neg hp, if_neg (fun z => hp (h.mpr z))]
theorem scr_is {σ : St} {s : Nat} {f : Nat → Int32} (h1 : ∀ j, j < 288 → σ 1 s j = f j) (h2 : ∀ k, k < 18 → σ 2 s k = f (288 + k)) (h3 : ∀ k, k < 18 → σ 3 s k = f (306 + k)) (h4 : ∀ k, k < 8 → σ 4 s k = f (324 + k)) (h5 : σ 0 s 4 = f 332) (h6 : σ 0 s 5 = f 333) (h7 : σ 0 s 6 = f 334) (h8 : ∀ j, 335 ≤ j → f j = 0) : scr σ s = f := by
  funext j
  rcases Nat.lt_or_ge j 288 with q | q
  · rw [scr_asked q, h1 j q]
  · rcases Nat.lt_or_ge j 306 with q2 | q2
    · have e : j = 288 + (j - 288) := by omega
      rw [e, scr_level (by omega), h2 _ (by omega)]
    · rcases Nat.lt_or_ge j 324 with q3 | q3
      · have e : j = 306 + (j - 306) := by omega
        rw [e, scr_dead (by omega), h3 _ (by omega)]
      · rcases Nat.lt_or_ge j 332 with q4 | q4
        · have e : j = 324 + (j - 324) := by omega
          rw [e, scr_set (by omega), h4 _ (by omega)]
        · rcases Nat.lt_or_ge j 335 with q5 | q5
          · rcases (show j = 332 ∨ j = 333 ∨ j = 334 by omega) with rfl | rfl | rfl
            · exact (scr_fld (k := 4) (by decide) (by decide)).trans h5
            · exact (scr_fld (k := 5) (by decide) (by decide)).trans h6
            · exact (scr_fld (k := 6) (by decide) (by decide)).trans h7
          · rw [scr_out q5, h8 j q5]
theorem scr_as {σ τ : St} {s t : Nat} (h1 : ∀ j, j < 288 → σ 1 s j = τ 1 t j) (h2 : ∀ k, k < 18 → σ 2 s k = τ 2 t k) (h3 : ∀ k, k < 18 → σ 3 s k = τ 3 t k) (h4 : ∀ k, k < 8 → σ 4 s k = τ 4 t k) (h5 : ∀ k, 4 ≤ k → k < 7 → σ 0 s k = τ 0 t k) : scr σ s = scr τ t :=
  scr_is (fun j q => by rw [h1 j q, scr_asked q]) (fun k q => by rw [h2 k q, scr_level q]) (fun k q => by rw [h3 k q, scr_dead q]) (fun k q => by rw [h4 k q, scr_set q]) (by rw [h5 4 (by decide) (by decide)]; exact (scr_fld (k := 4) (by decide) (by decide)).symm) (by rw [h5 5 (by decide) (by decide)]; exact (scr_fld (k := 5) (by decide) (by decide)).symm) (by rw [h5 6 (by decide) (by decide)]; exact (scr_fld (k := 6) (by decide) (by decide)).symm) (fun _ q => scr_out q)
/-- a screen's copy, with k of the dead zones done -/
def copyP (σ σ2 : St) (s t k : Nat) : Prop := ∀ k1 i1 j1, σ2 k1 i1 j1 = if i1 = s ∧ (k1 = 1 ∨ k1 = 2 ∨ k1 = 4 ∨ (k1 = 3 ∧ j1 < k)) then σ k1 t j1 else σ k1 i1 j1
theorem copyP_0 {σ : St} {s t : Nat} (hst : ¬ s = t) : copyP σ (ur (ur (ur σ 1 s (σ 1 t)) 2 s (ur σ 1 s (σ 1 t) 2 t)) 4 s (ur (ur σ 1 s (σ 1 t)) 2 s (ur σ 1 s (σ 1 t) 2 t) 4 t)) s t 0 := by
  intro k1 i1 j1
  simp only [ur_ap]
  by_cases q : i1 = s
  · subst q
    by_cases q1 : k1 = 1
    · subst q1; simp
    · by_cases q2 : k1 = 2
      · subst q2; simp
      · by_cases q4 : k1 = 4
        · subst q4; simp
        · simp [q1, q2, q4]
  · simp [q]
theorem copyP_1 {σ σ2 : St} {s t k : Nat} {v : Int32} (hst : ¬ s = t) (h : copyP σ σ2 s t k) (hv : v = σ2 3 t k) : copyP σ (us σ2 3 s k v) s t (k + 1) := by
  intro k1 i1 j1
  rw [us_ap]
  by_cases q : k1 = 3 ∧ i1 = s ∧ j1 = k
  · obtain ⟨rfl, rfl, rfl⟩ := q
    rw [if_pos ⟨rfl, rfl, rfl⟩, hv, h, if_neg (fun z => hst z.1.symm), if_pos ⟨rfl, Or.inr (Or.inr (Or.inr ⟨rfl, by omega⟩))⟩]
  · rw [if_neg q, h]
    exact if_cong (by omega)
theorem copyP_2 {σ σ2 : St} {s t : Nat} {x y z : Int32} (hst : ¬ s = t) (h : copyP σ σ2 s t 18) (hx : x = σ2 0 t 4) (hy : y = us σ2 0 s 4 x 0 t 5) (hz : z = us (us σ2 0 s 4 x) 0 s 5 y 0 t 6) : scr (us (us (us σ2 0 s 4 x) 0 s 5 y) 0 s 6 z) s = scr σ t ∧ eqX σ (us (us (us σ2 0 s 4 x) 0 s 5 y) 0 s 6 z) s := by
  have h0 : ∀ j, σ2 0 t j = σ 0 t j := fun j => by rw [h, if_neg (by omega)]
  refine ⟨scr_as (fun j q => ?_) (fun j q => ?_) (fun j q => ?_) (fun j q => ?_) (fun j q1 q2 => ?_), fun k1 i1 q => ?_⟩
  · rw [us_k (by decide), us_k (by decide), us_k (by decide), h, if_pos (by omega)]
  · rw [us_k (by decide), us_k (by decide), us_k (by decide), h, if_pos (by omega)]
  · rw [us_k (by decide), us_k (by decide), us_k (by decide), h, if_pos (by omega)]
  · rw [us_k (by decide), us_k (by decide), us_k (by decide), h, if_pos (by omega)]
  · simp only [us_ap] at hy hz ⊢
    rcases (show j = 4 ∨ j = 5 ∨ j = 6 by omega) with rfl | rfl | rfl
    · simp [hx, h0]
    · rw [if_neg (by omega)] at hy
      simp [hy, h0]
    · rw [if_neg (by omega), if_neg (by omega)] at hz
      simp [hz, h0]
  · funext j
    simp only [us_ap]
    rw [if_neg (by omega), if_neg (by omega), if_neg (by omega), h, if_neg (by omega)]
/-- a frame, with k zones done -/
def passP (σ σ2 : St) (s k : Nat) : Prop := ∀ k1 i1 j1, σ2 k1 i1 j1 = if k1 = 2 ∧ i1 = s ∧ j1 < k then σ 2 s j1 + chgF (scr σ s) (σ 12 0) j1 else if k1 = 0 ∧ i1 = s ∧ j1 = 5 then flickK (scr σ s) (σ 12 0) k else σ k1 i1 j1
theorem passP_0 {σ : St} {s : Nat} : passP σ σ s 0 := by
  intro k1 i1 j1
  rw [if_neg (by omega)]
  split
  · rename_i q
    obtain ⟨rfl, rfl, rfl⟩ := q
    exact (scr_fld (k := 5) (by decide) (by decide)).symm
  · rfl
theorem passP_dead {σ σ2 : St} {s k : Nat} (h : passP σ σ2 s k) (hd : ¬ scr σ s (306 + k) = 0) : passP σ σ2 s (k + 1) := by
  have hc : chgF (scr σ s) (σ 12 0) k = 0 := by rw [chgF, if_neg hd]
  have hf : flickK (scr σ s) (σ 12 0) (k + 1) = flickK (scr σ s) (σ 12 0) k := by
    rw [flickK, hc]
    show _ + (0 : Int32) = _
    exact Int32.add_zero _
  intro k1 i1 j1
  rw [h, hf]
  by_cases q : k1 = 2 ∧ i1 = s ∧ j1 = k
  · obtain ⟨rfl, rfl, rfl⟩ := q
    rw [if_neg (by omega), if_neg (by omega), if_pos ⟨rfl, rfl, by omega⟩, hc, Int32.add_zero]
  · exact if_cong (by omega)
theorem passP_live {σ σ2 : St} {s k : Nat} {v f : Int32} (h : passP σ σ2 s k) (hv : v = σ2 2 s k + chgF (scr σ s) (σ 12 0) k) (hf : f = us σ2 2 s k v 0 s 5 + iabs (chgF (scr σ s) (σ 12 0) k)) : passP σ (us (us σ2 2 s k v) 0 s 5 f) s (k + 1) := by
  have h5 : σ2 0 s 5 = flickK (scr σ s) (σ 12 0) k := by rw [h, if_neg (by omega), if_pos ⟨rfl, rfl, rfl⟩]
  have hk : σ2 2 s k = σ 2 s k := by rw [h, if_neg (by omega), if_neg (by omega)]
  rw [us_k (by decide), h5] at hf
  rw [hk] at hv
  intro k1 i1 j1
  rw [us_ap, us_ap]
  by_cases q : k1 = 0 ∧ i1 = s ∧ j1 = 5
  · rw [if_pos q, if_neg (by omega), if_pos q, hf]
    rfl
  · rw [if_neg q]
    by_cases q2 : k1 = 2 ∧ i1 = s ∧ j1 = k
    · rw [if_pos q2, if_pos (by omega), hv, q2.2.2]
    · rw [if_neg q2, h, if_neg q, if_neg q]
      exact if_cong (by omega)
theorem passP_end {σ σ2 : St} {s : Nat} {x y : Int32} (h : passP σ σ2 s 18) (hx : x = σ2 0 s 4 + 1) (hy : y = us σ2 0 s 4 x 0 s 6 + powK (levO (scr (us σ2 0 s 4 x) s)) 18) : scr (us (us σ2 0 s 4 x) 0 s 6 y) s = frameF (scr σ s) (σ 12 0) ∧ eqX σ (us (us σ2 0 s 4 x) 0 s 6 y) s := by
  have e2 : ∀ j, j < 18 → σ2 2 s j = scr σ s (288 + j) + chgF (scr σ s) (σ 12 0) j := fun j q => by rw [h, if_pos ⟨rfl, rfl, q⟩, scr_level q]
  have ep : powK (levO (scr (us σ2 0 s 4 x) s)) 18 = powK (fun k => scr σ s (288 + k) + chgF (scr σ s) (σ 12 0) k) 18 := powK_congr (fun k q => by
    show scr (us σ2 0 s 4 x) s (288 + k) = _
    rw [scr_level q, us_k (by decide), e2 k q]) 18 (Nat.le_refl _)
  rw [ep] at hy
  simp only [us_ap] at hy
  rw [if_neg (by omega), h, if_neg (by omega), if_neg (by omega)] at hy
  rw [h, if_neg (by omega), if_neg (by omega)] at hx
  have f4 : scr σ s 332 = σ 0 s 4 := scr_fld (k := 4) (by decide) (by decide)
  have f6 : scr σ s 334 = σ 0 s 6 := scr_fld (k := 6) (by decide) (by decide)
  refine ⟨scr_is (fun j q => ?_) (fun j q => ?_) (fun j q => ?_) (fun j q => ?_) ?_ ?_ ?_ (fun j q => ?_), fun k1 i1 q => ?_⟩
  · rw [us_k (by decide), us_k (by decide), h, if_neg (by omega), if_neg (by omega)]
    unfold frameF
    rw [if_neg (by omega), if_neg (by omega), if_neg (by omega), if_neg (by omega), scr_asked q]
  · rw [us_k (by decide), us_k (by decide), e2 j q]
    unfold frameF
    rw [if_pos (by omega), show 288 + j - 288 = j by omega]
  · rw [us_k (by decide), us_k (by decide), h, if_neg (by omega), if_neg (by omega)]
    unfold frameF
    rw [if_neg (by omega), if_neg (by omega), if_neg (by omega), if_neg (by omega), scr_dead q]
  · rw [us_k (by decide), us_k (by decide), h, if_neg (by omega), if_neg (by omega)]
    unfold frameF
    rw [if_neg (by omega), if_neg (by omega), if_neg (by omega), if_neg (by omega), scr_set q]
  · rw [us_not (by decide), us_at, hx, ← f4]
    rfl
  · rw [us_not (by decide), us_not (by decide), h, if_neg (by omega), if_pos ⟨rfl, rfl, rfl⟩]
    rfl
  · rw [us_at, hy, ← f6]
    rfl
  · unfold frameF
    rw [if_neg (by omega), if_neg (by omega), if_neg (by omega), if_neg (by omega), scr_out q]
  · funext j
    rw [us_ap, us_ap, if_neg (by omega), if_neg (by omega), h, if_neg (by omega), if_neg (by omega)]
theorem tAdd_us {σ : St} {x y b c d : Int32} {a1 a2 : Int32} (h1 : a1 = if verdF x y = 1 then σ 14 0 0 + 1 else σ 14 0 0) (h2 : a2 = if verdF x y = 2 then σ 14 0 1 + 1 else σ 14 0 1) (hb : b = σ 14 0 2 + iabs (y - x)) (hc : c = imax (σ 14 0 3) (iabs (y - x))) (hd : d = σ 14 0 4 + y) : us (us (us (us (us σ 14 0 0 a1) 14 0 1 a2) 14 0 2 b) 14 0 3 c) 14 0 4 d = ur σ 14 0 (tAdd (σ 14 0) x y) := by
  apply St_ext
  intro k1 i1 j1
  simp only [us_ap, ur_ap]
  by_cases q : k1 = 14 ∧ i1 = 0
  · obtain ⟨rfl, rfl⟩ := q
    unfold tAdd
    rcases (show j1 = 0 ∨ j1 = 1 ∨ j1 = 2 ∨ j1 = 3 ∨ j1 = 4 ∨ 5 ≤ j1 by omega) with rfl | rfl | rfl | rfl | rfl | g
    · simp [h1]
    · simp [h2]
    · simp [hb]
    · simp [hc]
    · simp [hd]
    · simp only [true_and, if_true]
      rw [if_neg (by omega), if_neg (by omega), if_neg (by omega), if_neg (by omega), if_neg (by omega), if_neg (by omega), if_neg (by omega), if_neg (by omega), if_neg (by omega), if_neg (by omega)]
  · rw [if_neg (by omega), if_neg (by omega), if_neg (by omega), if_neg (by omega), if_neg (by omega), if_neg q]
theorem tZero_us {σ : St} (h : ∀ j, 5 ≤ j → σ 14 0 j = 0) : us (us (us (us (us σ 14 0 0 0) 14 0 1 0) 14 0 2 0) 14 0 3 0) 14 0 4 0 = ur σ 14 0 (fun _ => 0) := by
  apply St_ext
  intro k1 i1 j1
  simp only [us_ap, ur_ap]
  by_cases q : k1 = 14 ∧ i1 = 0
  · obtain ⟨rfl, rfl⟩ := q
    rcases (show j1 = 0 ∨ j1 = 1 ∨ j1 = 2 ∨ j1 = 3 ∨ j1 = 4 ∨ 5 ≤ j1 by omega) with rfl | rfl | rfl | rfl | rfl | g
    · simp
    · simp
    · simp
    · simp
    · simp
    · rw [if_neg (by omega), if_neg (by omega), if_neg (by omega), if_neg (by omega), if_neg (by omega), if_pos ⟨rfl, rfl⟩, h _ g]
  · rw [if_neg (by omega), if_neg (by omega), if_neg (by omega), if_neg (by omega), if_neg (by omega), if_neg q]
end
section
/-! CONTRACTS, laid by program -/
set_option maxHeartbeats 4000000 in
set_option maxRecDepth 100000 in
/-- ZonedLight$Screen.copyFrom(LZonedLight$Screen;)V -/
theorem c_X3_copyFrom (l : Launch) (G : GG) (A : Nat → Prop) (σ : St) (s : Nat) (t : Nat) (hs : s < 7) (ht : t < 7) (hst : ¬ s = t) : MV l yX3_copyFrom wsX3_copyFrom 1 26 G A σ [.ref (G.1 0 s), .ref (G.1 0 t)] (fun τ => scr τ s = scr σ t ∧ eqX σ τ s) := by
  refine MV.on (by decide) rfl (Nat.le_of_ble_eq_true rfl) (fun pP eE sS mM args below meth cC ls hx hb hml hr hown hlk hts hE hw hS hl => ?_)
  have hl : lv_has ls 3 [(0, .ref (G.1 0 s)), (1, .ref (G.1 0 t))] := hl
  refine lv_aload_n hx hb dX3_copyFrom_0 rfl (lv_at hl 1 rfl) ?_
  refine gf_X3_asked hx hb hE hw (show t < 7 by omega) hown (hts (.fieldLink RX3 9 "ZonedLight$Screen" "asked" "[I") (by decide +kernel)) dX3_copyFrom_1 ?_
  refine lv_iconst (v := nI 0) hx hb dX3_copyFrom_4 (by decide) ?_
  refine lv_aload_n hx hb dX3_copyFrom_5 rfl (lv_at hl 0 rfl) ?_
  refine gf_X3_asked hx hb hE hw (show s < 7 by omega) hown (hts (.fieldLink RX3 9 "ZonedLight$Screen" "asked" "[I") (by decide +kernel)) dX3_copyFrom_6 ?_
  refine lv_iconst (v := nI 0) hx hb dX3_copyFrom_9 (by decide) ?_
  refine lv_sipush (v := nI 288) hx hb dX3_copyFrom_10 (by decide) ?_
  refine g_copy hx hb (hml.trans hl.1.symm) hE hw hS hown (hts (.methodLink RX3 38 arraycopyName) (by decide +kernel)) (n := 288) (n0 := 288) (n1 := 288) (show t < 7 by omega) (show s < 7 by omega) rfl (fun _ => rfl) (by decide) rfl rfl (by decide) (by decide) (by decide) (Nat.le_of_ble_eq_true rfl) (Nat.le_of_ble_eq_true rfl) dX3_copyFrom_13 (fun H locs hw hS => ?_)
  refine lv_aload_n hx hb dX3_copyFrom_16 rfl (lv_at hl 1 rfl) ?_
  refine gf_X3_level hx hb hE hw (show t < 7 by omega) hown (hts (.fieldLink RX3 15 "ZonedLight$Screen" "level" "[I") (by decide +kernel)) dX3_copyFrom_17 ?_
  refine lv_iconst (v := nI 0) hx hb dX3_copyFrom_20 (by decide) ?_
  refine lv_aload_n hx hb dX3_copyFrom_21 rfl (lv_at hl 0 rfl) ?_
  refine gf_X3_level hx hb hE hw (show s < 7 by omega) hown (hts (.fieldLink RX3 15 "ZonedLight$Screen" "level" "[I") (by decide +kernel)) dX3_copyFrom_22 ?_
  refine lv_iconst (v := nI 0) hx hb dX3_copyFrom_25 (by decide) ?_
  refine lv_bipush (v := nI 18) hx hb dX3_copyFrom_26 (by decide) ?_
  refine g_copy hx hb (hml.trans hl.1.symm) hE hw hS hown (hts (.methodLink RX3 38 arraycopyName) (by decide +kernel)) (n := 18) (n0 := 18) (n1 := 18) (show t < 7 by omega) (show s < 7 by omega) rfl (fun _ => rfl) (by decide) rfl rfl (by decide) (by decide) (by decide) (Nat.le_of_ble_eq_true rfl) (Nat.le_of_ble_eq_true rfl) dX3_copyFrom_28 (fun H locs hw hS => ?_)
  refine lv_aload_n hx hb dX3_copyFrom_31 rfl (lv_at hl 1 rfl) ?_
  refine gf_X3_setting hx hb hE hw (show t < 7 by omega) hown (hts (.fieldLink RX3 22 "ZonedLight$Screen" "setting" "[I") (by decide +kernel)) dX3_copyFrom_32 ?_
  refine lv_iconst (v := nI 0) hx hb dX3_copyFrom_35 (by decide) ?_
  refine lv_aload_n hx hb dX3_copyFrom_36 rfl (lv_at hl 0 rfl) ?_
  refine gf_X3_setting hx hb hE hw (show s < 7 by omega) hown (hts (.fieldLink RX3 22 "ZonedLight$Screen" "setting" "[I") (by decide +kernel)) dX3_copyFrom_37 ?_
  refine lv_iconst (v := nI 0) hx hb dX3_copyFrom_40 (by decide) ?_
  refine lv_bipush (v := nI 8) hx hb dX3_copyFrom_41 (by decide) ?_
  refine g_copy hx hb (hml.trans hl.1.symm) hE hw hS hown (hts (.methodLink RX3 38 arraycopyName) (by decide +kernel)) (n := 8) (n0 := 8) (n1 := 8) (show t < 7 by omega) (show s < 7 by omega) rfl (fun _ => rfl) (by decide) rfl rfl (by decide) (by decide) (by decide) (Nat.le_of_ble_eq_true rfl) (Nat.le_of_ble_eq_true rfl) dX3_copyFrom_43 (fun H locs hw hS => ?_)
  refine lv_iconst (v := nI 0) hx hb dX3_copyFrom_46 (by decide) ?_
  refine lv_istore_n (lv' := [(2, .int (nI 0)), (0, .ref (G.1 0 s)), (1, .ref (G.1 0 t))]) hx hb dX3_copyFrom_47 rfl hl (by decide) rfl (fun ls hl => ?_)
  have K_48 : ∀ (fuel : Nat) (k : Nat) (σ2 : St), (k ≤ 18) → (copyP σ σ2 s t k) → 18 - k < fuel → ∀ (H : Heap) (locs : List Loc) (ls : Array Slot), Wcel G σ2 H → va_S A sS.heap H locs → lv_has ls 3 [(0, .ref (G.1 0 s)), (1, .ref (G.1 0 t)), (2, .int (nI k))] → W pP l eE { frames := 1, cells := 0, slots := 0, locals := 26 } sS mM args below meth cC H locs 0 0 (MQ below (va_Qv (fun τ => scr τ s = scr σ t ∧ eqX σ τ s) (fun τ t => gP G A τ t) A) args sS 0 0 A) (F0 mM 48 ls []) := by
    intro fuel
    induction fuel with
    | zero =>
      intro k σ2 hk h2 hfu
      exact absurd hfu (Nat.not_lt_zero _)
    | succ fuel K_48 =>
      intro k σ2 hk h2 hfu H locs ls hw hS hl
      refine lv_iload_n hx hb dX3_copyFrom_48 rfl (lv_at hl 2 rfl) ?_
      refine lv_bipush (v := nI 18) hx hb dX3_copyFrom_49 (by decide) ?_
      refine n_cmp_ge (tgt := 72) hx hb dX3_copyFrom_51 (by decide) (by omega) (by omega) (fun c_51 => ?_) (fun c_51 => ?_)
      · refine lv_aload_n hx hb dX3_copyFrom_72 rfl (lv_at hl 0 rfl) ?_
        refine lv_aload_n hx hb dX3_copyFrom_73 rfl (lv_at hl 1 rfl) ?_
        refine gf_X3_frames hx hb hE hw (show t < 7 by omega) hown (hts (.fieldLink RX3 25 "ZonedLight$Screen" "frames" "I") (by decide +kernel)) dX3_copyFrom_74 ?_
        refine lv_topi (fun x_74 ex_74 => ?_)
        refine gp_X3_frames hx hb hE hw hS (show s < 7 by omega) hown (hts (.fieldLink RX3 25 "ZonedLight$Screen" "frames" "I") (by decide +kernel)) dX3_copyFrom_77 (fun H locs hw hS => ?_)
        refine lv_aload_n hx hb dX3_copyFrom_80 rfl (lv_at hl 0 rfl) ?_
        refine lv_aload_n hx hb dX3_copyFrom_81 rfl (lv_at hl 1 rfl) ?_
        refine gf_X3_flicker hx hb hE hw (show t < 7 by omega) hown (hts (.fieldLink RX3 29 "ZonedLight$Screen" "flicker" "I") (by decide +kernel)) dX3_copyFrom_82 ?_
        refine lv_topi (fun x_82 ex_82 => ?_)
        refine gp_X3_flicker hx hb hE hw hS (show s < 7 by omega) hown (hts (.fieldLink RX3 29 "ZonedLight$Screen" "flicker" "I") (by decide +kernel)) dX3_copyFrom_85 (fun H locs hw hS => ?_)
        refine lv_aload_n hx hb dX3_copyFrom_88 rfl (lv_at hl 0 rfl) ?_
        refine lv_aload_n hx hb dX3_copyFrom_89 rfl (lv_at hl 1 rfl) ?_
        refine gf_X3_powerSoFar hx hb hE hw (show t < 7 by omega) hown (hts (.fieldLink RX3 32 "ZonedLight$Screen" "powerSoFar" "I") (by decide +kernel)) dX3_copyFrom_90 ?_
        refine lv_topi (fun x_90 ex_90 => ?_)
        refine gp_X3_powerSoFar hx hb hE hw hS (show s < 7 by omega) hown (hts (.fieldLink RX3 32 "ZonedLight$Screen" "powerSoFar" "I") (by decide +kernel)) dX3_copyFrom_93 (fun H locs hw hS => ?_)
        refine g_vret hx hb hr hlk hE hw hS dX3_copyFrom_96 ?_
        exact copyP_2 hst (by rw [show k = 18 by omega] at h2; exact h2) ex_74 ex_82 ex_90
      · refine lv_aload_n hx hb dX3_copyFrom_54 rfl (lv_at hl 0 rfl) ?_
        refine gf_X3_dead hx hb hE hw (show s < 7 by omega) hown (hts (.fieldLink RX3 18 "ZonedLight$Screen" "dead" "[Z") (by decide +kernel)) dX3_copyFrom_55 ?_
        refine lv_iload_n hx hb dX3_copyFrom_58 rfl (lv_at hl 2 rfl) ?_
        refine lv_aload_n hx hb dX3_copyFrom_59 rfl (lv_at hl 1 rfl) ?_
        refine gf_X3_dead hx hb hE hw (show t < 7 by omega) hown (hts (.fieldLink RX3 18 "ZonedLight$Screen" "dead" "[Z") (by decide +kernel)) dX3_copyFrom_60 ?_
        refine lv_iload_n hx hb dX3_copyFrom_63 rfl (lv_at hl 2 rfl) ?_
        refine g_zald hx hb hE hw (n := 18) (show t < 7 by omega) rfl (by decide) (by omega) dX3_copyFrom_64 ?_
        refine lv_topi (fun x_64 ex_64 => ?_)
        refine g_zast hx hb hE hw hS (n := 18) (show s < 7 by omega) (fun _ => rfl) rfl (by decide) (by omega) (by rw [ex_64]; exact hw.2.2 _ _) dX3_copyFrom_65 (fun H locs hw hS => ?_)
        refine lv_iinc (v := nI (k + 1)) (lv' := [(2, .int (nI (k + 1))), (0, .ref (G.1 0 s)), (1, .ref (G.1 0 t))]) hx hb dX3_copyFrom_66 hl (k := 2) rfl (nI_add _ _) (by decide) rfl (fun ls hl => ?_)
        refine lv_goto (tgt := 48) hx hb dX3_copyFrom_69 (by decide) ?_
        exact K_48 (k + 1) _ (by first | omega | assumption | rfl) (copyP_1 hst h2 ex_64) (by omega) _ _ _ hw hS (lv_sub hl [1, 2, 0] rfl)
  exact K_48 (18 - 0 + 1) 0 _ (by first | omega | assumption | rfl) (copyP_0 hst) (Nat.lt_succ_self _) _ _ _ hw hS (lv_sub hl [1, 2, 0] rfl)
set_option maxHeartbeats 4000000 in
set_option maxRecDepth 100000 in
/-- ZonedLight$Screen.passFrame([I)V -/
theorem c_X3_passFrame (l : Launch) (G : GG) (A : Nat → Prop) (σ : St) (s : Nat) (hs : s < 7) : MV l yX3_passFrame wsX3_passFrame 1 22 G A σ [.ref (G.1 0 s), .ref (G.1 12 0)] (fun τ => scr τ s = frameF (scr σ s) (σ 12 0) ∧ eqX σ τ s) := by
  refine MV.on (by decide) rfl (Nat.le_of_ble_eq_true rfl) (fun pP eE sS mM args below meth cC ls hx hb hml hr hown hlk hts hE hw hS hl => ?_)
  have hl : lv_has ls 5 [(0, .ref (G.1 0 s)), (1, .ref (G.1 12 0))] := hl
  refine lv_iconst (v := nI 0) hx hb dX3_passFrame_0 (by decide) ?_
  refine lv_istore_n (lv' := [(2, .int (nI 0)), (0, .ref (G.1 0 s)), (1, .ref (G.1 12 0))]) hx hb dX3_passFrame_1 rfl hl (by decide) rfl (fun ls hl => ?_)
  have K_2 : ∀ (fuel : Nat) (k : Nat) (σ2 : St), (k ≤ 18) → (passP σ σ2 s k) → 18 - k < fuel → ∀ (H : Heap) (locs : List Loc) (ls : Array Slot), Wcel G σ2 H → va_S A sS.heap H locs → lv_has ls 5 [(0, .ref (G.1 0 s)), (1, .ref (G.1 12 0)), (2, .int (nI k))] → W pP l eE { frames := 1, cells := 0, slots := 0, locals := 22 } sS mM args below meth cC H locs 0 0 (MQ below (va_Qv (fun τ => scr τ s = frameF (scr σ s) (σ 12 0) ∧ eqX σ τ s) (fun τ t => gP G A τ t) A) args sS 0 0 A) (F0 mM 2 ls []) := by
    intro fuel
    induction fuel with
    | zero =>
      intro k σ2 hk h2 hfu
      exact absurd hfu (Nat.not_lt_zero _)
    | succ fuel K_2 =>
      intro k σ2 hk h2 hfu H locs ls hw hS hl
      refine lv_iload_n hx hb dX3_passFrame_2 rfl (lv_at hl 2 rfl) ?_
      refine lv_bipush (v := nI 18) hx hb dX3_passFrame_3 (by decide) ?_
      refine n_cmp_ge (tgt := 83) hx hb dX3_passFrame_5 (by decide) (by omega) (by omega) (fun c_5 => ?_) (fun c_5 => ?_)
      · refine lv_aload_n hx hb dX3_passFrame_83 rfl (lv_at hl 0 rfl) ?_
        refine lv_dup hx hb dX3_passFrame_84 rfl ?_
        refine gf_X3_frames hx hb hE hw (show s < 7 by omega) hown (hts (.fieldLink RX3 25 "ZonedLight$Screen" "frames" "I") (by decide +kernel)) dX3_passFrame_85 ?_
        refine lv_topi (fun x_85 ex_85 => ?_)
        refine lv_iconst (v := nI 1) hx hb dX3_passFrame_88 (by decide) ?_
        refine lv_iadd hx hb dX3_passFrame_89 ?_
        refine lv_topi (fun x_89 ex_89 => ?_)
        refine gp_X3_frames hx hb hE hw hS (show s < 7 by omega) hown (hts (.fieldLink RX3 25 "ZonedLight$Screen" "frames" "I") (by decide +kernel)) dX3_passFrame_90 (fun H locs hw hS => ?_)
        refine lv_aload_n hx hb dX3_passFrame_93 rfl (lv_at hl 0 rfl) ?_
        refine lv_dup hx hb dX3_passFrame_94 rfl ?_
        refine gf_X3_powerSoFar hx hb hE hw (show s < 7 by omega) hown (hts (.fieldLink RX3 32 "ZonedLight$Screen" "powerSoFar" "I") (by decide +kernel)) dX3_passFrame_95 ?_
        refine lv_topi (fun x_95 ex_95 => ?_)
        refine lv_aload_n hx hb dX3_passFrame_98 rfl (lv_at hl 0 rfl) ?_
        refine g_Vi (n := 0) (As := []) (rest := [.int x_95, .ref (G.1 0 s)]) hx hb hml hown hts hE hw hS gX3_passFrame_X3_power (c_X3_power l G A _ s (by omega)) rfl (by decide +kernel) ⟨Nat.le_of_ble_eq_true rfl, Nat.le_of_ble_eq_true rfl⟩ (show s < 7 by omega) rfl rfl rfl rfl hl.1 rfl (Nat.le_of_ble_eq_true rfl) ⟨Nat.le_of_ble_eq_true rfl, Nat.le_of_ble_eq_true rfl⟩ dX3_passFrame_99 (fun x_99 τ_99 H locs hp_99 hw hS => ?_)
        obtain ⟨ex_99, hτ_99⟩ := hp_99
        rw [hτ_99] at hw
        refine lv_iadd hx hb dX3_passFrame_102 ?_
        refine lv_topi (fun x_102 ex_102 => ?_)
        refine gp_X3_powerSoFar hx hb hE hw hS (show s < 7 by omega) hown (hts (.fieldLink RX3 32 "ZonedLight$Screen" "powerSoFar" "I") (by decide +kernel)) dX3_passFrame_103 (fun H locs hw hS => ?_)
        refine g_vret hx hb hr hlk hE hw hS dX3_passFrame_106 ?_
        exact passP_end (by rw [show k = 18 by omega] at h2; exact h2) (by rw [ex_89, ex_85]; rfl) (by rw [ex_102, ex_95, ex_99])
      · refine lv_aload_n hx hb dX3_passFrame_8 rfl (lv_at hl 0 rfl) ?_
        refine gf_X3_dead hx hb hE hw (show s < 7 by omega) hown (hts (.fieldLink RX3 18 "ZonedLight$Screen" "dead" "[Z") (by decide +kernel)) dX3_passFrame_9 ?_
        refine lv_iload_n hx hb dX3_passFrame_12 rfl (lv_at hl 2 rfl) ?_
        refine g_zald hx hb hE hw (n := 18) (show s < 7 by omega) rfl (by decide) (by omega) dX3_passFrame_13 ?_
        refine lv_topi (fun x_13 ex_13 => ?_)
        refine lv_if_ne (tgt := 77) hx hb dX3_passFrame_14 (by decide) (fun c_14 => ?_) (fun c_14 => ?_)
        · refine lv_iinc (v := nI (k + 1)) (lv' := [(2, .int (nI (k + 1))), (0, .ref (G.1 0 s)), (1, .ref (G.1 12 0))]) hx hb dX3_passFrame_77 hl (k := 2) rfl (nI_add _ _) (by decide) rfl (fun ls hl => ?_)
          refine lv_goto (tgt := 2) hx hb dX3_passFrame_80 (by decide) ?_
          have hdd : scr σ s (306 + k) = x_13 := by rw [scr_dead c_5, ex_13, h2, if_neg (by omega), if_neg (by omega)]
          exact K_2 (k + 1) _ (by first | omega | assumption | rfl) (by first | exact passP_dead h2 (by rw [hdd]; exact c_14) | exact passP_live h2 (by rw [ex_61, ex_58, hch]) (by rw [ex_73, ex_65, ex_70, hch]; rfl)) (by omega) _ _ _ hw hS (lv_sub hl [1, 2, 0] rfl)
        · refine lv_aload_n hx hb dX3_passFrame_17 rfl (lv_at hl 1 rfl) ?_
          refine lv_iload_n hx hb dX3_passFrame_18 rfl (lv_at hl 2 rfl) ?_
          refine g_ald hx hb hE hw (n := 18) (Nat.zero_lt_one) rfl (by decide) (by omega) dX3_passFrame_19 ?_
          refine lv_topi (fun x_19 ex_19 => ?_)
          refine lv_aload_n hx hb dX3_passFrame_20 rfl (lv_at hl 0 rfl) ?_
          refine gf_X3_level hx hb hE hw (show s < 7 by omega) hown (hts (.fieldLink RX3 15 "ZonedLight$Screen" "level" "[I") (by decide +kernel)) dX3_passFrame_21 ?_
          refine lv_iload_n hx hb dX3_passFrame_24 rfl (lv_at hl 2 rfl) ?_
          refine g_ald hx hb hE hw (n := 18) (show s < 7 by omega) rfl (by decide) (by omega) dX3_passFrame_25 ?_
          refine lv_topi (fun x_25 ex_25 => ?_)
          refine lv_isub hx hb dX3_passFrame_26 ?_
          refine lv_topi (fun x_26 ex_26 => ?_)
          refine lv_istore_n (lv' := [(3, .int x_26), (0, .ref (G.1 0 s)), (1, .ref (G.1 12 0)), (2, .int (nI k))]) hx hb dX3_passFrame_27 rfl hl (by decide) rfl (fun ls hl => ?_)
          refine lv_aload_n hx hb dX3_passFrame_28 rfl (lv_at hl 1 rfl) ?_
          refine gf_X3_setting hx hb hE hw (show s < 7 by omega) hown (hts (.fieldLink RX3 22 "ZonedLight$Screen" "setting" "[I") (by decide +kernel)) dX3_passFrame_29 ?_
          refine lv_bipush (v := nI 7) hx hb dX3_passFrame_32 (by decide) ?_
          refine g_ald hx hb hE hw (n := 8) (show s < 7 by omega) rfl (by decide) (by omega) dX3_passFrame_34 ?_
          refine lv_topi (fun x_34 ex_34 => ?_)
          refine lv_ineg hx hb dX3_passFrame_35 ?_
          refine lv_topi (fun x_35 ex_35 => ?_)
          refine lv_aload_n hx hb dX3_passFrame_36 rfl (lv_at hl 1 rfl) ?_
          refine gf_X3_setting hx hb hE hw (show s < 7 by omega) hown (hts (.fieldLink RX3 22 "ZonedLight$Screen" "setting" "[I") (by decide +kernel)) dX3_passFrame_37 ?_
          refine lv_bipush (v := nI 7) hx hb dX3_passFrame_40 (by decide) ?_
          refine g_ald hx hb hE hw (n := 8) (show s < 7 by omega) rfl (by decide) (by omega) dX3_passFrame_42 ?_
          refine lv_topi (fun x_42 ex_42 => ?_)
          refine lv_iload_n hx hb dX3_passFrame_43 rfl (lv_at hl 0 rfl) ?_
          refine g_min hx hb (hml.trans hl.1.symm) hE hown (hts (.methodLink RX3 44 Lib.Math.min.name) (by decide +kernel)) ⟨Nat.le_of_ble_eq_true rfl, Nat.le_of_ble_eq_true rfl⟩ ⟨Nat.le_of_ble_eq_true rfl, Nat.le_of_ble_eq_true rfl⟩ dX3_passFrame_44 ?_
          refine lv_topi (fun x_44 ex_44 => ?_)
          refine g_max hx hb (hml.trans hl.1.symm) hE hown (hts (.methodLink RX3 50 Lib.Math.max.name) (by decide +kernel)) ⟨Nat.le_of_ble_eq_true rfl, Nat.le_of_ble_eq_true rfl⟩ ⟨Nat.le_of_ble_eq_true rfl, Nat.le_of_ble_eq_true rfl⟩ dX3_passFrame_47 ?_
          refine lv_topi (fun x_47 ex_47 => ?_)
          have hch : x_47 = chgF (scr σ s) (σ 12 0) k := by
            have e1 : σ2 12 0 k = σ 12 0 k := by rw [h2, if_neg (by omega), if_neg (by omega)]
            have e2 : σ2 2 s k = scr σ s (288 + k) := by rw [h2, if_neg (by omega), if_neg (by omega), scr_level c_5]
            have e3 : σ2 4 s 7 = scr σ s 331 := by rw [h2, if_neg (by omega), if_neg (by omega)]; exact (scr_set (k := 7) (by decide)).symm
            have e4 : scr σ s (306 + k) = 0 := by rw [scr_dead c_5, ← c_14, ex_13, h2, if_neg (by omega), if_neg (by omega)]
            rw [chgF, if_pos e4, ex_47, ex_44, ex_35, ex_34, ex_42, ex_26, ex_19, ex_25, e1, e2, e3]
            rfl
          refine lv_istore (lv' := [(4, .int x_47), (3, .int x_26), (0, .ref (G.1 0 s)), (1, .ref (G.1 12 0)), (2, .int (nI k))]) hx hb dX3_passFrame_50 hl (by decide) rfl (fun ls hl => ?_)
          refine lv_aload_n hx hb dX3_passFrame_52 rfl (lv_at hl 2 rfl) ?_
          refine gf_X3_level hx hb hE hw (show s < 7 by omega) hown (hts (.fieldLink RX3 15 "ZonedLight$Screen" "level" "[I") (by decide +kernel)) dX3_passFrame_53 ?_
          refine lv_iload_n hx hb dX3_passFrame_56 rfl (lv_at hl 4 rfl) ?_
          refine lv_dup2_11 hx hb dX3_passFrame_57 rfl rfl ?_
          refine g_ald hx hb hE hw (n := 18) (show s < 7 by omega) rfl (by decide) (by omega) dX3_passFrame_58 ?_
          refine lv_topi (fun x_58 ex_58 => ?_)
          refine lv_iload hx hb dX3_passFrame_59 (lv_at hl 0 rfl) ?_
          refine lv_iadd hx hb dX3_passFrame_61 ?_
          refine lv_topi (fun x_61 ex_61 => ?_)
          refine g_ast hx hb hE hw hS (n := 18) (show s < 7 by omega) (by decide) (fun _ => rfl) rfl (by decide) (by omega) dX3_passFrame_62 (fun H locs hw hS => ?_)
          refine lv_aload_n hx hb dX3_passFrame_63 rfl (lv_at hl 2 rfl) ?_
          refine lv_dup hx hb dX3_passFrame_64 rfl ?_
          refine gf_X3_flicker hx hb hE hw (show s < 7 by omega) hown (hts (.fieldLink RX3 29 "ZonedLight$Screen" "flicker" "I") (by decide +kernel)) dX3_passFrame_65 ?_
          refine lv_topi (fun x_65 ex_65 => ?_)
          refine lv_iload hx hb dX3_passFrame_68 (lv_at hl 0 rfl) ?_
          refine g_abs hx hb (hml.trans hl.1.symm) hE hown (hts (.methodLink RX3 80 Lib.Math.abs.name) (by decide +kernel)) ⟨Nat.le_of_ble_eq_true rfl, Nat.le_of_ble_eq_true rfl⟩ ⟨Nat.le_of_ble_eq_true rfl, Nat.le_of_ble_eq_true rfl⟩ dX3_passFrame_70 ?_
          refine lv_topi (fun x_70 ex_70 => ?_)
          refine lv_iadd hx hb dX3_passFrame_73 ?_
          refine lv_topi (fun x_73 ex_73 => ?_)
          refine gp_X3_flicker hx hb hE hw hS (show s < 7 by omega) hown (hts (.fieldLink RX3 29 "ZonedLight$Screen" "flicker" "I") (by decide +kernel)) dX3_passFrame_74 (fun H locs hw hS => ?_)
          refine lv_iinc (v := nI (k + 1)) (lv' := [(2, .int (nI (k + 1))), (4, .int x_47), (3, .int x_26), (0, .ref (G.1 0 s)), (1, .ref (G.1 12 0))]) hx hb dX3_passFrame_77 hl (k := 4) rfl (nI_add _ _) (by decide) rfl (fun ls hl => ?_)
          refine lv_goto (tgt := 2) hx hb dX3_passFrame_80 (by decide) ?_
          have hdd : scr σ s (306 + k) = x_13 := by rw [scr_dead c_5, ex_13, h2, if_neg (by omega), if_neg (by omega)]
          exact K_2 (k + 1) _ (by first | omega | assumption | rfl) (by first | exact passP_dead h2 (by rw [hdd]; exact c_14) | exact passP_live h2 (by rw [ex_61, ex_58, hch]) (by rw [ex_73, ex_65, ex_70, hch]; rfl)) (by omega) _ _ _ hw hS (lv_sub hl [3, 4, 0] rfl)
  exact K_2 (18 - 0 + 1) 0 _ (by first | omega | assumption | rfl) passP_0 (Nat.lt_succ_self _) _ _ _ hw hS (lv_sub hl [1, 2, 0] rfl)
set_option maxHeartbeats 4000000 in
set_option maxRecDepth 100000 in
/-- ZonedLight$Tally.clear()V -/
theorem c_X4_clear (l : Launch) (G : GG) (A : Nat → Prop) (σ : St)   : MV l yX4_clear wsX4_clear 0 0 G A σ [.ref (G.1 14 0)] (fun τ => τ = ur σ 14 0 (fun _ => 0)) := by
  refine MV.on (by decide) rfl (Nat.le_of_ble_eq_true rfl) (fun pP eE sS mM args below meth cC ls hx hb hml hr hown hlk hts hE hw hS hl => ?_)
  have hl : lv_has ls 1 [(0, .ref (G.1 14 0))] := hl
  have hcan := hw.2.1 14 0
  refine lv_aload_n hx hb dX4_clear_0 rfl (lv_at hl 0 rfl) ?_
  refine lv_iconst (v := nI 0) hx hb dX4_clear_1 (by decide) ?_
  refine gp_X4_tooDark hx hb hE hw hS (Nat.zero_lt_one) hown (hts (.fieldLink RX4 9 "ZonedLight$Tally" "tooDark" "I") (by decide +kernel)) dX4_clear_2 (fun H locs hw hS => ?_)
  refine lv_aload_n hx hb dX4_clear_5 rfl (lv_at hl 0 rfl) ?_
  refine lv_iconst (v := nI 0) hx hb dX4_clear_6 (by decide) ?_
  refine gp_X4_tooBright hx hb hE hw hS (Nat.zero_lt_one) hown (hts (.fieldLink RX4 15 "ZonedLight$Tally" "tooBright" "I") (by decide +kernel)) dX4_clear_7 (fun H locs hw hS => ?_)
  refine lv_aload_n hx hb dX4_clear_10 rfl (lv_at hl 0 rfl) ?_
  refine lv_iconst (v := nI 0) hx hb dX4_clear_11 (by decide) ?_
  refine gp_X4_off hx hb hE hw hS (Nat.zero_lt_one) hown (hts (.fieldLink RX4 18 "ZonedLight$Tally" "off" "I") (by decide +kernel)) dX4_clear_12 (fun H locs hw hS => ?_)
  refine lv_aload_n hx hb dX4_clear_15 rfl (lv_at hl 0 rfl) ?_
  refine lv_iconst (v := nI 0) hx hb dX4_clear_16 (by decide) ?_
  refine gp_X4_greatestOff hx hb hE hw hS (Nat.zero_lt_one) hown (hts (.fieldLink RX4 21 "ZonedLight$Tally" "greatestOff" "I") (by decide +kernel)) dX4_clear_17 (fun H locs hw hS => ?_)
  refine lv_aload_n hx hb dX4_clear_20 rfl (lv_at hl 0 rfl) ?_
  refine lv_iconst (v := nI 0) hx hb dX4_clear_21 (by decide) ?_
  refine gp_X4_shown hx hb hE hw hS (Nat.zero_lt_one) hown (hts (.fieldLink RX4 24 "ZonedLight$Tally" "shown" "I") (by decide +kernel)) dX4_clear_22 (fun H locs hw hS => ?_)
  refine g_vret hx hb hr hlk hE hw hS dX4_clear_25 ?_
  exact tZero_us hcan
set_option maxHeartbeats 4000000 in
set_option maxRecDepth 100000 in
/-- ZonedLight$Tally.addSpot(II)V -/
theorem c_X4_addSpot (l : Launch) (G : GG) (A : Nat → Prop) (σ : St) (x : Int32) (y : Int32)  : MV l yX4_addSpot wsX4_addSpot 1 21 G A σ [.ref (G.1 14 0), .int x, .int y] (fun τ => τ = ur σ 14 0 (tAdd (σ 14 0) x y)) := by
  refine MV.on (by decide) rfl (Nat.le_of_ble_eq_true rfl) (fun pP eE sS mM args below meth cC ls hx hb hml hr hown hlk hts hE hw hS hl => ?_)
  have hl : lv_has ls 5 [(0, .ref (G.1 14 0)), (1, .int x), (2, .int y)] := hl
  refine lv_iload_n hx hb dX4_addSpot_0 rfl (lv_at hl 1 rfl) ?_
  refine lv_iload_n hx hb dX4_addSpot_1 rfl (lv_at hl 2 rfl) ?_
  refine g_SNi (n := 2) (As := [.int x, .int y]) (rest := []) hx hb hml hown hts hE hw hS gX4_addSpot_X5_verdict_n54 (host := "ZonedLight") (by decide +kernel) (hts (.initialized RX5) (by decide +kernel)) (hts (.static yX5_verdict) (by decide +kernel)) (c_X5_verdict l G A _ x y) rfl (by decide +kernel) ⟨Nat.le_of_ble_eq_true rfl, Nat.le_of_ble_eq_true rfl⟩ rfl hl.1 rfl (Nat.le_of_ble_eq_true rfl) ⟨Nat.le_of_ble_eq_true rfl, Nat.le_of_ble_eq_true rfl⟩ dX4_addSpot_2 (fun x_2 τ_2 H locs hp_2 hw hS => ?_)
  obtain ⟨ex_2, hτ_2⟩ := hp_2
  rw [hτ_2] at hw
  refine lv_istore_n (lv' := [(3, .int x_2), (0, .ref (G.1 14 0)), (1, .int x), (2, .int y)]) hx hb dX4_addSpot_5 rfl hl (by decide) rfl (fun ls hl => ?_)
  have K_39 : ∀ (a1 : Int32) (a2 : Int32) (σ2 : St), (a1 = if verdF x y = 1 then σ 14 0 0 + 1 else σ 14 0 0) → (a2 = if verdF x y = 2 then σ 14 0 1 + 1 else σ 14 0 1) → (σ2 = us (us σ 14 0 0 a1) 14 0 1 a2) → ∀ (H : Heap) (locs : List Loc) (ls : Array Slot), Wcel G σ2 H → va_S A sS.heap H locs → lv_has ls 5 [(0, .ref (G.1 14 0)), (1, .int x), (2, .int y)] → W pP l eE { frames := 1, cells := 0, slots := 0, locals := 21 } sS mM args below meth cC H locs 0 0 (MQ below (va_Qv (fun τ => τ = ur σ 14 0 (tAdd (σ 14 0) x y)) (fun τ t => gP G A τ t) A) args sS 0 0 A) (F0 mM 39 ls []) := by
    intro a1 a2 σ2 h1 h3 h2 H locs ls hw hS hl
    subst h2
    refine lv_iload_n hx hb dX4_addSpot_39 rfl (lv_at hl 2 rfl) ?_
    refine lv_iload_n hx hb dX4_addSpot_40 rfl (lv_at hl 1 rfl) ?_
    refine lv_isub hx hb dX4_addSpot_41 ?_
    refine lv_topi (fun x_41 ex_41 => ?_)
    refine g_abs hx hb (hml.trans hl.1.symm) hE hown (hts (.methodLink RX4 57 Lib.Math.abs.name) (by decide +kernel)) ⟨Nat.le_of_ble_eq_true rfl, Nat.le_of_ble_eq_true rfl⟩ ⟨Nat.le_of_ble_eq_true rfl, Nat.le_of_ble_eq_true rfl⟩ dX4_addSpot_42 ?_
    refine lv_topi (fun x_42 ex_42 => ?_)
    refine lv_istore (lv' := [(4, .int x_42), (0, .ref (G.1 14 0)), (1, .int x), (2, .int y)]) hx hb dX4_addSpot_45 hl (by decide) rfl (fun ls hl => ?_)
    refine lv_aload_n hx hb dX4_addSpot_47 rfl (lv_at hl 1 rfl) ?_
    refine lv_dup hx hb dX4_addSpot_48 rfl ?_
    refine gf_X4_off hx hb hE hw (Nat.zero_lt_one) hown (hts (.fieldLink RX4 18 "ZonedLight$Tally" "off" "I") (by decide +kernel)) dX4_addSpot_49 ?_
    refine lv_topi (fun x_49 ex_49 => ?_)
    refine lv_iload hx hb dX4_addSpot_52 (lv_at hl 0 rfl) ?_
    refine lv_iadd hx hb dX4_addSpot_54 ?_
    refine lv_topi (fun x_54 ex_54 => ?_)
    refine gp_X4_off hx hb hE hw hS (Nat.zero_lt_one) hown (hts (.fieldLink RX4 18 "ZonedLight$Tally" "off" "I") (by decide +kernel)) dX4_addSpot_55 (fun H locs hw hS => ?_)
    refine lv_aload_n hx hb dX4_addSpot_58 rfl (lv_at hl 1 rfl) ?_
    refine lv_aload_n hx hb dX4_addSpot_59 rfl (lv_at hl 1 rfl) ?_
    refine gf_X4_greatestOff hx hb hE hw (Nat.zero_lt_one) hown (hts (.fieldLink RX4 21 "ZonedLight$Tally" "greatestOff" "I") (by decide +kernel)) dX4_addSpot_60 ?_
    refine lv_topi (fun x_60 ex_60 => ?_)
    refine lv_iload hx hb dX4_addSpot_63 (lv_at hl 0 rfl) ?_
    refine g_max hx hb (hml.trans hl.1.symm) hE hown (hts (.methodLink RX4 62 Lib.Math.max.name) (by decide +kernel)) ⟨Nat.le_of_ble_eq_true rfl, Nat.le_of_ble_eq_true rfl⟩ ⟨Nat.le_of_ble_eq_true rfl, Nat.le_of_ble_eq_true rfl⟩ dX4_addSpot_65 ?_
    refine lv_topi (fun x_65 ex_65 => ?_)
    refine gp_X4_greatestOff hx hb hE hw hS (Nat.zero_lt_one) hown (hts (.fieldLink RX4 21 "ZonedLight$Tally" "greatestOff" "I") (by decide +kernel)) dX4_addSpot_68 (fun H locs hw hS => ?_)
    refine lv_aload_n hx hb dX4_addSpot_71 rfl (lv_at hl 1 rfl) ?_
    refine lv_dup hx hb dX4_addSpot_72 rfl ?_
    refine gf_X4_shown hx hb hE hw (Nat.zero_lt_one) hown (hts (.fieldLink RX4 24 "ZonedLight$Tally" "shown" "I") (by decide +kernel)) dX4_addSpot_73 ?_
    refine lv_topi (fun x_73 ex_73 => ?_)
    refine lv_iload_n hx hb dX4_addSpot_76 rfl (lv_at hl 3 rfl) ?_
    refine lv_iadd hx hb dX4_addSpot_77 ?_
    refine lv_topi (fun x_77 ex_77 => ?_)
    refine gp_X4_shown hx hb hE hw hS (Nat.zero_lt_one) hown (hts (.fieldLink RX4 24 "ZonedLight$Tally" "shown" "I") (by decide +kernel)) dX4_addSpot_78 (fun H locs hw hS => ?_)
    refine g_vret hx hb hr hlk hE hw hS dX4_addSpot_81 ?_
    exact tAdd_us h1 h3 (by rw [ex_54, ex_49, ex_42, ex_41, us_not (by decide), us_not (by decide)]; rfl) (by rw [ex_65, ex_60, ex_42, ex_41, us_not (by decide), us_not (by decide), us_not (by decide)]; rfl) (by rw [ex_77, ex_73, us_not (by decide), us_not (by decide), us_not (by decide), us_not (by decide)])
  refine lv_iload_n hx hb dX4_addSpot_6 rfl (lv_at hl 0 rfl) ?_
  refine lv_iconst (v := nI 1) hx hb dX4_addSpot_7 (by decide) ?_
  refine lv_icmp_ne (tgt := 24) hx hb dX4_addSpot_8 (by decide) (fun c_8 => ?_) (fun c_8 => ?_)
  · refine lv_iload_n hx hb dX4_addSpot_24 rfl (lv_at hl 0 rfl) ?_
    refine lv_iconst (v := nI 2) hx hb dX4_addSpot_25 (by decide) ?_
    refine lv_icmp_ne (tgt := 39) hx hb dX4_addSpot_26 (by decide) (fun c_26 => ?_) (fun c_26 => ?_)
    · exact K_39 _ _ _ rfl rfl (by first | (rw [if_pos (show verdF x y = 1 by rw [← ex_2]; exact c_8), if_neg (show ¬ verdF x y = 2 by rw [← ex_2, c_8]; decide), us_self (us_not (by decide)), ex_17, ex_13]; rfl) | (rw [if_neg (show ¬ verdF x y = 1 by rw [← ex_2]; exact c_8), if_pos (show verdF x y = 2 by rw [← ex_2]; exact c_26), us_self rfl, ex_35, ex_31]; rfl) | (rw [if_neg (show ¬ verdF x y = 1 by rw [← ex_2]; exact c_8), if_neg (show ¬ verdF x y = 2 by rw [← ex_2]; exact c_26), us_self rfl, us_self rfl])) _ _ _ hw hS (lv_sub hl [1, 2, 3] rfl)
    · refine lv_aload_n hx hb dX4_addSpot_29 rfl (lv_at hl 1 rfl) ?_
      refine lv_dup hx hb dX4_addSpot_30 rfl ?_
      refine gf_X4_tooBright hx hb hE hw (Nat.zero_lt_one) hown (hts (.fieldLink RX4 15 "ZonedLight$Tally" "tooBright" "I") (by decide +kernel)) dX4_addSpot_31 ?_
      refine lv_topi (fun x_31 ex_31 => ?_)
      refine lv_iconst (v := nI 1) hx hb dX4_addSpot_34 (by decide) ?_
      refine lv_iadd hx hb dX4_addSpot_35 ?_
      refine lv_topi (fun x_35 ex_35 => ?_)
      refine gp_X4_tooBright hx hb hE hw hS (Nat.zero_lt_one) hown (hts (.fieldLink RX4 15 "ZonedLight$Tally" "tooBright" "I") (by decide +kernel)) dX4_addSpot_36 (fun H locs hw hS => ?_)
      exact K_39 _ _ _ rfl rfl (by first | (rw [if_pos (show verdF x y = 1 by rw [← ex_2]; exact c_8), if_neg (show ¬ verdF x y = 2 by rw [← ex_2, c_8]; decide), us_self (us_not (by decide)), ex_17, ex_13]; rfl) | (rw [if_neg (show ¬ verdF x y = 1 by rw [← ex_2]; exact c_8), if_pos (show verdF x y = 2 by rw [← ex_2]; exact c_26), us_self rfl, ex_35, ex_31]; rfl) | (rw [if_neg (show ¬ verdF x y = 1 by rw [← ex_2]; exact c_8), if_neg (show ¬ verdF x y = 2 by rw [← ex_2]; exact c_26), us_self rfl, us_self rfl])) _ _ _ hw hS (lv_sub hl [1, 2, 3] rfl)
  · refine lv_aload_n hx hb dX4_addSpot_11 rfl (lv_at hl 1 rfl) ?_
    refine lv_dup hx hb dX4_addSpot_12 rfl ?_
    refine gf_X4_tooDark hx hb hE hw (Nat.zero_lt_one) hown (hts (.fieldLink RX4 9 "ZonedLight$Tally" "tooDark" "I") (by decide +kernel)) dX4_addSpot_13 ?_
    refine lv_topi (fun x_13 ex_13 => ?_)
    refine lv_iconst (v := nI 1) hx hb dX4_addSpot_16 (by decide) ?_
    refine lv_iadd hx hb dX4_addSpot_17 ?_
    refine lv_topi (fun x_17 ex_17 => ?_)
    refine gp_X4_tooDark hx hb hE hw hS (Nat.zero_lt_one) hown (hts (.fieldLink RX4 9 "ZonedLight$Tally" "tooDark" "I") (by decide +kernel)) dX4_addSpot_18 (fun H locs hw hS => ?_)
    refine lv_goto (tgt := 39) hx hb dX4_addSpot_21 (by decide) ?_
    exact K_39 _ _ _ rfl rfl (by first | (rw [if_pos (show verdF x y = 1 by rw [← ex_2]; exact c_8), if_neg (show ¬ verdF x y = 2 by rw [← ex_2, c_8]; decide), us_self (us_not (by decide)), ex_17, ex_13]; rfl) | (rw [if_neg (show ¬ verdF x y = 1 by rw [← ex_2]; exact c_8), if_pos (show verdF x y = 2 by rw [← ex_2]; exact c_26), us_self rfl, ex_35, ex_31]; rfl) | (rw [if_neg (show ¬ verdF x y = 1 by rw [← ex_2]; exact c_8), if_neg (show ¬ verdF x y = 2 by rw [← ex_2]; exact c_26), us_self rfl, us_self rfl])) _ _ _ hw hS (lv_sub hl [1, 2, 3] rfl)
end
section
/-! CONTRACTS, laid by program -/
set_option maxHeartbeats 4000000 in
set_option maxRecDepth 100000 in
/-- ZonedLight$Plan.raise(II)V -/
theorem c_X2_raise (l : Launch) (G : GG) (A : Nat → Prop) (σ : St) (z : Nat) (b : Int32) (hz : z < 18) : MV l yX2_raise wsX2_raise 1 21 G A σ [.ref (G.1 11 0), .int (nI z), .int b] (fun τ => τ = us σ 12 0 z (raiseV (σ 12 0 z) b)) := by
  refine MV.on (by decide) rfl (Nat.le_of_ble_eq_true rfl) (fun pP eE sS mM args below meth cC ls hx hb hml hr hown hlk hts hE hw hS hl => ?_)
  have hl : lv_has ls 3 [(0, .ref (G.1 11 0)), (1, .int (nI z)), (2, .int b)] := hl
  refine lv_aload_n hx hb dX2_raise_0 rfl (lv_at hl 0 rfl) ?_
  refine gf_X2_level hx hb hE hw (Nat.zero_lt_one) hown (hts (.fieldLink RX2 9 "ZonedLight$Plan" "level" "[I") (by decide +kernel)) dX2_raise_1 ?_
  refine lv_iload_n hx hb dX2_raise_4 rfl (lv_at hl 1 rfl) ?_
  refine lv_sipush (v := nI 255) hx hb dX2_raise_5 (by decide) ?_
  refine lv_aload_n hx hb dX2_raise_8 rfl (lv_at hl 0 rfl) ?_
  refine gf_X2_level hx hb hE hw (Nat.zero_lt_one) hown (hts (.fieldLink RX2 9 "ZonedLight$Plan" "level" "[I") (by decide +kernel)) dX2_raise_9 ?_
  refine lv_iload_n hx hb dX2_raise_12 rfl (lv_at hl 1 rfl) ?_
  refine g_ald hx hb hE hw (n := 18) (Nat.zero_lt_one) rfl (by decide) (by omega) dX2_raise_13 ?_
  refine lv_topi (fun x_13 ex_13 => ?_)
  refine lv_iload_n hx hb dX2_raise_14 rfl (lv_at hl 2 rfl) ?_
  refine lv_iadd hx hb dX2_raise_15 ?_
  refine lv_topi (fun x_15 ex_15 => ?_)
  refine g_min hx hb (hml.trans hl.1.symm) hE hown (hts (.methodLink RX2 49 Lib.Math.min.name) (by decide +kernel)) ⟨Nat.le_of_ble_eq_true rfl, Nat.le_of_ble_eq_true rfl⟩ ⟨Nat.le_of_ble_eq_true rfl, Nat.le_of_ble_eq_true rfl⟩ dX2_raise_16 ?_
  refine lv_topi (fun x_16 ex_16 => ?_)
  refine g_ast hx hb hE hw hS (n := 18) (Nat.zero_lt_one) (by decide) (fun _ => rfl) rfl (by decide) (by omega) dX2_raise_19 (fun H locs hw hS => ?_)
  refine g_vret hx hb hr hlk hE hw hS dX2_raise_20 ?_
  rw [ex_16, ex_15, ex_13]; rfl
set_option maxHeartbeats 4000000 in
set_option maxRecDepth 100000 in
/-- ZonedLight$Plan.helps(LZonedLight$Screen;II)Z -/
theorem c_X2_helps (l : Launch) (G : GG) (A : Nat → Prop) (σ : St) (s : Nat) (z : Nat) (o : Nat) (hs : s < 7) (hz : z < 18) (ho : o < 18) : MI l yX2_helps wsX2_helps 2 44 G A σ [.ref (G.1 0 s), .int (nI z), .int (nI o)] (fun r τ => bP r (helpB (scr σ s) z o = true) ∧ τ = σ) := by
  refine MI.on (by decide) rfl (Nat.le_of_ble_eq_true rfl) (fun pP eE sS mM args below meth cC ls hx hb hml hr hown hlk hts hE hw hS hl => ?_)
  have hl : lv_has ls 3 [(0, .ref (G.1 0 s)), (1, .int (nI z)), (2, .int (nI o))] := hl
  have hsd : scr σ s (306 + o) = σ 3 s o := scr_dead ho
  refine lv_aload_n hx hb dX2_helps_0 rfl (lv_at hl 0 rfl) ?_
  refine gf_X3_dead hx hb hE hw (show s < 7 by omega) hown (hts (.fieldLink RX2 23 "ZonedLight$Screen" "dead" "[Z") (by decide +kernel)) dX2_helps_1 ?_
  refine lv_iload_n hx hb dX2_helps_4 rfl (lv_at hl 2 rfl) ?_
  refine g_zald hx hb hE hw (n := 18) (show s < 7 by omega) rfl (by decide) (by omega) dX2_helps_5 ?_
  refine lv_topi (fun x_5 ex_5 => ?_)
  refine lv_if_ne (tgt := 22) hx hb dX2_helps_6 (by decide) (fun c_6 => ?_) (fun c_6 => ?_)
  · refine lv_iconst (v := nI 0) hx hb dX2_helps_22 (by decide) ?_
    refine g_zret hx hb hr hlk hE hw hS rfl dX2_helps_23 ?_
    first | exact ⟨Or.inl ⟨rfl, helpB_iff.mpr ⟨by rw [hsd, ← ex_5]; exact c_6, c_15⟩⟩, rfl⟩ | exact ⟨Or.inr ⟨rfl, fun h => c_15 (helpB_iff.mp h).2⟩, rfl⟩ | exact ⟨Or.inr ⟨rfl, fun h => c_6 (by rw [ex_5, ← hsd]; exact (helpB_iff.mp h).1)⟩, rfl⟩
  · refine lv_iload_n hx hb dX2_helps_9 rfl (lv_at hl 1 rfl) ?_
    refine lv_iload_n hx hb dX2_helps_10 rfl (lv_at hl 2 rfl) ?_
    refine g_SNi (n := 2) (As := [.int (nI z), .int (nI o)]) (rest := []) hx hb hml hown hts hE hw hS gX2_helps_X5_zonesApart_n83 (host := "ZonedLight") (by decide +kernel) (hts (.initialized RX5) (by decide +kernel)) (hts (.static yX5_zonesApart) (by decide +kernel)) (c_X5_zonesApart l G A _ z o (by omega) (by omega)) rfl (by decide +kernel) ⟨Nat.le_of_ble_eq_true rfl, Nat.le_of_ble_eq_true rfl⟩ rfl hl.1 rfl (Nat.le_of_ble_eq_true rfl) ⟨Nat.le_of_ble_eq_true rfl, Nat.le_of_ble_eq_true rfl⟩ dX2_helps_11 (fun r_11 τ_11 H locs hp_11 hw hS => ?_)
    obtain ⟨rfl, hτ_11⟩ := hp_11
    rw [hτ_11] at hw
    refine lv_iconst (v := nI 1) hx hb dX2_helps_14 (by decide) ?_
    refine n_cmp_ne (tgt := 22) hx hb dX2_helps_15 (by decide) (Nat.lt_trans (apartN_lt hz ho) (by decide)) (by decide) (fun c_15 => ?_) (fun c_15 => ?_)
    · refine lv_iconst (v := nI 0) hx hb dX2_helps_22 (by decide) ?_
      refine g_zret hx hb hr hlk hE hw hS rfl dX2_helps_23 ?_
      first | exact ⟨Or.inl ⟨rfl, helpB_iff.mpr ⟨by rw [hsd, ← ex_5]; exact c_6, c_15⟩⟩, rfl⟩ | exact ⟨Or.inr ⟨rfl, fun h => c_15 (helpB_iff.mp h).2⟩, rfl⟩ | exact ⟨Or.inr ⟨rfl, fun h => c_6 (by rw [ex_5, ← hsd]; exact (helpB_iff.mp h).1)⟩, rfl⟩
    · refine lv_iconst (v := nI 1) hx hb dX2_helps_18 (by decide) ?_
      refine lv_goto (tgt := 23) hx hb dX2_helps_19 (by decide) ?_
      refine g_zret hx hb hr hlk hE hw hS rfl dX2_helps_23 ?_
      first | exact ⟨Or.inl ⟨rfl, helpB_iff.mpr ⟨by rw [hsd, ← ex_5]; exact c_6, c_15⟩⟩, rfl⟩ | exact ⟨Or.inr ⟨rfl, fun h => c_15 (helpB_iff.mp h).2⟩, rfl⟩ | exact ⟨Or.inr ⟨rfl, fun h => c_6 (by rw [ex_5, ← hsd]; exact (helpB_iff.mp h).1)⟩, rfl⟩
set_option maxHeartbeats 4000000 in
set_option maxRecDepth 100000 in
/-- ZonedLight$Plan.raiseNeighbours(LZonedLight$Screen;II)V -/
theorem c_X2_raiseNeighbours (l : Launch) (G : GG) (A : Nat → Prop) (σ : St) (s : Nat) (z : Nat) (lk : Int32) (hs : s < 7) (hz : z < 18) : MV l yX2_raiseNeighbours wsX2_raiseNeighbours 3 66 G A σ [.ref (G.1 11 0), .ref (G.1 0 s), .int (nI z), .int lk] (fun τ => τ = ur σ 12 0 (raiseNK (scr σ s) z (rupF (lk * 256) (scr σ s 325 * nI (helpK (scr σ s) z 18))) (σ 12 0) 18)) := by
  refine MV.on (by decide) rfl (Nat.le_of_ble_eq_true rfl) (fun pP eE sS mM args below meth cC ls hx hb hml hr hown hlk hts hE hw hS hl => ?_)
  have hl : lv_has ls 7 [(0, .ref (G.1 11 0)), (1, .ref (G.1 0 s)), (2, .int (nI z)), (3, .int lk)] := hl
  refine lv_iconst (v := nI 0) hx hb dX2_raiseNeighbours_0 (by decide) ?_
  refine lv_istore (lv' := [(4, .int (nI 0)), (0, .ref (G.1 11 0)), (1, .ref (G.1 0 s)), (2, .int (nI z)), (3, .int lk)]) hx hb dX2_raiseNeighbours_1 hl (by decide) rfl (fun ls hl => ?_)
  refine lv_iconst (v := nI 0) hx hb dX2_raiseNeighbours_3 (by decide) ?_
  refine lv_istore (lv' := [(5, .int (nI 0)), (4, .int (nI 0)), (0, .ref (G.1 11 0)), (1, .ref (G.1 0 s)), (2, .int (nI z)), (3, .int lk)]) hx hb dX2_raiseNeighbours_4 hl (by decide) rfl (fun ls hl => ?_)
  have K_6 : ∀ (fuel : Nat) (k : Nat) (cn : Nat), (k ≤ 18) → (cn = helpK (scr σ s) z k) → 18 - k < fuel → ∀ (H : Heap) (locs : List Loc) (ls : Array Slot), Wcel G σ H → va_S A sS.heap H locs → lv_has ls 7 [(0, .ref (G.1 11 0)), (1, .ref (G.1 0 s)), (2, .int (nI z)), (3, .int lk), (4, .int (nI cn)), (5, .int (nI k))] → W pP l eE { frames := 3, cells := 0, slots := 0, locals := 66 } sS mM args below meth cC H locs 0 0 (MQ below (va_Qv (fun τ => τ = ur σ 12 0 (raiseNK (scr σ s) z (rupF (lk * 256) (scr σ s 325 * nI (helpK (scr σ s) z 18))) (σ 12 0) 18)) (fun τ t => gP G A τ t) A) args sS 0 0 A) (F0 mM 6 ls []) := by
    intro fuel
    induction fuel with
    | zero =>
      intro k cn hk hc hfu
      exact absurd hfu (Nat.not_lt_zero _)
    | succ fuel K_6 =>
      intro k cn hk hc hfu H locs ls hw hS hl
      refine lv_iload hx hb dX2_raiseNeighbours_6 (lv_at hl 5 rfl) ?_
      refine lv_bipush (v := nI 18) hx hb dX2_raiseNeighbours_8 (by decide) ?_
      refine n_cmp_ge (tgt := 32) hx hb dX2_raiseNeighbours_10 (by decide) (by omega) (by omega) (fun c_10 => ?_) (fun c_10 => ?_)
      · refine lv_iload_n hx hb dX2_raiseNeighbours_32 rfl (lv_at hl 3 rfl) ?_
        refine lv_sipush (v := nI 256) hx hb dX2_raiseNeighbours_33 (by decide) ?_
        refine lv_imul hx hb dX2_raiseNeighbours_36 ?_
        refine lv_topi (fun x_36 ex_36 => ?_)
        refine lv_aload_n hx hb dX2_raiseNeighbours_37 rfl (lv_at hl 1 rfl) ?_
        refine gf_X3_setting hx hb hE hw (show s < 7 by omega) hown (hts (.fieldLink RX2 31 "ZonedLight$Screen" "setting" "[I") (by decide +kernel)) dX2_raiseNeighbours_38 ?_
        refine lv_iconst (v := nI 1) hx hb dX2_raiseNeighbours_41 (by decide) ?_
        refine g_ald hx hb hE hw (n := 8) (show s < 7 by omega) rfl (by decide) (by omega) dX2_raiseNeighbours_42 ?_
        refine lv_topi (fun x_42 ex_42 => ?_)
        refine lv_iload hx hb dX2_raiseNeighbours_43 (lv_at hl 4 rfl) ?_
        refine lv_imul hx hb dX2_raiseNeighbours_45 ?_
        refine lv_topi (fun x_45 ex_45 => ?_)
        refine g_SNi (n := 2) (As := [.int x_36, .int x_45]) (rest := []) hx hb hml hown hts hE hw hS gX2_raiseNeighbours_X5_roundedUp_n72 (host := "ZonedLight") (by decide +kernel) (hts (.initialized RX5) (by decide +kernel)) (hts (.static yX5_roundedUp) (by decide +kernel)) (c_X5_roundedUp l G A _ x_36 x_45) rfl (by decide +kernel) ⟨Nat.le_of_ble_eq_true rfl, Nat.le_of_ble_eq_true rfl⟩ rfl hl.1 rfl (Nat.le_of_ble_eq_true rfl) ⟨Nat.le_of_ble_eq_true rfl, Nat.le_of_ble_eq_true rfl⟩ dX2_raiseNeighbours_46 (fun x_46 τ_46 H locs hp_46 hw hS => ?_)
        obtain ⟨ex_46, hτ_46⟩ := hp_46
        rw [hτ_46] at hw
        refine lv_istore (lv' := [(5, .int x_46), (0, .ref (G.1 11 0)), (1, .ref (G.1 0 s)), (2, .int (nI z)), (3, .int lk), (4, .int (nI cn))]) hx hb dX2_raiseNeighbours_49 hl (by decide) rfl (fun ls hl => ?_)
        refine lv_iconst (v := nI 0) hx hb dX2_raiseNeighbours_51 (by decide) ?_
        refine lv_istore (lv' := [(6, .int (nI 0)), (5, .int x_46), (0, .ref (G.1 11 0)), (1, .ref (G.1 0 s)), (2, .int (nI z)), (3, .int lk), (4, .int (nI cn))]) hx hb dX2_raiseNeighbours_52 hl (by decide) rfl (fun ls hl => ?_)
        have K_54 : ∀ (fuel : Nat) (k : Nat) (b : Int32) (σ2 : St), (k ≤ 18) → (b = rupF (lk * 256) (scr σ s 325 * nI (helpK (scr σ s) z 18))) → (σ2 = ur σ 12 0 (raiseNK (scr σ s) z b (σ 12 0) k)) → 18 - k < fuel → ∀ (H : Heap) (locs : List Loc) (ls : Array Slot), Wcel G σ2 H → va_S A sS.heap H locs → lv_has ls 7 [(0, .ref (G.1 11 0)), (1, .ref (G.1 0 s)), (2, .int (nI z)), (5, .int b), (6, .int (nI k))] → W pP l eE { frames := 3, cells := 0, slots := 0, locals := 66 } sS mM args below meth cC H locs 0 0 (MQ below (va_Qv (fun τ => τ = ur σ 12 0 (raiseNK (scr σ s) z (rupF (lk * 256) (scr σ s 325 * nI (helpK (scr σ s) z 18))) (σ 12 0) 18)) (fun τ t => gP G A τ t) A) args sS 0 0 A) (F0 mM 54 ls []) := by
          intro fuel
          induction fuel with
          | zero =>
            intro k b σ2 hk hbb h2 hfu
            exact absurd hfu (Nat.not_lt_zero _)
          | succ fuel K_54 =>
            intro k b σ2 hk hbb h2 hfu H locs ls hw hS hl
            subst h2
            refine lv_iload hx hb dX2_raiseNeighbours_54 (lv_at hl 4 rfl) ?_
            refine lv_bipush (v := nI 18) hx hb dX2_raiseNeighbours_56 (by decide) ?_
            refine n_cmp_ge (tgt := 85) hx hb dX2_raiseNeighbours_58 (by decide) (by omega) (by omega) (fun c_58 => ?_) (fun c_58 => ?_)
            · refine g_vret hx hb hr hlk hE hw hS dX2_raiseNeighbours_85 ?_
              rw [show k = 18 by omega, hbb]
            · refine lv_aload_n hx hb dX2_raiseNeighbours_61 rfl (lv_at hl 1 rfl) ?_
              refine lv_iload_n hx hb dX2_raiseNeighbours_62 rfl (lv_at hl 2 rfl) ?_
              refine lv_iload hx hb dX2_raiseNeighbours_63 (lv_at hl 4 rfl) ?_
              refine g_Si (n := 3) (As := [.ref (G.1 0 s), .int (nI z), .int (nI k)]) (rest := []) hx hb hml hown hts hE hw hS gX2_raiseNeighbours_X2_helps (c_X2_helps l G A _ s z k (by omega) (by omega) (by omega)) rfl (by decide +kernel) ⟨Nat.le_of_ble_eq_true rfl, Nat.le_of_ble_eq_true rfl⟩ rfl hl.1 rfl (Nat.le_of_ble_eq_true rfl) ⟨Nat.le_of_ble_eq_true rfl, Nat.le_of_ble_eq_true rfl⟩ dX2_raiseNeighbours_65 (fun x_65 τ_65 H locs hp_65 hw hS => ?_)
              obtain ⟨hb_65, hτ_65⟩ := hp_65
              rw [hτ_65] at hw
              refine lv_if_eq (tgt := 79) hx hb dX2_raiseNeighbours_68 (by decide) (fun c_68 => ?_) (fun c_68 => ?_)
              · refine lv_iinc (v := nI (k + 1)) (lv' := [(6, .int (nI (k + 1))), (0, .ref (G.1 11 0)), (1, .ref (G.1 0 s)), (2, .int (nI z)), (5, .int b)]) hx hb dX2_raiseNeighbours_79 hl (k := 4) rfl (nI_add _ _) (by decide) rfl (fun ls hl => ?_)
                refine lv_goto (tgt := 54) hx hb dX2_raiseNeighbours_82 (by decide) ?_
                exact K_54 (k + 1) b _ (by first | omega | assumption | rfl) (by first | omega | assumption | rfl) (by have hb2 := hb_65; rw [scr_ur (by decide)] at hb2; first | (rw [raiseNK, if_neg (bP_f hb2 c_68)]) | (rw [raiseNK, if_pos (bP_t hb2 c_68), hp_76, ur_same, us_ur])) (by omega) _ _ _ hw hS (lv_sub hl [1, 2, 3, 4, 0] rfl)
              · refine lv_aload_n hx hb dX2_raiseNeighbours_71 rfl (lv_at hl 0 rfl) ?_
                refine lv_iload hx hb dX2_raiseNeighbours_72 (lv_at hl 4 rfl) ?_
                refine lv_iload hx hb dX2_raiseNeighbours_74 (lv_at hl 3 rfl) ?_
                refine g_Vv (n := 2) (As := [.int (nI k), .int b]) (rest := []) hx hb hml hown hts hE hw hS gX2_raiseNeighbours_X2_raise (c_X2_raise l G A _ k b (by omega)) rfl (by decide +kernel) ⟨Nat.le_of_ble_eq_true rfl, Nat.le_of_ble_eq_true rfl⟩ (Nat.zero_lt_one) rfl rfl rfl rfl hl.1 rfl (Nat.le_of_ble_eq_true rfl) ⟨Nat.le_of_ble_eq_true rfl, Nat.le_of_ble_eq_true rfl⟩ dX2_raiseNeighbours_76 (fun τ_76 H locs hp_76 hw hS => ?_)
                refine lv_iinc (v := nI (k + 1)) (lv' := [(6, .int (nI (k + 1))), (0, .ref (G.1 11 0)), (1, .ref (G.1 0 s)), (2, .int (nI z)), (5, .int b)]) hx hb dX2_raiseNeighbours_79 hl (k := 4) rfl (nI_add _ _) (by decide) rfl (fun ls hl => ?_)
                refine lv_goto (tgt := 54) hx hb dX2_raiseNeighbours_82 (by decide) ?_
                exact K_54 (k + 1) b _ (by first | omega | assumption | rfl) (by first | omega | assumption | rfl) (by have hb2 := hb_65; rw [scr_ur (by decide)] at hb2; first | (rw [raiseNK, if_neg (bP_f hb2 c_68)]) | (rw [raiseNK, if_pos (bP_t hb2 c_68), hp_76, ur_same, us_ur])) (by omega) _ _ _ hw hS (lv_sub hl [1, 2, 3, 4, 0] rfl)
        exact K_54 (18 - 0 + 1) 0 x_46 _ (by first | omega | assumption | rfl) (by first | omega | assumption | rfl) (by first | omega | assumption | rfl) (Nat.lt_succ_self _) _ _ _ hw hS (lv_sub hl [2, 3, 4, 1, 0] rfl)
      · refine lv_aload_n hx hb dX2_raiseNeighbours_13 rfl (lv_at hl 1 rfl) ?_
        refine lv_iload_n hx hb dX2_raiseNeighbours_14 rfl (lv_at hl 2 rfl) ?_
        refine lv_iload hx hb dX2_raiseNeighbours_15 (lv_at hl 5 rfl) ?_
        refine g_Si (n := 3) (As := [.ref (G.1 0 s), .int (nI z), .int (nI k)]) (rest := []) hx hb hml hown hts hE hw hS gX2_raiseNeighbours_X2_helps (c_X2_helps l G A _ s z k (by omega) (by omega) (by omega)) rfl (by decide +kernel) ⟨Nat.le_of_ble_eq_true rfl, Nat.le_of_ble_eq_true rfl⟩ rfl hl.1 rfl (Nat.le_of_ble_eq_true rfl) ⟨Nat.le_of_ble_eq_true rfl, Nat.le_of_ble_eq_true rfl⟩ dX2_raiseNeighbours_17 (fun x_17 τ_17 H locs hp_17 hw hS => ?_)
        obtain ⟨hb_17, hτ_17⟩ := hp_17
        rw [hτ_17] at hw
        refine lv_if_eq (tgt := 26) hx hb dX2_raiseNeighbours_20 (by decide) (fun c_20 => ?_) (fun c_20 => ?_)
        · refine lv_iinc (v := nI (k + 1)) (lv' := [(5, .int (nI (k + 1))), (0, .ref (G.1 11 0)), (1, .ref (G.1 0 s)), (2, .int (nI z)), (3, .int lk), (4, .int (nI cn))]) hx hb dX2_raiseNeighbours_26 hl (k := 5) rfl (nI_add _ _) (by decide) rfl (fun ls hl => ?_)
          refine lv_goto (tgt := 6) hx hb dX2_raiseNeighbours_29 (by decide) ?_
          exact K_6 (k + 1) cn (by first | omega | assumption | rfl) (by first | (rw [helpK, if_neg (bP_f hb_17 c_20)]; exact hc) | (rw [helpK, if_pos (bP_t hb_17 c_20), hc])) (by omega) _ _ _ hw hS (lv_sub hl [1, 2, 3, 4, 5, 0] rfl)
        · refine lv_iinc (v := nI (cn + 1)) (lv' := [(4, .int (nI (cn + 1))), (0, .ref (G.1 11 0)), (1, .ref (G.1 0 s)), (2, .int (nI z)), (3, .int lk), (5, .int (nI k))]) hx hb dX2_raiseNeighbours_23 hl (k := 4) rfl (nI_add _ _) (by decide) rfl (fun ls hl => ?_)
          refine lv_iinc (v := nI (k + 1)) (lv' := [(5, .int (nI (k + 1))), (4, .int (nI (cn + 1))), (0, .ref (G.1 11 0)), (1, .ref (G.1 0 s)), (2, .int (nI z)), (3, .int lk)]) hx hb dX2_raiseNeighbours_26 hl (k := 5) rfl (nI_add _ _) (by decide) rfl (fun ls hl => ?_)
          refine lv_goto (tgt := 6) hx hb dX2_raiseNeighbours_29 (by decide) ?_
          exact K_6 (k + 1) (cn + 1) (by first | omega | assumption | rfl) (by first | (rw [helpK, if_neg (bP_f hb_17 c_20)]; exact hc) | (rw [helpK, if_pos (bP_t hb_17 c_20), hc])) (by omega) _ _ _ hw hS (lv_sub hl [2, 3, 4, 5, 1, 0] rfl)
  exact K_6 (18 - 0 + 1) 0 0 (by first | omega | assumption | rfl) (by first | omega | assumption | rfl) (Nat.lt_succ_self _) _ _ _ hw hS (lv_sub hl [2, 3, 4, 5, 1, 0] rfl)
set_option maxHeartbeats 4000000 in
set_option maxRecDepth 100000 in
/-- ZonedLight$Plan.raiseAll(LZonedLight$Screen;)V -/
theorem c_X2_raiseAll (l : Launch) (G : GG) (A : Nat → Prop) (σ : St) (s : Nat) (hs : s < 7) (hpk : ∀ z, z < 18 → σ 13 0 z = peakF (scr σ s) z) : MV l yX2_raiseAll wsX2_raiseAll 4 92 G A σ [.ref (G.1 11 0), .ref (G.1 0 s)] (fun τ => τ = ur σ 12 0 (roundK (scr σ s) (σ 12 0) 18)) := by
  refine MV.on (by decide) rfl (Nat.le_of_ble_eq_true rfl) (fun pP eE sS mM args below meth cC ls hx hb hml hr hown hlk hts hE hw hS hl => ?_)
  have hl : lv_has ls 4 [(0, .ref (G.1 11 0)), (1, .ref (G.1 0 s))] := hl
  refine lv_iconst (v := nI 0) hx hb dX2_raiseAll_0 (by decide) ?_
  refine lv_istore_n (lv' := [(2, .int (nI 0)), (0, .ref (G.1 11 0)), (1, .ref (G.1 0 s))]) hx hb dX2_raiseAll_1 rfl hl (by decide) rfl (fun ls hl => ?_)
  have K_2 : ∀ (fuel : Nat) (k : Nat) (σ2 : St), (k ≤ 18) → (σ2 = ur σ 12 0 (roundK (scr σ s) (σ 12 0) k)) → 18 - k < fuel → ∀ (H : Heap) (locs : List Loc) (ls : Array Slot), Wcel G σ2 H → va_S A sS.heap H locs → lv_has ls 4 [(0, .ref (G.1 11 0)), (1, .ref (G.1 0 s)), (2, .int (nI k))] → W pP l eE { frames := 4, cells := 0, slots := 0, locals := 92 } sS mM args below meth cC H locs 0 0 (MQ below (va_Qv (fun τ => τ = ur σ 12 0 (roundK (scr σ s) (σ 12 0) 18)) (fun τ t => gP G A τ t) A) args sS 0 0 A) (F0 mM 2 ls []) := by
    intro fuel
    induction fuel with
    | zero =>
      intro k σ2 hk h2 hfu
      exact absurd hfu (Nat.not_lt_zero _)
    | succ fuel K_2 =>
      intro k σ2 hk h2 hfu H locs ls hw hS hl
      subst h2
      refine lv_iload_n hx hb dX2_raiseAll_2 rfl (lv_at hl 2 rfl) ?_
      refine lv_bipush (v := nI 18) hx hb dX2_raiseAll_3 (by decide) ?_
      refine n_cmp_ge (tgt := 76) hx hb dX2_raiseAll_5 (by decide) (by omega) (by omega) (fun c_5 => ?_) (fun c_5 => ?_)
      · refine g_vret hx hb hr hlk hE hw hS dX2_raiseAll_76 ?_
        rw [show k = 18 by omega]
      · refine lv_iconst (v := nI 0) hx hb dX2_raiseAll_8 (by decide) ?_
        refine lv_aload_n hx hb dX2_raiseAll_9 rfl (lv_at hl 0 rfl) ?_
        refine gf_X2_peak hx hb hE hw (Nat.zero_lt_one) hown (hts (.fieldLink RX2 15 "ZonedLight$Plan" "peak" "[I") (by decide +kernel)) dX2_raiseAll_10 ?_
        refine lv_iload_n hx hb dX2_raiseAll_13 rfl (lv_at hl 2 rfl) ?_
        refine g_ald hx hb hE hw (n := 18) (Nat.zero_lt_one) rfl (by decide) (by omega) dX2_raiseAll_14 ?_
        refine lv_topi (fun x_14 ex_14 => ?_)
        refine lv_aload_n hx hb dX2_raiseAll_15 rfl (lv_at hl 1 rfl) ?_
        refine lv_iload_n hx hb dX2_raiseAll_16 rfl (lv_at hl 2 rfl) ?_
        refine lv_aload_n hx hb dX2_raiseAll_17 rfl (lv_at hl 0 rfl) ?_
        refine gf_X2_level hx hb hE hw (Nat.zero_lt_one) hown (hts (.fieldLink RX2 9 "ZonedLight$Plan" "level" "[I") (by decide +kernel)) dX2_raiseAll_18 ?_
        refine g_Vi (n := 2) (As := [.int (nI k), .ref (G.1 12 0)]) (rest := [.int x_14, .int (nI 0)]) hx hb hml hown hts hE hw hS gX2_raiseAll_X3_glow (c_X3_glow l G A _ s k (by omega) (by omega)) rfl (by decide +kernel) ⟨Nat.le_of_ble_eq_true rfl, Nat.le_of_ble_eq_true rfl⟩ (show s < 7 by omega) rfl rfl rfl rfl hl.1 rfl (Nat.le_of_ble_eq_true rfl) ⟨Nat.le_of_ble_eq_true rfl, Nat.le_of_ble_eq_true rfl⟩ dX2_raiseAll_21 (fun x_21 τ_21 H locs hp_21 hw hS => ?_)
        obtain ⟨ex_21, hτ_21⟩ := hp_21
        rw [hτ_21] at hw
        refine g_SNi (n := 1) (As := [.int x_21]) (rest := [.int x_14, .int (nI 0)]) hx hb hml hown hts hE hw hS gX2_raiseAll_X5_lightOf_n62 (host := "ZonedLight") (by decide +kernel) (hts (.initialized RX5) (by decide +kernel)) (hts (.static yX5_lightOf) (by decide +kernel)) (c_X5_lightOf l G A _ x_21) rfl (by decide +kernel) ⟨Nat.le_of_ble_eq_true rfl, Nat.le_of_ble_eq_true rfl⟩ rfl hl.1 rfl (Nat.le_of_ble_eq_true rfl) ⟨Nat.le_of_ble_eq_true rfl, Nat.le_of_ble_eq_true rfl⟩ dX2_raiseAll_24 (fun x_24 τ_24 H locs hp_24 hw hS => ?_)
        obtain ⟨ex_24, hτ_24⟩ := hp_24
        rw [hτ_24] at hw
        refine lv_isub hx hb dX2_raiseAll_27 ?_
        refine lv_topi (fun x_27 ex_27 => ?_)
        refine g_max hx hb (hml.trans hl.1.symm) hE hown (hts (.methodLink RX2 65 Lib.Math.max.name) (by decide +kernel)) ⟨Nat.le_of_ble_eq_true rfl, Nat.le_of_ble_eq_true rfl⟩ ⟨Nat.le_of_ble_eq_true rfl, Nat.le_of_ble_eq_true rfl⟩ dX2_raiseAll_28 ?_
        refine lv_topi (fun x_28 ex_28 => ?_)
        refine lv_istore_n (lv' := [(3, .int x_28), (0, .ref (G.1 11 0)), (1, .ref (G.1 0 s)), (2, .int (nI k))]) hx hb dX2_raiseAll_31 rfl hl (by decide) rfl (fun ls hl => ?_)
        refine lv_aload_n hx hb dX2_raiseAll_32 rfl (lv_at hl 2 rfl) ?_
        refine gf_X3_dead hx hb hE hw (show s < 7 by omega) hown (hts (.fieldLink RX2 23 "ZonedLight$Screen" "dead" "[Z") (by decide +kernel)) dX2_raiseAll_33 ?_
        refine lv_iload_n hx hb dX2_raiseAll_36 rfl (lv_at hl 3 rfl) ?_
        refine g_zald hx hb hE hw (n := 18) (show s < 7 by omega) rfl (by decide) (by omega) dX2_raiseAll_37 ?_
        refine lv_topi (fun x_37 ex_37 => ?_)
        refine lv_if_eq (tgt := 51) hx hb dX2_raiseAll_38 (by decide) (fun c_38 => ?_) (fun c_38 => ?_)
        · refine lv_aload_n hx hb dX2_raiseAll_51 rfl (lv_at hl 1 rfl) ?_
          refine lv_iload_n hx hb dX2_raiseAll_52 rfl (lv_at hl 3 rfl) ?_
          refine lv_iload_n hx hb dX2_raiseAll_53 rfl (lv_at hl 0 rfl) ?_
          refine lv_sipush (v := nI 256) hx hb dX2_raiseAll_54 (by decide) ?_
          refine lv_imul hx hb dX2_raiseAll_57 ?_
          refine lv_topi (fun x_57 ex_57 => ?_)
          refine lv_aload_n hx hb dX2_raiseAll_58 rfl (lv_at hl 2 rfl) ?_
          refine gf_X3_setting hx hb hE hw (show s < 7 by omega) hown (hts (.fieldLink RX2 31 "ZonedLight$Screen" "setting" "[I") (by decide +kernel)) dX2_raiseAll_59 ?_
          refine lv_iconst (v := nI 0) hx hb dX2_raiseAll_62 (by decide) ?_
          refine g_ald hx hb hE hw (n := 8) (show s < 7 by omega) rfl (by decide) (by omega) dX2_raiseAll_63 ?_
          refine lv_topi (fun x_63 ex_63 => ?_)
          refine g_SNi (n := 2) (As := [.int x_57, .int x_63]) (rest := [.int (nI k), .ref (G.1 11 0)]) hx hb hml hown hts hE hw hS gX2_raiseAll_X5_roundedUp_n72 (host := "ZonedLight") (by decide +kernel) (hts (.initialized RX5) (by decide +kernel)) (hts (.static yX5_roundedUp) (by decide +kernel)) (c_X5_roundedUp l G A _ x_57 x_63) rfl (by decide +kernel) ⟨Nat.le_of_ble_eq_true rfl, Nat.le_of_ble_eq_true rfl⟩ rfl hl.1 rfl (Nat.le_of_ble_eq_true rfl) ⟨Nat.le_of_ble_eq_true rfl, Nat.le_of_ble_eq_true rfl⟩ dX2_raiseAll_64 (fun x_64 τ_64 H locs hp_64 hw hS => ?_)
          obtain ⟨ex_64, hτ_64⟩ := hp_64
          rw [hτ_64] at hw
          refine g_Vv (n := 2) (As := [.int (nI k), .int x_64]) (rest := []) hx hb hml hown hts hE hw hS gX2_raiseAll_X2_raise (c_X2_raise l G A _ k x_64 (by omega)) rfl (by decide +kernel) ⟨Nat.le_of_ble_eq_true rfl, Nat.le_of_ble_eq_true rfl⟩ (Nat.zero_lt_one) rfl rfl rfl rfl hl.1 rfl (Nat.le_of_ble_eq_true rfl) ⟨Nat.le_of_ble_eq_true rfl, Nat.le_of_ble_eq_true rfl⟩ dX2_raiseAll_67 (fun τ_67 H locs hp_67 hw hS => ?_)
          refine lv_iinc (v := nI (k + 1)) (lv' := [(2, .int (nI (k + 1))), (3, .int x_28), (0, .ref (G.1 11 0)), (1, .ref (G.1 0 s))]) hx hb dX2_raiseAll_70 hl (k := 3) rfl (nI_add _ _) (by decide) rfl (fun ls hl => ?_)
          refine lv_goto (tgt := 2) hx hb dX2_raiseAll_73 (by decide) ?_
          have hlk : x_28 = lackV (scr σ s) (roundK (scr σ s) (σ 12 0) k) k := by
            rw [ex_28, ex_27, ex_24, ex_21, ex_14, scr_ur (by decide), ur_same, ur_k (by decide), hpk k c_5]; rfl
          have hdd : x_37 = scr σ s (306 + k) := by rw [ex_37, ur_k (by decide), scr_dead (σ := σ) (s := s) c_5]
          exact K_2 (k + 1) _ (by first | omega | assumption | rfl) (by first | (rw [roundK, zoneStep, if_pos (by rw [← hdd]; exact c_38), hp_67, ex_64, ex_57, ex_63, hlk, ur_same, us_ur, ur_k (by decide), ← scr_set (σ := σ) (s := s) (k := 0) (by decide)]; rfl) | (rw [roundK, zoneStep, if_neg (by rw [← hdd]; exact c_38), hp_45, hlk, ur_same, ur_ur, scr_ur (by decide)])) (by omega) _ _ _ hw hS (lv_sub hl [2, 3, 0] rfl)
        · refine lv_aload_n hx hb dX2_raiseAll_41 rfl (lv_at hl 1 rfl) ?_
          refine lv_aload_n hx hb dX2_raiseAll_42 rfl (lv_at hl 2 rfl) ?_
          refine lv_iload_n hx hb dX2_raiseAll_43 rfl (lv_at hl 3 rfl) ?_
          refine lv_iload_n hx hb dX2_raiseAll_44 rfl (lv_at hl 0 rfl) ?_
          refine g_Vv (n := 3) (As := [.ref (G.1 0 s), .int (nI k), .int x_28]) (rest := []) hx hb hml hown hts hE hw hS gX2_raiseAll_X2_raiseNeighbours (c_X2_raiseNeighbours l G A _ s k x_28 (by omega) (by omega)) rfl (by decide +kernel) ⟨Nat.le_of_ble_eq_true rfl, Nat.le_of_ble_eq_true rfl⟩ (Nat.zero_lt_one) rfl rfl rfl rfl hl.1 rfl (Nat.le_of_ble_eq_true rfl) ⟨Nat.le_of_ble_eq_true rfl, Nat.le_of_ble_eq_true rfl⟩ dX2_raiseAll_45 (fun τ_45 H locs hp_45 hw hS => ?_)
          refine lv_goto (tgt := 70) hx hb dX2_raiseAll_48 (by decide) ?_
          refine lv_iinc (v := nI (k + 1)) (lv' := [(2, .int (nI (k + 1))), (3, .int x_28), (0, .ref (G.1 11 0)), (1, .ref (G.1 0 s))]) hx hb dX2_raiseAll_70 hl (k := 3) rfl (nI_add _ _) (by decide) rfl (fun ls hl => ?_)
          refine lv_goto (tgt := 2) hx hb dX2_raiseAll_73 (by decide) ?_
          have hlk : x_28 = lackV (scr σ s) (roundK (scr σ s) (σ 12 0) k) k := by
            rw [ex_28, ex_27, ex_24, ex_21, ex_14, scr_ur (by decide), ur_same, ur_k (by decide), hpk k c_5]; rfl
          have hdd : x_37 = scr σ s (306 + k) := by rw [ex_37, ur_k (by decide), scr_dead (σ := σ) (s := s) c_5]
          exact K_2 (k + 1) _ (by first | omega | assumption | rfl) (by first | (rw [roundK, zoneStep, if_pos (by rw [← hdd]; exact c_38), hp_67, ex_64, ex_57, ex_63, hlk, ur_same, us_ur, ur_k (by decide), ← scr_set (σ := σ) (s := s) (k := 0) (by decide)]; rfl) | (rw [roundK, zoneStep, if_neg (by rw [← hdd]; exact c_38), hp_45, hlk, ur_same, ur_ur, scr_ur (by decide)])) (by omega) _ _ _ hw hS (lv_sub hl [2, 3, 0] rfl)
  exact K_2 (18 - 0 + 1) 0 _ (by first | omega | assumption | rfl) (ur_self rfl).symm (Nat.lt_succ_self _) _ _ _ hw hS (lv_sub hl [1, 2, 0] rfl)
set_option maxHeartbeats 4000000 in
set_option maxRecDepth 100000 in
/-- ZonedLight$Plan.lowerForBlack(LZonedLight$Screen;I)V -/
theorem c_X2_lowerForBlack (l : Launch) (G : GG) (A : Nat → Prop) (σ : St) (s : Nat) (z : Nat) (n : Nat) (hs : s < 7) (hz : z < 18) (hn : σ 12 0 z = nI n) (hn2 : n < 256) : MV l yX2_lowerForBlack wsX2_lowerForBlack 3 69 G A σ [.ref (G.1 11 0), .ref (G.1 0 s), .int (nI z)] (fun τ => τ = us σ 12 0 z (nI (lowK (scr σ s) n (glowK (scr σ s) (σ 12 0) z 18)))) := by
  refine MV.on (by decide) rfl (Nat.le_of_ble_eq_true rfl) (fun pP eE sS mM args below meth cC ls hx hb hml hr hown hlk hts hE hw hS hl => ?_)
  have hl : lv_has ls 4 [(0, .ref (G.1 11 0)), (1, .ref (G.1 0 s)), (2, .int (nI z))] := hl
  refine lv_aload_n hx hb dX2_lowerForBlack_0 rfl (lv_at hl 1 rfl) ?_
  refine lv_iload_n hx hb dX2_lowerForBlack_1 rfl (lv_at hl 2 rfl) ?_
  refine lv_aload_n hx hb dX2_lowerForBlack_2 rfl (lv_at hl 0 rfl) ?_
  refine gf_X2_level hx hb hE hw (Nat.zero_lt_one) hown (hts (.fieldLink RX2 9 "ZonedLight$Plan" "level" "[I") (by decide +kernel)) dX2_lowerForBlack_3 ?_
  refine g_Vi (n := 2) (As := [.int (nI z), .ref (G.1 12 0)]) (rest := []) hx hb hml hown hts hE hw hS gX2_lowerForBlack_X3_glow (c_X3_glow l G A _ s z (by omega) (by omega)) rfl (by decide +kernel) ⟨Nat.le_of_ble_eq_true rfl, Nat.le_of_ble_eq_true rfl⟩ (show s < 7 by omega) rfl rfl rfl rfl hl.1 rfl (Nat.le_of_ble_eq_true rfl) ⟨Nat.le_of_ble_eq_true rfl, Nat.le_of_ble_eq_true rfl⟩ dX2_lowerForBlack_6 (fun x_6 τ_6 H locs hp_6 hw hS => ?_)
  obtain ⟨ex_6, hτ_6⟩ := hp_6
  rw [hτ_6] at hw
  refine lv_istore_n (lv' := [(3, .int x_6), (0, .ref (G.1 11 0)), (1, .ref (G.1 0 s)), (2, .int (nI z))]) hx hb dX2_lowerForBlack_9 rfl hl (by decide) rfl (fun ls hl => ?_)
  have K_10 : ∀ (fuel : Nat) (j : Nat) (g : Int32) (σ2 : St), (j < 256) → (lowK (scr σ s) j g = lowK (scr σ s) n (glowK (scr σ s) (σ 12 0) z 18)) → (σ2 = us σ 12 0 z (nI j)) → j < fuel → ∀ (H : Heap) (locs : List Loc) (ls : Array Slot), Wcel G σ2 H → va_S A sS.heap H locs → lv_has ls 4 [(0, .ref (G.1 11 0)), (1, .ref (G.1 0 s)), (2, .int (nI z)), (3, .int g)] → W pP l eE { frames := 3, cells := 0, slots := 0, locals := 69 } sS mM args below meth cC H locs 0 0 (MQ below (va_Qv (fun τ => τ = us σ 12 0 z (nI (lowK (scr σ s) n (glowK (scr σ s) (σ 12 0) z 18)))) (fun τ t => gP G A τ t) A) args sS 0 0 A) (F0 mM 10 ls []) := by
    intro fuel
    induction fuel with
    | zero =>
      intro j g σ2 hj hi h2 hfu
      exact absurd hfu (Nat.not_lt_zero _)
    | succ fuel K_10 =>
      intro j g σ2 hj hi h2 hfu H locs ls hw hS hl
      subst h2
      refine lv_aload_n hx hb dX2_lowerForBlack_10 rfl (lv_at hl 0 rfl) ?_
      refine gf_X2_level hx hb hE hw (Nat.zero_lt_one) hown (hts (.fieldLink RX2 9 "ZonedLight$Plan" "level" "[I") (by decide +kernel)) dX2_lowerForBlack_11 ?_
      refine lv_iload_n hx hb dX2_lowerForBlack_14 rfl (lv_at hl 2 rfl) ?_
      refine g_ald hx hb hE hw (n := 18) (Nat.zero_lt_one) rfl (by decide) (by omega) dX2_lowerForBlack_15 ?_
      refine lv_topi (fun x_15 ex_15 => ?_)
      obtain rfl : x_15 = nI j := by rw [ex_15, us_at]
      refine n_if_le (tgt := 59) hx hb dX2_lowerForBlack_16 (by decide) (by omega) (fun c_16 => ?_) (fun c_16 => ?_)
      · refine g_vret hx hb hr hlk hE hw hS dX2_lowerForBlack_59 ?_
        first | (rw [← hi]; obtain rfl := c_16; rfl) | (rw [← hi]; obtain ⟨q, rfl⟩ : ∃ q, j = q + 1 := ⟨j - 1, by omega⟩; rw [lowK, if_neg (by rw [hlk, ← hha]; exact Int32.not_lt.mpr c_34)])
      · refine lv_aload_n hx hb dX2_lowerForBlack_19 rfl (lv_at hl 1 rfl) ?_
        refine lv_iload_n hx hb dX2_lowerForBlack_20 rfl (lv_at hl 3 rfl) ?_
        refine g_SNi (n := 1) (As := [.int g]) (rest := [.ref (G.1 0 s)]) hx hb hml hown hts hE hw hS gX2_lowerForBlack_X5_lightOf_n62 (host := "ZonedLight") (by decide +kernel) (hts (.initialized RX5) (by decide +kernel)) (hts (.static yX5_lightOf) (by decide +kernel)) (c_X5_lightOf l G A _ g) rfl (by decide +kernel) ⟨Nat.le_of_ble_eq_true rfl, Nat.le_of_ble_eq_true rfl⟩ rfl hl.1 rfl (Nat.le_of_ble_eq_true rfl) ⟨Nat.le_of_ble_eq_true rfl, Nat.le_of_ble_eq_true rfl⟩ dX2_lowerForBlack_21 (fun x_21 τ_21 H locs hp_21 hw hS => ?_)
        obtain ⟨ex_21, hτ_21⟩ := hp_21
        rw [hτ_21] at hw
        refine g_Vi (n := 1) (As := [.int x_21]) (rest := []) hx hb hml hown hts hE hw hS gX2_lowerForBlack_X3_leakOf (c_X3_leakOf l G A _ s x_21 (by omega)) rfl (by decide +kernel) ⟨Nat.le_of_ble_eq_true rfl, Nat.le_of_ble_eq_true rfl⟩ (show s < 7 by omega) rfl rfl rfl rfl hl.1 rfl (Nat.le_of_ble_eq_true rfl) ⟨Nat.le_of_ble_eq_true rfl, Nat.le_of_ble_eq_true rfl⟩ dX2_lowerForBlack_24 (fun x_24 τ_24 H locs hp_24 hw hS => ?_)
        obtain ⟨ex_24, hτ_24⟩ := hp_24
        rw [hτ_24] at hw
        refine lv_aload_n hx hb dX2_lowerForBlack_27 rfl (lv_at hl 1 rfl) ?_
        refine gf_X3_setting hx hb hE hw (show s < 7 by omega) hown (hts (.fieldLink RX2 31 "ZonedLight$Screen" "setting" "[I") (by decide +kernel)) dX2_lowerForBlack_28 ?_
        refine lv_bipush (v := nI 6) hx hb dX2_lowerForBlack_31 (by decide) ?_
        refine g_ald hx hb hE hw (n := 8) (show s < 7 by omega) rfl (by decide) (by omega) dX2_lowerForBlack_33 ?_
        refine lv_topi (fun x_33 ex_33 => ?_)
        have hlk : leakF (scr σ s) (lightV g) = x_24 := by rw [ex_24, ex_21, scr_us (by decide)]
        have hha : x_33 = scr σ s 330 := by rw [ex_33, us_k (by decide), ← scr_set (σ := σ) (s := s) (k := 6) (by decide)]
        refine lv_icmp_le (tgt := 59) hx hb dX2_lowerForBlack_34 (by decide) (fun c_34 => ?_) (fun c_34 => ?_)
        · refine g_vret hx hb hr hlk hE hw hS dX2_lowerForBlack_59 ?_
          first | (rw [← hi]; obtain rfl := c_16; rfl) | (rw [← hi]; obtain ⟨q, rfl⟩ : ∃ q, j = q + 1 := ⟨j - 1, by omega⟩; rw [lowK, if_neg (by rw [hlk, ← hha]; exact Int32.not_lt.mpr c_34)])
        · refine lv_aload_n hx hb dX2_lowerForBlack_37 rfl (lv_at hl 0 rfl) ?_
          refine gf_X2_level hx hb hE hw (Nat.zero_lt_one) hown (hts (.fieldLink RX2 9 "ZonedLight$Plan" "level" "[I") (by decide +kernel)) dX2_lowerForBlack_38 ?_
          refine lv_iload_n hx hb dX2_lowerForBlack_41 rfl (lv_at hl 2 rfl) ?_
          refine lv_dup2_11 hx hb dX2_lowerForBlack_42 rfl rfl ?_
          refine g_ald hx hb hE hw (n := 18) (Nat.zero_lt_one) rfl (by decide) (by omega) dX2_lowerForBlack_43 ?_
          refine lv_topi (fun x_43 ex_43 => ?_)
          obtain rfl : x_43 = nI j := by rw [ex_43, us_at]
          refine lv_iconst (v := nI 1) hx hb dX2_lowerForBlack_44 (by decide) ?_
          refine n_isub hx hb dX2_lowerForBlack_45 (by omega) ?_
          refine g_ast hx hb hE hw hS (n := 18) (Nat.zero_lt_one) (by decide) (fun _ => rfl) rfl (by decide) (by omega) dX2_lowerForBlack_46 (fun H locs hw hS => ?_)
          refine lv_iload_n hx hb dX2_lowerForBlack_47 rfl (lv_at hl 3 rfl) ?_
          refine lv_aload_n hx hb dX2_lowerForBlack_48 rfl (lv_at hl 1 rfl) ?_
          refine gf_X3_setting hx hb hE hw (show s < 7 by omega) hown (hts (.fieldLink RX2 31 "ZonedLight$Screen" "setting" "[I") (by decide +kernel)) dX2_lowerForBlack_49 ?_
          refine lv_iconst (v := nI 0) hx hb dX2_lowerForBlack_52 (by decide) ?_
          refine g_ald hx hb hE hw (n := 8) (show s < 7 by omega) rfl (by decide) (by omega) dX2_lowerForBlack_53 ?_
          refine lv_topi (fun x_53 ex_53 => ?_)
          refine lv_isub hx hb dX2_lowerForBlack_54 ?_
          refine lv_topi (fun x_54 ex_54 => ?_)
          refine lv_istore_n (lv' := [(3, .int x_54), (0, .ref (G.1 11 0)), (1, .ref (G.1 0 s)), (2, .int (nI z))]) hx hb dX2_lowerForBlack_55 rfl hl (by decide) rfl (fun ls hl => ?_)
          refine lv_goto (tgt := 10) hx hb dX2_lowerForBlack_56 (by decide) ?_
          exact K_10 (j - 1) x_54 _ (by first | omega | assumption | rfl) (by rw [← hi]; obtain ⟨q, rfl⟩ : ∃ q, j = q + 1 := ⟨j - 1, by omega⟩; rw [lowK, if_pos (by rw [hlk, ← hha]; exact Int32.not_le.mp c_34), ex_54, ex_53, us_k (by decide), us_k (by decide), ← scr_set (σ := σ) (s := s) (k := 0) (by decide)]; rfl) (us_us) (by omega) _ _ _ hw hS (lv_sub hl [1, 2, 3, 0] rfl)
  exact K_10 (n + 1) n x_6 _ (by first | omega | assumption | rfl) (by rw [ex_6]) (us_self hn).symm (Nat.lt_succ_self _) _ _ _ hw hS (lv_sub hl [1, 2, 3, 0] rfl)
end
