section
-- ===== PART A: goes FIRST, ahead of the names: the tables' words, and 'selects' of the private methods out of them =====
/-- a private method of a class that the tables say can be made, by its rows of tables_1 -/
def lw_okq (q : MethodName × Nat) : Prop := (q.1.cls ≠ "java/lang/invoke/MethodHandle" ∧ q.1.cls ≠ "java/lang/invoke/VarHandle") ∧ Cond.instantiable q.1.cls q.2 ∈ tables_1 ∧ Cond.privateMethod q.1 ∈ tables_1 ∧ Cond.instanceMethod q.1 ∈ tables_1
theorem lw_p0 : lw_okq (⟨"FloorCurves", "keepDraft", "()I"⟩, 10) := ⟨⟨by decide +kernel, by decide +kernel⟩, List.mem_of_getElem? (i := 15) (by decide +kernel), List.mem_of_getElem? (i := 196) (by decide +kernel), List.mem_of_getElem? (i := 197) (by decide +kernel)⟩
theorem lw_p1 : lw_okq (⟨"FloorCurves", "pictureAt", "(I)LFloorCurves$Picture;"⟩, 10) := ⟨⟨by decide +kernel, by decide +kernel⟩, List.mem_of_getElem? (i := 15) (by decide +kernel), List.mem_of_getElem? (i := 211) (by decide +kernel), List.mem_of_getElem? (i := 212) (by decide +kernel)⟩
theorem lw_p2 : lw_okq (⟨"FloorCurves$Picture", "change", "(II)V"⟩, 4) := ⟨⟨by decide +kernel, by decide +kernel⟩, List.mem_of_getElem? (i := 24) (by decide +kernel), List.mem_of_getElem? (i := 235) (by decide +kernel), List.mem_of_getElem? (i := 236) (by decide +kernel)⟩
theorem lw_p3 : lw_okq (⟨"FloorCurves$Picture", "hangingTogetherWith", "(I)I"⟩, 4) := ⟨⟨by decide +kernel, by decide +kernel⟩, List.mem_of_getElem? (i := 24) (by decide +kernel), List.mem_of_getElem? (i := 290) (by decide +kernel), List.mem_of_getElem? (i := 291) (by decide +kernel)⟩
theorem lw_p4 : lw_okq (⟨"FloorCurves$Powers", "multiply", "(I)V"⟩, 3) := ⟨⟨by decide +kernel, by decide +kernel⟩, List.mem_of_getElem? (i := 72) (by decide +kernel), List.mem_of_getElem? (i := 333) (by decide +kernel), List.mem_of_getElem? (i := 334) (by decide +kernel)⟩
theorem lw_p5 : lw_okq (⟨"FloorCurves$Marker", "addKind", "(III)V"⟩, 7) := ⟨⟨by decide +kernel, by decide +kernel⟩, List.mem_of_getElem? (i := 44) (by decide +kernel), List.mem_of_getElem? (i := 358) (by decide +kernel), List.mem_of_getElem? (i := 359) (by decide +kernel)⟩
theorem lw_p6 : lw_okq (⟨"FloorCurves$Marker", "dealNext", "(I)J"⟩, 7) := ⟨⟨by decide +kernel, by decide +kernel⟩, List.mem_of_getElem? (i := 44) (by decide +kernel), List.mem_of_getElem? (i := 364) (by decide +kernel), List.mem_of_getElem? (i := 365) (by decide +kernel)⟩
theorem lw_p7 : lw_okq (⟨"FloorCurves$Marker", "deal", "(III)J"⟩, 7) := ⟨⟨by decide +kernel, by decide +kernel⟩, List.mem_of_getElem? (i := 44) (by decide +kernel), List.mem_of_getElem? (i := 368) (by decide +kernel), List.mem_of_getElem? (i := 369) (by decide +kernel)⟩
theorem lw_p8 : lw_okq (⟨"FloorCurves", "catalogueOf", "(II)LFloorCurves$Catalogue;"⟩, 10) := ⟨⟨by decide +kernel, by decide +kernel⟩, List.mem_of_getElem? (i := 15) (by decide +kernel), List.mem_of_getElem? (i := 395) (by decide +kernel), List.mem_of_getElem? (i := 396) (by decide +kernel)⟩
theorem lw_p9 : lw_okq (⟨"FloorCurves$Catalogue", "fillFrom", "(I)V"⟩, 11) := ⟨⟨by decide +kernel, by decide +kernel⟩, List.mem_of_getElem? (i := 398) (by decide +kernel), List.mem_of_getElem? (i := 411) (by decide +kernel), List.mem_of_getElem? (i := 412) (by decide +kernel)⟩
theorem lw_p10 : lw_okq (⟨"FloorCurves$Catalogue", "enter", "()V"⟩, 11) := ⟨⟨by decide +kernel, by decide +kernel⟩, List.mem_of_getElem? (i := 398) (by decide +kernel), List.mem_of_getElem? (i := 415) (by decide +kernel), List.mem_of_getElem? (i := 416) (by decide +kernel)⟩
theorem lw_p11 : lw_okq (⟨"FloorCurves$Tape", "failAt", "(II)I"⟩, 4) := ⟨⟨by decide +kernel, by decide +kernel⟩, List.mem_of_getElem? (i := 91) (by decide +kernel), List.mem_of_getElem? (i := 552) (by decide +kernel), List.mem_of_getElem? (i := 553) (by decide +kernel)⟩
theorem lw_p12 : lw_okq (⟨"FloorCurves$Tangents", "learn", "(I)V"⟩, 5) := ⟨⟨by decide +kernel, by decide +kernel⟩, List.mem_of_getElem? (i := 111) (by decide +kernel), List.mem_of_getElem? (i := 586) (by decide +kernel), List.mem_of_getElem? (i := 587) (by decide +kernel)⟩
theorem lw_p13 : lw_okq (⟨"FloorCurves$Tangents", "enterRows", "(III)V"⟩, 5) := ⟨⟨by decide +kernel, by decide +kernel⟩, List.mem_of_getElem? (i := 111) (by decide +kernel), List.mem_of_getElem? (i := 590) (by decide +kernel), List.mem_of_getElem? (i := 591) (by decide +kernel)⟩
theorem lw_p14 : lw_okq (⟨"FloorCurves$Tangents", "addMoves", "(II)V"⟩, 5) := ⟨⟨by decide +kernel, by decide +kernel⟩, List.mem_of_getElem? (i := 111) (by decide +kernel), List.mem_of_getElem? (i := 602) (by decide +kernel), List.mem_of_getElem? (i := 603) (by decide +kernel)⟩
theorem lw_p15 : lw_okq (⟨"FloorCurves$Tangents", "indexOf", "(II)I"⟩, 5) := ⟨⟨by decide +kernel, by decide +kernel⟩, List.mem_of_getElem? (i := 111) (by decide +kernel), List.mem_of_getElem? (i := 608) (by decide +kernel), List.mem_of_getElem? (i := 609) (by decide +kernel)⟩
def lw_privs_1 : List (MethodName × Nat) := [(⟨"FloorCurves", "keepDraft", "()I"⟩, 10), (⟨"FloorCurves", "pictureAt", "(I)LFloorCurves$Picture;"⟩, 10), (⟨"FloorCurves$Picture", "change", "(II)V"⟩, 4), (⟨"FloorCurves$Picture", "hangingTogetherWith", "(I)I"⟩, 4), (⟨"FloorCurves$Powers", "multiply", "(I)V"⟩, 3), (⟨"FloorCurves$Marker", "addKind", "(III)V"⟩, 7), (⟨"FloorCurves$Marker", "dealNext", "(I)J"⟩, 7), (⟨"FloorCurves$Marker", "deal", "(III)J"⟩, 7), (⟨"FloorCurves", "catalogueOf", "(II)LFloorCurves$Catalogue;"⟩, 10), (⟨"FloorCurves$Catalogue", "fillFrom", "(I)V"⟩, 11), (⟨"FloorCurves$Catalogue", "enter", "()V"⟩, 11), (⟨"FloorCurves$Tape", "failAt", "(II)I"⟩, 4), (⟨"FloorCurves$Tangents", "learn", "(I)V"⟩, 5), (⟨"FloorCurves$Tangents", "enterRows", "(III)V"⟩, 5), (⟨"FloorCurves$Tangents", "addMoves", "(II)V"⟩, 5), (⟨"FloorCurves$Tangents", "indexOf", "(II)I"⟩, 5)]
theorem lw_r1 : ∀ q ∈ lw_privs_1, lw_okq q := List.forall_mem_cons.mpr ⟨lw_p0, List.forall_mem_cons.mpr ⟨lw_p1, List.forall_mem_cons.mpr ⟨lw_p2, List.forall_mem_cons.mpr ⟨lw_p3, List.forall_mem_cons.mpr ⟨lw_p4, List.forall_mem_cons.mpr ⟨lw_p5, List.forall_mem_cons.mpr ⟨lw_p6, List.forall_mem_cons.mpr ⟨lw_p7, List.forall_mem_cons.mpr ⟨lw_p8, List.forall_mem_cons.mpr ⟨lw_p9, List.forall_mem_cons.mpr ⟨lw_p10, List.forall_mem_cons.mpr ⟨lw_p11, List.forall_mem_cons.mpr ⟨lw_p12, List.forall_mem_cons.mpr ⟨lw_p13, List.forall_mem_cons.mpr ⟨lw_p14, List.forall_mem_cons.mpr ⟨lw_p15, fun _ h => absurd h List.not_mem_nil⟩⟩⟩⟩⟩⟩⟩⟩⟩⟩⟩⟩⟩⟩⟩⟩
theorem lw_p16 : lw_okq (⟨"FloorCurves$Tangents", "addTo", "(IIJI)V"⟩, 5) := ⟨⟨by decide +kernel, by decide +kernel⟩, List.mem_of_getElem? (i := 111) (by decide +kernel), List.mem_of_getElem? (i := 612) (by decide +kernel), List.mem_of_getElem? (i := 613) (by decide +kernel)⟩
theorem lw_p17 : lw_okq (⟨"FloorCurves$Tangents", "addSplits", "(II)V"⟩, 5) := ⟨⟨by decide +kernel, by decide +kernel⟩, List.mem_of_getElem? (i := 111) (by decide +kernel), List.mem_of_getElem? (i := 616) (by decide +kernel), List.mem_of_getElem? (i := 617) (by decide +kernel)⟩
theorem lw_p18 : lw_okq (⟨"FloorCurves", "sheetAt", "(I)LFloorCurves$Sheet;"⟩, 10) := ⟨⟨by decide +kernel, by decide +kernel⟩, List.mem_of_getElem? (i := 15) (by decide +kernel), List.mem_of_getElem? (i := 646) (by decide +kernel), List.mem_of_getElem? (i := 647) (by decide +kernel)⟩
theorem lw_p19 : lw_okq (⟨"FloorCurves", "cellsOfFirstSheet", "()I"⟩, 10) := ⟨⟨by decide +kernel, by decide +kernel⟩, List.mem_of_getElem? (i := 15) (by decide +kernel), List.mem_of_getElem? (i := 696) (by decide +kernel), List.mem_of_getElem? (i := 697) (by decide +kernel)⟩
theorem lw_p20 : lw_okq (⟨"FloorCurves", "stairsOfAll", "()I"⟩, 10) := ⟨⟨by decide +kernel, by decide +kernel⟩, List.mem_of_getElem? (i := 15) (by decide +kernel), List.mem_of_getElem? (i := 704) (by decide +kernel), List.mem_of_getElem? (i := 705) (by decide +kernel)⟩
theorem lw_p21 : lw_okq (⟨"FloorCurvesModel", "is", "(I)Z"⟩, 39) := ⟨⟨by decide +kernel, by decide +kernel⟩, List.mem_of_getElem? (i := 708) (by decide +kernel), List.mem_of_getElem? (i := 846) (by decide +kernel), List.mem_of_getElem? (i := 847) (by decide +kernel)⟩
theorem lw_p22 : lw_okq (⟨"FloorCurvesModel", "put", "(IIII)V"⟩, 39) := ⟨⟨by decide +kernel, by decide +kernel⟩, List.mem_of_getElem? (i := 708) (by decide +kernel), List.mem_of_getElem? (i := 853) (by decide +kernel), List.mem_of_getElem? (i := 854) (by decide +kernel)⟩
theorem lw_p23 : lw_okq (⟨"FloorCurvesModel", "isAhead", "(IIII)Z"⟩, 39) := ⟨⟨by decide +kernel, by decide +kernel⟩, List.mem_of_getElem? (i := 708) (by decide +kernel), List.mem_of_getElem? (i := 857) (by decide +kernel), List.mem_of_getElem? (i := 858) (by decide +kernel)⟩
theorem lw_p24 : lw_okq (⟨"FloorCurvesModel", "isRight", "(I)Z"⟩, 39) := ⟨⟨by decide +kernel, by decide +kernel⟩, List.mem_of_getElem? (i := 708) (by decide +kernel), List.mem_of_getElem? (i := 874) (by decide +kernel), List.mem_of_getElem? (i := 875) (by decide +kernel)⟩
theorem lw_p25 : lw_okq (⟨"FloorCurvesModel", "outOf", "(II)I"⟩, 39) := ⟨⟨by decide +kernel, by decide +kernel⟩, List.mem_of_getElem? (i := 708) (by decide +kernel), List.mem_of_getElem? (i := 878) (by decide +kernel), List.mem_of_getElem? (i := 879) (by decide +kernel)⟩
theorem lw_p26 : lw_okq (⟨"FloorCurvesModel", "knots", "(I)I"⟩, 39) := ⟨⟨by decide +kernel, by decide +kernel⟩, List.mem_of_getElem? (i := 708) (by decide +kernel), List.mem_of_getElem? (i := 882) (by decide +kernel), List.mem_of_getElem? (i := 883) (by decide +kernel)⟩
theorem lw_p27 : lw_okq (⟨"FloorCurvesModel", "partsOf", "(I)I"⟩, 39) := ⟨⟨by decide +kernel, by decide +kernel⟩, List.mem_of_getElem? (i := 708) (by decide +kernel), List.mem_of_getElem? (i := 886) (by decide +kernel), List.mem_of_getElem? (i := 887) (by decide +kernel)⟩
theorem lw_p28 : lw_okq (⟨"FloorCurvesModel", "multOf", "(I)I"⟩, 39) := ⟨⟨by decide +kernel, by decide +kernel⟩, List.mem_of_getElem? (i := 708) (by decide +kernel), List.mem_of_getElem? (i := 890) (by decide +kernel), List.mem_of_getElem? (i := 891) (by decide +kernel)⟩
theorem lw_p29 : lw_okq (⟨"FloorCurvesModel", "signOf", "(I)I"⟩, 39) := ⟨⟨by decide +kernel, by decide +kernel⟩, List.mem_of_getElem? (i := 708) (by decide +kernel), List.mem_of_getElem? (i := 894) (by decide +kernel), List.mem_of_getElem? (i := 895) (by decide +kernel)⟩
theorem lw_p30 : lw_okq (⟨"FloorCurvesModel", "layPowers", "(I)V"⟩, 39) := ⟨⟨by decide +kernel, by decide +kernel⟩, List.mem_of_getElem? (i := 708) (by decide +kernel), List.mem_of_getElem? (i := 912) (by decide +kernel), List.mem_of_getElem? (i := 913) (by decide +kernel)⟩
theorem lw_p31 : lw_okq (⟨"FloorCurvesModel", "marked", "(III)J"⟩, 39) := ⟨⟨by decide +kernel, by decide +kernel⟩, List.mem_of_getElem? (i := 708) (by decide +kernel), List.mem_of_getElem? (i := 923) (by decide +kernel), List.mem_of_getElem? (i := 924) (by decide +kernel)⟩
def lw_privs_2 : List (MethodName × Nat) := [(⟨"FloorCurves$Tangents", "addTo", "(IIJI)V"⟩, 5), (⟨"FloorCurves$Tangents", "addSplits", "(II)V"⟩, 5), (⟨"FloorCurves", "sheetAt", "(I)LFloorCurves$Sheet;"⟩, 10), (⟨"FloorCurves", "cellsOfFirstSheet", "()I"⟩, 10), (⟨"FloorCurves", "stairsOfAll", "()I"⟩, 10), (⟨"FloorCurvesModel", "is", "(I)Z"⟩, 39), (⟨"FloorCurvesModel", "put", "(IIII)V"⟩, 39), (⟨"FloorCurvesModel", "isAhead", "(IIII)Z"⟩, 39), (⟨"FloorCurvesModel", "isRight", "(I)Z"⟩, 39), (⟨"FloorCurvesModel", "outOf", "(II)I"⟩, 39), (⟨"FloorCurvesModel", "knots", "(I)I"⟩, 39), (⟨"FloorCurvesModel", "partsOf", "(I)I"⟩, 39), (⟨"FloorCurvesModel", "multOf", "(I)I"⟩, 39), (⟨"FloorCurvesModel", "signOf", "(I)I"⟩, 39), (⟨"FloorCurvesModel", "layPowers", "(I)V"⟩, 39), (⟨"FloorCurvesModel", "marked", "(III)J"⟩, 39)]
theorem lw_r2 : ∀ q ∈ lw_privs_2, lw_okq q := List.forall_mem_cons.mpr ⟨lw_p16, List.forall_mem_cons.mpr ⟨lw_p17, List.forall_mem_cons.mpr ⟨lw_p18, List.forall_mem_cons.mpr ⟨lw_p19, List.forall_mem_cons.mpr ⟨lw_p20, List.forall_mem_cons.mpr ⟨lw_p21, List.forall_mem_cons.mpr ⟨lw_p22, List.forall_mem_cons.mpr ⟨lw_p23, List.forall_mem_cons.mpr ⟨lw_p24, List.forall_mem_cons.mpr ⟨lw_p25, List.forall_mem_cons.mpr ⟨lw_p26, List.forall_mem_cons.mpr ⟨lw_p27, List.forall_mem_cons.mpr ⟨lw_p28, List.forall_mem_cons.mpr ⟨lw_p29, List.forall_mem_cons.mpr ⟨lw_p30, List.forall_mem_cons.mpr ⟨lw_p31, fun _ h => absurd h List.not_mem_nil⟩⟩⟩⟩⟩⟩⟩⟩⟩⟩⟩⟩⟩⟩⟩⟩
theorem lw_p32 : lw_okq (⟨"FloorCurvesModel", "layKinds", "(I)V"⟩, 39) := ⟨⟨by decide +kernel, by decide +kernel⟩, List.mem_of_getElem? (i := 708) (by decide +kernel), List.mem_of_getElem? (i := 927) (by decide +kernel), List.mem_of_getElem? (i := 928) (by decide +kernel)⟩
theorem lw_p33 : lw_okq (⟨"FloorCurvesModel", "kind", "(III)V"⟩, 39) := ⟨⟨by decide +kernel, by decide +kernel⟩, List.mem_of_getElem? (i := 708) (by decide +kernel), List.mem_of_getElem? (i := 931) (by decide +kernel), List.mem_of_getElem? (i := 932) (by decide +kernel)⟩
theorem lw_p34 : lw_okq (⟨"FloorCurvesModel", "goOn", "(IIIJIII)V"⟩, 39) := ⟨⟨by decide +kernel, by decide +kernel⟩, List.mem_of_getElem? (i := 708) (by decide +kernel), List.mem_of_getElem? (i := 935) (by decide +kernel), List.mem_of_getElem? (i := 936) (by decide +kernel)⟩
theorem lw_p35 : lw_okq (⟨"FloorCurvesModel", "usedOf", "(II)I"⟩, 39) := ⟨⟨by decide +kernel, by decide +kernel⟩, List.mem_of_getElem? (i := 708) (by decide +kernel), List.mem_of_getElem? (i := 939) (by decide +kernel), List.mem_of_getElem? (i := 940) (by decide +kernel)⟩
theorem lw_p36 : lw_okq (⟨"FloorCurvesModel", "unlikeAt", "(III)I"⟩, 39) := ⟨⟨by decide +kernel, by decide +kernel⟩, List.mem_of_getElem? (i := 708) (by decide +kernel), List.mem_of_getElem? (i := 952) (by decide +kernel), List.mem_of_getElem? (i := 953) (by decide +kernel)⟩
theorem lw_p37 : lw_okq (⟨"FloorCurvesModel", "find", "(II)V"⟩, 39) := ⟨⟨by decide +kernel, by decide +kernel⟩, List.mem_of_getElem? (i := 708) (by decide +kernel), List.mem_of_getElem? (i := 967) (by decide +kernel), List.mem_of_getElem? (i := 968) (by decide +kernel)⟩
theorem lw_p38 : lw_okq (⟨"FloorCurvesModel", "clearRow", "()V"⟩, 39) := ⟨⟨by decide +kernel, by decide +kernel⟩, List.mem_of_getElem? (i := 708) (by decide +kernel), List.mem_of_getElem? (i := 971) (by decide +kernel), List.mem_of_getElem? (i := 972) (by decide +kernel)⟩
theorem lw_p39 : lw_okq (⟨"FloorCurvesModel", "rowMany", "()I"⟩, 39) := ⟨⟨by decide +kernel, by decide +kernel⟩, List.mem_of_getElem? (i := 708) (by decide +kernel), List.mem_of_getElem? (i := 975) (by decide +kernel), List.mem_of_getElem? (i := 976) (by decide +kernel)⟩
theorem lw_p40 : lw_okq (⟨"FloorCurvesModel", "layRow", "(II)V"⟩, 39) := ⟨⟨by decide +kernel, by decide +kernel⟩, List.mem_of_getElem? (i := 708) (by decide +kernel), List.mem_of_getElem? (i := 979) (by decide +kernel), List.mem_of_getElem? (i := 980) (by decide +kernel)⟩
theorem lw_p41 : lw_okq (⟨"FloorCurvesModel", "nextRow", "(I)Z"⟩, 39) := ⟨⟨by decide +kernel, by decide +kernel⟩, List.mem_of_getElem? (i := 708) (by decide +kernel), List.mem_of_getElem? (i := 989) (by decide +kernel), List.mem_of_getElem? (i := 990) (by decide +kernel)⟩
theorem lw_p42 : lw_okq (⟨"FloorCurvesModel", "weighedFrom", "(I)I"⟩, 39) := ⟨⟨by decide +kernel, by decide +kernel⟩, List.mem_of_getElem? (i := 708) (by decide +kernel), List.mem_of_getElem? (i := 993) (by decide +kernel), List.mem_of_getElem? (i := 994) (by decide +kernel)⟩
theorem lw_p43 : lw_okq (⟨"FloorCurvesModel", "weighedTo", "(I)I"⟩, 39) := ⟨⟨by decide +kernel, by decide +kernel⟩, List.mem_of_getElem? (i := 708) (by decide +kernel), List.mem_of_getElem? (i := 1000) (by decide +kernel), List.mem_of_getElem? (i := 1001) (by decide +kernel)⟩
theorem lw_p44 : lw_okq (⟨"FloorCurvesModel", "next", "()I"⟩, 39) := ⟨⟨by decide +kernel, by decide +kernel⟩, List.mem_of_getElem? (i := 708) (by decide +kernel), List.mem_of_getElem? (i := 1036) (by decide +kernel), List.mem_of_getElem? (i := 1037) (by decide +kernel)⟩
theorem lw_p45 : lw_okq (⟨"FloorCurvesModel", "layWorths", "()V"⟩, 39) := ⟨⟨by decide +kernel, by decide +kernel⟩, List.mem_of_getElem? (i := 708) (by decide +kernel), List.mem_of_getElem? (i := 1057) (by decide +kernel), List.mem_of_getElem? (i := 1058) (by decide +kernel)⟩
theorem lw_p46 : lw_okq (⟨"FloorCurvesModel", "layRows", "()V"⟩, 39) := ⟨⟨by decide +kernel, by decide +kernel⟩, List.mem_of_getElem? (i := 708) (by decide +kernel), List.mem_of_getElem? (i := 1061) (by decide +kernel), List.mem_of_getElem? (i := 1062) (by decide +kernel)⟩
theorem lw_p47 : lw_okq (⟨"FloorCurvesModel", "reckon", "(I)V"⟩, 39) := ⟨⟨by decide +kernel, by decide +kernel⟩, List.mem_of_getElem? (i := 708) (by decide +kernel), List.mem_of_getElem? (i := 1068) (by decide +kernel), List.mem_of_getElem? (i := 1069) (by decide +kernel)⟩
def lw_privs_3 : List (MethodName × Nat) := [(⟨"FloorCurvesModel", "layKinds", "(I)V"⟩, 39), (⟨"FloorCurvesModel", "kind", "(III)V"⟩, 39), (⟨"FloorCurvesModel", "goOn", "(IIIJIII)V"⟩, 39), (⟨"FloorCurvesModel", "usedOf", "(II)I"⟩, 39), (⟨"FloorCurvesModel", "unlikeAt", "(III)I"⟩, 39), (⟨"FloorCurvesModel", "find", "(II)V"⟩, 39), (⟨"FloorCurvesModel", "clearRow", "()V"⟩, 39), (⟨"FloorCurvesModel", "rowMany", "()I"⟩, 39), (⟨"FloorCurvesModel", "layRow", "(II)V"⟩, 39), (⟨"FloorCurvesModel", "nextRow", "(I)Z"⟩, 39), (⟨"FloorCurvesModel", "weighedFrom", "(I)I"⟩, 39), (⟨"FloorCurvesModel", "weighedTo", "(I)I"⟩, 39), (⟨"FloorCurvesModel", "next", "()I"⟩, 39), (⟨"FloorCurvesModel", "layWorths", "()V"⟩, 39), (⟨"FloorCurvesModel", "layRows", "()V"⟩, 39), (⟨"FloorCurvesModel", "reckon", "(I)V"⟩, 39)]
theorem lw_r3 : ∀ q ∈ lw_privs_3, lw_okq q := List.forall_mem_cons.mpr ⟨lw_p32, List.forall_mem_cons.mpr ⟨lw_p33, List.forall_mem_cons.mpr ⟨lw_p34, List.forall_mem_cons.mpr ⟨lw_p35, List.forall_mem_cons.mpr ⟨lw_p36, List.forall_mem_cons.mpr ⟨lw_p37, List.forall_mem_cons.mpr ⟨lw_p38, List.forall_mem_cons.mpr ⟨lw_p39, List.forall_mem_cons.mpr ⟨lw_p40, List.forall_mem_cons.mpr ⟨lw_p41, List.forall_mem_cons.mpr ⟨lw_p42, List.forall_mem_cons.mpr ⟨lw_p43, List.forall_mem_cons.mpr ⟨lw_p44, List.forall_mem_cons.mpr ⟨lw_p45, List.forall_mem_cons.mpr ⟨lw_p46, List.forall_mem_cons.mpr ⟨lw_p47, fun _ h => absurd h List.not_mem_nil⟩⟩⟩⟩⟩⟩⟩⟩⟩⟩⟩⟩⟩⟩⟩⟩
theorem lw_p48 : lw_okq (⟨"FloorCurvesModel", "indexOf", "([II)I"⟩, 39) := ⟨⟨by decide +kernel, by decide +kernel⟩, List.mem_of_getElem? (i := 708) (by decide +kernel), List.mem_of_getElem? (i := 1072) (by decide +kernel), List.mem_of_getElem? (i := 1073) (by decide +kernel)⟩
theorem lw_p49 : lw_okq (⟨"FloorCurvesModel", "goes", "(IIII)J"⟩, 39) := ⟨⟨by decide +kernel, by decide +kernel⟩, List.mem_of_getElem? (i := 708) (by decide +kernel), List.mem_of_getElem? (i := 1076) (by decide +kernel), List.mem_of_getElem? (i := 1077) (by decide +kernel)⟩
def lw_privs_4 : List (MethodName × Nat) := [(⟨"FloorCurvesModel", "indexOf", "([II)I"⟩, 39), (⟨"FloorCurvesModel", "goes", "(IIII)J"⟩, 39)]
theorem lw_r4 : ∀ q ∈ lw_privs_4, lw_okq q := List.forall_mem_cons.mpr ⟨lw_p48, List.forall_mem_cons.mpr ⟨lw_p49, fun _ h => absurd h List.not_mem_nil⟩⟩
def lw_privs : List (MethodName × Nat) := lw_privs_1 ++ (lw_privs_2 ++ (lw_privs_3 ++ (lw_privs_4)))
def lw_tbl : List Cond := k2_sels lw_privs ++ tables_1
theorem lw_privs_ok : ∀ q ∈ lw_privs, lw_okq q := by
  show ∀ q ∈ lw_privs_1 ++ (lw_privs_2 ++ (lw_privs_3 ++ (lw_privs_4))), lw_okq q
  exact List.forall_mem_append.mpr ⟨lw_r1, List.forall_mem_append.mpr ⟨lw_r2, List.forall_mem_append.mpr ⟨lw_r3, lw_r4⟩⟩⟩
end
section
/-! the judgement Ev over a flat picture of the heap: cells numbered as they come, ints as Int -/
abbrev AV : Type := Int ⊕ Int ⊕ Int
abbrev vi (x : Int) : AV := .inl x
abbrev vl (x : Int) : AV := .inr (.inl x)
abbrev vr (x : Int) : AV := .inr (.inr x)
abbrev Mm : Type := Int → Int → Int
abbrev Sg : Type := Int × Int × (Int → Nat) × (Int → Int) × (Int → Int → Int)
abbrev Md : Type := MethodName × ByteArray × Nat × Option FieldType
def q_f0 : List (String × String × String × Bool) := [("FloorCurves$Catalogue", "ofDegree", "I", true), ("FloorCurves$Catalogue", "draft", "LFloorCurves$Picture;", true), ("FloorCurves$Catalogue", "marker", "LFloorCurves$Marker;", true), ("FloorCurves$Catalogue", "powers", "LFloorCurves$Powers;", true), ("FloorCurves$Catalogue", "rows", "[J", true), ("FloorCurves$Catalogue", "knotsOfRow", "[I", true), ("FloorCurves$Catalogue", "amount", "[I", true), ("FloorCurves$Catalogue", "byMult", "[J", true), ("FloorCurves$Catalogue", "bySign", "[J", true), ("FloorCurves$Catalogue", "byPower", "[J", true), ("FloorCurves$Catalogue", "size", "I", false)]
def q_T0 : u_T := fun k => q_f0.getD k ("", "", "", false)
def q_f1 : List (String × String × String × Bool) := [("FloorCurves$Marker", "firstGap", "[I", true), ("FloorCurves$Marker", "lastGap", "[I", true), ("FloorCurves$Marker", "amount", "[I", true), ("FloorCurves$Marker", "inGap", "[I", true), ("FloorCurves$Marker", "kinds", "I", false), ("FloorCurves$Marker", "watched", "I", false), ("FloorCurves$Marker", "wanted", "I", false)]
def q_T1 : u_T := fun k => q_f1.getD k ("", "", "", false)
def q_f2 : List (String × String × String × Bool) := [("FloorCurves$Picture", "floors", "I", false), ("FloorCurves$Picture", "stairs", "I", false), ("FloorCurves$Picture", "amounts", "[I", true), ("FloorCurves$Picture", "outs", "[I", true)]
def q_T2 : u_T := fun k => q_f2.getD k ("", "", "", false)
def q_f3 : List (String × String × String × Bool) := [("FloorCurves$Powers", "row", "[J", true), ("FloorCurves$Powers", "product", "[J", true), ("FloorCurves$Powers", "reach", "I", false)]
def q_T3 : u_T := fun k => q_f3.getD k ("", "", "", false)
def q_f4 : List (String × String × String × Bool) := [("FloorCurves$Sheet", "cells", "[I", true), ("FloorCurves$Sheet", "lane", "I", false), ("FloorCurves$Sheet", "length", "I", false)]
def q_T4 : u_T := fun k => q_f4.getD k ("", "", "", false)
def q_f5 : List (String × String × String × Bool) := [("FloorCurves$Tangents", "rows", "[I", true), ("FloorCurves$Tangents", "values", "[J", true), ("FloorCurves$Tangents", "firstRow", "[I", true), ("FloorCurves$Tangents", "size", "I", false), ("FloorCurves$Tangents", "known", "I", false)]
def q_T5 : u_T := fun k => q_f5.getD k ("", "", "", false)
def q_f6 : List (String × String × String × Bool) := [("FloorCurves$Tape", "bytes", "[B", true), ("FloorCurves$Tape", "length", "I", false), ("FloorCurves$Tape", "toldRows", "I", false), ("FloorCurves$Tape", "latestFault", "I", false)]
def q_T6 : u_T := fun k => q_f6.getD k ("", "", "", false)
def q_f7 : List (String × String × String × Bool) := [("FloorCurves", "pictures", "[LFloorCurves$Picture;", true), ("FloorCurves", "draft", "LFloorCurves$Picture;", true), ("FloorCurves", "marker", "LFloorCurves$Marker;", true), ("FloorCurves", "powers", "LFloorCurves$Powers;", true), ("FloorCurves", "catalogues", "[LFloorCurves$Catalogue;", true), ("FloorCurves", "tape", "LFloorCurves$Tape;", true), ("FloorCurves", "tangents", "LFloorCurves$Tangents;", true), ("FloorCurves", "rationals", "[J", true), ("FloorCurves", "sheets", "[LFloorCurves$Sheet;", true), ("FloorCurves", "pictureCount", "I", false)]
def q_T7 : u_T := fun k => q_f7.getD k ("", "", "", false)
def q_f8 : List (String × String × String × Bool) := [("FloorCurvesModel", "pictures", "I", false), ("FloorCurvesModel", "degrees", "[I", true), ("FloorCurvesModel", "stairMany", "[I", true), ("FloorCurvesModel", "froms", "[I", true), ("FloorCurvesModel", "tos", "[I", true), ("FloorCurvesModel", "weights", "[I", true), ("FloorCurvesModel", "powers", "[J", true), ("FloorCurvesModel", "product", "[J", true), ("FloorCurvesModel", "kinds", "I", false), ("FloorCurvesModel", "kindFrom", "[I", true), ("FloorCurvesModel", "kindTo", "[I", true), ("FloorCurvesModel", "kindMany", "[I", true), ("FloorCurvesModel", "kindStep", "[I", true), ("FloorCurvesModel", "codes", "I", false), ("FloorCurvesModel", "ways", "[J", true), ("FloorCurvesModel", "row", "[I", true), ("FloorCurvesModel", "isFound", "[Z", true), ("FloorCurvesModel", "counts", "[J", true), ("FloorCurvesModel", "signeds", "[J", true), ("FloorCurvesModel", "lists", "[I", true), ("FloorCurvesModel", "spreads", "[J", true), ("FloorCurvesModel", "tape", "[I", true), ("FloorCurvesModel", "taped", "I", false), ("FloorCurvesModel", "fault", "I", false), ("FloorCurvesModel", "isTold", "Z", false), ("FloorCurvesModel", "toldRow", "[I", true), ("FloorCurvesModel", "newRow", "[I", true), ("FloorCurvesModel", "rows", "I", false), ("FloorCurvesModel", "rowSum", "[I", true), ("FloorCurvesModel", "rowB", "[I", true), ("FloorCurvesModel", "rowCells", "[I", true), ("FloorCurvesModel", "worths", "[J", true), ("FloorCurvesModel", "isLaid", "Z", false), ("FloorCurvesModel", "at", "I", false), ("FloorCurvesModel", "tryRow", "[I", true), ("FloorCurvesModel", "found", "[J", true), ("FloorCurvesModel", "lanes", "[I", true), ("FloorCurvesModel", "lengths", "[I", true), ("FloorCurvesModel", "cells", "[I", true)]
def q_T8 : u_T := fun k => q_f8.getD k ("", "", "", false)
def q_cls : List vw_C := [("FloorCurves$Catalogue", q_T0, 11), ("FloorCurves$Marker", q_T1, 7), ("FloorCurves$Picture", q_T2, 4), ("FloorCurves$Powers", q_T3, 3), ("FloorCurves$Sheet", q_T4, 3), ("FloorCurves$Tangents", q_T5, 5), ("FloorCurves$Tape", q_T6, 4), ("FloorCurves", q_T7, 10), ("FloorCurvesModel", q_T8, 39)]
def q_y0 : Nat → FieldType := fun k => ([.int, .object "FloorCurves$Picture", .object "FloorCurves$Marker", .object "FloorCurves$Powers", .array (.long), .array (.int), .array (.int), .array (.long), .array (.long), .array (.long), .int] : List FieldType).getD k .int
def q_y1 : Nat → FieldType := fun k => ([.array (.int), .array (.int), .array (.int), .array (.int), .int, .int, .int] : List FieldType).getD k .int
def q_y2 : Nat → FieldType := fun k => ([.int, .int, .array (.int), .array (.int)] : List FieldType).getD k .int
def q_y3 : Nat → FieldType := fun k => ([.array (.long), .array (.long), .int] : List FieldType).getD k .int
def q_y4 : Nat → FieldType := fun k => ([.array (.int), .int, .int] : List FieldType).getD k .int
def q_y5 : Nat → FieldType := fun k => ([.array (.int), .array (.long), .array (.int), .int, .int] : List FieldType).getD k .int
def q_y6 : Nat → FieldType := fun k => ([.array (.byte), .int, .int, .int] : List FieldType).getD k .int
def q_y7 : Nat → FieldType := fun k => ([.array (.object "FloorCurves$Picture"), .object "FloorCurves$Picture", .object "FloorCurves$Marker", .object "FloorCurves$Powers", .array (.object "FloorCurves$Catalogue"), .object "FloorCurves$Tape", .object "FloorCurves$Tangents", .array (.long), .array (.object "FloorCurves$Sheet"), .int] : List FieldType).getD k .int
def q_y8 : Nat → FieldType := fun k => ([.int, .array (.int), .array (.int), .array (.int), .array (.int), .array (.int), .array (.long), .array (.long), .int, .array (.int), .array (.int), .array (.int), .array (.int), .int, .array (.long), .array (.int), .array (.boolean), .array (.long), .array (.long), .array (.int), .array (.long), .array (.int), .int, .int, .boolean, .array (.int), .array (.int), .int, .array (.int), .array (.int), .array (.int), .array (.long), .boolean, .int, .array (.int), .array (.long), .array (.int), .array (.int), .array (.int)] : List FieldType).getD k .int
def q_ty (t : Nat) : Nat → FieldType := match t with
  | 0 => q_y0
  | 1 => q_y1
  | 2 => q_y2
  | 3 => q_y3
  | 4 => q_y4
  | 5 => q_y5
  | 6 => q_y6
  | 7 => q_y7
  | _ => q_y8
theorem q_nm0 : ∀ a, a < 11 → ∀ b, b < 11 → a ≠ b → (q_T0 a).2.1 ≠ (q_T0 b).2.1 := by decide +kernel
theorem q_yk0 : ∀ k, k < 11 → parseFieldDescriptor (q_T0 k).2.2.1 = some (q_y0 k) := by decide +kernel
theorem q_in0 : (u_ws "FloorCurves$Catalogue" q_T0 11).all (fun w => decide (w ∈ lw_tbl) && goodWord w) = true := by decide +kernel
theorem q_nm1 : ∀ a, a < 7 → ∀ b, b < 7 → a ≠ b → (q_T1 a).2.1 ≠ (q_T1 b).2.1 := by decide +kernel
theorem q_yk1 : ∀ k, k < 7 → parseFieldDescriptor (q_T1 k).2.2.1 = some (q_y1 k) := by decide +kernel
theorem q_in1 : (u_ws "FloorCurves$Marker" q_T1 7).all (fun w => decide (w ∈ lw_tbl) && goodWord w) = true := by decide +kernel
theorem q_nm2 : ∀ a, a < 4 → ∀ b, b < 4 → a ≠ b → (q_T2 a).2.1 ≠ (q_T2 b).2.1 := by decide +kernel
theorem q_yk2 : ∀ k, k < 4 → parseFieldDescriptor (q_T2 k).2.2.1 = some (q_y2 k) := by decide +kernel
theorem q_in2 : (u_ws "FloorCurves$Picture" q_T2 4).all (fun w => decide (w ∈ lw_tbl) && goodWord w) = true := by decide +kernel
theorem q_nm3 : ∀ a, a < 3 → ∀ b, b < 3 → a ≠ b → (q_T3 a).2.1 ≠ (q_T3 b).2.1 := by decide +kernel
theorem q_yk3 : ∀ k, k < 3 → parseFieldDescriptor (q_T3 k).2.2.1 = some (q_y3 k) := by decide +kernel
theorem q_in3 : (u_ws "FloorCurves$Powers" q_T3 3).all (fun w => decide (w ∈ lw_tbl) && goodWord w) = true := by decide +kernel
theorem q_nm4 : ∀ a, a < 3 → ∀ b, b < 3 → a ≠ b → (q_T4 a).2.1 ≠ (q_T4 b).2.1 := by decide +kernel
theorem q_yk4 : ∀ k, k < 3 → parseFieldDescriptor (q_T4 k).2.2.1 = some (q_y4 k) := by decide +kernel
theorem q_in4 : (u_ws "FloorCurves$Sheet" q_T4 3).all (fun w => decide (w ∈ lw_tbl) && goodWord w) = true := by decide +kernel
theorem q_nm5 : ∀ a, a < 5 → ∀ b, b < 5 → a ≠ b → (q_T5 a).2.1 ≠ (q_T5 b).2.1 := by decide +kernel
theorem q_yk5 : ∀ k, k < 5 → parseFieldDescriptor (q_T5 k).2.2.1 = some (q_y5 k) := by decide +kernel
theorem q_in5 : (u_ws "FloorCurves$Tangents" q_T5 5).all (fun w => decide (w ∈ lw_tbl) && goodWord w) = true := by decide +kernel
theorem q_nm6 : ∀ a, a < 4 → ∀ b, b < 4 → a ≠ b → (q_T6 a).2.1 ≠ (q_T6 b).2.1 := by decide +kernel
theorem q_yk6 : ∀ k, k < 4 → parseFieldDescriptor (q_T6 k).2.2.1 = some (q_y6 k) := by decide +kernel
theorem q_in6 : (u_ws "FloorCurves$Tape" q_T6 4).all (fun w => decide (w ∈ lw_tbl) && goodWord w) = true := by decide +kernel
theorem q_nm7 : ∀ a, a < 10 → ∀ b, b < 10 → a ≠ b → (q_T7 a).2.1 ≠ (q_T7 b).2.1 := by decide +kernel
theorem q_yk7 : ∀ k, k < 10 → parseFieldDescriptor (q_T7 k).2.2.1 = some (q_y7 k) := by decide +kernel
theorem q_in7 : (u_ws "FloorCurves" q_T7 10).all (fun w => decide (w ∈ lw_tbl) && goodWord w) = true := by decide +kernel
theorem q_nm8 : ∀ a, a < 39 → ∀ b, b < 39 → a ≠ b → (q_T8 a).2.1 ≠ (q_T8 b).2.1 := by decide +kernel
theorem q_yk8 : ∀ k, k < 39 → parseFieldDescriptor (q_T8 k).2.2.1 = some (q_y8 k) := by decide +kernel
theorem q_in8 : (u_ws "FloorCurvesModel" q_T8 39).all (fun w => decide (w ∈ lw_tbl) && goodWord w) = true := by decide +kernel
theorem q_clsOk : ∀ (t : Nat) (q : vw_C), q_cls[t]? = some q → (∀ a, a < q.2.2 → ∀ b, b < q.2.2 → a ≠ b → (q.2.1 a).2.1 ≠ (q.2.1 b).2.1) ∧ (∀ k, k < q.2.2 → parseFieldDescriptor (q.2.1 k).2.2.1 = some (q_ty t k)) ∧ (u_ws q.1 q.2.1 q.2.2).all (fun w => decide (w ∈ lw_tbl) && goodWord w) = true := by
  intro t q h
  match t, h with
  | 0, h => cases h; exact ⟨q_nm0, q_yk0, q_in0⟩
  | 1, h => cases h; exact ⟨q_nm1, q_yk1, q_in1⟩
  | 2, h => cases h; exact ⟨q_nm2, q_yk2, q_in2⟩
  | 3, h => cases h; exact ⟨q_nm3, q_yk3, q_in3⟩
  | 4, h => cases h; exact ⟨q_nm4, q_yk4, q_in4⟩
  | 5, h => cases h; exact ⟨q_nm5, q_yk5, q_in5⟩
  | 6, h => cases h; exact ⟨q_nm6, q_yk6, q_in6⟩
  | 7, h => cases h; exact ⟨q_nm7, q_yk7, q_in7⟩
  | 8, h => cases h; exact ⟨q_nm8, q_yk8, q_in8⟩
  | t + 9, h => simp [q_cls] at h
/-- where a numbered cell lies: the script, the class's two static rows, then the cells as they are made -/
def q_ad (z b pf pt : Nat) (k : Int) : Nat := if k = 0 then b else if k = 1 then pf else if k = 2 then pt else z + (k.toNat - 3)
def q_cv (A : Int → Nat) (v : AV) : Value := match v with
  | .inl x => .int (Int32.ofInt x)
  | .inr (.inl x) => .long (Int64.ofInt x)
  | .inr (.inr x) => if x < 0 then .null else .ref (A x)
def q_cat (v : AV) : Nat := match v with
  | .inl _ => 1
  | .inr (.inl _) => 2
  | .inr (.inr _) => 1
def q_fref (t k : Nat) : Bool := match q_cls[t]? with
  | some q => (q.2.1 k).2.2.1 != "I" && (q.2.1 k).2.2.1 != "Z"
  | none => false
def q_fv (A : Int → Nat) (t : Nat) (f g : Int → Int) (k : Nat) : Value := if q_fref t k = true then q_cv A (vr (g k)) else .int (Int32.ofInt (f k))
def q_aty (t : Nat) : FieldType := if t = 100 then .int else if t = 101 then .long else if t = 102 then .byte else if t = 103 then .boolean else .object ((q_cls[t - 200]?.map (fun q => q.1)).getD "")
def q_av (A : Int → Nat) (t : Nat) (f g : Int → Int) (j : Nat) : Value := if t = 101 then .long (Int64.ofInt (f j)) else if t < 200 then .int (Int32.ofInt (f j)) else q_cv A (vr (g j))
def q_cell (s0 : State) (D : va_G) (A : Int → Nat) (t : Nat) (n : Int) (f g : Int → Int) (a : Nat) (H : Heap) : Prop :=
  (t < 100 → ∃ q, q_cls[t]? = some q ∧ t_OB a (D.1 t) q.2.2 (D.2 t) H (q_fv A t f g)) ∧
  (¬ t < 100 → ∃ cA, ArrOfT s0 cA (q_aty t) ∧ va_RA s0 cA (q_aty t) ∧ 0 ≤ n ∧ H[a]? = some (arrV cA n.toNat (q_av A t f g)))
def q_old (s0 : State) (a : Nat) (n : Int) (f : Int → Int) : Prop := ∃ cell : Cell, s0.heap[a]? = some cell ∧ s0.isArrayOf cell .int ∧ cell.vm ≠ .unknown ∧ (cell.slots.size : Int) = n ∧ ∀ j : Nat, j < cell.slots.size → cell.slots[j]? = some (.int (Int32.ofInt (f j)))
/-- the heap as it is, by the numbered cells -/
def q_HR (s0 : State) (D : va_G) (A : Int → Nat) (σ : Sg) (m : Mm) (H : Heap) : Prop :=
  3 ≤ σ.1 ∧ H.size = s0.heap.size + (σ.1.toNat - 3) ∧ (∀ q : Nat, q < s0.heap.size → H[q]? = s0.heap[q]?) ∧ (∀ k : Int, 3 ≤ k → k < σ.1 → q_cell s0 D A (σ.2.2.1 k) (σ.2.2.2.1 k) (m k) (σ.2.2.2.2 k) (A k) H) ∧ (∀ k : Int, 0 ≤ k → k < 3 → σ.2.2.1 k = 100 ∧ q_old s0 (A k) (σ.2.2.2.1 k) (m k))
/-- what the start gives -/
def q_G (s0 : State) (b pf pt : Nat) (D : va_G) : Prop :=
  (∃ a0 : Array Value, ∀ w ∈ lw_tbl, w.before a0 s0 = true) ∧ (∀ (c : Nat) (q : vw_C), q_cls[c]? = some q → u_Kn s0 q.1 q.2.1 q.2.2 (D.1 c) (D.2 c)) ∧
  va_Z "FloorCurves" "PAIR_FROM" "[I" (.ref pf) (fun q => s0.heap.size ≤ q) s0 s0.heap ∧ va_Z "FloorCurves" "PAIR_TO" "[I" (.ref pt) (fun q => s0.heap.size ≤ q) s0 s0.heap ∧ b < s0.heap.size ∧ pf < s0.heap.size ∧ pt < s0.heap.size
/-- a method's standing facts -/
def q_SC (s0 : State) (M : Md) (d : Nat) (p : Program) (R : Room) (s : State) (mi : MethodId) (meth : Method) (c : Code) : Prop :=
  p.tables.exec = Jvm.exec ∧ c.code = M.2.1 ∧ meth.sig.returnType = M.2.2.2 ∧ c.maxLocals = M.2.2.1 ∧ s.vm.findClass M.1.cls = some mi.cls ∧ meth.locks = false ∧ (M.1.name = "<init>" → meth.name = "<init>") ∧ s0.WarmedH s.vm ∧ d ≤ R.frames ∧ 40 * d ≤ R.locals
def q_LR (A : Int → Nat) (L : List (Option AV)) (ls : Array Slot) : Prop := ls.size = L.length ∧ lv_wf ls ∧ ∀ (i : Nat) (v : AV), L[i]? = some (some v) → ls[i]? = some (.val (q_cv A v))
def q_Q (s0 : State) (D : va_G) (A : Int → Nat) (r : Option AV) (σ : Sg) (m : Mm) : Array Value → State → Outcome → State → Prop := fun _ _ o t => o = .returned (r.map (q_cv A)) ∧ q_HR s0 D A σ m t.heap
def q_fr (s0 : State) : Addr → Prop := fun q => s0.heap.size ≤ q
/-- method M, at pc with locals L and stack st over the picture σ, m, comes to its end with the answer r and the picture σ', m' -/
def Ev (d : Nat) (M : Md) (pc : Nat) (L : List (Option AV)) (st : List AV) (σ : Sg) (m : Mm) (r : Option AV) (σ' : Sg) (m' : Mm) : Prop :=
  (σ.1 ≤ σ'.1 ∧ σ.2.1 ≤ σ'.2.1) ∧ ∀ (l : Launch) (s0 : State) (b pf pt : Nat) (D : va_G), q_G s0 b pf pt D →
    ∀ (p : Program) (e : Env) (R : Room) (s : State) (mi : MethodId) (args : Array Value) (below : List Frame) (meth : Method) (c : Code) (n0 k0 : Int), q_SC s0 M d p R s mi meth c →
    n0 ≤ σ.1 → k0 ≤ σ.2.1 → (σ'.1 - n0).toNat ≤ R.cells → (σ'.2.1 - k0).toNat ≤ R.slots →
    ∀ (H : Heap) (locs : List Loc) (ls : Array Slot), q_HR s0 D (q_ad s0.heap.size b pf pt) σ m H → (∀ q ∈ locs, s0.heap.size ≤ q.base) → q_LR (q_ad s0.heap.size b pf pt) L ls →
    W p l e R s mi args below meth c H locs (σ.1 - n0).toNat (σ.2.1 - k0).toNat (MQ below (q_Q s0 D (q_ad s0.heap.size b pf pt) r σ' m') args s (σ'.1 - n0).toNat (σ'.2.1 - k0).toNat (q_fr s0)) (F0 mi pc ls (st.map (q_cv (q_ad s0.heap.size b pf pt))))
/-- a method's first locals -/
def q_sl : List AV → List (Option AV)
  | [] => []
  | .inl x :: t => some (.inl x) :: q_sl t
  | .inr (.inl x) :: t => some (.inr (.inl x)) :: none :: q_sl t
  | .inr (.inr x) :: t => some (.inr (.inr x)) :: q_sl t
def q_en (M : Md) (av : List AV) : List (Option AV) := q_sl av ++ List.replicate (M.2.2.1 - (q_sl av).length) none
abbrev Call (d : Nat) (M : Md) (av : List AV) (σ : Sg) (m : Mm) (r : Option AV) (σ' : Sg) (m' : Mm) : Prop := Ev d M 0 (q_en M av) [] σ m r σ' m'
/-! numbers -/
theorem q_i32 {x : Int} (h : -2147483648 ≤ x ∧ x ≤ 2147483647) : (Int32.ofInt x).toInt = x := Int32.toInt_ofInt_of_le (by omega) (by omega)
theorem q_i64 {x : Int} (h : -9223372036854775808 ≤ x ∧ x ≤ 9223372036854775807) : (Int64.ofInt x).toInt = x := Int64.toInt_ofInt_of_le (by omega) (by omega)
theorem q_lt {x y : Int} (hx : -2147483648 ≤ x ∧ x ≤ 2147483647) (hy : -2147483648 ≤ y ∧ y ≤ 2147483647) : Int32.ofInt x < Int32.ofInt y ↔ x < y := by
  rw [Int32.lt_iff_toInt_lt, q_i32 hx, q_i32 hy]
theorem q_le {x y : Int} (hx : -2147483648 ≤ x ∧ x ≤ 2147483647) (hy : -2147483648 ≤ y ∧ y ≤ 2147483647) : Int32.ofInt x ≤ Int32.ofInt y ↔ x ≤ y := by
  rw [Int32.le_iff_toInt_le, q_i32 hx, q_i32 hy]
theorem q_eq {x y : Int} (hx : -2147483648 ≤ x ∧ x ≤ 2147483647) (hy : -2147483648 ≤ y ∧ y ≤ 2147483647) : Int32.ofInt x = Int32.ofInt y ↔ x = y := by
  rw [← Int32.toInt_inj, q_i32 hx, q_i32 hy]
theorem q_z : (0 : Int32) = Int32.ofInt 0 := rfl
theorem q_clamp {x : Int} (h0 : 0 ≤ x) (h : x ≤ 2147483647) : (Int32.ofInt x).toNatClampNeg = x.toNat := by
  show (Int32.ofInt x).toInt.toNat = x.toNat
  rw [q_i32 ⟨by omega, h⟩]
theorem q_pin {x : Int} {n : Nat} (h0 : 0 ≤ x) (h : x < n) (hn : n ≤ 2147483647) : ¬ (Int32.ofInt x < 0 ∨ n ≤ (Int32.ofInt x).toNatClampNeg) := by
  rw [q_clamp h0 (by omega), q_z, q_lt (by omega) (by omega)]
  omega
/-! words -/
theorem q_w {s0 s : State} {a0 args : Array Value} (h : ∀ w ∈ lw_tbl, w.before a0 s0 = true) (hW : s0.WarmedH s.vm) {w : Cond} (hw : w ∈ lw_tbl) (hg : goodWord w = true) : w.before args s = true := word_at hW (good_of_word hg) (h w hw)
theorem q_uw {s0 s : State} {a0 args : Array Value} (h : ∀ w ∈ lw_tbl, w.before a0 s0 = true) (hW : s0.WarmedH s.vm) {ws : List Cond} (ha : ws.all (fun w => decide (w ∈ lw_tbl) && goodWord w) = true) : ∀ w ∈ ws, w.before args s = true := by
  intro w hw
  have h1 := List.all_eq_true.mp ha w hw
  simp only [Bool.and_eq_true, decide_eq_true_eq] at h1
  exact q_w h hW h1.1 h1.2
end
