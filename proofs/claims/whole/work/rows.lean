section
-- ===== PART A: goes FIRST, ahead of the names: the tables' words, and 'selects' of the private methods out of them =====
/-- a private method of a class that the tables say can be made, by its rows of tables_1 -/
def lw_okq (q : MethodName × Nat) : Prop := (q.1.cls ≠ "java/lang/invoke/MethodHandle" ∧ q.1.cls ≠ "java/lang/invoke/VarHandle") ∧ Cond.instantiable q.1.cls q.2 ∈ tables_1 ∧ Cond.privateMethod q.1 ∈ tables_1 ∧ Cond.instanceMethod q.1 ∈ tables_1
theorem lw_p0 : lw_okq (⟨"FloorCurves", "keepDraft", "()I"⟩, 10) := ⟨⟨by decide +kernel, by decide +kernel⟩, List.mem_of_getElem? (i := 15) (by decide +kernel), List.mem_of_getElem? (i := 196) (by decide +kernel), List.mem_of_getElem? (i := 197) (by decide +kernel)⟩
theorem lw_p1 : lw_okq (⟨"FloorCurves", "pictureAt", "(I)LFloorCurves$Picture;"⟩, 10) := ⟨⟨by decide +kernel, by decide +kernel⟩, List.mem_of_getElem? (i := 15) (by decide +kernel), List.mem_of_getElem? (i := 211) (by decide +kernel), List.mem_of_getElem? (i := 212) (by decide +kernel)⟩
theorem lw_p2 : lw_okq (⟨"FloorCurves$Picture", "change", "(II)V"⟩, 4) := ⟨⟨by decide +kernel, by decide +kernel⟩, List.mem_of_getElem? (i := 24) (by decide +kernel), List.mem_of_getElem? (i := 235) (by decide +kernel), List.mem_of_getElem? (i := 236) (by decide +kernel)⟩
theorem lw_p3 : lw_okq (⟨"FloorCurves$Picture", "hangingTogetherWith", "(I)I"⟩, 4) := ⟨⟨by decide +kernel, by decide +kernel⟩, List.mem_of_getElem? (i := 24) (by decide +kernel), List.mem_of_getElem? (i := 290) (by decide +kernel), List.mem_of_getElem? (i := 291) (by decide +kernel)⟩
theorem lw_p4 : lw_okq (⟨"FloorCurves$Powers", "multiply", "(I)V"⟩, 3) := ⟨⟨by decide +kernel, by decide +kernel⟩, List.mem_of_getElem? (i := 72) (by decide +kernel), List.mem_of_getElem? (i := 333) (by decide +kernel), List.mem_of_getElem? (i := 334) (by decide +kernel)⟩
theorem lw_p5 : lw_okq (⟨"FloorCurves$Marker", "addKind", "(III)V"⟩, 7) := ⟨⟨by decide +kernel, by decide +kernel⟩, List.mem_of_getElem? (i := 44) (by decide +kernel), List.mem_of_getElem? (i := 358) (by decide +kernel), List.mem_of_getElem? (i := 359) (by decide +kernel)⟩
theorem lw_p6 : lw_okq (⟨"FloorCurves$Marker", "dealNext", "(I)J"⟩, 7) := ⟨⟨by decide +kernel, by decide +kernel⟩, List.mem_of_getElem? (i := 44) (by decide +kernel), List.mem_of_getElem? (i := 364) (by decide +kernel), List.mem_of_getElem? (i := 365) (by decide +kernel)⟩
theorem lw_p7 : lw_okq (⟨"FloorCurves$Marker", "deal", "(III)J"⟩, 7) := ⟨⟨by decide +kernel, by decide +kernel⟩, List.mem_of_getElem? (i := 44) (by decide +kernel), List.mem_of_getElem? (i := 368) (by decide +kernel), List.mem_of_getElem? (i := 369) (by decide +kernel)⟩
theorem lw_p8 : lw_okq (⟨"FloorCurves", "catalogueOf", "(II)LFloorCurves$Catalogue;"⟩, 10) := ⟨⟨by decide +kernel, by decide +kernel⟩, List.mem_of_getElem? (i := 15) (by decide +kernel), List.mem_of_getElem? (i := 395) (by decide +kernel), List.mem_of_getElem? (i := 396) (by decide +kernel)⟩
theorem lw_p9 : lw_okq (⟨"FloorCurves$Catalogue", "fillFrom", "(I)V"⟩, 11) := ⟨⟨by decide +kernel, by decide +kernel⟩, List.mem_of_getElem? (i := 398) (by decide +kernel), List.mem_of_getElem? (i := 411) (by decide +kernel), List.mem_of_getElem? (i := 412) (by decide +kernel)⟩
theorem lw_p10 : lw_okq (⟨"FloorCurves$Catalogue", "enter", "()V"⟩, 11) := ⟨⟨by decide +kernel, by decide +kernel⟩, List.mem_of_getElem? (i := 398) (by decide +kernel), List.mem_of_getElem? (i := 415) (by decide +kernel), List.mem_of_getElem? (i := 416) (by decide +kernel)⟩
theorem lw_p11 : lw_okq (⟨"FloorCurves$Tape", "failAt", "(II)I"⟩, 4) := ⟨⟨by decide +kernel, by decide +kernel⟩, List.mem_of_getElem? (i := 91) (by decide +kernel), List.mem_of_getElem? (i := 552) (by decide +kernel), List.mem_of_getElem? (i := 553) (by decide +kernel)⟩
theorem lw_p12 : lw_okq (⟨"FloorCurves$Tangents", "learn", "(I)V"⟩, 5) := ⟨⟨by decide +kernel, by decide +kernel⟩, List.mem_of_getElem? (i := 111) (by decide +kernel), List.mem_of_getElem? (i := 586) (by decide +kernel), List.mem_of_getElem? (i := 587) (by decide +kernel)⟩
theorem lw_p13 : lw_okq (⟨"FloorCurves$Tangents", "enterRows", "(III)V"⟩, 5) := ⟨⟨by decide +kernel, by decide +kernel⟩, List.mem_of_getElem? (i := 111) (by decide +kernel), List.mem_of_getElem? (i := 590) (by decide +kernel), List.mem_of_getElem? (i := 591) (by decide +kernel)⟩
theorem lw_p14 : lw_okq (⟨"FloorCurves$Tangents", "addMoves", "(II)V"⟩, 5) := ⟨⟨by decide +kernel, by decide +kernel⟩, List.mem_of_getElem? (i := 111) (by decide +kernel), List.mem_of_getElem? (i := 602) (by decide +kernel), List.mem_of_getElem? (i := 603) (by decide +kernel)⟩
theorem lw_p15 : lw_okq (⟨"FloorCurves$Tangents", "indexOf", "(II)I"⟩, 5) := ⟨⟨by decide +kernel, by decide +kernel⟩, List.mem_of_getElem? (i := 111) (by decide +kernel), List.mem_of_getElem? (i := 608) (by decide +kernel), List.mem_of_getElem? (i := 609) (by decide +kernel)⟩
def lw_privs_1 : List (MethodName × Nat) := [(⟨"FloorCurves", "keepDraft", "()I"⟩, 10), (⟨"FloorCurves", "pictureAt", "(I)LFloorCurves$Picture;"⟩, 10), (⟨"FloorCurves$Picture", "change", "(II)V"⟩, 4), (⟨"FloorCurves$Picture", "hangingTogetherWith", "(I)I"⟩, 4), (⟨"FloorCurves$Powers", "multiply", "(I)V"⟩, 3), (⟨"FloorCurves$Marker", "addKind", "(III)V"⟩, 7), (⟨"FloorCurves$Marker", "dealNext", "(I)J"⟩, 7), (⟨"FloorCurves$Marker", "deal", "(III)J"⟩, 7), (⟨"FloorCurves", "catalogueOf", "(II)LFloorCurves$Catalogue;"⟩, 10), (⟨"FloorCurves$Catalogue", "fillFrom", "(I)V"⟩, 11), (⟨"FloorCurves$Catalogue", "enter", "()V"⟩, 11), (⟨"FloorCurves$Tape", "failAt", "(II)I"⟩, 4), (⟨"FloorCurves$Tangents", "learn", "(I)V"⟩, 5), (⟨"FloorCurves$Tangents", "enterRows", "(III)V"⟩, 5), (⟨"FloorCurves$Tangents", "addMoves", "(II)V"⟩, 5), (⟨"FloorCurves$Tangents", "indexOf", "(II)I"⟩, 5)]
theorem lw_r1 : ∀ q ∈ lw_privs_1, lw_okq q := List.forall_mem_cons.mpr ⟨lw_p0, List.forall_mem_cons.mpr ⟨lw_p1, List.forall_mem_cons.mpr ⟨lw_p2, List.forall_mem_cons.mpr ⟨lw_p3, List.forall_mem_cons.mpr ⟨lw_p4, List.forall_mem_cons.mpr ⟨lw_p5, List.forall_mem_cons.mpr ⟨lw_p6, List.forall_mem_cons.mpr ⟨lw_p7, List.forall_mem_cons.mpr ⟨lw_p8, List.forall_mem_cons.mpr ⟨lw_p9, List.forall_mem_cons.mpr ⟨lw_p10, List.forall_mem_cons.mpr ⟨lw_p11, List.forall_mem_cons.mpr ⟨lw_p12, List.forall_mem_cons.mpr ⟨lw_p13, List.forall_mem_cons.mpr ⟨lw_p14, List.forall_mem_cons.mpr ⟨lw_p15, fun _ h => absurd h List.not_mem_nil⟩⟩⟩⟩⟩⟩⟩⟩⟩⟩⟩⟩⟩⟩⟩⟩
theorem lw_p16 : lw_okq (⟨"FloorCurves$Tangents", "addTo", "(IIJI)V"⟩, 5) := ⟨⟨by decide +kernel, by decide +kernel⟩, List.mem_of_getElem? (i := 111) (by decide +kernel), List.mem_of_getElem? (i := 612) (by decide +kernel), List.mem_of_getElem? (i := 613) (by decide +kernel)⟩
theorem lw_p17 : lw_okq (⟨"FloorCurves$Tangents", "addSplits", "(II)V"⟩, 5) := ⟨⟨by decide +kernel, by decide +kernel⟩, List.mem_of_getElem? (i := 111) (by decide +kernel), List.mem_of_getElem? (i := 616) (by decide +kernel), List.mem_of_getElem? (i := 617) (by decide +kernel)⟩
theorem lw_p18 : lw_okq (⟨"FloorCurves", "sheetAt", "(I)LFloorCurves$Sheet;"⟩, 10) := ⟨⟨by decide +kernel, by decide +kernel⟩, List.mem_of_getElem? (i := 15) (by decide +kernel), List.mem_of_getElem? (i := 646) (by decide +kernel), List.mem_of_getElem? (i := 647) (by decide +kernel)⟩
theorem lw_p19 : lw_okq (⟨"FloorCurves", "cellsOfFirstSheet", "()I"⟩, 10) := ⟨⟨by decide +kernel, by decide +kernel⟩, List.mem_of_getElem? (i := 15) (by decide +kernel), List.mem_of_getElem? (i := 696) (by decide +kernel), List.mem_of_getElem? (i := 697) (by decide +kernel)⟩
theorem lw_p20 : lw_okq (⟨"FloorCurves", "stairsOfAll", "()I"⟩, 10) := ⟨⟨by decide +kernel, by decide +kernel⟩, List.mem_of_getElem? (i := 15) (by decide +kernel), List.mem_of_getElem? (i := 704) (by decide +kernel), List.mem_of_getElem? (i := 705) (by decide +kernel)⟩
theorem lw_p21 : lw_okq (⟨"FloorCurvesModel", "is", "(I)Z"⟩, 39) := ⟨⟨by decide +kernel, by decide +kernel⟩, List.mem_of_getElem? (i := 708) (by decide +kernel), List.mem_of_getElem? (i := 846) (by decide +kernel), List.mem_of_getElem? (i := 847) (by decide +kernel)⟩
theorem lw_p22 : lw_okq (⟨"FloorCurvesModel", "put", "(IIII)V"⟩, 39) := ⟨⟨by decide +kernel, by decide +kernel⟩, List.mem_of_getElem? (i := 708) (by decide +kernel), List.mem_of_getElem? (i := 853) (by decide +kernel), List.mem_of_getElem? (i := 854) (by decide +kernel)⟩
theorem lw_p23 : lw_okq (⟨"FloorCurvesModel", "isAhead", "(IIII)Z"⟩, 39) := ⟨⟨by decide +kernel, by decide +kernel⟩, List.mem_of_getElem? (i := 708) (by decide +kernel), List.mem_of_getElem? (i := 857) (by decide +kernel), List.mem_of_getElem? (i := 858) (by decide +kernel)⟩
theorem lw_p24 : lw_okq (⟨"FloorCurvesModel", "isRight", "(I)Z"⟩, 39) := ⟨⟨by decide +kernel, by decide +kernel⟩, List.mem_of_getElem? (i := 708) (by decide +kernel), List.mem_of_getElem? (i := 874) (by decide +kernel), List.mem_of_getElem? (i := 875) (by decide +kernel)⟩
theorem lw_p25 : lw_okq (⟨"FloorCurvesModel", "outOf", "(II)I"⟩, 39) := ⟨⟨by decide +kernel, by decide +kernel⟩, List.mem_of_getElem? (i := 708) (by decide +kernel), List.mem_of_getElem? (i := 878) (by decide +kernel), List.mem_of_getElem? (i := 879) (by decide +kernel)⟩
theorem lw_p26 : lw_okq (⟨"FloorCurvesModel", "knots", "(I)I"⟩, 39) := ⟨⟨by decide +kernel, by decide +kernel⟩, List.mem_of_getElem? (i := 708) (by decide +kernel), List.mem_of_getElem? (i := 882) (by decide +kernel), List.mem_of_getElem? (i := 883) (by decide +kernel)⟩
theorem lw_p27 : lw_okq (⟨"FloorCurvesModel", "partsOf", "(I)I"⟩, 39) := ⟨⟨by decide +kernel, by decide +kernel⟩, List.mem_of_getElem? (i := 708) (by decide +kernel), List.mem_of_getElem? (i := 886) (by decide +kernel), List.mem_of_getElem? (i := 887) (by decide +kernel)⟩
theorem lw_p28 : lw_okq (⟨"FloorCurvesModel", "multOf", "(I)I"⟩, 39) := ⟨⟨by decide +kernel, by decide +kernel⟩, List.mem_of_getElem? (i := 708) (by decide +kernel), List.mem_of_getElem? (i := 890) (by decide +kernel), List.mem_of_getElem? (i := 891) (by decide +kernel)⟩
theorem lw_p29 : lw_okq (⟨"FloorCurvesModel", "signOf", "(I)I"⟩, 39) := ⟨⟨by decide +kernel, by decide +kernel⟩, List.mem_of_getElem? (i := 708) (by decide +kernel), List.mem_of_getElem? (i := 894) (by decide +kernel), List.mem_of_getElem? (i := 895) (by decide +kernel)⟩
theorem lw_p30 : lw_okq (⟨"FloorCurvesModel", "layPowers", "(I)V"⟩, 39) := ⟨⟨by decide +kernel, by decide +kernel⟩, List.mem_of_getElem? (i := 708) (by decide +kernel), List.mem_of_getElem? (i := 912) (by decide +kernel), List.mem_of_getElem? (i := 913) (by decide +kernel)⟩
theorem lw_p31 : lw_okq (⟨"FloorCurvesModel", "marked", "(III)J"⟩, 39) := ⟨⟨by decide +kernel, by decide +kernel⟩, List.mem_of_getElem? (i := 708) (by decide +kernel), List.mem_of_getElem? (i := 923) (by decide +kernel), List.mem_of_getElem? (i := 924) (by decide +kernel)⟩
def lw_privs_2 : List (MethodName × Nat) := [(⟨"FloorCurves$Tangents", "addTo", "(IIJI)V"⟩, 5), (⟨"FloorCurves$Tangents", "addSplits", "(II)V"⟩, 5), (⟨"FloorCurves", "sheetAt", "(I)LFloorCurves$Sheet;"⟩, 10), (⟨"FloorCurves", "cellsOfFirstSheet", "()I"⟩, 10), (⟨"FloorCurves", "stairsOfAll", "()I"⟩, 10), (⟨"FloorCurvesModel", "is", "(I)Z"⟩, 39), (⟨"FloorCurvesModel", "put", "(IIII)V"⟩, 39), (⟨"FloorCurvesModel", "isAhead", "(IIII)Z"⟩, 39), (⟨"FloorCurvesModel", "isRight", "(I)Z"⟩, 39), (⟨"FloorCurvesModel", "outOf", "(II)I"⟩, 39), (⟨"FloorCurvesModel", "knots", "(I)I"⟩, 39), (⟨"FloorCurvesModel", "partsOf", "(I)I"⟩, 39), (⟨"FloorCurvesModel", "multOf", "(I)I"⟩, 39), (⟨"FloorCurvesModel", "signOf", "(I)I"⟩, 39), (⟨"FloorCurvesModel", "layPowers", "(I)V"⟩, 39), (⟨"FloorCurvesModel", "marked", "(III)J"⟩, 39)]
theorem lw_r2 : ∀ q ∈ lw_privs_2, lw_okq q := List.forall_mem_cons.mpr ⟨lw_p16, List.forall_mem_cons.mpr ⟨lw_p17, List.forall_mem_cons.mpr ⟨lw_p18, List.forall_mem_cons.mpr ⟨lw_p19, List.forall_mem_cons.mpr ⟨lw_p20, List.forall_mem_cons.mpr ⟨lw_p21, List.forall_mem_cons.mpr ⟨lw_p22, List.forall_mem_cons.mpr ⟨lw_p23, List.forall_mem_cons.mpr ⟨lw_p24, List.forall_mem_cons.mpr ⟨lw_p25, List.forall_mem_cons.mpr ⟨lw_p26, List.forall_mem_cons.mpr ⟨lw_p27, List.forall_mem_cons.mpr ⟨lw_p28, List.forall_mem_cons.mpr ⟨lw_p29, List.forall_mem_cons.mpr ⟨lw_p30, List.forall_mem_cons.mpr ⟨lw_p31, fun _ h => absurd h List.not_mem_nil⟩⟩⟩⟩⟩⟩⟩⟩⟩⟩⟩⟩⟩⟩⟩⟩
theorem lw_p32 : lw_okq (⟨"FloorCurvesModel", "layKinds", "(I)V"⟩, 39) := ⟨⟨by decide +kernel, by decide +kernel⟩, List.mem_of_getElem? (i := 708) (by decide +kernel), List.mem_of_getElem? (i := 927) (by decide +kernel), List.mem_of_getElem? (i := 928) (by decide +kernel)⟩
theorem lw_p33 : lw_okq (⟨"FloorCurvesModel", "kind", "(III)V"⟩, 39) := ⟨⟨by decide +kernel, by decide +kernel⟩, List.mem_of_getElem? (i := 708) (by decide +kernel), List.mem_of_getElem? (i := 931) (by decide +kernel), List.mem_of_getElem? (i := 932) (by decide +kernel)⟩
theorem lw_p34 : lw_okq (⟨"FloorCurvesModel", "goOn", "(IIIJIII)V"⟩, 39) := ⟨⟨by decide +kernel, by decide +kernel⟩, List.mem_of_getElem? (i := 708) (by decide +kernel), List.mem_of_getElem? (i := 935) (by decide +kernel), List.mem_of_getElem? (i := 936) (by decide +kernel)⟩
theorem lw_p35 : lw_okq (⟨"FloorCurvesModel", "usedOf", "(II)I"⟩, 39) := ⟨⟨by decide +kernel, by decide +kernel⟩, List.mem_of_getElem? (i := 708) (by decide +kernel), List.mem_of_getElem? (i := 939) (by decide +kernel), List.mem_of_getElem? (i := 940) (by decide +kernel)⟩
theorem lw_p36 : lw_okq (⟨"FloorCurvesModel", "unlikeAt", "(III)I"⟩, 39) := ⟨⟨by decide +kernel, by decide +kernel⟩, List.mem_of_getElem? (i := 708) (by decide +kernel), List.mem_of_getElem? (i := 952) (by decide +kernel), List.mem_of_getElem? (i := 953) (by decide +kernel)⟩
theorem lw_p37 : lw_okq (⟨"FloorCurvesModel", "find", "(II)V"⟩, 39) := ⟨⟨by decide +kernel, by decide +kernel⟩, List.mem_of_getElem? (i := 708) (by decide +kernel), List.mem_of_getElem? (i := 967) (by decide +kernel), List.mem_of_getElem? (i := 968) (by decide +kernel)⟩
theorem lw_p38 : lw_okq (⟨"FloorCurvesModel", "clearRow", "()V"⟩, 39) := ⟨⟨by decide +kernel, by decide +kernel⟩, List.mem_of_getElem? (i := 708) (by decide +kernel), List.mem_of_getElem? (i := 971) (by decide +kernel), List.mem_of_getElem? (i := 972) (by decide +kernel)⟩
theorem lw_p39 : lw_okq (⟨"FloorCurvesModel", "rowMany", "()I"⟩, 39) := ⟨⟨by decide +kernel, by decide +kernel⟩, List.mem_of_getElem? (i := 708) (by decide +kernel), List.mem_of_getElem? (i := 975) (by decide +kernel), List.mem_of_getElem? (i := 976) (by decide +kernel)⟩
theorem lw_p40 : lw_okq (⟨"FloorCurvesModel", "layRow", "(II)V"⟩, 39) := ⟨⟨by decide +kernel, by decide +kernel⟩, List.mem_of_getElem? (i := 708) (by decide +kernel), List.mem_of_getElem? (i := 979) (by decide +kernel), List.mem_of_getElem? (i := 980) (by decide +kernel)⟩
theorem lw_p41 : lw_okq (⟨"FloorCurvesModel", "nextRow", "(I)Z"⟩, 39) := ⟨⟨by decide +kernel, by decide +kernel⟩, List.mem_of_getElem? (i := 708) (by decide +kernel), List.mem_of_getElem? (i := 989) (by decide +kernel), List.mem_of_getElem? (i := 990) (by decide +kernel)⟩
theorem lw_p42 : lw_okq (⟨"FloorCurvesModel", "weighedFrom", "(I)I"⟩, 39) := ⟨⟨by decide +kernel, by decide +kernel⟩, List.mem_of_getElem? (i := 708) (by decide +kernel), List.mem_of_getElem? (i := 993) (by decide +kernel), List.mem_of_getElem? (i := 994) (by decide +kernel)⟩
theorem lw_p43 : lw_okq (⟨"FloorCurvesModel", "weighedTo", "(I)I"⟩, 39) := ⟨⟨by decide +kernel, by decide +kernel⟩, List.mem_of_getElem? (i := 708) (by decide +kernel), List.mem_of_getElem? (i := 1000) (by decide +kernel), List.mem_of_getElem? (i := 1001) (by decide +kernel)⟩
theorem lw_p44 : lw_okq (⟨"FloorCurvesModel", "next", "()I"⟩, 39) := ⟨⟨by decide +kernel, by decide +kernel⟩, List.mem_of_getElem? (i := 708) (by decide +kernel), List.mem_of_getElem? (i := 1036) (by decide +kernel), List.mem_of_getElem? (i := 1037) (by decide +kernel)⟩
theorem lw_p45 : lw_okq (⟨"FloorCurvesModel", "layWorths", "()V"⟩, 39) := ⟨⟨by decide +kernel, by decide +kernel⟩, List.mem_of_getElem? (i := 708) (by decide +kernel), List.mem_of_getElem? (i := 1057) (by decide +kernel), List.mem_of_getElem? (i := 1058) (by decide +kernel)⟩
theorem lw_p46 : lw_okq (⟨"FloorCurvesModel", "layRows", "()V"⟩, 39) := ⟨⟨by decide +kernel, by decide +kernel⟩, List.mem_of_getElem? (i := 708) (by decide +kernel), List.mem_of_getElem? (i := 1061) (by decide +kernel), List.mem_of_getElem? (i := 1062) (by decide +kernel)⟩
theorem lw_p47 : lw_okq (⟨"FloorCurvesModel", "reckon", "(I)V"⟩, 39) := ⟨⟨by decide +kernel, by decide +kernel⟩, List.mem_of_getElem? (i := 708) (by decide +kernel), List.mem_of_getElem? (i := 1068) (by decide +kernel), List.mem_of_getElem? (i := 1069) (by decide +kernel)⟩
def lw_privs_3 : List (MethodName × Nat) := [(⟨"FloorCurvesModel", "layKinds", "(I)V"⟩, 39), (⟨"FloorCurvesModel", "kind", "(III)V"⟩, 39), (⟨"FloorCurvesModel", "goOn", "(IIIJIII)V"⟩, 39), (⟨"FloorCurvesModel", "usedOf", "(II)I"⟩, 39), (⟨"FloorCurvesModel", "unlikeAt", "(III)I"⟩, 39), (⟨"FloorCurvesModel", "find", "(II)V"⟩, 39), (⟨"FloorCurvesModel", "clearRow", "()V"⟩, 39), (⟨"FloorCurvesModel", "rowMany", "()I"⟩, 39), (⟨"FloorCurvesModel", "layRow", "(II)V"⟩, 39), (⟨"FloorCurvesModel", "nextRow", "(I)Z"⟩, 39), (⟨"FloorCurvesModel", "weighedFrom", "(I)I"⟩, 39), (⟨"FloorCurvesModel", "weighedTo", "(I)I"⟩, 39), (⟨"FloorCurvesModel", "next", "()I"⟩, 39), (⟨"FloorCurvesModel", "layWorths", "()V"⟩, 39), (⟨"FloorCurvesModel", "layRows", "()V"⟩, 39), (⟨"FloorCurvesModel", "reckon", "(I)V"⟩, 39)]
theorem lw_r3 : ∀ q ∈ lw_privs_3, lw_okq q := List.forall_mem_cons.mpr ⟨lw_p32, List.forall_mem_cons.mpr ⟨lw_p33, List.forall_mem_cons.mpr ⟨lw_p34, List.forall_mem_cons.mpr ⟨lw_p35, List.forall_mem_cons.mpr ⟨lw_p36, List.forall_mem_cons.mpr ⟨lw_p37, List.forall_mem_cons.mpr ⟨lw_p38, List.forall_mem_cons.mpr ⟨lw_p39, List.forall_mem_cons.mpr ⟨lw_p40, List.forall_mem_cons.mpr ⟨lw_p41, List.forall_mem_cons.mpr ⟨lw_p42, List.forall_mem_cons.mpr ⟨lw_p43, List.forall_mem_cons.mpr ⟨lw_p44, List.forall_mem_cons.mpr ⟨lw_p45, List.forall_mem_cons.mpr ⟨lw_p46, List.forall_mem_cons.mpr ⟨lw_p47, fun _ h => absurd h List.not_mem_nil⟩⟩⟩⟩⟩⟩⟩⟩⟩⟩⟩⟩⟩⟩⟩⟩
theorem lw_p48 : lw_okq (⟨"FloorCurvesModel", "indexOf", "([II)I"⟩, 39) := ⟨⟨by decide +kernel, by decide +kernel⟩, List.mem_of_getElem? (i := 708) (by decide +kernel), List.mem_of_getElem? (i := 1072) (by decide +kernel), List.mem_of_getElem? (i := 1073) (by decide +kernel)⟩
theorem lw_p49 : lw_okq (⟨"FloorCurvesModel", "goes", "(IIII)J"⟩, 39) := ⟨⟨by decide +kernel, by decide +kernel⟩, List.mem_of_getElem? (i := 708) (by decide +kernel), List.mem_of_getElem? (i := 1076) (by decide +kernel), List.mem_of_getElem? (i := 1077) (by decide +kernel)⟩
def lw_privs_4 : List (MethodName × Nat) := [(⟨"FloorCurvesModel", "indexOf", "([II)I"⟩, 39), (⟨"FloorCurvesModel", "goes", "(IIII)J"⟩, 39)]
theorem lw_r4 : ∀ q ∈ lw_privs_4, lw_okq q := List.forall_mem_cons.mpr ⟨lw_p48, List.forall_mem_cons.mpr ⟨lw_p49, fun _ h => absurd h List.not_mem_nil⟩⟩
def lw_privs : List (MethodName × Nat) := lw_privs_1 ++ (lw_privs_2 ++ (lw_privs_3 ++ (lw_privs_4)))
def lw_tbl : List Cond := k2_sels lw_privs ++ tables_1
theorem lw_privs_ok : ∀ q ∈ lw_privs, lw_okq q := by
  show ∀ q ∈ lw_privs_1 ++ (lw_privs_2 ++ (lw_privs_3 ++ (lw_privs_4))), lw_okq q
  exact List.forall_mem_append.mpr ⟨lw_r1, List.forall_mem_append.mpr ⟨lw_r2, List.forall_mem_append.mpr ⟨lw_r3, lw_r4⟩⟩⟩
end
section
/-! the judgement Ev over a flat picture of the heap: cells numbered as they come, ints as Int -/
abbrev AV : Type := Int ⊕ Int ⊕ Int
abbrev vi (x : Int) : AV := .inl x
abbrev vl (x : Int) : AV := .inr (.inl x)
abbrev vr (x : Int) : AV := .inr (.inr x)
abbrev Mm : Type := Int → Int → Int
abbrev Sg : Type := Int × Int × (Int → Nat) × (Int → Int) × (Int → Int → Int)
abbrev Md : Type := MethodName × ByteArray × Nat × Option FieldType
def q_f0 : List (String × String × String × Bool) := [("FloorCurves$Catalogue", "ofDegree", "I", true), ("FloorCurves$Catalogue", "draft", "LFloorCurves$Picture;", true), ("FloorCurves$Catalogue", "marker", "LFloorCurves$Marker;", true), ("FloorCurves$Catalogue", "powers", "LFloorCurves$Powers;", true), ("FloorCurves$Catalogue", "rows", "[J", true), ("FloorCurves$Catalogue", "knotsOfRow", "[I", true), ("FloorCurves$Catalogue", "amount", "[I", true), ("FloorCurves$Catalogue", "byMult", "[J", true), ("FloorCurves$Catalogue", "bySign", "[J", true), ("FloorCurves$Catalogue", "byPower", "[J", true), ("FloorCurves$Catalogue", "size", "I", false)]
def q_T0 : u_T := fun k => q_f0.getD k ("", "", "", false)
def q_f1 : List (String × String × String × Bool) := [("FloorCurves$Marker", "firstGap", "[I", true), ("FloorCurves$Marker", "lastGap", "[I", true), ("FloorCurves$Marker", "amount", "[I", true), ("FloorCurves$Marker", "inGap", "[I", true), ("FloorCurves$Marker", "kinds", "I", false), ("FloorCurves$Marker", "watched", "I", false), ("FloorCurves$Marker", "wanted", "I", false)]
def q_T1 : u_T := fun k => q_f1.getD k ("", "", "", false)
def q_f2 : List (String × String × String × Bool) := [("FloorCurves$Picture", "floors", "I", false), ("FloorCurves$Picture", "stairs", "I", false), ("FloorCurves$Picture", "amounts", "[I", true), ("FloorCurves$Picture", "outs", "[I", true)]
def q_T2 : u_T := fun k => q_f2.getD k ("", "", "", false)
def q_f3 : List (String × String × String × Bool) := [("FloorCurves$Powers", "row", "[J", true), ("FloorCurves$Powers", "product", "[J", true), ("FloorCurves$Powers", "reach", "I", false)]
def q_T3 : u_T := fun k => q_f3.getD k ("", "", "", false)
def q_f4 : List (String × String × String × Bool) := [("FloorCurves$Sheet", "cells", "[I", true), ("FloorCurves$Sheet", "lane", "I", false), ("FloorCurves$Sheet", "length", "I", false)]
def q_T4 : u_T := fun k => q_f4.getD k ("", "", "", false)
def q_f5 : List (String × String × String × Bool) := [("FloorCurves$Tangents", "rows", "[I", true), ("FloorCurves$Tangents", "values", "[J", true), ("FloorCurves$Tangents", "firstRow", "[I", true), ("FloorCurves$Tangents", "size", "I", false), ("FloorCurves$Tangents", "known", "I", false)]
def q_T5 : u_T := fun k => q_f5.getD k ("", "", "", false)
def q_f6 : List (String × String × String × Bool) := [("FloorCurves$Tape", "bytes", "[B", true), ("FloorCurves$Tape", "length", "I", false), ("FloorCurves$Tape", "toldRows", "I", false), ("FloorCurves$Tape", "latestFault", "I", false)]
def q_T6 : u_T := fun k => q_f6.getD k ("", "", "", false)
def q_f7 : List (String × String × String × Bool) := [("FloorCurves", "pictures", "[LFloorCurves$Picture;", true), ("FloorCurves", "draft", "LFloorCurves$Picture;", true), ("FloorCurves", "marker", "LFloorCurves$Marker;", true), ("FloorCurves", "powers", "LFloorCurves$Powers;", true), ("FloorCurves", "catalogues", "[LFloorCurves$Catalogue;", true), ("FloorCurves", "tape", "LFloorCurves$Tape;", true), ("FloorCurves", "tangents", "LFloorCurves$Tangents;", true), ("FloorCurves", "rationals", "[J", true), ("FloorCurves", "sheets", "[LFloorCurves$Sheet;", true), ("FloorCurves", "pictureCount", "I", false)]
def q_T7 : u_T := fun k => q_f7.getD k ("", "", "", false)
def q_f8 : List (String × String × String × Bool) := [("FloorCurvesModel", "pictures", "I", false), ("FloorCurvesModel", "degrees", "[I", true), ("FloorCurvesModel", "stairMany", "[I", true), ("FloorCurvesModel", "froms", "[I", true), ("FloorCurvesModel", "tos", "[I", true), ("FloorCurvesModel", "weights", "[I", true), ("FloorCurvesModel", "powers", "[J", true), ("FloorCurvesModel", "product", "[J", true), ("FloorCurvesModel", "kinds", "I", false), ("FloorCurvesModel", "kindFrom", "[I", true), ("FloorCurvesModel", "kindTo", "[I", true), ("FloorCurvesModel", "kindMany", "[I", true), ("FloorCurvesModel", "kindStep", "[I", true), ("FloorCurvesModel", "codes", "I", false), ("FloorCurvesModel", "ways", "[J", true), ("FloorCurvesModel", "row", "[I", true), ("FloorCurvesModel", "isFound", "[Z", true), ("FloorCurvesModel", "counts", "[J", true), ("FloorCurvesModel", "signeds", "[J", true), ("FloorCurvesModel", "lists", "[I", true), ("FloorCurvesModel", "spreads", "[J", true), ("FloorCurvesModel", "tape", "[I", true), ("FloorCurvesModel", "taped", "I", false), ("FloorCurvesModel", "fault", "I", false), ("FloorCurvesModel", "isTold", "Z", false), ("FloorCurvesModel", "toldRow", "[I", true), ("FloorCurvesModel", "newRow", "[I", true), ("FloorCurvesModel", "rows", "I", false), ("FloorCurvesModel", "rowSum", "[I", true), ("FloorCurvesModel", "rowB", "[I", true), ("FloorCurvesModel", "rowCells", "[I", true), ("FloorCurvesModel", "worths", "[J", true), ("FloorCurvesModel", "isLaid", "Z", false), ("FloorCurvesModel", "at", "I", false), ("FloorCurvesModel", "tryRow", "[I", true), ("FloorCurvesModel", "found", "[J", true), ("FloorCurvesModel", "lanes", "[I", true), ("FloorCurvesModel", "lengths", "[I", true), ("FloorCurvesModel", "cells", "[I", true)]
def q_T8 : u_T := fun k => q_f8.getD k ("", "", "", false)
def q_cls : List vw_C := [("FloorCurves$Catalogue", q_T0, 11), ("FloorCurves$Marker", q_T1, 7), ("FloorCurves$Picture", q_T2, 4), ("FloorCurves$Powers", q_T3, 3), ("FloorCurves$Sheet", q_T4, 3), ("FloorCurves$Tangents", q_T5, 5), ("FloorCurves$Tape", q_T6, 4), ("FloorCurves", q_T7, 10), ("FloorCurvesModel", q_T8, 39)]
def q_y0 : Nat → FieldType := fun k => ([.int, .object "FloorCurves$Picture", .object "FloorCurves$Marker", .object "FloorCurves$Powers", .array (.long), .array (.int), .array (.int), .array (.long), .array (.long), .array (.long), .int] : List FieldType).getD k .int
def q_y1 : Nat → FieldType := fun k => ([.array (.int), .array (.int), .array (.int), .array (.int), .int, .int, .int] : List FieldType).getD k .int
def q_y2 : Nat → FieldType := fun k => ([.int, .int, .array (.int), .array (.int)] : List FieldType).getD k .int
def q_y3 : Nat → FieldType := fun k => ([.array (.long), .array (.long), .int] : List FieldType).getD k .int
def q_y4 : Nat → FieldType := fun k => ([.array (.int), .int, .int] : List FieldType).getD k .int
def q_y5 : Nat → FieldType := fun k => ([.array (.int), .array (.long), .array (.int), .int, .int] : List FieldType).getD k .int
def q_y6 : Nat → FieldType := fun k => ([.array (.byte), .int, .int, .int] : List FieldType).getD k .int
def q_y7 : Nat → FieldType := fun k => ([.array (.object "FloorCurves$Picture"), .object "FloorCurves$Picture", .object "FloorCurves$Marker", .object "FloorCurves$Powers", .array (.object "FloorCurves$Catalogue"), .object "FloorCurves$Tape", .object "FloorCurves$Tangents", .array (.long), .array (.object "FloorCurves$Sheet"), .int] : List FieldType).getD k .int
def q_y8 : Nat → FieldType := fun k => ([.int, .array (.int), .array (.int), .array (.int), .array (.int), .array (.int), .array (.long), .array (.long), .int, .array (.int), .array (.int), .array (.int), .array (.int), .int, .array (.long), .array (.int), .array (.boolean), .array (.long), .array (.long), .array (.int), .array (.long), .array (.int), .int, .int, .boolean, .array (.int), .array (.int), .int, .array (.int), .array (.int), .array (.int), .array (.long), .boolean, .int, .array (.int), .array (.long), .array (.int), .array (.int), .array (.int)] : List FieldType).getD k .int
def q_ty (t : Nat) : Nat → FieldType := match t with
  | 0 => q_y0
  | 1 => q_y1
  | 2 => q_y2
  | 3 => q_y3
  | 4 => q_y4
  | 5 => q_y5
  | 6 => q_y6
  | 7 => q_y7
  | _ => q_y8
theorem q_nm0 : ∀ a, a < 11 → ∀ b, b < 11 → a ≠ b → (q_T0 a).2.1 ≠ (q_T0 b).2.1 := by decide +kernel
theorem q_yk0 : ∀ k, k < 11 → parseFieldDescriptor (q_T0 k).2.2.1 = some (q_y0 k) := by decide +kernel
theorem q_in0 : (u_ws "FloorCurves$Catalogue" q_T0 11).all (fun w => decide (w ∈ lw_tbl) && goodWord w) = true := by decide +kernel
theorem q_nm1 : ∀ a, a < 7 → ∀ b, b < 7 → a ≠ b → (q_T1 a).2.1 ≠ (q_T1 b).2.1 := by decide +kernel
theorem q_yk1 : ∀ k, k < 7 → parseFieldDescriptor (q_T1 k).2.2.1 = some (q_y1 k) := by decide +kernel
theorem q_in1 : (u_ws "FloorCurves$Marker" q_T1 7).all (fun w => decide (w ∈ lw_tbl) && goodWord w) = true := by decide +kernel
theorem q_nm2 : ∀ a, a < 4 → ∀ b, b < 4 → a ≠ b → (q_T2 a).2.1 ≠ (q_T2 b).2.1 := by decide +kernel
theorem q_yk2 : ∀ k, k < 4 → parseFieldDescriptor (q_T2 k).2.2.1 = some (q_y2 k) := by decide +kernel
theorem q_in2 : (u_ws "FloorCurves$Picture" q_T2 4).all (fun w => decide (w ∈ lw_tbl) && goodWord w) = true := by decide +kernel
theorem q_nm3 : ∀ a, a < 3 → ∀ b, b < 3 → a ≠ b → (q_T3 a).2.1 ≠ (q_T3 b).2.1 := by decide +kernel
theorem q_yk3 : ∀ k, k < 3 → parseFieldDescriptor (q_T3 k).2.2.1 = some (q_y3 k) := by decide +kernel
theorem q_in3 : (u_ws "FloorCurves$Powers" q_T3 3).all (fun w => decide (w ∈ lw_tbl) && goodWord w) = true := by decide +kernel
theorem q_nm4 : ∀ a, a < 3 → ∀ b, b < 3 → a ≠ b → (q_T4 a).2.1 ≠ (q_T4 b).2.1 := by decide +kernel
theorem q_yk4 : ∀ k, k < 3 → parseFieldDescriptor (q_T4 k).2.2.1 = some (q_y4 k) := by decide +kernel
theorem q_in4 : (u_ws "FloorCurves$Sheet" q_T4 3).all (fun w => decide (w ∈ lw_tbl) && goodWord w) = true := by decide +kernel
theorem q_nm5 : ∀ a, a < 5 → ∀ b, b < 5 → a ≠ b → (q_T5 a).2.1 ≠ (q_T5 b).2.1 := by decide +kernel
theorem q_yk5 : ∀ k, k < 5 → parseFieldDescriptor (q_T5 k).2.2.1 = some (q_y5 k) := by decide +kernel
theorem q_in5 : (u_ws "FloorCurves$Tangents" q_T5 5).all (fun w => decide (w ∈ lw_tbl) && goodWord w) = true := by decide +kernel
theorem q_nm6 : ∀ a, a < 4 → ∀ b, b < 4 → a ≠ b → (q_T6 a).2.1 ≠ (q_T6 b).2.1 := by decide +kernel
theorem q_yk6 : ∀ k, k < 4 → parseFieldDescriptor (q_T6 k).2.2.1 = some (q_y6 k) := by decide +kernel
theorem q_in6 : (u_ws "FloorCurves$Tape" q_T6 4).all (fun w => decide (w ∈ lw_tbl) && goodWord w) = true := by decide +kernel
theorem q_nm7 : ∀ a, a < 10 → ∀ b, b < 10 → a ≠ b → (q_T7 a).2.1 ≠ (q_T7 b).2.1 := by decide +kernel
theorem q_yk7 : ∀ k, k < 10 → parseFieldDescriptor (q_T7 k).2.2.1 = some (q_y7 k) := by decide +kernel
theorem q_in7 : (u_ws "FloorCurves" q_T7 10).all (fun w => decide (w ∈ lw_tbl) && goodWord w) = true := by decide +kernel
theorem q_nm8 : ∀ a, a < 39 → ∀ b, b < 39 → a ≠ b → (q_T8 a).2.1 ≠ (q_T8 b).2.1 := by decide +kernel
theorem q_yk8 : ∀ k, k < 39 → parseFieldDescriptor (q_T8 k).2.2.1 = some (q_y8 k) := by decide +kernel
theorem q_in8 : (u_ws "FloorCurvesModel" q_T8 39).all (fun w => decide (w ∈ lw_tbl) && goodWord w) = true := by decide +kernel
theorem q_clsOk : ∀ (t : Nat) (q : vw_C), q_cls[t]? = some q → (∀ a, a < q.2.2 → ∀ b, b < q.2.2 → a ≠ b → (q.2.1 a).2.1 ≠ (q.2.1 b).2.1) ∧ (∀ k, k < q.2.2 → parseFieldDescriptor (q.2.1 k).2.2.1 = some (q_ty t k)) ∧ (u_ws q.1 q.2.1 q.2.2).all (fun w => decide (w ∈ lw_tbl) && goodWord w) = true := by
  intro t q h
  match t, h with
  | 0, h => cases h; exact ⟨q_nm0, q_yk0, q_in0⟩
  | 1, h => cases h; exact ⟨q_nm1, q_yk1, q_in1⟩
  | 2, h => cases h; exact ⟨q_nm2, q_yk2, q_in2⟩
  | 3, h => cases h; exact ⟨q_nm3, q_yk3, q_in3⟩
  | 4, h => cases h; exact ⟨q_nm4, q_yk4, q_in4⟩
  | 5, h => cases h; exact ⟨q_nm5, q_yk5, q_in5⟩
  | 6, h => cases h; exact ⟨q_nm6, q_yk6, q_in6⟩
  | 7, h => cases h; exact ⟨q_nm7, q_yk7, q_in7⟩
  | 8, h => cases h; exact ⟨q_nm8, q_yk8, q_in8⟩
  | t + 9, h => simp [q_cls] at h
/-- where a numbered cell lies: the script, the class's two static rows, then the cells as they are made -/
def q_ad (z b pf pt : Nat) (k : Int) : Nat := if k = 0 then b else if k = 1 then pf else if k = 2 then pt else z + (k.toNat - 3)
def q_cv (A : Int → Nat) (v : AV) : Value := match v with
  | .inl x => .int (Int32.ofInt x)
  | .inr (.inl x) => .long (Int64.ofInt x)
  | .inr (.inr x) => if x < 0 then .null else .ref (A x)
def q_cat (v : AV) : Nat := match v with
  | .inl _ => 1
  | .inr (.inl _) => 2
  | .inr (.inr _) => 1
def q_fref (t k : Nat) : Bool := match q_cls[t]? with
  | some q => (q.2.1 k).2.2.1 != "I" && (q.2.1 k).2.2.1 != "Z"
  | none => false
def q_fv (A : Int → Nat) (t : Nat) (f g : Int → Int) (k : Nat) : Value := if q_fref t k = true then q_cv A (vr (g k)) else .int (Int32.ofInt (f k))
def q_aty (t : Nat) : FieldType := if t = 100 then .int else if t = 101 then .long else if t = 102 then .byte else if t = 103 then .boolean else .object ((q_cls[t - 200]?.map (fun q => q.1)).getD "")
def q_av (A : Int → Nat) (t : Nat) (f g : Int → Int) (j : Nat) : Value := if t = 101 then .long (Int64.ofInt (f j)) else if t < 200 then .int (Int32.ofInt (f j)) else q_cv A (vr (g j))
def q_cell (s0 : State) (D : va_G) (A : Int → Nat) (t : Nat) (n : Int) (f g : Int → Int) (a : Nat) (H : Heap) : Prop :=
  (t < 100 → ∃ q, q_cls[t]? = some q ∧ t_OB a (D.1 t) q.2.2 (D.2 t) H (q_fv A t f g)) ∧
  (¬ t < 100 → ∃ cA, ArrOfT s0 cA (q_aty t) ∧ va_RA s0 cA (q_aty t) ∧ (0 ≤ n ∧ n ≤ 2147483647) ∧ H[a]? = some (arrV cA n.toNat (q_av A t f g)))
def q_old (s0 : State) (a : Nat) (n : Int) (f : Int → Int) : Prop := ∃ cell : Cell, s0.heap[a]? = some cell ∧ s0.isArrayOf cell .int ∧ cell.vm ≠ .unknown ∧ n ≤ (cell.slots.size : Int) ∧ n ≤ 2147483647 ∧ Int32.ofNat cell.slots.size = Int32.ofInt n ∧ ∀ j : Nat, (j : Int) < n → cell.slots[j]? = some (.int (Int32.ofInt (f j)))
/-- the heap as it is, by the numbered cells -/
def q_HR (s0 : State) (D : va_G) (A : Int → Nat) (σ : Sg) (m : Mm) (H : Heap) : Prop :=
  3 ≤ σ.1 ∧ H.size = s0.heap.size + (σ.1.toNat - 3) ∧ (∀ q : Nat, q < s0.heap.size → H[q]? = s0.heap[q]?) ∧ (∀ k : Int, 3 ≤ k → k < σ.1 → q_cell s0 D A (σ.2.2.1 k) (σ.2.2.2.1 k) (m k) (σ.2.2.2.2 k) (A k) H) ∧ (∀ k : Int, 0 ≤ k → k < 3 → σ.2.2.1 k = 100 ∧ q_old s0 (A k) (σ.2.2.2.1 k) (m k))
/-- what the start gives -/
def q_G (s0 : State) (b pf pt : Nat) (D : va_G) : Prop :=
  (∃ a0 : Array Value, ∀ w ∈ lw_tbl, w.before a0 s0 = true) ∧ (∀ (c : Nat) (q : vw_C), q_cls[c]? = some q → u_Kn s0 q.1 q.2.1 q.2.2 (D.1 c) (D.2 c)) ∧
  va_Z "FloorCurves" "PAIR_FROM" "[I" (.ref pf) (fun q => s0.heap.size ≤ q) s0 s0.heap ∧ va_Z "FloorCurves" "PAIR_TO" "[I" (.ref pt) (fun q => s0.heap.size ≤ q) s0 s0.heap ∧ b < s0.heap.size ∧ pf < s0.heap.size ∧ pt < s0.heap.size
/-- a method's standing facts -/
def q_SC (s0 : State) (M : Md) (d : Nat) (p : Program) (R : Room) (s : State) (mi : MethodId) (meth : Method) (c : Code) : Prop :=
  p.tables.exec = Jvm.exec ∧ c.code = M.2.1 ∧ meth.sig.returnType = M.2.2.2 ∧ c.maxLocals = M.2.2.1 ∧ s.vm.findClass M.1.cls = some mi.cls ∧ meth.locks = false ∧ (M.1.name = "<init>" → meth.name = "<init>") ∧ s0.WarmedH s.vm ∧ d ≤ R.frames ∧ 40 * d ≤ R.locals
def q_LR (A : Int → Nat) (L : List (Option AV)) (ls : Array Slot) : Prop := ls.size = L.length ∧ lv_wf ls ∧ ∀ (i : Nat) (v : AV), L[i]? = some (some v) → ls[i]? = some (.val (q_cv A v))
def q_Q (s0 : State) (D : va_G) (A : Int → Nat) (r : Option AV) (σ : Sg) (m : Mm) : Array Value → State → Outcome → State → Prop := fun _ _ o t => o = .returned (r.map (q_cv A)) ∧ q_HR s0 D A σ m t.heap
def q_fr (s0 : State) : Addr → Prop := fun q => s0.heap.size ≤ q
/-- method M, at pc with locals L and stack st over the picture σ, m, comes to its end with the answer r and the picture σ', m' -/
def Ev (d : Nat) (M : Md) (pc : Nat) (L : List (Option AV)) (st : List AV) (σ : Sg) (m : Mm) (r : Option AV) (σ' : Sg) (m' : Mm) : Prop :=
  (σ.1 ≤ σ'.1 ∧ σ.2.1 ≤ σ'.2.1) ∧ ∀ (l : Launch) (s0 : State) (b pf pt : Nat) (D : va_G), q_G s0 b pf pt D →
    ∀ (p : Program) (e : Env) (R : Room) (s : State) (mi : MethodId) (args : Array Value) (below : List Frame) (meth : Method) (c : Code) (n0 k0 : Int), q_SC s0 M d p R s mi meth c →
    n0 ≤ σ.1 → k0 ≤ σ.2.1 → (σ'.1 - n0).toNat ≤ R.cells → (σ'.2.1 - k0).toNat ≤ R.slots →
    ∀ (H : Heap) (locs : List Loc) (ls : Array Slot), q_HR s0 D (q_ad s0.heap.size b pf pt) σ m H → (∀ q ∈ locs, s0.heap.size ≤ q.base) → q_LR (q_ad s0.heap.size b pf pt) L ls →
    W p l e R s mi args below meth c H locs (σ.1 - n0).toNat (σ.2.1 - k0).toNat (MQ below (q_Q s0 D (q_ad s0.heap.size b pf pt) r σ' m') args s (σ'.1 - n0).toNat (σ'.2.1 - k0).toNat (q_fr s0)) (F0 mi pc ls (st.map (q_cv (q_ad s0.heap.size b pf pt))))
/-- a method's first locals -/
def q_sl : List AV → List (Option AV)
  | [] => []
  | .inl x :: t => some (.inl x) :: q_sl t
  | .inr (.inl x) :: t => some (.inr (.inl x)) :: none :: q_sl t
  | .inr (.inr x) :: t => some (.inr (.inr x)) :: q_sl t
def q_en (M : Md) (av : List AV) : List (Option AV) := q_sl av ++ List.replicate (M.2.2.1 - (q_sl av).length) none
abbrev Call (d : Nat) (M : Md) (av : List AV) (σ : Sg) (m : Mm) (r : Option AV) (σ' : Sg) (m' : Mm) : Prop := Ev d M 0 (q_en M av) [] σ m r σ' m'
/-! numbers -/
theorem q_i32 {x : Int} (h : -2147483648 ≤ x ∧ x ≤ 2147483647) : (Int32.ofInt x).toInt = x := Int32.toInt_ofInt_of_le (by omega) (by omega)
theorem q_i64 {x : Int} (h : -9223372036854775808 ≤ x ∧ x ≤ 9223372036854775807) : (Int64.ofInt x).toInt = x := Int64.toInt_ofInt_of_le (by omega) (by omega)
theorem q_lt {x y : Int} (hx : -2147483648 ≤ x ∧ x ≤ 2147483647) (hy : -2147483648 ≤ y ∧ y ≤ 2147483647) : Int32.ofInt x < Int32.ofInt y ↔ x < y := by
  rw [Int32.lt_iff_toInt_lt, q_i32 hx, q_i32 hy]
theorem q_le {x y : Int} (hx : -2147483648 ≤ x ∧ x ≤ 2147483647) (hy : -2147483648 ≤ y ∧ y ≤ 2147483647) : Int32.ofInt x ≤ Int32.ofInt y ↔ x ≤ y := by
  rw [Int32.le_iff_toInt_le, q_i32 hx, q_i32 hy]
theorem q_eq {x y : Int} (hx : -2147483648 ≤ x ∧ x ≤ 2147483647) (hy : -2147483648 ≤ y ∧ y ≤ 2147483647) : Int32.ofInt x = Int32.ofInt y ↔ x = y := by
  rw [← Int32.toInt_inj, q_i32 hx, q_i32 hy]
theorem q_z : (0 : Int32) = Int32.ofInt 0 := rfl
theorem q_clamp {x : Int} (h0 : 0 ≤ x) (h : x ≤ 2147483647) : (Int32.ofInt x).toNatClampNeg = x.toNat := by
  show (Int32.ofInt x).toInt.toNat = x.toNat
  rw [q_i32 ⟨by omega, h⟩]
theorem q_pin {x : Int} {n : Nat} (h0 : 0 ≤ x) (h : x < n) (hn : x ≤ 2147483647) : ¬ (Int32.ofInt x < 0 ∨ n ≤ (Int32.ofInt x).toNatClampNeg) := by
  rw [q_clamp h0 (by omega), q_z, q_lt (by omega) (by omega)]
  omega
/-! words -/
theorem q_w {s0 s : State} {a0 args : Array Value} (h : ∀ w ∈ lw_tbl, w.before a0 s0 = true) (hW : s0.WarmedH s.vm) {w : Cond} (hw : w ∈ lw_tbl) (hg : goodWord w = true) : w.before args s = true := word_at hW (good_of_word hg) (h w hw)
theorem q_uw {s0 s : State} {a0 args : Array Value} (h : ∀ w ∈ lw_tbl, w.before a0 s0 = true) (hW : s0.WarmedH s.vm) {ws : List Cond} (ha : ws.all (fun w => decide (w ∈ lw_tbl) && goodWord w) = true) : ∀ w ∈ ws, w.before args s = true := by
  intro w hw
  have h1 := List.all_eq_true.mp ha w hw
  simp only [Bool.and_eq_true, decide_eq_true_eq] at h1
  exact q_w h hW h1.1 h1.2
end
section
section
variable {d : Nat} {M : Md} {pc : Nat} {L : List (Option AV)} {st : List AV} {σ σ' : Sg} {m m' : Mm} {r : Option AV}
theorem Ev.lift {pc2 : Nat} {st2 : List AV} (h : ∀ {A : Int → Nat} {p : Program} {l : Launch} {e : Env} {R : Room} {s : State} {mi : MethodId} {args : Array Value} {below : List Frame} {meth : Method} {c : Code} {H : Heap} {locs : List Loc} {cells slots : Nat} {Q : State → Prop} {ls : Array Slot}, p.tables.exec = Jvm.exec → c.code = M.2.1 → q_LR A L ls → W p l e R s mi args below meth c H locs cells slots Q (F0 mi pc2 ls (st2.map (q_cv A))) → W p l e R s mi args below meth c H locs cells slots Q (F0 mi pc ls (st.map (q_cv A)))) (k : Ev d M pc2 L st2 σ m r σ' m') : Ev d M pc L st σ m r σ' m' :=
  ⟨k.1, fun l s0 b pf pt D hG p e R s mi args below meth c n0 k0 hC h1 h2 h3 h4 H locs ls hH hf hl => h hC.1 hC.2.1 hl (k.2 l s0 b pf pt D hG p e R s mi args below meth c n0 k0 hC h1 h2 h3 h4 H locs ls hH hf hl)⟩
theorem Ev.two {pc2 pc3 : Nat} {st2 : List AV} {P : Prop} (h : ∀ {A : Int → Nat} {p : Program} {l : Launch} {e : Env} {R : Room} {s : State} {mi : MethodId} {args : Array Value} {below : List Frame} {meth : Method} {c : Code} {H : Heap} {locs : List Loc} {cells slots : Nat} {Q : State → Prop} {ls : Array Slot}, p.tables.exec = Jvm.exec → c.code = M.2.1 → (P → W p l e R s mi args below meth c H locs cells slots Q (F0 mi pc2 ls (st2.map (q_cv A)))) → (¬ P → W p l e R s mi args below meth c H locs cells slots Q (F0 mi pc3 ls (st2.map (q_cv A)))) → W p l e R s mi args below meth c H locs cells slots Q (F0 mi pc ls (st.map (q_cv A)))) (k1 : P → Ev d M pc2 L st2 σ m r σ' m') (k2 : ¬ P → Ev d M pc3 L st2 σ m r σ' m') : Ev d M pc L st σ m r σ' m' := by
  refine ⟨?_, fun l s0 b pf pt D hG p e R s mi args below meth c n0 k0 hC h1 h2 h3 h4 H locs ls hH hf hl => h hC.1 hC.2.1 (fun q => (k1 q).2 l s0 b pf pt D hG p e R s mi args below meth c n0 k0 hC h1 h2 h3 h4 H locs ls hH hf hl) (fun q => (k2 q).2 l s0 b pf pt D hG p e R s mi args below meth c n0 k0 hC h1 h2 h3 h4 H locs ls hH hf hl)⟩
  by_cases q : P
  · exact (k1 q).1
  · exact (k2 q).1
theorem Ev.iconst {n : Int} (hd : decode M.2.1 pc = .ok (.iconst n, 1)) (k : Ev d M (pc + 1) L (vi n :: st) σ m r σ' m') : Ev d M pc L st σ m r σ' m' := 
  Ev.lift (fun hx hb _ k => lv_iconst hx hb hd rfl k) k
theorem Ev.bipush {n : Int} (hd : decode M.2.1 pc = .ok (.bipush n, 2)) (hn : (Int8.ofInt n).toInt32 = Int32.ofInt n) (k : Ev d M (pc + 2) L (vi n :: st) σ m r σ' m') : Ev d M pc L st σ m r σ' m' := 
  Ev.lift (fun hx hb _ k => lv_bipush hx hb hd hn k) k
theorem Ev.sipush {n : Int} (hd : decode M.2.1 pc = .ok (.sipush n, 3)) (hn : (Int16.ofInt n).toInt32 = Int32.ofInt n) (k : Ev d M (pc + 3) L (vi n :: st) σ m r σ' m') : Ev d M pc L st σ m r σ' m' := 
  Ev.lift (fun hx hb _ k => lv_sipush hx hb hd hn k) k
theorem Ev.lconst {n : Fin 2} {x : Int} (hd : decode M.2.1 pc = .ok (.lconst n, 1)) (hn : Int64.ofNat (n : Nat) = Int64.ofInt x) (k : Ev d M (pc + 1) L (vl x :: st) σ m r σ' m') : Ev d M pc L st σ m r σ' m' := 
  Ev.lift (fun hx hb _ k => lv_lconst hx hb hd hn k) k
theorem Ev.null (hd : decode M.2.1 pc = .ok (.aconst_null, 1)) (k : Ev d M (pc + 1) L (vr (-1) :: st) σ m r σ' m') : Ev d M pc L st σ m r σ' m' := 
  Ev.lift (fun hx hb _ k => lv_null hx hb hd k) k
theorem Ev.iload_n {k : Fin 4} {x : Int} (hd : decode M.2.1 pc = .ok (.iload_n k, 1)) (hv : L[(k : Nat)]? = some (some (vi x))) (kk : Ev d M (pc + 1) L (vi x :: st) σ m r σ' m') : Ev d M pc L st σ m r σ' m' := 
  Ev.lift (fun hx hb hl k => lv_iload_n hx hb hd rfl (hl.2.2 _ _ hv) k) kk
theorem Ev.iload {i : Nat} {x : Int} (hd : decode M.2.1 pc = .ok (.iload i, 2)) (hv : L[i]? = some (some (vi x))) (kk : Ev d M (pc + 2) L (vi x :: st) σ m r σ' m') : Ev d M pc L st σ m r σ' m' := 
  Ev.lift (fun hx hb hl k => lv_iload hx hb hd (hl.2.2 _ _ hv) k) kk
theorem Ev.lload_n {k : Fin 4} {x : Int} (hd : decode M.2.1 pc = .ok (.lload_n k, 1)) (hv : L[(k : Nat)]? = some (some (vl x))) (kk : Ev d M (pc + 1) L (vl x :: st) σ m r σ' m') : Ev d M pc L st σ m r σ' m' := 
  Ev.lift (fun hx hb hl k => lv_lload_n hx hb hd rfl (hl.2.2 _ _ hv) k) kk
theorem Ev.lload {i : Nat} {x : Int} (hd : decode M.2.1 pc = .ok (.lload i, 2)) (hv : L[i]? = some (some (vl x))) (kk : Ev d M (pc + 2) L (vl x :: st) σ m r σ' m') : Ev d M pc L st σ m r σ' m' := 
  Ev.lift (fun hx hb hl k => lv_lload hx hb hd (hl.2.2 _ _ hv) k) kk
theorem Ev.aload_n {k : Fin 4} {x : Int} (hd : decode M.2.1 pc = .ok (.aload_n k, 1)) (hv : L[(k : Nat)]? = some (some (vr x))) (kk : Ev d M (pc + 1) L (vr x :: st) σ m r σ' m') : Ev d M pc L st σ m r σ' m' := by
  refine Ev.lift (fun {A} {p l e R s mi args below meth c H locs cells slots Q ls} hx hb hl k => ?_) kk
  have h1 := hl.2.2 _ _ hv
  simp only [q_cv] at h1
  simp only [List.map_cons, q_cv] at k
  by_cases h : x < 0
  · rw [if_pos h] at h1 k
    exact lv_aload_nN hx hb hd rfl h1 k
  · rw [if_neg h] at h1 k
    exact lv_aload_n hx hb hd rfl h1 k
theorem Ev.aload {i : Nat} {x : Int} (hd : decode M.2.1 pc = .ok (.aload i, 2)) (hv : L[i]? = some (some (vr x))) (kk : Ev d M (pc + 2) L (vr x :: st) σ m r σ' m') : Ev d M pc L st σ m r σ' m' := by
  refine Ev.lift (fun {A} {p l e R s mi args below meth c H locs cells slots Q ls} hx hb hl k => ?_) kk
  have h1 := hl.2.2 _ _ hv
  simp only [q_cv] at h1
  simp only [List.map_cons, q_cv] at k
  by_cases h : x < 0
  · rw [if_pos h] at h1 k
    exact lv_aloadN hx hb hd h1 k
  · rw [if_neg h] at h1 k
    exact lv_aload hx hb hd h1 k
theorem Ev.iadd {x y : Int} (hd : decode M.2.1 pc = .ok (.iadd, 1)) (k : Ev d M (pc + 1) L (vi (x + y) :: st) σ m r σ' m') : Ev d M pc L (vi y :: vi x :: st) σ m r σ' m' := 
  Ev.lift (fun hx hb _ k => lv_iadd hx hb hd (by simp only [List.map_cons, q_cv, Int32.ofInt_add] at k; exact k)) k
theorem Ev.isub {x y : Int} (hd : decode M.2.1 pc = .ok (.isub, 1)) (k : Ev d M (pc + 1) L (vi (x - y) :: st) σ m r σ' m') : Ev d M pc L (vi y :: vi x :: st) σ m r σ' m' := 
  Ev.lift (fun hx hb _ k => lv_isub hx hb hd (by simp only [List.map_cons, q_cv, Int32.ofInt_sub] at k; exact k)) k
theorem Ev.imul {x y : Int} (hd : decode M.2.1 pc = .ok (.imul, 1)) (k : Ev d M (pc + 1) L (vi (x * y) :: st) σ m r σ' m') : Ev d M pc L (vi y :: vi x :: st) σ m r σ' m' := 
  Ev.lift (fun hx hb _ k => lv_imul hx hb hd (by simp only [List.map_cons, q_cv, Int32.ofInt_mul] at k; exact k)) k
theorem Ev.ladd {x y : Int} (hd : decode M.2.1 pc = .ok (.ladd, 1)) (k : Ev d M (pc + 1) L (vl (x + y) :: st) σ m r σ' m') : Ev d M pc L (vl y :: vl x :: st) σ m r σ' m' := 
  Ev.lift (fun hx hb _ k => lv_ladd hx hb hd (by simp only [List.map_cons, q_cv, Int64.ofInt_add] at k; exact k)) k
theorem Ev.lsub {x y : Int} (hd : decode M.2.1 pc = .ok (.lsub, 1)) (k : Ev d M (pc + 1) L (vl (x - y) :: st) σ m r σ' m') : Ev d M pc L (vl y :: vl x :: st) σ m r σ' m' := 
  Ev.lift (fun hx hb _ k => lv_lsub hx hb hd (by simp only [List.map_cons, q_cv, Int64.ofInt_sub] at k; exact k)) k
theorem Ev.lmul {x y : Int} (hd : decode M.2.1 pc = .ok (.lmul, 1)) (k : Ev d M (pc + 1) L (vl (x * y) :: st) σ m r σ' m') : Ev d M pc L (vl y :: vl x :: st) σ m r σ' m' := 
  Ev.lift (fun hx hb _ k => lv_lmul hx hb hd (by simp only [List.map_cons, q_cv, Int64.ofInt_mul] at k; exact k)) k
theorem Ev.ineg {x : Int} (hd : decode M.2.1 pc = .ok (.ineg, 1)) (k : Ev d M (pc + 1) L (vi (-x) :: st) σ m r σ' m') : Ev d M pc L (vi x :: st) σ m r σ' m' := 
  Ev.lift (fun hx hb _ k => lv_ineg hx hb hd (by simp only [List.map_cons, q_cv, Int32.ofInt_neg] at k; exact k)) k
theorem q_div32 {x y : Int} (h0 : 0 ≤ x) (h1 : x ≤ 2147483647) (h2 : 0 < y) (h3 : y ≤ 2147483647) : Int32.ofInt x / Int32.ofInt y = Int32.ofInt (x / y) := by
  have h := Int32.ofInt_tdiv (a := x) (b := y) (by rw [Int32.toInt_minValue]; omega) (by rw [Int32.toInt_maxValue]; omega) (by rw [Int32.toInt_minValue]; omega) (by rw [Int32.toInt_maxValue]; omega)
  rw [← h, Int.tdiv_eq_ediv_of_nonneg h0]
theorem q_div64 {x y : Int} (h0 : 0 ≤ x) (h1 : x ≤ 9223372036854775807) (h2 : 0 < y) (h3 : y ≤ 9223372036854775807) : Int64.ofInt x / Int64.ofInt y = Int64.ofInt (x / y) := by
  have h := Int64.ofInt_tdiv (a := x) (b := y) (by rw [Int64.toInt_minValue]; omega) (by rw [Int64.toInt_maxValue]; omega) (by rw [Int64.toInt_minValue]; omega) (by rw [Int64.toInt_maxValue]; omega)
  rw [← h, Int.tdiv_eq_ediv_of_nonneg h0]
theorem q_ne0 {y : Int} (h2 : 0 < y) (h3 : y ≤ 2147483647) : ¬ Int32.ofInt y = 0 := by
  rw [q_z, q_eq (by omega) (by omega)]; omega
theorem q_ne0l {y : Int} (h2 : 0 < y) (h3 : y ≤ 9223372036854775807) : ¬ Int64.ofInt y = 0 := by
  rw [show (0 : Int64) = Int64.ofInt 0 from rfl, ← Int64.toInt_inj, q_i64 (by omega), q_i64 (by omega)]; omega
theorem Ev.idiv {x y : Int} (hd : decode M.2.1 pc = .ok (.idiv, 1)) (hx : 0 ≤ x ∧ x ≤ 2147483647) (hy : 0 < y ∧ y ≤ 2147483647) (k : Ev d M (pc + 1) L (vi (x / y) :: st) σ m r σ' m') : Ev d M pc L (vi y :: vi x :: st) σ m r σ' m' := 
  Ev.lift (fun hX hb _ k => lv_idiv hX hb hd (q_ne0 hy.1 hy.2) (by rw [q_div32 hx.1 hx.2 hy.1 hy.2]; exact k)) k
theorem Ev.irem {x y : Int} (hd : decode M.2.1 pc = .ok (.irem, 1)) (hx : 0 ≤ x ∧ x ≤ 2147483647) (hy : 0 < y ∧ y ≤ 2147483647) (k : Ev d M (pc + 1) L (vi (x % y) :: st) σ m r σ' m') : Ev d M pc L (vi y :: vi x :: st) σ m r σ' m' :=
  Ev.lift (fun hX hb _ k => lv_irem hX hb hd (q_ne0 hy.1 hy.2) (by rw [q_div32 hx.1 hx.2 hy.1 hy.2, ← Int32.ofInt_mul, ← Int32.ofInt_sub, show x - x / y * y = x % y by rw [Int.emod_def, Int.mul_comm]]; exact k)) k
theorem Ev.ldiv {x y : Int} (hd : decode M.2.1 pc = .ok (.ldiv, 1)) (hx : 0 ≤ x ∧ x ≤ 9223372036854775807) (hy : 0 < y ∧ y ≤ 9223372036854775807) (k : Ev d M (pc + 1) L (vl (x / y) :: st) σ m r σ' m') : Ev d M pc L (vl y :: vl x :: st) σ m r σ' m' := 
  Ev.lift (fun hX hb _ k => lv_ldiv hX hb hd (q_ne0l hy.1 hy.2) (by rw [q_div64 hx.1 hx.2 hy.1 hy.2]; exact k)) k
theorem Ev.i2l {x : Int} (hd : decode M.2.1 pc = .ok (.i2l, 1)) (hx : -2147483648 ≤ x ∧ x ≤ 2147483647) (k : Ev d M (pc + 1) L (vl x :: st) σ m r σ' m') : Ev d M pc L (vi x :: st) σ m r σ' m' :=
  Ev.lift (fun hX hb _ k => lv_i2l hX hb hd (Int32.toInt64_ofInt (by rw [Int32.toInt_minValue]; omega) (by rw [Int32.toInt_maxValue]; omega)) k) k
theorem Ev.l2i {x : Int} (hd : decode M.2.1 pc = .ok (.l2i, 1)) (k : Ev d M (pc + 1) L (vi x :: st) σ m r σ' m') : Ev d M pc L (vl x :: st) σ m r σ' m' :=
  Ev.lift (fun hX hb _ k => lv_l2i hX hb hd Int64.toInt32_ofInt k) k
theorem Ev.i2b {x : Int} (hd : decode M.2.1 pc = .ok (.i2b, 1)) (k : Ev d M (pc + 1) L (vi (x.bmod 256) :: st) σ m r σ' m') : Ev d M pc L (vi x :: st) σ m r σ' m' :=
  Ev.lift (fun hX hb _ k => lv_i2b hX hb hd (Int32.toInt_inj.mp (by rw [Int8.toInt_toInt32, Int32.toInt_toInt8, Int32.toInt_ofInt, Int32.toInt_ofInt]; simp only [Int32.size, Int.bmod_def]; omega)) k) k
theorem Ev.i2s {x : Int} (hd : decode M.2.1 pc = .ok (.i2s, 1)) (k : Ev d M (pc + 1) L (vi (x.bmod 65536) :: st) σ m r σ' m') : Ev d M pc L (vi x :: st) σ m r σ' m' :=
  Ev.lift (fun hX hb _ k => lv_i2s hX hb hd (Int32.toInt_inj.mp (by rw [Int16.toInt_toInt32, Int32.toInt_toInt16, Int32.toInt_ofInt, Int32.toInt_ofInt]; simp only [Int32.size, Int.bmod_def]; omega)) k) k
theorem q_cat_eq (A : Int → Nat) (v : AV) : (q_cv A v).category = q_cat v := by
  rcases v with x | x | x
  · rfl
  · rfl
  · simp only [q_cv, q_cat]; split <;> rfl
theorem Ev.dup {v : AV} (hd : decode M.2.1 pc = .ok (.dup, 1)) (hv : q_cat v = 1) (k : Ev d M (pc + 1) L (v :: v :: st) σ m r σ' m') : Ev d M pc L (v :: st) σ m r σ' m' :=
  Ev.lift (fun {A} {p l e R s mi args below meth c H locs cells slots Q ls} hX hb _ k => lv_dup hX hb hd (by rw [q_cat_eq]; exact hv) k) k
theorem Ev.pop {v : AV} (hd : decode M.2.1 pc = .ok (.pop, 1)) (hv : q_cat v = 1) (k : Ev d M (pc + 1) L st σ m r σ' m') : Ev d M pc L (v :: st) σ m r σ' m' :=
  Ev.lift (fun {A} {p l e R s mi args below meth c H locs cells slots Q ls} hX hb _ k => lv_pop hX hb hd (by rw [q_cat_eq]; exact hv) k) k
theorem Ev.dup2 {v u : AV} (hd : decode M.2.1 pc = .ok (.dup2, 1)) (hv : q_cat v = 1) (hu : q_cat u = 1) (k : Ev d M (pc + 1) L (v :: u :: v :: u :: st) σ m r σ' m') : Ev d M pc L (v :: u :: st) σ m r σ' m' :=
  Ev.lift (fun {A} {p l e R s mi args below meth c H locs cells slots Q ls} hX hb _ k => lv_dup2_11 hX hb hd (by rw [q_cat_eq]; exact hv) (by rw [q_cat_eq]; exact hu) k) k
theorem Ev.goto {off : Int} {tgt : Nat} (hd : decode M.2.1 pc = .ok (.goto off, 3)) (ht : (pc : Int) + off = (tgt : Int)) (k : Ev d M tgt L st σ m r σ' m') : Ev d M pc L st σ m r σ' m' :=
  Ev.lift (fun hX hb _ k => lv_goto hX hb hd ht k) k
-- how the kit states each branch is met by simp over both forms
theorem Ev.icmp_ne {x y : Int} {off : Int} {tgt : Nat} (hd : decode M.2.1 pc = .ok (.if_icmp .ne off, 3)) (ht : (pc : Int) + off = (tgt : Int)) (hx : -2147483648 ≤ x ∧ x ≤ 2147483647) (hy : -2147483648 ≤ y ∧ y ≤ 2147483647) (k1 : ¬ x = y → Ev d M tgt L st σ m r σ' m') (k2 : x = y → Ev d M (pc + 3) L st σ m r σ' m') : Ev d M pc L (vi y :: vi x :: st) σ m r σ' m' :=
  Ev.two (P := ¬ x = y) (fun hX hb k1 k2 => lv_icmp_ne hX hb hd ht (fun q => k1 (fun z => q ((q_eq hx hy).mpr z))) (fun q => k2 (fun z => z ((q_eq hx hy).mp q)))) k1 (fun z => k2 (Decidable.of_not_not z))
theorem Ev.if_ne {x : Int} {off : Int} {tgt : Nat} (hd : decode M.2.1 pc = .ok (.ifCond .ne off, 3)) (ht : (pc : Int) + off = (tgt : Int)) (hx : -2147483648 ≤ x ∧ x ≤ 2147483647) (k1 : ¬ x = 0 → Ev d M tgt L st σ m r σ' m') (k2 : x = 0 → Ev d M (pc + 3) L st σ m r σ' m') : Ev d M pc L (vi x :: st) σ m r σ' m' := by
  have hy : -2147483648 ≤ (0 : Int) ∧ (0 : Int) ≤ 2147483647 := by omega
  exact Ev.two (P := ¬ x = 0) (fun hX hb k1 k2 => lv_if_ne hX hb hd ht (fun q => k1 (fun z => q ((q_eq hx hy).mpr z))) (fun q => k2 (fun z => z ((q_eq hx hy).mp q)))) k1 (fun z => k2 (Decidable.of_not_not z))
theorem Ev.icmp_eq {x y : Int} {off : Int} {tgt : Nat} (hd : decode M.2.1 pc = .ok (.if_icmp .eq off, 3)) (ht : (pc : Int) + off = (tgt : Int)) (hx : -2147483648 ≤ x ∧ x ≤ 2147483647) (hy : -2147483648 ≤ y ∧ y ≤ 2147483647) (k1 : x = y → Ev d M tgt L st σ m r σ' m') (k2 : ¬ (x = y) → Ev d M (pc + 3) L st σ m r σ' m') : Ev d M pc L (vi y :: vi x :: st) σ m r σ' m' :=
  Ev.two (P := x = y) (fun hX hb k1 k2 => lv_icmp_eq hX hb hd ht (fun q => k1 (by first | exact (q_eq hx hy).mp q | exact (q_lt hx hy).mp q | exact (q_le hx hy).mp q | exact (q_lt hy hx).mp q | exact (q_le hy hx).mp q | (rw [q_eq hx hy] at q; exact q) | (rw [ne_eq, q_eq hx hy] at q; exact q))) (fun q => k2 (by first | (rw [q_eq hx hy] at q; exact q) | (rw [q_lt hx hy] at q; exact q) | (rw [q_le hx hy] at q; exact q) | (rw [q_lt hy hx] at q; exact q) | (rw [q_le hy hx] at q; exact q) | (rw [ne_eq, q_eq hx hy] at q; exact q)))) k1 k2
theorem Ev.if_eq {x : Int} {off : Int} {tgt : Nat} (hd : decode M.2.1 pc = .ok (.ifCond .eq off, 3)) (ht : (pc : Int) + off = (tgt : Int)) (hx : -2147483648 ≤ x ∧ x ≤ 2147483647) (k1 : x = 0 → Ev d M tgt L st σ m r σ' m') (k2 : ¬ (x = 0) → Ev d M (pc + 3) L st σ m r σ' m') : Ev d M pc L (vi x :: st) σ m r σ' m' := by
  have hy : -2147483648 ≤ (0 : Int) ∧ (0 : Int) ≤ 2147483647 := by omega
  exact Ev.two (P := x = 0) (fun hX hb k1 k2 => lv_if_eq hX hb hd ht (fun q => k1 (by first | exact (q_eq hx hy).mp q | exact (q_lt hx hy).mp q | exact (q_le hx hy).mp q | exact (q_lt hy hx).mp q | exact (q_le hy hx).mp q | (rw [q_z, q_eq hx hy] at q; exact q) | (rw [ne_eq, q_z, q_eq hx hy] at q; exact q))) (fun q => k2 (by rw [q_z] at q; first | (rw [q_eq hx hy] at q; exact q) | (rw [q_lt hx hy] at q; exact q) | (rw [q_le hx hy] at q; exact q) | (rw [q_lt hy hx] at q; exact q) | (rw [q_le hy hx] at q; exact q) | (rw [ne_eq, q_eq hx hy] at q; exact q)))) k1 k2
theorem Ev.icmp_lt {x y : Int} {off : Int} {tgt : Nat} (hd : decode M.2.1 pc = .ok (.if_icmp .lt off, 3)) (ht : (pc : Int) + off = (tgt : Int)) (hx : -2147483648 ≤ x ∧ x ≤ 2147483647) (hy : -2147483648 ≤ y ∧ y ≤ 2147483647) (k1 : x < y → Ev d M tgt L st σ m r σ' m') (k2 : ¬ (x < y) → Ev d M (pc + 3) L st σ m r σ' m') : Ev d M pc L (vi y :: vi x :: st) σ m r σ' m' :=
  Ev.two (P := x < y) (fun hX hb k1 k2 => lv_icmp_lt hX hb hd ht (fun q => k1 (by first | exact (q_eq hx hy).mp q | exact (q_lt hx hy).mp q | exact (q_le hx hy).mp q | exact (q_lt hy hx).mp q | exact (q_le hy hx).mp q | (rw [q_eq hx hy] at q; exact q) | (rw [ne_eq, q_eq hx hy] at q; exact q))) (fun q => k2 (by first | (rw [q_eq hx hy] at q; exact q) | (rw [q_lt hx hy] at q; exact q) | (rw [q_le hx hy] at q; exact q) | (rw [q_lt hy hx] at q; exact q) | (rw [q_le hy hx] at q; exact q) | (rw [ne_eq, q_eq hx hy] at q; exact q)))) k1 k2
theorem Ev.if_lt {x : Int} {off : Int} {tgt : Nat} (hd : decode M.2.1 pc = .ok (.ifCond .lt off, 3)) (ht : (pc : Int) + off = (tgt : Int)) (hx : -2147483648 ≤ x ∧ x ≤ 2147483647) (k1 : x < 0 → Ev d M tgt L st σ m r σ' m') (k2 : ¬ (x < 0) → Ev d M (pc + 3) L st σ m r σ' m') : Ev d M pc L (vi x :: st) σ m r σ' m' := by
  have hy : -2147483648 ≤ (0 : Int) ∧ (0 : Int) ≤ 2147483647 := by omega
  exact Ev.two (P := x < 0) (fun hX hb k1 k2 => lv_if_lt hX hb hd ht (fun q => k1 (by first | exact (q_eq hx hy).mp q | exact (q_lt hx hy).mp q | exact (q_le hx hy).mp q | exact (q_lt hy hx).mp q | exact (q_le hy hx).mp q | (rw [q_z, q_eq hx hy] at q; exact q) | (rw [ne_eq, q_z, q_eq hx hy] at q; exact q))) (fun q => k2 (by rw [q_z] at q; first | (rw [q_eq hx hy] at q; exact q) | (rw [q_lt hx hy] at q; exact q) | (rw [q_le hx hy] at q; exact q) | (rw [q_lt hy hx] at q; exact q) | (rw [q_le hy hx] at q; exact q) | (rw [ne_eq, q_eq hx hy] at q; exact q)))) k1 k2
theorem Ev.icmp_ge {x y : Int} {off : Int} {tgt : Nat} (hd : decode M.2.1 pc = .ok (.if_icmp .ge off, 3)) (ht : (pc : Int) + off = (tgt : Int)) (hx : -2147483648 ≤ x ∧ x ≤ 2147483647) (hy : -2147483648 ≤ y ∧ y ≤ 2147483647) (k1 : y ≤ x → Ev d M tgt L st σ m r σ' m') (k2 : ¬ (y ≤ x) → Ev d M (pc + 3) L st σ m r σ' m') : Ev d M pc L (vi y :: vi x :: st) σ m r σ' m' :=
  Ev.two (P := y ≤ x) (fun hX hb k1 k2 => lv_icmp_ge hX hb hd ht (fun q => k1 (by first | exact (q_eq hx hy).mp q | exact (q_lt hx hy).mp q | exact (q_le hx hy).mp q | exact (q_lt hy hx).mp q | exact (q_le hy hx).mp q | (rw [q_eq hx hy] at q; exact q) | (rw [ne_eq, q_eq hx hy] at q; exact q))) (fun q => k2 (by first | (rw [q_eq hx hy] at q; exact q) | (rw [q_lt hx hy] at q; exact q) | (rw [q_le hx hy] at q; exact q) | (rw [q_lt hy hx] at q; exact q) | (rw [q_le hy hx] at q; exact q) | (rw [ne_eq, q_eq hx hy] at q; exact q)))) k1 k2
theorem Ev.if_ge {x : Int} {off : Int} {tgt : Nat} (hd : decode M.2.1 pc = .ok (.ifCond .ge off, 3)) (ht : (pc : Int) + off = (tgt : Int)) (hx : -2147483648 ≤ x ∧ x ≤ 2147483647) (k1 : 0 ≤ x → Ev d M tgt L st σ m r σ' m') (k2 : ¬ (0 ≤ x) → Ev d M (pc + 3) L st σ m r σ' m') : Ev d M pc L (vi x :: st) σ m r σ' m' := by
  have hy : -2147483648 ≤ (0 : Int) ∧ (0 : Int) ≤ 2147483647 := by omega
  exact Ev.two (P := 0 ≤ x) (fun hX hb k1 k2 => lv_if_ge hX hb hd ht (fun q => k1 (by first | exact (q_eq hx hy).mp q | exact (q_lt hx hy).mp q | exact (q_le hx hy).mp q | exact (q_lt hy hx).mp q | exact (q_le hy hx).mp q | (rw [q_z, q_eq hx hy] at q; exact q) | (rw [ne_eq, q_z, q_eq hx hy] at q; exact q))) (fun q => k2 (by rw [q_z] at q; first | (rw [q_eq hx hy] at q; exact q) | (rw [q_lt hx hy] at q; exact q) | (rw [q_le hx hy] at q; exact q) | (rw [q_lt hy hx] at q; exact q) | (rw [q_le hy hx] at q; exact q) | (rw [ne_eq, q_eq hx hy] at q; exact q)))) k1 k2
theorem Ev.icmp_gt {x y : Int} {off : Int} {tgt : Nat} (hd : decode M.2.1 pc = .ok (.if_icmp .gt off, 3)) (ht : (pc : Int) + off = (tgt : Int)) (hx : -2147483648 ≤ x ∧ x ≤ 2147483647) (hy : -2147483648 ≤ y ∧ y ≤ 2147483647) (k1 : y < x → Ev d M tgt L st σ m r σ' m') (k2 : ¬ (y < x) → Ev d M (pc + 3) L st σ m r σ' m') : Ev d M pc L (vi y :: vi x :: st) σ m r σ' m' :=
  Ev.two (P := y < x) (fun hX hb k1 k2 => lv_icmp_gt hX hb hd ht (fun q => k1 (by first | exact (q_eq hx hy).mp q | exact (q_lt hx hy).mp q | exact (q_le hx hy).mp q | exact (q_lt hy hx).mp q | exact (q_le hy hx).mp q | (rw [q_eq hx hy] at q; exact q) | (rw [ne_eq, q_eq hx hy] at q; exact q))) (fun q => k2 (by first | (rw [q_eq hx hy] at q; exact q) | (rw [q_lt hx hy] at q; exact q) | (rw [q_le hx hy] at q; exact q) | (rw [q_lt hy hx] at q; exact q) | (rw [q_le hy hx] at q; exact q) | (rw [ne_eq, q_eq hx hy] at q; exact q)))) k1 k2
theorem Ev.if_gt {x : Int} {off : Int} {tgt : Nat} (hd : decode M.2.1 pc = .ok (.ifCond .gt off, 3)) (ht : (pc : Int) + off = (tgt : Int)) (hx : -2147483648 ≤ x ∧ x ≤ 2147483647) (k1 : 0 < x → Ev d M tgt L st σ m r σ' m') (k2 : ¬ (0 < x) → Ev d M (pc + 3) L st σ m r σ' m') : Ev d M pc L (vi x :: st) σ m r σ' m' := by
  have hy : -2147483648 ≤ (0 : Int) ∧ (0 : Int) ≤ 2147483647 := by omega
  exact Ev.two (P := 0 < x) (fun hX hb k1 k2 => lv_if_gt hX hb hd ht (fun q => k1 (by first | exact (q_eq hx hy).mp q | exact (q_lt hx hy).mp q | exact (q_le hx hy).mp q | exact (q_lt hy hx).mp q | exact (q_le hy hx).mp q | (rw [q_z, q_eq hx hy] at q; exact q) | (rw [ne_eq, q_z, q_eq hx hy] at q; exact q))) (fun q => k2 (by rw [q_z] at q; first | (rw [q_eq hx hy] at q; exact q) | (rw [q_lt hx hy] at q; exact q) | (rw [q_le hx hy] at q; exact q) | (rw [q_lt hy hx] at q; exact q) | (rw [q_le hy hx] at q; exact q) | (rw [ne_eq, q_eq hx hy] at q; exact q)))) k1 k2
theorem Ev.icmp_le {x y : Int} {off : Int} {tgt : Nat} (hd : decode M.2.1 pc = .ok (.if_icmp .le off, 3)) (ht : (pc : Int) + off = (tgt : Int)) (hx : -2147483648 ≤ x ∧ x ≤ 2147483647) (hy : -2147483648 ≤ y ∧ y ≤ 2147483647) (k1 : x ≤ y → Ev d M tgt L st σ m r σ' m') (k2 : ¬ (x ≤ y) → Ev d M (pc + 3) L st σ m r σ' m') : Ev d M pc L (vi y :: vi x :: st) σ m r σ' m' :=
  Ev.two (P := x ≤ y) (fun hX hb k1 k2 => lv_icmp_le hX hb hd ht (fun q => k1 (by first | exact (q_eq hx hy).mp q | exact (q_lt hx hy).mp q | exact (q_le hx hy).mp q | exact (q_lt hy hx).mp q | exact (q_le hy hx).mp q | (rw [q_eq hx hy] at q; exact q) | (rw [ne_eq, q_eq hx hy] at q; exact q))) (fun q => k2 (by first | (rw [q_eq hx hy] at q; exact q) | (rw [q_lt hx hy] at q; exact q) | (rw [q_le hx hy] at q; exact q) | (rw [q_lt hy hx] at q; exact q) | (rw [q_le hy hx] at q; exact q) | (rw [ne_eq, q_eq hx hy] at q; exact q)))) k1 k2
theorem Ev.if_le {x : Int} {off : Int} {tgt : Nat} (hd : decode M.2.1 pc = .ok (.ifCond .le off, 3)) (ht : (pc : Int) + off = (tgt : Int)) (hx : -2147483648 ≤ x ∧ x ≤ 2147483647) (k1 : x ≤ 0 → Ev d M tgt L st σ m r σ' m') (k2 : ¬ (x ≤ 0) → Ev d M (pc + 3) L st σ m r σ' m') : Ev d M pc L (vi x :: st) σ m r σ' m' := by
  have hy : -2147483648 ≤ (0 : Int) ∧ (0 : Int) ≤ 2147483647 := by omega
  exact Ev.two (P := x ≤ 0) (fun hX hb k1 k2 => lv_if_le hX hb hd ht (fun q => k1 (by first | exact (q_eq hx hy).mp q | exact (q_lt hx hy).mp q | exact (q_le hx hy).mp q | exact (q_lt hy hx).mp q | exact (q_le hy hx).mp q | (rw [q_z, q_eq hx hy] at q; exact q) | (rw [ne_eq, q_z, q_eq hx hy] at q; exact q))) (fun q => k2 (by rw [q_z] at q; first | (rw [q_eq hx hy] at q; exact q) | (rw [q_lt hx hy] at q; exact q) | (rw [q_le hx hy] at q; exact q) | (rw [q_lt hy hx] at q; exact q) | (rw [q_le hy hx] at q; exact q) | (rw [ne_eq, q_eq hx hy] at q; exact q)))) k1 k2
theorem Ev.ifnonnull {x : Int} {off : Int} {tgt : Nat} (hd : decode M.2.1 pc = .ok (.ifnonnull off, 3)) (ht : (pc : Int) + off = (tgt : Int)) (k1 : 0 ≤ x → Ev d M tgt L st σ m r σ' m') (k2 : ¬ (0 ≤ x) → Ev d M (pc + 3) L st σ m r σ' m') : Ev d M pc L (vr x :: st) σ m r σ' m' := by
  refine Ev.two (P := 0 ≤ x) (fun {A} {p l e R s mi args below meth c H locs cells slots Q ls} hX hb k1 k2 => ?_) k1 k2
  simp only [List.map_cons, q_cv]
  by_cases h : x < 0
  · rw [if_pos h]; exact lv_ifnonnullN hX hb hd (k2 (by omega))
  · rw [if_neg h]; exact lv_ifnonnull hX hb hd ht (k1 (by omega))
theorem Ev.ifnull {x : Int} {off : Int} {tgt : Nat} (hd : decode M.2.1 pc = .ok (.ifnull off, 3)) (ht : (pc : Int) + off = (tgt : Int)) (k1 : x < 0 → Ev d M tgt L st σ m r σ' m') (k2 : ¬ (x < 0) → Ev d M (pc + 3) L st σ m r σ' m') : Ev d M pc L (vr x :: st) σ m r σ' m' := by
  refine Ev.two (P := x < 0) (fun {A} {p l e R s mi args below meth c H locs cells slots Q ls} hX hb k1 k2 => ?_) k1 k2
  simp only [List.map_cons, q_cv]
  by_cases h : x < 0
  · rw [if_pos h]; exact lv_ifnullN hX hb hd ht (k1 h)
  · rw [if_neg h]; exact lv_ifnull hX hb hd (k2 h)
theorem Ev.tableOut {x : Int} {dflt lo hi : Int} {offs : Array Int} {len tgt : Nat} (hd : decode M.2.1 pc = .ok (.tableswitch dflt lo hi offs, len)) (hx : -2147483648 ≤ x ∧ x ≤ 2147483647) (h : x < lo ∨ hi < x) (ht : (pc : Int) + dflt = (tgt : Int)) (k : Ev d M tgt L st σ m r σ' m') : Ev d M pc L (vi x :: st) σ m r σ' m' :=
  Ev.lift (fun hX hb _ k => lv_tableOut hX hb hd (by rw [q_i32 hx]; exact h) ht k) k
theorem Ev.tableIn {x : Int} {dflt lo hi : Int} {offs : Array Int} {len tgt : Nat} {off : Int} (hd : decode M.2.1 pc = .ok (.tableswitch dflt lo hi offs, len)) (hx : -2147483648 ≤ x ∧ x ≤ 2147483647) (h1 : ¬ x < lo) (h2 : ¬ hi < x) (ho : offs[(x - lo).toNat]? = some off) (ht : (pc : Int) + off = (tgt : Int)) (k : Ev d M tgt L st σ m r σ' m') : Ev d M pc L (vi x :: st) σ m r σ' m' :=
  Ev.lift (fun hX hb _ k => lv_tableIn hX hb hd (by rw [q_i32 hx]; exact h1) (by rw [q_i32 hx]; exact h2) (by rw [q_i32 hx]; exact ho) ht k) k
end
end
section
section
variable {d : Nat} {M : Md} {pc : Nat} {L : List (Option AV)} {st : List AV} {σ σ' : Sg} {m m' : Mm} {r : Option AV}
/-- storing one slot: a long that would be cut is forgotten -/
def q_nl (x : Option (Option AV)) : Bool := match x with
  | some (some (.inr (.inl _))) => false
  | _ => true
def q_prs (A : Int → Nat) (L : List (Option AV)) : List (Nat × Value) := (List.range L.length).filterMap (fun i => match L[i]? with
  | some (some v) => some (i, q_cv A v)
  | _ => none)
theorem q_prs_in {A : Int → Nat} {L : List (Option AV)} {i : Nat} {v : AV} (h : L[i]? = some (some v)) : (i, q_cv A v) ∈ q_prs A L := by
  refine List.mem_filterMap.mpr ⟨i, List.mem_range.mpr (List.getElem?_eq_some_iff.mp h).1, ?_⟩
  rw [h]
theorem q_prs_has {A : Int → Nat} {L : List (Option AV)} {ls : Array Slot} (h : q_LR A L ls) : lv_has ls L.length (q_prs A L) := by
  refine ⟨h.1, h.2.1, fun q hq => ?_⟩
  obtain ⟨i, -, hi⟩ := List.mem_filterMap.mp hq
  cases hL : L[i]? with
  | none => rw [hL] at hi; cases hi
  | some x =>
    cases x with
    | none => rw [hL] at hi; cases hi
    | some v =>
      rw [hL] at hi
      cases hi
      exact h.2.2 i v hL
theorem q_LR1 {A : Int → Nat} {L : List (Option AV)} {i : Nat} {v : AV} {ls : Array Slot} (hn : ∀ j, j + 1 = i → q_nl L[j]? = true) (h : lv_has ls L.length ((i, q_cv A v) :: (q_prs A L).filter (fun q => !(q.1 == i) && !(q.1 + 1 == i && q.2.category == 2)))) : q_LR A (L.set i (some v)) ls := by
  refine ⟨by rw [List.length_set]; exact h.1, h.2.1, fun j u hj => ?_⟩
  by_cases hji : i = j
  · subst hji
    by_cases hl : i < L.length
    · rw [List.getElem?_set_self hl] at hj
      cases hj
      exact h.2.2 _ List.mem_cons_self
    · rw [List.getElem?_eq_none (by rw [List.length_set]; omega)] at hj
      cases hj
  · rw [List.getElem?_set_ne hji] at hj
    refine h.2.2 (j, q_cv A u) (List.mem_cons_of_mem _ (List.mem_filter.mpr ⟨q_prs_in hj, ?_⟩))
    have hc : j + 1 = i → (q_cv A u).category ≠ 2 := by
      intro e
      have := hn j e
      rw [hj] at this
      rw [q_cat_eq]
      rcases u with x | x | x
      · simp [q_cat]
      · simp [q_nl] at this
      · simp [q_cat]
    simp only [Bool.and_eq_true, Bool.not_eq_true', beq_eq_false_iff_ne, ne_eq, Bool.and_eq_false_iff]
    refine ⟨fun e => hji e.symm, ?_⟩
    by_cases e : j + 1 = i
    · exact Or.inr (hc e)
    · exact Or.inl e
theorem q_LR2 {A : Int → Nat} {L : List (Option AV)} {i : Nat} {v : AV} {ls : Array Slot} (hn : ∀ j, j + 1 = i → q_nl L[j]? = true) (h : lv_has ls L.length ((i, q_cv A v) :: (q_prs A L).filter (fun q => !(q.1 == i) && (!(q.1 == i + 1) && !(q.1 + 1 == i && q.2.category == 2))))) : q_LR A ((L.set i (some v)).set (i + 1) none) ls := by
  refine ⟨by rw [List.length_set, List.length_set]; exact h.1, h.2.1, fun j u hj => ?_⟩
  by_cases hj1 : i + 1 = j
  · subst hj1
    by_cases hl : i + 1 < (L.set i (some v)).length
    · rw [List.getElem?_set_self hl] at hj
      cases hj
    · rw [List.getElem?_eq_none (by rw [List.length_set]; omega)] at hj
      cases hj
  rw [List.getElem?_set_ne hj1] at hj
  by_cases hji : i = j
  · subst hji
    by_cases hl : i < L.length
    · rw [List.getElem?_set_self hl] at hj
      cases hj
      exact h.2.2 _ List.mem_cons_self
    · rw [List.getElem?_eq_none (by rw [List.length_set]; omega)] at hj
      cases hj
  · rw [List.getElem?_set_ne hji] at hj
    refine h.2.2 (j, q_cv A u) (List.mem_cons_of_mem _ (List.mem_filter.mpr ⟨q_prs_in hj, ?_⟩))
    have hc : j + 1 = i → (q_cv A u).category ≠ 2 := by
      intro e
      have := hn j e
      rw [hj] at this
      rw [q_cat_eq]
      rcases u with x | x | x
      · simp [q_cat]
      · simp [q_nl] at this
      · simp [q_cat]
    simp only [Bool.and_eq_true, Bool.not_eq_true', beq_eq_false_iff_ne, ne_eq, Bool.and_eq_false_iff]
    refine ⟨fun e => hji e.symm, fun e => hj1 e.symm, ?_⟩
    by_cases e : j + 1 = i
    · exact Or.inr (hc e)
    · exact Or.inl e
theorem Ev.liftL {pc2 : Nat} {L2 : List (Option AV)} {st2 : List AV} (h : ∀ {A : Int → Nat} {p : Program} {l : Launch} {e : Env} {R : Room} {s : State} {mi : MethodId} {args : Array Value} {below : List Frame} {meth : Method} {c : Code} {H : Heap} {locs : List Loc} {cells slots : Nat} {Q : State → Prop} {ls : Array Slot}, p.tables.exec = Jvm.exec → c.code = M.2.1 → q_LR A L ls → (∀ ls' : Array Slot, q_LR A L2 ls' → W p l e R s mi args below meth c H locs cells slots Q (F0 mi pc2 ls' (st2.map (q_cv A)))) → W p l e R s mi args below meth c H locs cells slots Q (F0 mi pc ls (st.map (q_cv A)))) (k : Ev d M pc2 L2 st2 σ m r σ' m') : Ev d M pc L st σ m r σ' m' :=
  ⟨k.1, fun l s0 b pf pt D hG p e R s mi args below meth c n0 k0 hC h1 h2 h3 h4 H locs ls hH hf hl => h hC.1 hC.2.1 hl (fun ls' hl' => k.2 l s0 b pf pt D hG p e R s mi args below meth c n0 k0 hC h1 h2 h3 h4 H locs ls' hH hf hl')⟩
theorem Ev.istore_n0 {k : Fin 4} {i : Nat} {x : Int} (hd : decode M.2.1 pc = .ok (.istore_n k, 1)) (hi : (k : Nat) = i) (hL : i < L.length) (hn : ∀ j, j + 1 = i → q_nl L[j]? = true) (kk : Ev d M (pc + 1) (L.set i (some (vi x))) st σ m r σ' m') : Ev d M pc L (vi x :: st) σ m r σ' m' :=
  Ev.liftL (fun hX hb hl k => lv_istore_n hX hb hd hi (q_prs_has hl) hL rfl (fun ls' h => k ls' (q_LR1 (v := vi x) hn h))) kk
theorem Ev.istore0 {i : Nat} {x : Int} (hd : decode M.2.1 pc = .ok (.istore i, 2)) (hL : i < L.length) (hn : ∀ j, j + 1 = i → q_nl L[j]? = true) (kk : Ev d M (pc + 2) (L.set i (some (vi x))) st σ m r σ' m') : Ev d M pc L (vi x :: st) σ m r σ' m' :=
  Ev.liftL (fun hX hb hl k => lv_istore hX hb hd (q_prs_has hl) hL rfl (fun ls' h => k ls' (q_LR1 (v := vi x) hn h))) kk
theorem Ev.astore_n0 {k : Fin 4} {i : Nat} {x : Int} (hd : decode M.2.1 pc = .ok (.astore_n k, 1)) (hi : (k : Nat) = i) (hL : i < L.length) (hn : ∀ j, j + 1 = i → q_nl L[j]? = true) (kk : Ev d M (pc + 1) (L.set i (some (vr x))) st σ m r σ' m') : Ev d M pc L (vr x :: st) σ m r σ' m' := by
  refine Ev.liftL (fun {A} {p l e R s mi args below meth c H locs cells slots Q ls} hX hb hl k => ?_) kk
  have e1 : ∀ ls', lv_has ls' L.length ((i, q_cv A (vr x)) :: (q_prs A L).filter (fun q => !(q.1 == i) && !(q.1 + 1 == i && q.2.category == 2))) → W p l e R s mi args below meth c H locs cells slots Q (F0 mi (pc + 1) ls' (st.map (q_cv A))) := fun ls' h => k ls' (q_LR1 (v := vr x) hn h)
  simp only [List.map_cons]
  simp only [q_cv] at e1 ⊢
  by_cases h : x < 0
  · rw [if_pos h]
    simp only [if_pos h] at e1
    exact lv_astore_nN hX hb hd hi (q_prs_has hl) hL rfl e1
  · rw [if_neg h]
    simp only [if_neg h] at e1
    exact lv_astore_n hX hb hd hi (q_prs_has hl) hL rfl e1
theorem Ev.astore0 {i : Nat} {x : Int} (hd : decode M.2.1 pc = .ok (.astore i, 2)) (hL : i < L.length) (hn : ∀ j, j + 1 = i → q_nl L[j]? = true) (kk : Ev d M (pc + 2) (L.set i (some (vr x))) st σ m r σ' m') : Ev d M pc L (vr x :: st) σ m r σ' m' := by
  refine Ev.liftL (fun {A} {p l e R s mi args below meth c H locs cells slots Q ls} hX hb hl k => ?_) kk
  have e1 : ∀ ls', lv_has ls' L.length ((i, q_cv A (vr x)) :: (q_prs A L).filter (fun q => !(q.1 == i) && !(q.1 + 1 == i && q.2.category == 2))) → W p l e R s mi args below meth c H locs cells slots Q (F0 mi (pc + 2) ls' (st.map (q_cv A))) := fun ls' h => k ls' (q_LR1 (v := vr x) hn h)
  simp only [List.map_cons]
  simp only [q_cv] at e1 ⊢
  by_cases h : x < 0
  · rw [if_pos h]
    simp only [if_pos h] at e1
    exact lv_astoreN hX hb hd (q_prs_has hl) hL rfl e1
  · rw [if_neg h]
    simp only [if_neg h] at e1
    exact lv_astore hX hb hd (q_prs_has hl) hL rfl e1
theorem Ev.lstore_n0 {k : Fin 4} {i : Nat} {x : Int} (hd : decode M.2.1 pc = .ok (.lstore_n k, 1)) (hi : (k : Nat) = i) (hL : i + 1 < L.length) (hn : ∀ j, j + 1 = i → q_nl L[j]? = true) (kk : Ev d M (pc + 1) ((L.set i (some (vl x))).set (i + 1) none) st σ m r σ' m') : Ev d M pc L (vl x :: st) σ m r σ' m' :=
  Ev.liftL (fun hX hb hl k => lv_lstore_n hX hb hd hi (q_prs_has hl) hL rfl (fun ls' h => k ls' (q_LR2 (v := vl x) hn h))) kk
theorem Ev.lstore0 {i : Nat} {x : Int} (hd : decode M.2.1 pc = .ok (.lstore i, 2)) (hL : i + 1 < L.length) (hn : ∀ j, j + 1 = i → q_nl L[j]? = true) (kk : Ev d M (pc + 2) ((L.set i (some (vl x))).set (i + 1) none) st σ m r σ' m') : Ev d M pc L (vl x :: st) σ m r σ' m' :=
  Ev.liftL (fun hX hb hl k => lv_lstore hX hb hd (q_prs_has hl) hL rfl (fun ls' h => k ls' (q_LR2 (v := vl x) hn h))) kk
theorem Ev.iinc0 {i : Nat} {n x : Int} (hd : decode M.2.1 pc = .ok (.iinc i n, 3)) (hv : L[i]? = some (some (vi x))) (hn : ∀ j, j + 1 = i → q_nl L[j]? = true) (kk : Ev d M (pc + 3) (L.set i (some (vi (x + n)))) st σ m r σ' m') : Ev d M pc L st σ m r σ' m' :=
  Ev.liftL (fun {A} {p l e R s mi args below meth c H locs cells slots Q ls} hX hb hl k => by
    obtain ⟨q, hq⟩ := List.getElem?_of_mem (q_prs_in (A := A) hv)
    exact lv_iinc hX hb hd (q_prs_has hl) hq rfl (List.getElem?_eq_some_iff.mp hv).1 rfl (fun ls' h => k ls' (q_LR1 (v := vi (x + n)) hn (by simp only [q_cv, Int32.ofInt_add]; exact h)))) kk
theorem q_pn {L : List (Option AV)} {i : Nat} (h : q_nl L[i]? = true) : ∀ j, j + 1 = i + 1 → q_nl L[j]? = true := fun j e => by
  have e2 : j = i := by omega
  rw [e2]
  exact h
theorem Ev.istore_0 {b : Option AV} {t : List (Option AV)} {x : Int} (hd : decode M.2.1 pc = .ok (.istore_n 0, 1)) (kk : Ev d M (pc + 1) (some (vi x) :: t) st σ m r σ' m') : Ev d M pc (b :: t) (vi x :: st) σ m r σ' m' :=
  Ev.istore_n0 hd (i := 0) rfl (by simp only [List.length_cons]; omega) (fun j e => by omega) kk
theorem Ev.astore_0 {b : Option AV} {t : List (Option AV)} {x : Int} (hd : decode M.2.1 pc = .ok (.astore_n 0, 1)) (kk : Ev d M (pc + 1) (some (vr x) :: t) st σ m r σ' m') : Ev d M pc (b :: t) (vr x :: st) σ m r σ' m' :=
  Ev.astore_n0 hd (i := 0) rfl (by simp only [List.length_cons]; omega) (fun j e => by omega) kk
theorem Ev.iinc_0 {t : List (Option AV)} {n x : Int} (hd : decode M.2.1 pc = .ok (.iinc 0 n, 3)) (kk : Ev d M (pc + 3) (some (vi (x + n)) :: t) st σ m r σ' m') : Ev d M pc (some (vi x) :: t) st σ m r σ' m' :=
  Ev.iinc0 hd (i := 0) rfl (fun j e => by omega) kk
theorem Ev.lstore_0 {b b2 : Option AV} {t : List (Option AV)} {x : Int} (hd : decode M.2.1 pc = .ok (.lstore_n 0, 1)) (kk : Ev d M (pc + 1) (some (vl x) :: none :: t) st σ m r σ' m') : Ev d M pc (b :: b2 :: t) (vl x :: st) σ m r σ' m' :=
  Ev.lstore_n0 hd (i := 0) rfl (by simp only [List.length_cons]; omega) (fun j e => by omega) kk
theorem Ev.istore_1 {a0 : Option AV} {b : Option AV} {t : List (Option AV)} {x : Int} (hd : decode M.2.1 pc = .ok (.istore_n 1, 1)) (hn : q_nl (some a0) = true) (kk : Ev d M (pc + 1) (a0 :: some (vi x) :: t) st σ m r σ' m') : Ev d M pc (a0 :: b :: t) (vi x :: st) σ m r σ' m' :=
  Ev.istore_n0 hd (i := 1) rfl (by simp only [List.length_cons]; omega) (q_pn (i := 0) hn) kk
theorem Ev.astore_1 {a0 : Option AV} {b : Option AV} {t : List (Option AV)} {x : Int} (hd : decode M.2.1 pc = .ok (.astore_n 1, 1)) (hn : q_nl (some a0) = true) (kk : Ev d M (pc + 1) (a0 :: some (vr x) :: t) st σ m r σ' m') : Ev d M pc (a0 :: b :: t) (vr x :: st) σ m r σ' m' :=
  Ev.astore_n0 hd (i := 1) rfl (by simp only [List.length_cons]; omega) (q_pn (i := 0) hn) kk
theorem Ev.iinc_1 {a0 : Option AV} {t : List (Option AV)} {n x : Int} (hd : decode M.2.1 pc = .ok (.iinc 1 n, 3)) (hn : q_nl (some a0) = true) (kk : Ev d M (pc + 3) (a0 :: some (vi (x + n)) :: t) st σ m r σ' m') : Ev d M pc (a0 :: some (vi x) :: t) st σ m r σ' m' :=
  Ev.iinc0 hd (i := 1) rfl (q_pn (i := 0) hn) kk
theorem Ev.lstore_1 {a0 : Option AV} {b b2 : Option AV} {t : List (Option AV)} {x : Int} (hd : decode M.2.1 pc = .ok (.lstore_n 1, 1)) (hn : q_nl (some a0) = true) (kk : Ev d M (pc + 1) (a0 :: some (vl x) :: none :: t) st σ m r σ' m') : Ev d M pc (a0 :: b :: b2 :: t) (vl x :: st) σ m r σ' m' :=
  Ev.lstore_n0 hd (i := 1) rfl (by simp only [List.length_cons]; omega) (q_pn (i := 0) hn) kk
theorem Ev.istore_2 {a0 a1 : Option AV} {b : Option AV} {t : List (Option AV)} {x : Int} (hd : decode M.2.1 pc = .ok (.istore_n 2, 1)) (hn : q_nl (some a1) = true) (kk : Ev d M (pc + 1) (a0 :: a1 :: some (vi x) :: t) st σ m r σ' m') : Ev d M pc (a0 :: a1 :: b :: t) (vi x :: st) σ m r σ' m' :=
  Ev.istore_n0 hd (i := 2) rfl (by simp only [List.length_cons]; omega) (q_pn (i := 1) hn) kk
theorem Ev.astore_2 {a0 a1 : Option AV} {b : Option AV} {t : List (Option AV)} {x : Int} (hd : decode M.2.1 pc = .ok (.astore_n 2, 1)) (hn : q_nl (some a1) = true) (kk : Ev d M (pc + 1) (a0 :: a1 :: some (vr x) :: t) st σ m r σ' m') : Ev d M pc (a0 :: a1 :: b :: t) (vr x :: st) σ m r σ' m' :=
  Ev.astore_n0 hd (i := 2) rfl (by simp only [List.length_cons]; omega) (q_pn (i := 1) hn) kk
theorem Ev.iinc_2 {a0 a1 : Option AV} {t : List (Option AV)} {n x : Int} (hd : decode M.2.1 pc = .ok (.iinc 2 n, 3)) (hn : q_nl (some a1) = true) (kk : Ev d M (pc + 3) (a0 :: a1 :: some (vi (x + n)) :: t) st σ m r σ' m') : Ev d M pc (a0 :: a1 :: some (vi x) :: t) st σ m r σ' m' :=
  Ev.iinc0 hd (i := 2) rfl (q_pn (i := 1) hn) kk
theorem Ev.lstore_2 {a0 a1 : Option AV} {b b2 : Option AV} {t : List (Option AV)} {x : Int} (hd : decode M.2.1 pc = .ok (.lstore_n 2, 1)) (hn : q_nl (some a1) = true) (kk : Ev d M (pc + 1) (a0 :: a1 :: some (vl x) :: none :: t) st σ m r σ' m') : Ev d M pc (a0 :: a1 :: b :: b2 :: t) (vl x :: st) σ m r σ' m' :=
  Ev.lstore_n0 hd (i := 2) rfl (by simp only [List.length_cons]; omega) (q_pn (i := 1) hn) kk
theorem Ev.istore_3 {a0 a1 a2 : Option AV} {b : Option AV} {t : List (Option AV)} {x : Int} (hd : decode M.2.1 pc = .ok (.istore_n 3, 1)) (hn : q_nl (some a2) = true) (kk : Ev d M (pc + 1) (a0 :: a1 :: a2 :: some (vi x) :: t) st σ m r σ' m') : Ev d M pc (a0 :: a1 :: a2 :: b :: t) (vi x :: st) σ m r σ' m' :=
  Ev.istore_n0 hd (i := 3) rfl (by simp only [List.length_cons]; omega) (q_pn (i := 2) hn) kk
theorem Ev.astore_3 {a0 a1 a2 : Option AV} {b : Option AV} {t : List (Option AV)} {x : Int} (hd : decode M.2.1 pc = .ok (.astore_n 3, 1)) (hn : q_nl (some a2) = true) (kk : Ev d M (pc + 1) (a0 :: a1 :: a2 :: some (vr x) :: t) st σ m r σ' m') : Ev d M pc (a0 :: a1 :: a2 :: b :: t) (vr x :: st) σ m r σ' m' :=
  Ev.astore_n0 hd (i := 3) rfl (by simp only [List.length_cons]; omega) (q_pn (i := 2) hn) kk
theorem Ev.iinc_3 {a0 a1 a2 : Option AV} {t : List (Option AV)} {n x : Int} (hd : decode M.2.1 pc = .ok (.iinc 3 n, 3)) (hn : q_nl (some a2) = true) (kk : Ev d M (pc + 3) (a0 :: a1 :: a2 :: some (vi (x + n)) :: t) st σ m r σ' m') : Ev d M pc (a0 :: a1 :: a2 :: some (vi x) :: t) st σ m r σ' m' :=
  Ev.iinc0 hd (i := 3) rfl (q_pn (i := 2) hn) kk
theorem Ev.lstore_3 {a0 a1 a2 : Option AV} {b b2 : Option AV} {t : List (Option AV)} {x : Int} (hd : decode M.2.1 pc = .ok (.lstore_n 3, 1)) (hn : q_nl (some a2) = true) (kk : Ev d M (pc + 1) (a0 :: a1 :: a2 :: some (vl x) :: none :: t) st σ m r σ' m') : Ev d M pc (a0 :: a1 :: a2 :: b :: b2 :: t) (vl x :: st) σ m r σ' m' :=
  Ev.lstore_n0 hd (i := 3) rfl (by simp only [List.length_cons]; omega) (q_pn (i := 2) hn) kk
theorem Ev.istore_4 {a0 a1 a2 a3 : Option AV} {b : Option AV} {t : List (Option AV)} {x : Int} (hd : decode M.2.1 pc = .ok (.istore 4, 2)) (hn : q_nl (some a3) = true) (kk : Ev d M (pc + 2) (a0 :: a1 :: a2 :: a3 :: some (vi x) :: t) st σ m r σ' m') : Ev d M pc (a0 :: a1 :: a2 :: a3 :: b :: t) (vi x :: st) σ m r σ' m' :=
  Ev.istore0 hd (i := 4) (by simp only [List.length_cons]; omega) (q_pn (i := 3) hn) kk
theorem Ev.astore_4 {a0 a1 a2 a3 : Option AV} {b : Option AV} {t : List (Option AV)} {x : Int} (hd : decode M.2.1 pc = .ok (.astore 4, 2)) (hn : q_nl (some a3) = true) (kk : Ev d M (pc + 2) (a0 :: a1 :: a2 :: a3 :: some (vr x) :: t) st σ m r σ' m') : Ev d M pc (a0 :: a1 :: a2 :: a3 :: b :: t) (vr x :: st) σ m r σ' m' :=
  Ev.astore0 hd (i := 4) (by simp only [List.length_cons]; omega) (q_pn (i := 3) hn) kk
theorem Ev.iinc_4 {a0 a1 a2 a3 : Option AV} {t : List (Option AV)} {n x : Int} (hd : decode M.2.1 pc = .ok (.iinc 4 n, 3)) (hn : q_nl (some a3) = true) (kk : Ev d M (pc + 3) (a0 :: a1 :: a2 :: a3 :: some (vi (x + n)) :: t) st σ m r σ' m') : Ev d M pc (a0 :: a1 :: a2 :: a3 :: some (vi x) :: t) st σ m r σ' m' :=
  Ev.iinc0 hd (i := 4) rfl (q_pn (i := 3) hn) kk
theorem Ev.lstore_4 {a0 a1 a2 a3 : Option AV} {b b2 : Option AV} {t : List (Option AV)} {x : Int} (hd : decode M.2.1 pc = .ok (.lstore 4, 2)) (hn : q_nl (some a3) = true) (kk : Ev d M (pc + 2) (a0 :: a1 :: a2 :: a3 :: some (vl x) :: none :: t) st σ m r σ' m') : Ev d M pc (a0 :: a1 :: a2 :: a3 :: b :: b2 :: t) (vl x :: st) σ m r σ' m' :=
  Ev.lstore0 hd (i := 4) (by simp only [List.length_cons]; omega) (q_pn (i := 3) hn) kk
theorem Ev.istore_5 {a0 a1 a2 a3 a4 : Option AV} {b : Option AV} {t : List (Option AV)} {x : Int} (hd : decode M.2.1 pc = .ok (.istore 5, 2)) (hn : q_nl (some a4) = true) (kk : Ev d M (pc + 2) (a0 :: a1 :: a2 :: a3 :: a4 :: some (vi x) :: t) st σ m r σ' m') : Ev d M pc (a0 :: a1 :: a2 :: a3 :: a4 :: b :: t) (vi x :: st) σ m r σ' m' :=
  Ev.istore0 hd (i := 5) (by simp only [List.length_cons]; omega) (q_pn (i := 4) hn) kk
theorem Ev.astore_5 {a0 a1 a2 a3 a4 : Option AV} {b : Option AV} {t : List (Option AV)} {x : Int} (hd : decode M.2.1 pc = .ok (.astore 5, 2)) (hn : q_nl (some a4) = true) (kk : Ev d M (pc + 2) (a0 :: a1 :: a2 :: a3 :: a4 :: some (vr x) :: t) st σ m r σ' m') : Ev d M pc (a0 :: a1 :: a2 :: a3 :: a4 :: b :: t) (vr x :: st) σ m r σ' m' :=
  Ev.astore0 hd (i := 5) (by simp only [List.length_cons]; omega) (q_pn (i := 4) hn) kk
theorem Ev.iinc_5 {a0 a1 a2 a3 a4 : Option AV} {t : List (Option AV)} {n x : Int} (hd : decode M.2.1 pc = .ok (.iinc 5 n, 3)) (hn : q_nl (some a4) = true) (kk : Ev d M (pc + 3) (a0 :: a1 :: a2 :: a3 :: a4 :: some (vi (x + n)) :: t) st σ m r σ' m') : Ev d M pc (a0 :: a1 :: a2 :: a3 :: a4 :: some (vi x) :: t) st σ m r σ' m' :=
  Ev.iinc0 hd (i := 5) rfl (q_pn (i := 4) hn) kk
theorem Ev.lstore_5 {a0 a1 a2 a3 a4 : Option AV} {b b2 : Option AV} {t : List (Option AV)} {x : Int} (hd : decode M.2.1 pc = .ok (.lstore 5, 2)) (hn : q_nl (some a4) = true) (kk : Ev d M (pc + 2) (a0 :: a1 :: a2 :: a3 :: a4 :: some (vl x) :: none :: t) st σ m r σ' m') : Ev d M pc (a0 :: a1 :: a2 :: a3 :: a4 :: b :: b2 :: t) (vl x :: st) σ m r σ' m' :=
  Ev.lstore0 hd (i := 5) (by simp only [List.length_cons]; omega) (q_pn (i := 4) hn) kk
theorem Ev.istore_6 {a0 a1 a2 a3 a4 a5 : Option AV} {b : Option AV} {t : List (Option AV)} {x : Int} (hd : decode M.2.1 pc = .ok (.istore 6, 2)) (hn : q_nl (some a5) = true) (kk : Ev d M (pc + 2) (a0 :: a1 :: a2 :: a3 :: a4 :: a5 :: some (vi x) :: t) st σ m r σ' m') : Ev d M pc (a0 :: a1 :: a2 :: a3 :: a4 :: a5 :: b :: t) (vi x :: st) σ m r σ' m' :=
  Ev.istore0 hd (i := 6) (by simp only [List.length_cons]; omega) (q_pn (i := 5) hn) kk
theorem Ev.astore_6 {a0 a1 a2 a3 a4 a5 : Option AV} {b : Option AV} {t : List (Option AV)} {x : Int} (hd : decode M.2.1 pc = .ok (.astore 6, 2)) (hn : q_nl (some a5) = true) (kk : Ev d M (pc + 2) (a0 :: a1 :: a2 :: a3 :: a4 :: a5 :: some (vr x) :: t) st σ m r σ' m') : Ev d M pc (a0 :: a1 :: a2 :: a3 :: a4 :: a5 :: b :: t) (vr x :: st) σ m r σ' m' :=
  Ev.astore0 hd (i := 6) (by simp only [List.length_cons]; omega) (q_pn (i := 5) hn) kk
theorem Ev.iinc_6 {a0 a1 a2 a3 a4 a5 : Option AV} {t : List (Option AV)} {n x : Int} (hd : decode M.2.1 pc = .ok (.iinc 6 n, 3)) (hn : q_nl (some a5) = true) (kk : Ev d M (pc + 3) (a0 :: a1 :: a2 :: a3 :: a4 :: a5 :: some (vi (x + n)) :: t) st σ m r σ' m') : Ev d M pc (a0 :: a1 :: a2 :: a3 :: a4 :: a5 :: some (vi x) :: t) st σ m r σ' m' :=
  Ev.iinc0 hd (i := 6) rfl (q_pn (i := 5) hn) kk
theorem Ev.lstore_6 {a0 a1 a2 a3 a4 a5 : Option AV} {b b2 : Option AV} {t : List (Option AV)} {x : Int} (hd : decode M.2.1 pc = .ok (.lstore 6, 2)) (hn : q_nl (some a5) = true) (kk : Ev d M (pc + 2) (a0 :: a1 :: a2 :: a3 :: a4 :: a5 :: some (vl x) :: none :: t) st σ m r σ' m') : Ev d M pc (a0 :: a1 :: a2 :: a3 :: a4 :: a5 :: b :: b2 :: t) (vl x :: st) σ m r σ' m' :=
  Ev.lstore0 hd (i := 6) (by simp only [List.length_cons]; omega) (q_pn (i := 5) hn) kk
theorem Ev.istore_7 {a0 a1 a2 a3 a4 a5 a6 : Option AV} {b : Option AV} {t : List (Option AV)} {x : Int} (hd : decode M.2.1 pc = .ok (.istore 7, 2)) (hn : q_nl (some a6) = true) (kk : Ev d M (pc + 2) (a0 :: a1 :: a2 :: a3 :: a4 :: a5 :: a6 :: some (vi x) :: t) st σ m r σ' m') : Ev d M pc (a0 :: a1 :: a2 :: a3 :: a4 :: a5 :: a6 :: b :: t) (vi x :: st) σ m r σ' m' :=
  Ev.istore0 hd (i := 7) (by simp only [List.length_cons]; omega) (q_pn (i := 6) hn) kk
theorem Ev.astore_7 {a0 a1 a2 a3 a4 a5 a6 : Option AV} {b : Option AV} {t : List (Option AV)} {x : Int} (hd : decode M.2.1 pc = .ok (.astore 7, 2)) (hn : q_nl (some a6) = true) (kk : Ev d M (pc + 2) (a0 :: a1 :: a2 :: a3 :: a4 :: a5 :: a6 :: some (vr x) :: t) st σ m r σ' m') : Ev d M pc (a0 :: a1 :: a2 :: a3 :: a4 :: a5 :: a6 :: b :: t) (vr x :: st) σ m r σ' m' :=
  Ev.astore0 hd (i := 7) (by simp only [List.length_cons]; omega) (q_pn (i := 6) hn) kk
theorem Ev.iinc_7 {a0 a1 a2 a3 a4 a5 a6 : Option AV} {t : List (Option AV)} {n x : Int} (hd : decode M.2.1 pc = .ok (.iinc 7 n, 3)) (hn : q_nl (some a6) = true) (kk : Ev d M (pc + 3) (a0 :: a1 :: a2 :: a3 :: a4 :: a5 :: a6 :: some (vi (x + n)) :: t) st σ m r σ' m') : Ev d M pc (a0 :: a1 :: a2 :: a3 :: a4 :: a5 :: a6 :: some (vi x) :: t) st σ m r σ' m' :=
  Ev.iinc0 hd (i := 7) rfl (q_pn (i := 6) hn) kk
theorem Ev.lstore_7 {a0 a1 a2 a3 a4 a5 a6 : Option AV} {b b2 : Option AV} {t : List (Option AV)} {x : Int} (hd : decode M.2.1 pc = .ok (.lstore 7, 2)) (hn : q_nl (some a6) = true) (kk : Ev d M (pc + 2) (a0 :: a1 :: a2 :: a3 :: a4 :: a5 :: a6 :: some (vl x) :: none :: t) st σ m r σ' m') : Ev d M pc (a0 :: a1 :: a2 :: a3 :: a4 :: a5 :: a6 :: b :: b2 :: t) (vl x :: st) σ m r σ' m' :=
  Ev.lstore0 hd (i := 7) (by simp only [List.length_cons]; omega) (q_pn (i := 6) hn) kk
theorem Ev.istore_8 {a0 a1 a2 a3 a4 a5 a6 a7 : Option AV} {b : Option AV} {t : List (Option AV)} {x : Int} (hd : decode M.2.1 pc = .ok (.istore 8, 2)) (hn : q_nl (some a7) = true) (kk : Ev d M (pc + 2) (a0 :: a1 :: a2 :: a3 :: a4 :: a5 :: a6 :: a7 :: some (vi x) :: t) st σ m r σ' m') : Ev d M pc (a0 :: a1 :: a2 :: a3 :: a4 :: a5 :: a6 :: a7 :: b :: t) (vi x :: st) σ m r σ' m' :=
  Ev.istore0 hd (i := 8) (by simp only [List.length_cons]; omega) (q_pn (i := 7) hn) kk
theorem Ev.astore_8 {a0 a1 a2 a3 a4 a5 a6 a7 : Option AV} {b : Option AV} {t : List (Option AV)} {x : Int} (hd : decode M.2.1 pc = .ok (.astore 8, 2)) (hn : q_nl (some a7) = true) (kk : Ev d M (pc + 2) (a0 :: a1 :: a2 :: a3 :: a4 :: a5 :: a6 :: a7 :: some (vr x) :: t) st σ m r σ' m') : Ev d M pc (a0 :: a1 :: a2 :: a3 :: a4 :: a5 :: a6 :: a7 :: b :: t) (vr x :: st) σ m r σ' m' :=
  Ev.astore0 hd (i := 8) (by simp only [List.length_cons]; omega) (q_pn (i := 7) hn) kk
theorem Ev.iinc_8 {a0 a1 a2 a3 a4 a5 a6 a7 : Option AV} {t : List (Option AV)} {n x : Int} (hd : decode M.2.1 pc = .ok (.iinc 8 n, 3)) (hn : q_nl (some a7) = true) (kk : Ev d M (pc + 3) (a0 :: a1 :: a2 :: a3 :: a4 :: a5 :: a6 :: a7 :: some (vi (x + n)) :: t) st σ m r σ' m') : Ev d M pc (a0 :: a1 :: a2 :: a3 :: a4 :: a5 :: a6 :: a7 :: some (vi x) :: t) st σ m r σ' m' :=
  Ev.iinc0 hd (i := 8) rfl (q_pn (i := 7) hn) kk
theorem Ev.lstore_8 {a0 a1 a2 a3 a4 a5 a6 a7 : Option AV} {b b2 : Option AV} {t : List (Option AV)} {x : Int} (hd : decode M.2.1 pc = .ok (.lstore 8, 2)) (hn : q_nl (some a7) = true) (kk : Ev d M (pc + 2) (a0 :: a1 :: a2 :: a3 :: a4 :: a5 :: a6 :: a7 :: some (vl x) :: none :: t) st σ m r σ' m') : Ev d M pc (a0 :: a1 :: a2 :: a3 :: a4 :: a5 :: a6 :: a7 :: b :: b2 :: t) (vl x :: st) σ m r σ' m' :=
  Ev.lstore0 hd (i := 8) (by simp only [List.length_cons]; omega) (q_pn (i := 7) hn) kk
theorem Ev.istore_9 {a0 a1 a2 a3 a4 a5 a6 a7 a8 : Option AV} {b : Option AV} {t : List (Option AV)} {x : Int} (hd : decode M.2.1 pc = .ok (.istore 9, 2)) (hn : q_nl (some a8) = true) (kk : Ev d M (pc + 2) (a0 :: a1 :: a2 :: a3 :: a4 :: a5 :: a6 :: a7 :: a8 :: some (vi x) :: t) st σ m r σ' m') : Ev d M pc (a0 :: a1 :: a2 :: a3 :: a4 :: a5 :: a6 :: a7 :: a8 :: b :: t) (vi x :: st) σ m r σ' m' :=
  Ev.istore0 hd (i := 9) (by simp only [List.length_cons]; omega) (q_pn (i := 8) hn) kk
theorem Ev.astore_9 {a0 a1 a2 a3 a4 a5 a6 a7 a8 : Option AV} {b : Option AV} {t : List (Option AV)} {x : Int} (hd : decode M.2.1 pc = .ok (.astore 9, 2)) (hn : q_nl (some a8) = true) (kk : Ev d M (pc + 2) (a0 :: a1 :: a2 :: a3 :: a4 :: a5 :: a6 :: a7 :: a8 :: some (vr x) :: t) st σ m r σ' m') : Ev d M pc (a0 :: a1 :: a2 :: a3 :: a4 :: a5 :: a6 :: a7 :: a8 :: b :: t) (vr x :: st) σ m r σ' m' :=
  Ev.astore0 hd (i := 9) (by simp only [List.length_cons]; omega) (q_pn (i := 8) hn) kk
theorem Ev.iinc_9 {a0 a1 a2 a3 a4 a5 a6 a7 a8 : Option AV} {t : List (Option AV)} {n x : Int} (hd : decode M.2.1 pc = .ok (.iinc 9 n, 3)) (hn : q_nl (some a8) = true) (kk : Ev d M (pc + 3) (a0 :: a1 :: a2 :: a3 :: a4 :: a5 :: a6 :: a7 :: a8 :: some (vi (x + n)) :: t) st σ m r σ' m') : Ev d M pc (a0 :: a1 :: a2 :: a3 :: a4 :: a5 :: a6 :: a7 :: a8 :: some (vi x) :: t) st σ m r σ' m' :=
  Ev.iinc0 hd (i := 9) rfl (q_pn (i := 8) hn) kk
theorem Ev.lstore_9 {a0 a1 a2 a3 a4 a5 a6 a7 a8 : Option AV} {b b2 : Option AV} {t : List (Option AV)} {x : Int} (hd : decode M.2.1 pc = .ok (.lstore 9, 2)) (hn : q_nl (some a8) = true) (kk : Ev d M (pc + 2) (a0 :: a1 :: a2 :: a3 :: a4 :: a5 :: a6 :: a7 :: a8 :: some (vl x) :: none :: t) st σ m r σ' m') : Ev d M pc (a0 :: a1 :: a2 :: a3 :: a4 :: a5 :: a6 :: a7 :: a8 :: b :: b2 :: t) (vl x :: st) σ m r σ' m' :=
  Ev.lstore0 hd (i := 9) (by simp only [List.length_cons]; omega) (q_pn (i := 8) hn) kk
theorem Ev.istore_10 {a0 a1 a2 a3 a4 a5 a6 a7 a8 a9 : Option AV} {b : Option AV} {t : List (Option AV)} {x : Int} (hd : decode M.2.1 pc = .ok (.istore 10, 2)) (hn : q_nl (some a9) = true) (kk : Ev d M (pc + 2) (a0 :: a1 :: a2 :: a3 :: a4 :: a5 :: a6 :: a7 :: a8 :: a9 :: some (vi x) :: t) st σ m r σ' m') : Ev d M pc (a0 :: a1 :: a2 :: a3 :: a4 :: a5 :: a6 :: a7 :: a8 :: a9 :: b :: t) (vi x :: st) σ m r σ' m' :=
  Ev.istore0 hd (i := 10) (by simp only [List.length_cons]; omega) (q_pn (i := 9) hn) kk
theorem Ev.astore_10 {a0 a1 a2 a3 a4 a5 a6 a7 a8 a9 : Option AV} {b : Option AV} {t : List (Option AV)} {x : Int} (hd : decode M.2.1 pc = .ok (.astore 10, 2)) (hn : q_nl (some a9) = true) (kk : Ev d M (pc + 2) (a0 :: a1 :: a2 :: a3 :: a4 :: a5 :: a6 :: a7 :: a8 :: a9 :: some (vr x) :: t) st σ m r σ' m') : Ev d M pc (a0 :: a1 :: a2 :: a3 :: a4 :: a5 :: a6 :: a7 :: a8 :: a9 :: b :: t) (vr x :: st) σ m r σ' m' :=
  Ev.astore0 hd (i := 10) (by simp only [List.length_cons]; omega) (q_pn (i := 9) hn) kk
theorem Ev.iinc_10 {a0 a1 a2 a3 a4 a5 a6 a7 a8 a9 : Option AV} {t : List (Option AV)} {n x : Int} (hd : decode M.2.1 pc = .ok (.iinc 10 n, 3)) (hn : q_nl (some a9) = true) (kk : Ev d M (pc + 3) (a0 :: a1 :: a2 :: a3 :: a4 :: a5 :: a6 :: a7 :: a8 :: a9 :: some (vi (x + n)) :: t) st σ m r σ' m') : Ev d M pc (a0 :: a1 :: a2 :: a3 :: a4 :: a5 :: a6 :: a7 :: a8 :: a9 :: some (vi x) :: t) st σ m r σ' m' :=
  Ev.iinc0 hd (i := 10) rfl (q_pn (i := 9) hn) kk
theorem Ev.lstore_10 {a0 a1 a2 a3 a4 a5 a6 a7 a8 a9 : Option AV} {b b2 : Option AV} {t : List (Option AV)} {x : Int} (hd : decode M.2.1 pc = .ok (.lstore 10, 2)) (hn : q_nl (some a9) = true) (kk : Ev d M (pc + 2) (a0 :: a1 :: a2 :: a3 :: a4 :: a5 :: a6 :: a7 :: a8 :: a9 :: some (vl x) :: none :: t) st σ m r σ' m') : Ev d M pc (a0 :: a1 :: a2 :: a3 :: a4 :: a5 :: a6 :: a7 :: a8 :: a9 :: b :: b2 :: t) (vl x :: st) σ m r σ' m' :=
  Ev.lstore0 hd (i := 10) (by simp only [List.length_cons]; omega) (q_pn (i := 9) hn) kk
theorem Ev.istore_11 {a0 a1 a2 a3 a4 a5 a6 a7 a8 a9 a10 : Option AV} {b : Option AV} {t : List (Option AV)} {x : Int} (hd : decode M.2.1 pc = .ok (.istore 11, 2)) (hn : q_nl (some a10) = true) (kk : Ev d M (pc + 2) (a0 :: a1 :: a2 :: a3 :: a4 :: a5 :: a6 :: a7 :: a8 :: a9 :: a10 :: some (vi x) :: t) st σ m r σ' m') : Ev d M pc (a0 :: a1 :: a2 :: a3 :: a4 :: a5 :: a6 :: a7 :: a8 :: a9 :: a10 :: b :: t) (vi x :: st) σ m r σ' m' :=
  Ev.istore0 hd (i := 11) (by simp only [List.length_cons]; omega) (q_pn (i := 10) hn) kk
theorem Ev.astore_11 {a0 a1 a2 a3 a4 a5 a6 a7 a8 a9 a10 : Option AV} {b : Option AV} {t : List (Option AV)} {x : Int} (hd : decode M.2.1 pc = .ok (.astore 11, 2)) (hn : q_nl (some a10) = true) (kk : Ev d M (pc + 2) (a0 :: a1 :: a2 :: a3 :: a4 :: a5 :: a6 :: a7 :: a8 :: a9 :: a10 :: some (vr x) :: t) st σ m r σ' m') : Ev d M pc (a0 :: a1 :: a2 :: a3 :: a4 :: a5 :: a6 :: a7 :: a8 :: a9 :: a10 :: b :: t) (vr x :: st) σ m r σ' m' :=
  Ev.astore0 hd (i := 11) (by simp only [List.length_cons]; omega) (q_pn (i := 10) hn) kk
theorem Ev.iinc_11 {a0 a1 a2 a3 a4 a5 a6 a7 a8 a9 a10 : Option AV} {t : List (Option AV)} {n x : Int} (hd : decode M.2.1 pc = .ok (.iinc 11 n, 3)) (hn : q_nl (some a10) = true) (kk : Ev d M (pc + 3) (a0 :: a1 :: a2 :: a3 :: a4 :: a5 :: a6 :: a7 :: a8 :: a9 :: a10 :: some (vi (x + n)) :: t) st σ m r σ' m') : Ev d M pc (a0 :: a1 :: a2 :: a3 :: a4 :: a5 :: a6 :: a7 :: a8 :: a9 :: a10 :: some (vi x) :: t) st σ m r σ' m' :=
  Ev.iinc0 hd (i := 11) rfl (q_pn (i := 10) hn) kk
theorem Ev.lstore_11 {a0 a1 a2 a3 a4 a5 a6 a7 a8 a9 a10 : Option AV} {b b2 : Option AV} {t : List (Option AV)} {x : Int} (hd : decode M.2.1 pc = .ok (.lstore 11, 2)) (hn : q_nl (some a10) = true) (kk : Ev d M (pc + 2) (a0 :: a1 :: a2 :: a3 :: a4 :: a5 :: a6 :: a7 :: a8 :: a9 :: a10 :: some (vl x) :: none :: t) st σ m r σ' m') : Ev d M pc (a0 :: a1 :: a2 :: a3 :: a4 :: a5 :: a6 :: a7 :: a8 :: a9 :: a10 :: b :: b2 :: t) (vl x :: st) σ m r σ' m' :=
  Ev.lstore0 hd (i := 11) (by simp only [List.length_cons]; omega) (q_pn (i := 10) hn) kk
theorem Ev.istore_12 {a0 a1 a2 a3 a4 a5 a6 a7 a8 a9 a10 a11 : Option AV} {b : Option AV} {t : List (Option AV)} {x : Int} (hd : decode M.2.1 pc = .ok (.istore 12, 2)) (hn : q_nl (some a11) = true) (kk : Ev d M (pc + 2) (a0 :: a1 :: a2 :: a3 :: a4 :: a5 :: a6 :: a7 :: a8 :: a9 :: a10 :: a11 :: some (vi x) :: t) st σ m r σ' m') : Ev d M pc (a0 :: a1 :: a2 :: a3 :: a4 :: a5 :: a6 :: a7 :: a8 :: a9 :: a10 :: a11 :: b :: t) (vi x :: st) σ m r σ' m' :=
  Ev.istore0 hd (i := 12) (by simp only [List.length_cons]; omega) (q_pn (i := 11) hn) kk
theorem Ev.astore_12 {a0 a1 a2 a3 a4 a5 a6 a7 a8 a9 a10 a11 : Option AV} {b : Option AV} {t : List (Option AV)} {x : Int} (hd : decode M.2.1 pc = .ok (.astore 12, 2)) (hn : q_nl (some a11) = true) (kk : Ev d M (pc + 2) (a0 :: a1 :: a2 :: a3 :: a4 :: a5 :: a6 :: a7 :: a8 :: a9 :: a10 :: a11 :: some (vr x) :: t) st σ m r σ' m') : Ev d M pc (a0 :: a1 :: a2 :: a3 :: a4 :: a5 :: a6 :: a7 :: a8 :: a9 :: a10 :: a11 :: b :: t) (vr x :: st) σ m r σ' m' :=
  Ev.astore0 hd (i := 12) (by simp only [List.length_cons]; omega) (q_pn (i := 11) hn) kk
theorem Ev.iinc_12 {a0 a1 a2 a3 a4 a5 a6 a7 a8 a9 a10 a11 : Option AV} {t : List (Option AV)} {n x : Int} (hd : decode M.2.1 pc = .ok (.iinc 12 n, 3)) (hn : q_nl (some a11) = true) (kk : Ev d M (pc + 3) (a0 :: a1 :: a2 :: a3 :: a4 :: a5 :: a6 :: a7 :: a8 :: a9 :: a10 :: a11 :: some (vi (x + n)) :: t) st σ m r σ' m') : Ev d M pc (a0 :: a1 :: a2 :: a3 :: a4 :: a5 :: a6 :: a7 :: a8 :: a9 :: a10 :: a11 :: some (vi x) :: t) st σ m r σ' m' :=
  Ev.iinc0 hd (i := 12) rfl (q_pn (i := 11) hn) kk
theorem Ev.lstore_12 {a0 a1 a2 a3 a4 a5 a6 a7 a8 a9 a10 a11 : Option AV} {b b2 : Option AV} {t : List (Option AV)} {x : Int} (hd : decode M.2.1 pc = .ok (.lstore 12, 2)) (hn : q_nl (some a11) = true) (kk : Ev d M (pc + 2) (a0 :: a1 :: a2 :: a3 :: a4 :: a5 :: a6 :: a7 :: a8 :: a9 :: a10 :: a11 :: some (vl x) :: none :: t) st σ m r σ' m') : Ev d M pc (a0 :: a1 :: a2 :: a3 :: a4 :: a5 :: a6 :: a7 :: a8 :: a9 :: a10 :: a11 :: b :: b2 :: t) (vl x :: st) σ m r σ' m' :=
  Ev.lstore0 hd (i := 12) (by simp only [List.length_cons]; omega) (q_pn (i := 11) hn) kk
theorem Ev.istore_13 {a0 a1 a2 a3 a4 a5 a6 a7 a8 a9 a10 a11 a12 : Option AV} {b : Option AV} {t : List (Option AV)} {x : Int} (hd : decode M.2.1 pc = .ok (.istore 13, 2)) (hn : q_nl (some a12) = true) (kk : Ev d M (pc + 2) (a0 :: a1 :: a2 :: a3 :: a4 :: a5 :: a6 :: a7 :: a8 :: a9 :: a10 :: a11 :: a12 :: some (vi x) :: t) st σ m r σ' m') : Ev d M pc (a0 :: a1 :: a2 :: a3 :: a4 :: a5 :: a6 :: a7 :: a8 :: a9 :: a10 :: a11 :: a12 :: b :: t) (vi x :: st) σ m r σ' m' :=
  Ev.istore0 hd (i := 13) (by simp only [List.length_cons]; omega) (q_pn (i := 12) hn) kk
theorem Ev.astore_13 {a0 a1 a2 a3 a4 a5 a6 a7 a8 a9 a10 a11 a12 : Option AV} {b : Option AV} {t : List (Option AV)} {x : Int} (hd : decode M.2.1 pc = .ok (.astore 13, 2)) (hn : q_nl (some a12) = true) (kk : Ev d M (pc + 2) (a0 :: a1 :: a2 :: a3 :: a4 :: a5 :: a6 :: a7 :: a8 :: a9 :: a10 :: a11 :: a12 :: some (vr x) :: t) st σ m r σ' m') : Ev d M pc (a0 :: a1 :: a2 :: a3 :: a4 :: a5 :: a6 :: a7 :: a8 :: a9 :: a10 :: a11 :: a12 :: b :: t) (vr x :: st) σ m r σ' m' :=
  Ev.astore0 hd (i := 13) (by simp only [List.length_cons]; omega) (q_pn (i := 12) hn) kk
theorem Ev.iinc_13 {a0 a1 a2 a3 a4 a5 a6 a7 a8 a9 a10 a11 a12 : Option AV} {t : List (Option AV)} {n x : Int} (hd : decode M.2.1 pc = .ok (.iinc 13 n, 3)) (hn : q_nl (some a12) = true) (kk : Ev d M (pc + 3) (a0 :: a1 :: a2 :: a3 :: a4 :: a5 :: a6 :: a7 :: a8 :: a9 :: a10 :: a11 :: a12 :: some (vi (x + n)) :: t) st σ m r σ' m') : Ev d M pc (a0 :: a1 :: a2 :: a3 :: a4 :: a5 :: a6 :: a7 :: a8 :: a9 :: a10 :: a11 :: a12 :: some (vi x) :: t) st σ m r σ' m' :=
  Ev.iinc0 hd (i := 13) rfl (q_pn (i := 12) hn) kk
theorem Ev.lstore_13 {a0 a1 a2 a3 a4 a5 a6 a7 a8 a9 a10 a11 a12 : Option AV} {b b2 : Option AV} {t : List (Option AV)} {x : Int} (hd : decode M.2.1 pc = .ok (.lstore 13, 2)) (hn : q_nl (some a12) = true) (kk : Ev d M (pc + 2) (a0 :: a1 :: a2 :: a3 :: a4 :: a5 :: a6 :: a7 :: a8 :: a9 :: a10 :: a11 :: a12 :: some (vl x) :: none :: t) st σ m r σ' m') : Ev d M pc (a0 :: a1 :: a2 :: a3 :: a4 :: a5 :: a6 :: a7 :: a8 :: a9 :: a10 :: a11 :: a12 :: b :: b2 :: t) (vl x :: st) σ m r σ' m' :=
  Ev.lstore0 hd (i := 13) (by simp only [List.length_cons]; omega) (q_pn (i := 12) hn) kk
theorem Ev.istore_14 {a0 a1 a2 a3 a4 a5 a6 a7 a8 a9 a10 a11 a12 a13 : Option AV} {b : Option AV} {t : List (Option AV)} {x : Int} (hd : decode M.2.1 pc = .ok (.istore 14, 2)) (hn : q_nl (some a13) = true) (kk : Ev d M (pc + 2) (a0 :: a1 :: a2 :: a3 :: a4 :: a5 :: a6 :: a7 :: a8 :: a9 :: a10 :: a11 :: a12 :: a13 :: some (vi x) :: t) st σ m r σ' m') : Ev d M pc (a0 :: a1 :: a2 :: a3 :: a4 :: a5 :: a6 :: a7 :: a8 :: a9 :: a10 :: a11 :: a12 :: a13 :: b :: t) (vi x :: st) σ m r σ' m' :=
  Ev.istore0 hd (i := 14) (by simp only [List.length_cons]; omega) (q_pn (i := 13) hn) kk
theorem Ev.astore_14 {a0 a1 a2 a3 a4 a5 a6 a7 a8 a9 a10 a11 a12 a13 : Option AV} {b : Option AV} {t : List (Option AV)} {x : Int} (hd : decode M.2.1 pc = .ok (.astore 14, 2)) (hn : q_nl (some a13) = true) (kk : Ev d M (pc + 2) (a0 :: a1 :: a2 :: a3 :: a4 :: a5 :: a6 :: a7 :: a8 :: a9 :: a10 :: a11 :: a12 :: a13 :: some (vr x) :: t) st σ m r σ' m') : Ev d M pc (a0 :: a1 :: a2 :: a3 :: a4 :: a5 :: a6 :: a7 :: a8 :: a9 :: a10 :: a11 :: a12 :: a13 :: b :: t) (vr x :: st) σ m r σ' m' :=
  Ev.astore0 hd (i := 14) (by simp only [List.length_cons]; omega) (q_pn (i := 13) hn) kk
theorem Ev.iinc_14 {a0 a1 a2 a3 a4 a5 a6 a7 a8 a9 a10 a11 a12 a13 : Option AV} {t : List (Option AV)} {n x : Int} (hd : decode M.2.1 pc = .ok (.iinc 14 n, 3)) (hn : q_nl (some a13) = true) (kk : Ev d M (pc + 3) (a0 :: a1 :: a2 :: a3 :: a4 :: a5 :: a6 :: a7 :: a8 :: a9 :: a10 :: a11 :: a12 :: a13 :: some (vi (x + n)) :: t) st σ m r σ' m') : Ev d M pc (a0 :: a1 :: a2 :: a3 :: a4 :: a5 :: a6 :: a7 :: a8 :: a9 :: a10 :: a11 :: a12 :: a13 :: some (vi x) :: t) st σ m r σ' m' :=
  Ev.iinc0 hd (i := 14) rfl (q_pn (i := 13) hn) kk
theorem Ev.lstore_14 {a0 a1 a2 a3 a4 a5 a6 a7 a8 a9 a10 a11 a12 a13 : Option AV} {b b2 : Option AV} {t : List (Option AV)} {x : Int} (hd : decode M.2.1 pc = .ok (.lstore 14, 2)) (hn : q_nl (some a13) = true) (kk : Ev d M (pc + 2) (a0 :: a1 :: a2 :: a3 :: a4 :: a5 :: a6 :: a7 :: a8 :: a9 :: a10 :: a11 :: a12 :: a13 :: some (vl x) :: none :: t) st σ m r σ' m') : Ev d M pc (a0 :: a1 :: a2 :: a3 :: a4 :: a5 :: a6 :: a7 :: a8 :: a9 :: a10 :: a11 :: a12 :: a13 :: b :: b2 :: t) (vl x :: st) σ m r σ' m' :=
  Ev.lstore0 hd (i := 14) (by simp only [List.length_cons]; omega) (q_pn (i := 13) hn) kk
theorem Ev.istore_15 {a0 a1 a2 a3 a4 a5 a6 a7 a8 a9 a10 a11 a12 a13 a14 : Option AV} {b : Option AV} {t : List (Option AV)} {x : Int} (hd : decode M.2.1 pc = .ok (.istore 15, 2)) (hn : q_nl (some a14) = true) (kk : Ev d M (pc + 2) (a0 :: a1 :: a2 :: a3 :: a4 :: a5 :: a6 :: a7 :: a8 :: a9 :: a10 :: a11 :: a12 :: a13 :: a14 :: some (vi x) :: t) st σ m r σ' m') : Ev d M pc (a0 :: a1 :: a2 :: a3 :: a4 :: a5 :: a6 :: a7 :: a8 :: a9 :: a10 :: a11 :: a12 :: a13 :: a14 :: b :: t) (vi x :: st) σ m r σ' m' :=
  Ev.istore0 hd (i := 15) (by simp only [List.length_cons]; omega) (q_pn (i := 14) hn) kk
theorem Ev.astore_15 {a0 a1 a2 a3 a4 a5 a6 a7 a8 a9 a10 a11 a12 a13 a14 : Option AV} {b : Option AV} {t : List (Option AV)} {x : Int} (hd : decode M.2.1 pc = .ok (.astore 15, 2)) (hn : q_nl (some a14) = true) (kk : Ev d M (pc + 2) (a0 :: a1 :: a2 :: a3 :: a4 :: a5 :: a6 :: a7 :: a8 :: a9 :: a10 :: a11 :: a12 :: a13 :: a14 :: some (vr x) :: t) st σ m r σ' m') : Ev d M pc (a0 :: a1 :: a2 :: a3 :: a4 :: a5 :: a6 :: a7 :: a8 :: a9 :: a10 :: a11 :: a12 :: a13 :: a14 :: b :: t) (vr x :: st) σ m r σ' m' :=
  Ev.astore0 hd (i := 15) (by simp only [List.length_cons]; omega) (q_pn (i := 14) hn) kk
theorem Ev.iinc_15 {a0 a1 a2 a3 a4 a5 a6 a7 a8 a9 a10 a11 a12 a13 a14 : Option AV} {t : List (Option AV)} {n x : Int} (hd : decode M.2.1 pc = .ok (.iinc 15 n, 3)) (hn : q_nl (some a14) = true) (kk : Ev d M (pc + 3) (a0 :: a1 :: a2 :: a3 :: a4 :: a5 :: a6 :: a7 :: a8 :: a9 :: a10 :: a11 :: a12 :: a13 :: a14 :: some (vi (x + n)) :: t) st σ m r σ' m') : Ev d M pc (a0 :: a1 :: a2 :: a3 :: a4 :: a5 :: a6 :: a7 :: a8 :: a9 :: a10 :: a11 :: a12 :: a13 :: a14 :: some (vi x) :: t) st σ m r σ' m' :=
  Ev.iinc0 hd (i := 15) rfl (q_pn (i := 14) hn) kk
theorem Ev.lstore_15 {a0 a1 a2 a3 a4 a5 a6 a7 a8 a9 a10 a11 a12 a13 a14 : Option AV} {b b2 : Option AV} {t : List (Option AV)} {x : Int} (hd : decode M.2.1 pc = .ok (.lstore 15, 2)) (hn : q_nl (some a14) = true) (kk : Ev d M (pc + 2) (a0 :: a1 :: a2 :: a3 :: a4 :: a5 :: a6 :: a7 :: a8 :: a9 :: a10 :: a11 :: a12 :: a13 :: a14 :: some (vl x) :: none :: t) st σ m r σ' m') : Ev d M pc (a0 :: a1 :: a2 :: a3 :: a4 :: a5 :: a6 :: a7 :: a8 :: a9 :: a10 :: a11 :: a12 :: a13 :: a14 :: b :: b2 :: t) (vl x :: st) σ m r σ' m' :=
  Ev.lstore0 hd (i := 15) (by simp only [List.length_cons]; omega) (q_pn (i := 14) hn) kk
end
end
section
section
variable {d : Nat} {M : Md} {pc : Nat} {L : List (Option AV)} {st : List AV} {σ σ' : Sg} {m m' : Mm} {r : Option AV}
/-- cell a has tag t and length n -/
abbrev Is (σ : Sg) (a : Int) (t : Nat) (n : Int) : Prop := 0 ≤ a ∧ a < σ.1 ∧ σ.2.2.1 a = t ∧ σ.2.2.2.1 a = n
def mu (m : Mm) (a i x : Int) : Mm := fun b j => if b = a ∧ j = i then x else m b j
def mz (m : Mm) (a : Int) : Mm := fun b j => if b = a then 0 else m b j
def su (σ : Sg) (a i x : Int) : Sg := (σ.1, σ.2.1, σ.2.2.1, σ.2.2.2.1, mu σ.2.2.2.2 a i x)
def sn (σ : Sg) (t : Nat) (n c : Int) : Sg := (σ.1 + 1, σ.2.1 + c, fun a => if a = σ.1 then t else σ.2.2.1 a, fun a => if a = σ.1 then n else σ.2.2.2.1 a, fun a i => if a = σ.1 then -1 else σ.2.2.2.2 a i)
theorem q_ad3 {z b pf pt : Nat} {k : Int} (h : 3 ≤ k) : q_ad z b pf pt k = z + (k.toNat - 3) := by
  unfold q_ad
  rw [if_neg (by omega), if_neg (by omega), if_neg (by omega)]
theorem q_adl {z b pf pt : Nat} {k : Int} (h0 : 0 ≤ k) (h : k < 3) (hb : b < z) (h1 : pf < z) (h2 : pt < z) : q_ad z b pf pt k < z := by
  unfold q_ad
  split
  · exact hb
  split
  · exact h1
  split
  · exact h2
  · omega
theorem q_cell.kept {s0 : State} {D : va_G} {A : Int → Nat} {t : Nat} {n : Int} {f g : Int → Int} {a : Nat} {H H1 : Heap} (h : q_cell s0 D A t n f g a H) (e : H1[a]? = H[a]?) : q_cell s0 D A t n f g a H1 :=
  ⟨fun ht => by obtain ⟨q, h1, h2⟩ := h.1 ht; exact ⟨q, h1, h2.kept e⟩, fun ht => by obtain ⟨cA, h1, h2, h3, h4⟩ := h.2 ht; exact ⟨cA, h1, h2, h3, e.trans h4⟩⟩
theorem q_HR_set {s0 : State} {D : va_G} {b pf pt : Nat} {H H1 : Heap} {k : Int} {m1 : Mm} {σ1 : Sg} (hG : q_G s0 b pf pt D) (hH : q_HR s0 D (q_ad s0.heap.size b pf pt) σ m H) (hk : 3 ≤ k ∧ k < σ.1) (z : H1.size = H.size) (oq : ∀ q : Nat, q ≠ q_ad s0.heap.size b pf pt k → H1[q]? = H[q]?)
    (hs : σ1.1 = σ.1 ∧ σ1.2.2.1 = σ.2.2.1 ∧ σ1.2.2.2.1 = σ.2.2.2.1) (hm : ∀ a : Int, a ≠ k → m1 a = m a ∧ σ1.2.2.2.2 a = σ.2.2.2.2 a) (hc : q_cell s0 D (q_ad s0.heap.size b pf pt) (σ.2.2.1 k) (σ.2.2.2.1 k) (m1 k) (σ1.2.2.2.2 k) (q_ad s0.heap.size b pf pt k) H1) : q_HR s0 D (q_ad s0.heap.size b pf pt) σ1 m1 H1 := by
  obtain ⟨h3, hz, hold, hcl, ho⟩ := hH
  obtain ⟨e1, e2, e3⟩ := hs
  refine ⟨by rw [e1]; exact h3, by rw [z, hz, e1], fun q hq => ?_, fun a ha1 ha2 => ?_, fun a ha1 ha2 => ?_⟩
  · rw [oq q (by rw [q_ad3 hk.1]; omega)]
    exact hold q hq
  · rw [e1] at ha2
    rw [e2, e3]
    by_cases hak : a = k
    · subst hak
      exact hc
    · rw [(hm a hak).1, (hm a hak).2]
      exact (hcl a ha1 ha2).kept (oq _ (by rw [q_ad3 ha1, q_ad3 hk.1]; omega))
  · rw [e2, e3, (hm a (by omega)).1]
    exact ho a ha1 ha2
theorem q_HR_push {s0 : State} {D : va_G} {b pf pt : Nat} {H H1 : Heap} {t : Nat} {n c : Int} (hG : q_G s0 b pf pt D) (hH : q_HR s0 D (q_ad s0.heap.size b pf pt) σ m H) (z1 : H1.size = H.size + 1) (o1 : ∀ q : Nat, q < H.size → H1[q]? = H[q]?)
    (hc : q_cell s0 D (q_ad s0.heap.size b pf pt) t n (fun _ => 0) (fun _ => -1) H.size H1) : q_HR s0 D (q_ad s0.heap.size b pf pt) (sn σ t n c) (mz m σ.1) H1 := by
  obtain ⟨h3, hz, hold, hcl, ho⟩ := hH
  refine ⟨by show 3 ≤ σ.1 + 1; omega, by show H1.size = s0.heap.size + ((σ.1 + 1).toNat - 3); omega, fun q hq => (o1 q (by omega)).trans (hold q hq), fun a ha1 ha2 => ?_, fun a ha1 ha2 => ?_⟩
  · have ha2' : a < σ.1 + 1 := ha2
    by_cases hak : a = σ.1
    · subst hak
      have e1 : (sn σ t n c).2.2.1 σ.1 = t := if_pos rfl
      have e2 : (sn σ t n c).2.2.2.1 σ.1 = n := if_pos rfl
      have e3 : (sn σ t n c).2.2.2.2 σ.1 = fun _ => -1 := by funext i; exact if_pos rfl
      have e4 : mz m σ.1 σ.1 = fun _ => 0 := by funext i; exact if_pos rfl
      rw [e1, e2, e3, e4, show q_ad s0.heap.size b pf pt σ.1 = H.size by rw [q_ad3 h3, hz]]
      exact hc
    · have e1 : (sn σ t n c).2.2.1 a = σ.2.2.1 a := if_neg hak
      have e2 : (sn σ t n c).2.2.2.1 a = σ.2.2.2.1 a := if_neg hak
      have e3 : (sn σ t n c).2.2.2.2 a = σ.2.2.2.2 a := by funext i; exact if_neg hak
      have e4 : mz m σ.1 a = m a := by funext i; exact if_neg hak
      rw [e1, e2, e3, e4]
      exact (hcl a ha1 (by omega)).kept (o1 _ (by rw [q_ad3 ha1]; omega))
  · have e1 : (sn σ t n c).2.2.1 a = σ.2.2.1 a := if_neg (by omega)
    have e2 : (sn σ t n c).2.2.2.1 a = σ.2.2.2.1 a := if_neg (by omega)
    have e4 : mz m σ.1 a = m a := by funext i; exact if_neg (by omega)
    rw [e1, e2, e4]
    exact ho a ha1 ha2
/-- an array, of whatever kind, as it lies there -/
theorem q_HR_arr {s0 : State} {D : va_G} {b pf pt : Nat} {H : Heap} {a n : Int} {t : Nat} (hG : q_G s0 b pf pt D) (hH : q_HR s0 D (q_ad s0.heap.size b pf pt) σ m H) (hs : Is σ a t n) (ht : ¬ t < 100) : ∃ cell : Cell, H[q_ad s0.heap.size b pf pt a]? = some cell ∧ s0.isArrayOf cell (q_aty t) ∧ cell.vm ≠ .unknown ∧ n ≤ (cell.slots.size : Int) ∧ n ≤ 2147483647 ∧ Int32.ofNat cell.slots.size = Int32.ofInt n ∧ ∀ j : Nat, (j : Int) < n → cell.slots[j]? = some (q_av (q_ad s0.heap.size b pf pt) t (m a) (σ.2.2.2.2 a) j) := by
  obtain ⟨h3, hz, hold, hcl, ho⟩ := hH
  obtain ⟨a0, a1, a2, a3⟩ := hs
  by_cases hk : 3 ≤ a
  · have h := hcl a hk a1
    rw [a2, a3] at h
    obtain ⟨cA, g1, g2, g3, g4⟩ := h.2 ht
    refine ⟨_, g4, g1 _ _, (fun e => by cases e), (by rw [arrV_size]; omega), g3.2, (by rw [arrV_size, ← Int32.ofInt_eq_ofNat, show ((n.toNat : Nat) : Int) = n by omega]), fun j hj => ?_⟩
    rw [arrV_read _ _ (by omega)]
  · obtain ⟨g1, cell, c1, c2, c3, c4, c5, c7, c6⟩ := ho a a0 (by omega)
    rw [a2] at g1
    subst g1
    refine ⟨cell, ?_, c2, c3, by rw [← a3]; exact c4, by rw [← a3]; exact c5, by rw [← a3]; exact c7, fun j hj => ?_⟩
    · rw [hold _ (q_adl a0 (by omega) hG.2.2.2.2.1 hG.2.2.2.2.2.1 hG.2.2.2.2.2.2)]
      exact c1
    · rw [c6 j (by rw [a3]; exact hj)]
      rfl
/-- an object, as it lies there -/
theorem q_HR_obj {s0 : State} {D : va_G} {b pf pt : Nat} {H : Heap} {a n : Int} {t : Nat} (hH : q_HR s0 D (q_ad s0.heap.size b pf pt) σ m H) (hs : Is σ a t n) (ht : t < 100) : 3 ≤ a ∧ ∃ q, q_cls[t]? = some q ∧ t_OB (q_ad s0.heap.size b pf pt a) (D.1 t) q.2.2 (D.2 t) H (q_fv (q_ad s0.heap.size b pf pt) t (m a) (σ.2.2.2.2 a)) := by
  obtain ⟨h3, hz, hold, hcl, ho⟩ := hH
  obtain ⟨a0, a1, a2, a3⟩ := hs
  have hk : 3 ≤ a := by
    rcases Int.lt_or_le a 3 with h | h
    · have := (ho a a0 h).1
      omega
    · exact h
  have h := hcl a hk a1
  rw [a2, a3] at h
  exact ⟨hk, h.1 ht⟩
theorem Ev.mem {pc2 : Nat} {st2 : List AV} {σ2 : Sg} {m2 : Mm} (hs : σ2.1 = σ.1 ∧ σ2.2.1 = σ.2.1) (h : ∀ {l : Launch} {s0 : State} {b pf pt : Nat} {D : va_G}, q_G s0 b pf pt D → ∀ {p : Program} {e : Env} {R : Room} {s : State} {mi : MethodId} {args : Array Value} {below : List Frame} {meth : Method} {c : Code}, q_SC s0 M d p R s mi meth c → ∀ {Q : State → Prop} {cells slots : Nat} {H : Heap} {locs : List Loc} {ls : Array Slot}, q_HR s0 D (q_ad s0.heap.size b pf pt) σ m H → (∀ q ∈ locs, s0.heap.size ≤ q.base) → q_LR (q_ad s0.heap.size b pf pt) L ls →
    (∀ (H1 : Heap) (locs1 : List Loc), q_HR s0 D (q_ad s0.heap.size b pf pt) σ2 m2 H1 → (∀ q ∈ locs1, s0.heap.size ≤ q.base) → W p l e R s mi args below meth c H1 locs1 cells slots Q (F0 mi pc2 ls (st2.map (q_cv (q_ad s0.heap.size b pf pt))))) → W p l e R s mi args below meth c H locs cells slots Q (F0 mi pc ls (st.map (q_cv (q_ad s0.heap.size b pf pt))))) (k : Ev d M pc2 L st2 σ2 m2 r σ' m') : Ev d M pc L st σ m r σ' m' := by
  refine ⟨by rw [← hs.1, ← hs.2]; exact k.1, fun l s0 b pf pt D hG p e R s mi args below meth c n0 k0 hC h1 h2 h3 h4 H locs ls hH hf hl => h hG hC hH hf hl (fun H1 locs1 hH1 hf1 => ?_)⟩
  have := k.2 l s0 b pf pt D hG p e R s mi args below meth c n0 k0 hC (by rw [hs.1]; exact h1) (by rw [hs.2]; exact h2) h3 h4 H1 locs1 ls hH1 hf1 hl
  rw [hs.1, hs.2] at this
  exact this
theorem q_inr {s0 : State} {b pf pt : Nat} {D : va_G} {A : Int → Nat} {H : Heap} {a : Int} (hH : q_HR s0 D A σ m H) {x : Loc} {locs : List Loc} (hf : ∀ q ∈ locs, s0.heap.size ≤ q.base) (hx : s0.heap.size ≤ x.base) : ∀ q ∈ locs ++ [x], s0.heap.size ≤ q.base := by
  intro q hq
  rcases List.mem_append.mp hq with h | h
  · exact hf q h
  · rw [List.mem_singleton.mp h]; exact hx
theorem q_ref {A : Int → Nat} {a : Int} (h : 0 ≤ a) : q_cv A (vr a) = .ref (A a) := by
  simp only [q_cv]
  rw [if_neg (by omega)]
theorem q_mp2 {A : Int → Nat} {i a : Int} (h : 0 ≤ a) : (vi i :: vr a :: st).map (q_cv A) = .int (Int32.ofInt i) :: .ref (A a) :: st.map (q_cv A) := by
  simp only [List.map_cons]
  rw [q_ref h]
  rfl
theorem q_mp1 {A : Int → Nat} {a : Int} (h : 0 ≤ a) : (vr a :: st).map (q_cv A) = .ref (A a) :: st.map (q_cv A) := by
  simp only [List.map_cons]
  rw [q_ref h]
theorem Ev.iaload {a i n : Int} (hd : decode M.2.1 pc = .ok (.iaload, 1)) (hs : Is σ a 100 n) (hi : 0 ≤ i ∧ i < n) (k : Ev d M (pc + 1) L (vi (m a i) :: st) σ m r σ' m') : Ev d M pc L (vi i :: vr a :: st) σ m r σ' m' := by
  refine Ev.mem ⟨rfl, rfl⟩ (fun {l s0 b pf pt D} hG {p e R s mi args below meth c} hC {Q cells slots H locs ls} hH hf hl kk => ?_) k
  obtain ⟨cell, g1, g2, g3, g4, g5, g7, g6⟩ := q_HR_arr hG hH hs (by decide)
  rw [q_mp2 hs.1]
  refine W.iald hC.1 hC.2.1 g1 (State.isArrayOf_alike hC.2.2.2.2.2.2.2.1.alike g2) g3 (q_pin hi.1 (by omega) (by omega)) (v := q_cv (q_ad s0.heap.size b pf pt) (vi (m a i))) ?_ rfl rfl hd (kk H locs hH hf)
  rw [q_clamp hi.1 (by omega), g6 _ (by omega)]
  show some (q_av _ 100 (m a) _ _) = _
  simp only [q_av]
  rw [show ((i.toNat : Nat) : Int) = i by omega]
  rfl
theorem Ev.laload {a i n : Int} (hd : decode M.2.1 pc = .ok (.laload, 1)) (hs : Is σ a 101 n) (hi : 0 ≤ i ∧ i < n) (k : Ev d M (pc + 1) L (vl (m a i) :: st) σ m r σ' m') : Ev d M pc L (vi i :: vr a :: st) σ m r σ' m' := by
  refine Ev.mem ⟨rfl, rfl⟩ (fun {l s0 b pf pt D} hG {p e R s mi args below meth c} hC {Q cells slots H locs ls} hH hf hl kk => ?_) k
  obtain ⟨cell, g1, g2, g3, g4, g5, g7, g6⟩ := q_HR_arr hG hH hs (by decide)
  rw [q_mp2 hs.1]
  refine W.lald hC.1 hC.2.1 g1 (State.isArrayOf_alike hC.2.2.2.2.2.2.2.1.alike g2) g3 (q_pin hi.1 (by omega) (by omega)) (v := q_cv (q_ad s0.heap.size b pf pt) (vl (m a i))) ?_ rfl rfl hd (kk H locs hH hf)
  rw [q_clamp hi.1 (by omega), g6 _ (by omega)]
  show some (q_av _ 101 (m a) _ _) = _
  simp only [q_av]
  rw [show ((i.toNat : Nat) : Int) = i by omega]
  rfl
theorem Ev.baload {a i n : Int} (hd : decode M.2.1 pc = .ok (.baload, 1)) (hs : Is σ a 102 n) (hi : 0 ≤ i ∧ i < n) (k : Ev d M (pc + 1) L (vi (m a i) :: st) σ m r σ' m') : Ev d M pc L (vi i :: vr a :: st) σ m r σ' m' := by
  refine Ev.mem ⟨rfl, rfl⟩ (fun {l s0 b pf pt D} hG {p e R s mi args below meth c} hC {Q cells slots H locs ls} hH hf hl kk => ?_) k
  obtain ⟨cell, g1, g2, g3, g4, g5, g7, g6⟩ := q_HR_arr hG hH hs (by decide)
  rw [q_mp2 hs.1]
  refine W.bald hC.1 hC.2.1 g1 (State.isArrayOf_alike hC.2.2.2.2.2.2.2.1.alike g2) g3 (q_pin hi.1 (by omega) (by omega)) (v := q_cv (q_ad s0.heap.size b pf pt) (vi (m a i))) ?_ rfl rfl hd (kk H locs hH hf)
  rw [q_clamp hi.1 (by omega), g6 _ (by omega)]
  show some (q_av _ 102 (m a) _ _) = _
  simp only [q_av]
  rw [show ((i.toNat : Nat) : Int) = i by omega]
  rfl
theorem Ev.zaload {a i n : Int} (hd : decode M.2.1 pc = .ok (.baload, 1)) (hs : Is σ a 103 n) (hi : 0 ≤ i ∧ i < n) (k : Ev d M (pc + 1) L (vi (m a i) :: st) σ m r σ' m') : Ev d M pc L (vi i :: vr a :: st) σ m r σ' m' := by
  refine Ev.mem ⟨rfl, rfl⟩ (fun {l s0 b pf pt D} hG {p e R s mi args below meth c} hC {Q cells slots H locs ls} hH hf hl kk => ?_) k
  obtain ⟨cell, g1, g2, g3, g4, g5, g7, g6⟩ := q_HR_arr hG hH hs (by decide)
  rw [q_mp2 hs.1]
  refine W.zald hC.1 hC.2.1 g1 (State.isArrayOf_alike hC.2.2.2.2.2.2.2.1.alike g2) g3 (q_pin hi.1 (by omega) (by omega)) (v := q_cv (q_ad s0.heap.size b pf pt) (vi (m a i))) ?_ rfl rfl hd (kk H locs hH hf)
  rw [q_clamp hi.1 (by omega), g6 _ (by omega)]
  show some (q_av _ 103 (m a) _ _) = _
  simp only [q_av]
  rw [show ((i.toNat : Nat) : Int) = i by omega]
  rfl
theorem Ev.aaload {a i n v : Int} {c : Nat} (hd : decode M.2.1 pc = .ok (.aaload, 1)) (hs : Is σ a (200 + c) n) (hi : 0 ≤ i ∧ i < n) (hv : σ.2.2.2.2 a i = v) (k : Ev d M (pc + 1) L (vr v :: st) σ m r σ' m') : Ev d M pc L (vi i :: vr a :: st) σ m r σ' m' := by
  refine Ev.mem ⟨rfl, rfl⟩ (fun {l s0 b pf pt D} hG {p e R s mi args below meth c'} hC {Q cells slots H locs ls} hH hf hl kk => ?_) k
  obtain ⟨cell, g1, g2, g3, g4, g5, g7, g6⟩ := q_HR_arr hG hH hs (by omega)
  rw [q_mp2 hs.1]
  have hty : q_aty (200 + c) = .object ((q_cls[(200 + c) - 200]?.map (fun q => q.1)).getD "") := by
    unfold q_aty
    rw [if_neg (by omega), if_neg (by omega), if_neg (by omega), if_neg (by omega)]
  refine W.aald (ty := q_aty (200 + c)) hC.1 hC.2.1 g1 (State.isArrayOf_alike hC.2.2.2.2.2.2.2.1.alike g2) (by rw [hty]; rfl) g3 (q_pin hi.1 (by omega) (by omega)) (v := q_cv (q_ad s0.heap.size b pf pt) (vr v)) ?_ rfl rfl hd (kk H locs hH hf)
  rw [q_clamp hi.1 (by omega), g6 _ (by omega)]
  simp only [q_av]
  rw [if_neg (by omega), if_neg (by omega), show ((i.toNat : Nat) : Int) = i by omega, hv]
theorem Ev.arraylength {a n : Int} {t : Nat} (hd : decode M.2.1 pc = .ok (.arraylength, 1)) (hs : Is σ a t n) (ht : ¬ t < 100) (k : Ev d M (pc + 1) L (vi n :: st) σ m r σ' m') : Ev d M pc L (vr a :: st) σ m r σ' m' := by
  refine Ev.mem ⟨rfl, rfl⟩ (fun {l s0 b pf pt D} hG {p e R s mi args below meth c} hC {Q cells slots H locs ls} hH hf hl kk => ?_) k
  obtain ⟨cell, g1, g2, g3, g4, g5, g7, g6⟩ := q_HR_arr hG hH hs ht
  rw [q_mp1 hs.1]
  refine W.alen (n := Int32.ofInt n) hC.1 hC.2.1 g1 (State.isArrayOf_alike hC.2.2.2.2.2.2.2.1.alike g2) g7 rfl rfl hd (kk H locs hH hf)
theorem Ev.iastore {a i n x : Int} (hd : decode M.2.1 pc = .ok (.iastore, 1)) (hs : Is σ a 100 n) (h3 : 3 ≤ a) (hi : 0 ≤ i ∧ i < n) (k : Ev d M (pc + 1) L st σ (mu m a i x) r σ' m') : Ev d M pc L (vi x :: vi i :: vr a :: st) σ m r σ' m' := by
  refine Ev.mem (σ2 := σ) (m2 := mu m a i x) ⟨rfl, rfl⟩ (fun {l s0 b pf pt D} hG {p e R s mi args below meth c} hC {Q cells slots H locs ls} hH hf hl kk => ?_) k
  have hcl := hH.2.2.2.1 a h3 hs.2.1
  rw [hs.2.2.1, hs.2.2.2] at hcl
  obtain ⟨cA, g1, g2, g3, g4⟩ := hcl.2 (by decide)
  rw [List.map_cons, q_mp2 hs.1]
  refine W.iast hC.1 hC.2.1 g4 (State.isArrayOf_alike hC.2.2.2.2.2.2.2.1.alike (g1 _ _)) (fun e => by cases e) (by rw [arrV_size]; exact q_pin hi.1 (by omega) (by omega)) rfl rfl hd (fun H1 e z oq => kk H1 _ ?_ (q_inr (b := b) (pf := pf) (pt := pt) (a := a) hH hf (by show _ ≤ q_ad _ _ _ _ a; rw [q_ad3 h3]; omega)))
  refine q_HR_set hG hH ⟨h3, hs.2.1⟩ z oq ⟨rfl, rfl, rfl⟩ (fun a' ha' => ⟨by funext j; exact if_neg (fun q => ha' q.1), rfl⟩) ?_
  rw [hs.2.2.1, hs.2.2.2]
  refine ⟨fun h => absurd h (by decide), fun _ => ⟨cA, g1, g2, g3, ?_⟩⟩
  rw [e, arrV_store, q_clamp hi.1 (by omega)]
  congr 2
  funext j
  simp only [updV, q_av, mu]
  by_cases hj : j = i.toNat
  · subst hj
    rw [if_pos rfl, show ((i.toNat : Nat) : Int) = i by omega]
    simp only [and_self, if_true]
    try rfl
  · rw [if_neg hj]
    have hj2 : ¬ ((j : Int) = i) := by omega
    simp [hj2]
theorem Ev.lastore {a i n x : Int} (hd : decode M.2.1 pc = .ok (.lastore, 1)) (hs : Is σ a 101 n) (h3 : 3 ≤ a) (hi : 0 ≤ i ∧ i < n) (k : Ev d M (pc + 1) L st σ (mu m a i x) r σ' m') : Ev d M pc L (vl x :: vi i :: vr a :: st) σ m r σ' m' := by
  refine Ev.mem (σ2 := σ) (m2 := mu m a i x) ⟨rfl, rfl⟩ (fun {l s0 b pf pt D} hG {p e R s mi args below meth c} hC {Q cells slots H locs ls} hH hf hl kk => ?_) k
  have hcl := hH.2.2.2.1 a h3 hs.2.1
  rw [hs.2.2.1, hs.2.2.2] at hcl
  obtain ⟨cA, g1, g2, g3, g4⟩ := hcl.2 (by decide)
  rw [List.map_cons, q_mp2 hs.1]
  refine W.last hC.1 hC.2.1 g4 (State.isArrayOf_alike hC.2.2.2.2.2.2.2.1.alike (g1 _ _)) (fun e => by cases e) (by rw [arrV_size]; exact q_pin hi.1 (by omega) (by omega)) rfl rfl hd (fun H1 e z oq => kk H1 _ ?_ (q_inr (b := b) (pf := pf) (pt := pt) (a := a) hH hf (by show _ ≤ q_ad _ _ _ _ a; rw [q_ad3 h3]; omega)))
  refine q_HR_set hG hH ⟨h3, hs.2.1⟩ z oq ⟨rfl, rfl, rfl⟩ (fun a' ha' => ⟨by funext j; exact if_neg (fun q => ha' q.1), rfl⟩) ?_
  rw [hs.2.2.1, hs.2.2.2]
  refine ⟨fun h => absurd h (by decide), fun _ => ⟨cA, g1, g2, g3, ?_⟩⟩
  rw [e, arrV_store, q_clamp hi.1 (by omega)]
  congr 2
  funext j
  simp only [updV, q_av, mu]
  by_cases hj : j = i.toNat
  · subst hj
    rw [if_pos rfl, show ((i.toNat : Nat) : Int) = i by omega]
    simp only [and_self, if_true]
    try rfl
  · rw [if_neg hj]
    have hj2 : ¬ ((j : Int) = i) := by omega
    simp [hj2]
theorem Ev.bastore {a i n x : Int} (hd : decode M.2.1 pc = .ok (.bastore, 1)) (hs : Is σ a 102 n) (h3 : 3 ≤ a) (hi : 0 ≤ i ∧ i < n) (k : Ev d M (pc + 1) L st σ (mu m a i (x.bmod 256)) r σ' m') : Ev d M pc L (vi x :: vi i :: vr a :: st) σ m r σ' m' := by
  refine Ev.mem (σ2 := σ) (m2 := mu m a i (x.bmod 256)) ⟨rfl, rfl⟩ (fun {l s0 b pf pt D} hG {p e R s mi args below meth c} hC {Q cells slots H locs ls} hH hf hl kk => ?_) k
  have hcl := hH.2.2.2.1 a h3 hs.2.1
  rw [hs.2.2.1, hs.2.2.2] at hcl
  obtain ⟨cA, g1, g2, g3, g4⟩ := hcl.2 (by decide)
  rw [List.map_cons, q_mp2 hs.1]
  refine W.bast hC.1 hC.2.1 g4 (State.isArrayOf_alike hC.2.2.2.2.2.2.2.1.alike (g1 _ _)) (fun e => by cases e) (by rw [arrV_size]; exact q_pin hi.1 (by omega) (by omega)) rfl rfl hd (fun H1 e z oq => kk H1 _ ?_ (q_inr (b := b) (pf := pf) (pt := pt) (a := a) hH hf (by show _ ≤ q_ad _ _ _ _ a; rw [q_ad3 h3]; omega)))
  refine q_HR_set hG hH ⟨h3, hs.2.1⟩ z oq ⟨rfl, rfl, rfl⟩ (fun a' ha' => ⟨by funext j; exact if_neg (fun q => ha' q.1), rfl⟩) ?_
  rw [hs.2.2.1, hs.2.2.2]
  refine ⟨fun h => absurd h (by decide), fun _ => ⟨cA, g1, g2, g3, ?_⟩⟩
  rw [e, arrV_store, q_clamp hi.1 (by omega)]
  congr 2
  funext j
  simp only [updV, q_av, mu]
  by_cases hj : j = i.toNat
  · subst hj
    rw [if_pos rfl, show ((i.toNat : Nat) : Int) = i by omega]
    simp only [and_self, if_true]
    show narrow .byte (.int (Int32.ofInt x)) = _
    have e8 : (Int32.ofInt x).toInt8.toInt32 = Int32.ofInt (x.bmod 256) := Int32.toInt_inj.mp (by rw [Int8.toInt_toInt32, Int32.toInt_toInt8, Int32.toInt_ofInt, Int32.toInt_ofInt]; simp only [Int32.size, Int.bmod_def]; omega)
    show _ = Value.int (Int32.ofInt (x.bmod 256))
    rw [← e8]
    try rfl
  · rw [if_neg hj]
    have hj2 : ¬ ((j : Int) = i) := by omega
    simp [hj2]
theorem Ev.zastore {a i n x : Int} (hd : decode M.2.1 pc = .ok (.bastore, 1)) (hs : Is σ a 103 n) (h3 : 3 ≤ a) (hi : 0 ≤ i ∧ i < n) (hx : x = 0 ∨ x = 1) (k : Ev d M (pc + 1) L st σ (mu m a i x) r σ' m') : Ev d M pc L (vi x :: vi i :: vr a :: st) σ m r σ' m' := by
  refine Ev.mem (σ2 := σ) (m2 := mu m a i x) ⟨rfl, rfl⟩ (fun {l s0 b pf pt D} hG {p e R s mi args below meth c} hC {Q cells slots H locs ls} hH hf hl kk => ?_) k
  have hcl := hH.2.2.2.1 a h3 hs.2.1
  rw [hs.2.2.1, hs.2.2.2] at hcl
  obtain ⟨cA, g1, g2, g3, g4⟩ := hcl.2 (by decide)
  rw [List.map_cons, q_mp2 hs.1]
  refine W.zast hC.1 hC.2.1 g4 (State.isArrayOf_alike hC.2.2.2.2.2.2.2.1.alike (g1 _ _)) (fun e => by cases e) (by rw [arrV_size]; exact q_pin hi.1 (by omega) (by omega)) rfl rfl hd (fun H1 e z oq => kk H1 _ ?_ (q_inr (b := b) (pf := pf) (pt := pt) (a := a) hH hf (by show _ ≤ q_ad _ _ _ _ a; rw [q_ad3 h3]; omega)))
  refine q_HR_set hG hH ⟨h3, hs.2.1⟩ z oq ⟨rfl, rfl, rfl⟩ (fun a' ha' => ⟨by funext j; exact if_neg (fun q => ha' q.1), rfl⟩) ?_
  rw [hs.2.2.1, hs.2.2.2]
  refine ⟨fun h => absurd h (by decide), fun _ => ⟨cA, g1, g2, g3, ?_⟩⟩
  rw [e, arrV_store, q_clamp hi.1 (by omega)]
  congr 2
  funext j
  simp only [updV, q_av, mu]
  by_cases hj : j = i.toNat
  · subst hj
    rw [if_pos rfl, show ((i.toNat : Nat) : Int) = i by omega]
    simp only [and_self, if_true]
    rcases hx with rfl | rfl <;> rfl
  · rw [if_neg hj]
    have hj2 : ¬ ((j : Int) = i) := by omega
    simp [hj2]
end
end
section
section
variable {d : Nat} {M : Md} {pc : Nat} {L : List (Option AV)} {st : List AV} {σ σ' : Sg} {m m' : Mm} {r : Option AV}
/-- entry idx of own's pool names field k of the class number t -/
def q_lf (own : String) (idx t k : Nat) : Prop := ∃ q, q_cls[t]? = some q ∧ k < q.2.2 ∧ Cond.fieldLink own idx (q.2.1 k).1 (q.2.1 k).2.1 (q.2.1 k).2.2.1 ∈ lw_tbl
theorem q_getv {s0 : State} {D : va_G} {b pf pt : Nat} {H : Heap} {a n : Int} {t idx k : Nat} {l : Launch} {p : Program} {e : Env} {R : Room} {s : State} {mi : MethodId} {args : Array Value} {below : List Frame} {meth : Method} {c : Code} {Q : State → Prop} {cells slots : Nat} {locs : List Loc} {ls : Array Slot} {rest : List Value}
    (hG : q_G s0 b pf pt D) (hC : q_SC s0 M d p R s mi meth c) (hH : q_HR s0 D (q_ad s0.heap.size b pf pt) σ m H) (hs : Is σ a t n) (ht : t < 100) (hw : q_lf M.1.cls idx t k) (hd : decode M.2.1 pc = .ok (.getfield idx, 3))
    (kk : W p l e R s mi args below meth c H locs cells slots Q (F0 mi (pc + 3) ls (q_fv (q_ad s0.heap.size b pf pt) t (m a) (σ.2.2.2.2 a) k :: rest))) : W p l e R s mi args below meth c H locs cells slots Q (F0 mi pc ls (.ref (q_ad s0.heap.size b pf pt a) :: rest)) := by
  obtain ⟨q, hq, hk, hl⟩ := hw
  obtain ⟨a0, hts0⟩ := hG.1
  obtain ⟨h3, q', hq', cell, c1, c2, c3, c4⟩ := q_HR_obj hH hs ht
  cases hq.symm.trans hq'
  have hW := hC.2.2.2.2.2.2.2.1
  have hts := q_uw (args := args) hts0 hW (q_clsOk t q hq).2.2
  obtain ⟨hS, hfc, kC, hkC, hkind⟩ := u_Kn_moved hW.alike (hG.2.1 t q hq)
  obtain ⟨cf, kf, fi, f, hi, hsl⟩ := hS k hk
  refine W.getf hC.1 hC.2.1 hC.2.2.2.2.1 (q_w hts0 hW hl rfl) hi (u_facts hfc hkC (u_lays hts (fun _ h => h) hk) hi).1 c1 (by rw [c3]; exact fun h => by cases h) (v := q_fv (q_ad s0.heap.size b pf pt) t (m a) (σ.2.2.2.2 a) k) ?_ rfl rfl hd kk
  rw [hsl, c4 k hk]
theorem Ev.getfield {a n : Int} {t idx k : Nat} (hd : decode M.2.1 pc = .ok (.getfield idx, 3)) (hw : q_lf M.1.cls idx t k) (hf : q_fref t k = false) (hs : Is σ a t n) (ht : t < 100) (kk : Ev d M (pc + 3) L (vi (m a k) :: st) σ m r σ' m') : Ev d M pc L (vr a :: st) σ m r σ' m' := by
  refine Ev.mem ⟨rfl, rfl⟩ (fun {l s0 b pf pt D} hG {p e R s mi args below meth c} hC {Q cells slots H locs ls} hH hf1 hl kk => ?_) kk
  rw [q_mp1 hs.1]
  refine q_getv hG hC hH hs ht hw hd ?_
  have := kk H locs hH hf1
  simp only [q_fv, hf]
  exact this
theorem Ev.getfieldR {a n v : Int} {t idx k : Nat} (hd : decode M.2.1 pc = .ok (.getfield idx, 3)) (hw : q_lf M.1.cls idx t k) (hf : q_fref t k = true) (hs : Is σ a t n) (ht : t < 100) (hv : σ.2.2.2.2 a k = v) (kk : Ev d M (pc + 3) L (vr v :: st) σ m r σ' m') : Ev d M pc L (vr a :: st) σ m r σ' m' := by
  refine Ev.mem ⟨rfl, rfl⟩ (fun {l s0 b pf pt D} hG {p e R s mi args below meth c} hC {Q cells slots H locs ls} hH hf1 hl kk => ?_) kk
  rw [q_mp1 hs.1]
  refine q_getv hG hC hH hs ht hw hd ?_
  have := kk H locs hH hf1
  simp only [q_fv, hf, if_true, hv]
  exact this
theorem q_putv {s0 : State} {D : va_G} {b pf pt : Nat} {H : Heap} {a n : Int} {t idx k : Nat} {l : Launch} {p : Program} {e : Env} {R : Room} {s : State} {mi : MethodId} {args : Array Value} {below : List Frame} {meth : Method} {c : Code} {Q : State → Prop} {cells slots : Nat} {locs : List Loc} {ls : Array Slot} {rest : List Value} {v : Value} {m1 : Mm} {σ1 : Sg}
    (hG : q_G s0 b pf pt D) (hC : q_SC s0 M d p R s mi meth c) (hH : q_HR s0 D (q_ad s0.heap.size b pf pt) σ m H) (hs : Is σ a t n) (ht : t < 100) (hw : q_lf M.1.cls idx t k) (hd : decode M.2.1 pc = .ok (.putfield idx, 3))
    (hfin : ∀ q, q_cls[t]? = some q → (q.2.1 k).2.2.2 = false ∨ (M.1.name = "<init>" ∧ (q.2.1 k).1 = M.1.cls)) (hn : narrow (q_ty t k) v = v) (hfit : fits (q_ty t k) v = true)
    (hs1 : σ1.1 = σ.1 ∧ σ1.2.2.1 = σ.2.2.1 ∧ σ1.2.2.2.1 = σ.2.2.2.1) (hm : ∀ a' : Int, a' ≠ a → m1 a' = m a' ∧ σ1.2.2.2.2 a' = σ.2.2.2.2 a') (hv : ∀ j, updV (q_fv (q_ad s0.heap.size b pf pt) t (m a) (σ.2.2.2.2 a)) k v j = q_fv (q_ad s0.heap.size b pf pt) t (m1 a) (σ1.2.2.2.2 a) j)
    (hf : ∀ q ∈ locs, s0.heap.size ≤ q.base) (kk : ∀ (H1 : Heap) (locs1 : List Loc), q_HR s0 D (q_ad s0.heap.size b pf pt) σ1 m1 H1 → (∀ q ∈ locs1, s0.heap.size ≤ q.base) → W p l e R s mi args below meth c H1 locs1 cells slots Q (F0 mi (pc + 3) ls rest)) : W p l e R s mi args below meth c H locs cells slots Q (F0 mi pc ls (v :: .ref (q_ad s0.heap.size b pf pt a) :: rest)) := by
  obtain ⟨q, hq, hk, hl⟩ := hw
  obtain ⟨a0, hts0⟩ := hG.1
  obtain ⟨h3, q', hq', cell, c1, c2, c3, c4⟩ := q_HR_obj hH hs ht
  cases hq.symm.trans hq'
  have hW := hC.2.2.2.2.2.2.2.1
  have hts := q_uw (args := args) hts0 hW (q_clsOk t q hq).2.2
  have hKn := u_Kn_moved hW.alike (hG.2.1 t q hq)
  obtain ⟨hS, hfc, kC, hkC, hkind⟩ := id hKn
  obtain ⟨cf, kf, fi, f, hi, hsl⟩ := hS k hk
  have hst := (u_facts hfc hkC (u_lays hts (fun _ h => h) hk) hi).1
  have hap : ∀ x y, x < q.2.2 → y < q.2.2 → x ≠ y → D.2 t x ≠ D.2 t y := by
    intro x y hx hy hne
    obtain ⟨_, _, _, fa, hia, ea⟩ := hS x hx
    obtain ⟨_, _, _, fb, hib, eb⟩ := hS y hy
    rw [← ea, ← eb]
    refine u_apart (u_lays hts (fun _ h => h) hx) (u_lays hts (fun _ h => h) hy) hia hib ?_
    rw [(State.fieldFound?_type hia ((q_clsOk t q hq).2.1 x hx)).1, (State.fieldFound?_type hib ((q_clsOk t q hq).2.1 y hy)).1]
    exact (q_clsOk t q hq).1 x hx y hy hne
  have fin : ∀ H' : Heap, H'[q_ad s0.heap.size b pf pt a]? = some (cell.setSlot f.slot v) → H'.size = H.size → (∀ q' : Nat, q' ≠ q_ad s0.heap.size b pf pt a → H'[q']? = H[q']?) → W p l e R s mi args below meth c H' (locs ++ [⟨q_ad s0.heap.size b pf pt a, f.slot⟩]) cells slots Q (F0 mi (pc + 3) ls rest) := by
    intro H' e1 e2 e3
    refine kk H' _ (q_HR_set hG hH ⟨h3, hs.2.1⟩ e2 e3 hs1 hm ?_) (q_inr (b := b) (pf := pf) (pt := pt) (a := a) hH hf (by show _ ≤ q_ad _ _ _ _ a; rw [q_ad3 h3]; omega))
    rw [hs.2.2.1]
    refine ⟨fun _ => ⟨q, hq, ?_⟩, fun h => absurd ht h⟩
    rw [hsl] at e1
    exact t_OB.to (V := updV (q_fv (q_ad s0.heap.size b pf pt) t (m a) (σ.2.2.2.2 a)) k v) ⟨_, e1, c2, c3, t_set c4 hap hk v⟩ (fun j _ => hv j)
  have hlay := hts _ (u_in_lay hk)
  unfold u_lay at hlay
  rcases hfin q hq with hF | ⟨hF1, hF2⟩
  · rw [if_neg (by rw [hF]; decide)] at hlay
    have h6 := u_store hfc hkC hkind hlay hi ((q_clsOk t q hq).2.1 k hk) hn hfit
    exact W.putK hC.1 hC.2.1 (f := f) ⟨hC.2.2.2.2.1, q_w hts0 hW hl rfl, ⟨_, _, _, hi⟩, hst⟩ (by rw [c2]; exact h6) c1 c3 (by rw [hsl]; exact k2_hasslot (c4 k hk)) rfl rfl hd fin
  · by_cases hF : (q.2.1 k).2.2.2 = true
    · rw [if_pos hF] at hlay
      have hcf : mi.cls = cf := by
        obtain ⟨_, _, c', _, _, _, -, -, hf', -, -, -, hown2, -⟩ := Cond.laysFinal_spec hlay
        have e1 : c' = cf := by have := hi.symm.trans hf'; simp at this; exact this.1.symm
        rw [hF2] at hown2
        rw [← e1]; exact Option.some.inj (hC.2.2.2.2.1.symm.trans hown2)
      have h6 := u_fits hfc hkC hkind (Or.inr hlay) hi ((q_clsOk t q hq).2.1 k hk) hn hfit
      exact W.putFinK hC.1 hC.2.1 hC.2.2.2.2.1 (q_w hts0 hW hl rfl) hi hst hcf (hC.2.2.2.2.2.2.1 hF1) (by rw [c2]; exact h6) c1 c3 (by rw [hsl]; exact k2_hasslot (c4 k hk)) rfl rfl hd fin
    · rw [if_neg hF] at hlay
      have h6 := u_store hfc hkC hkind hlay hi ((q_clsOk t q hq).2.1 k hk) hn hfit
      exact W.putK hC.1 hC.2.1 (f := f) ⟨hC.2.2.2.2.1, q_w hts0 hW hl rfl, ⟨_, _, _, hi⟩, hst⟩ (by rw [c2]; exact h6) c1 c3 (by rw [hsl]; exact k2_hasslot (c4 k hk)) rfl rfl hd fin
def q_pf (M : Md) (t k : Nat) : Bool := match q_cls[t]? with
  | some q => !(q.2.1 k).2.2.2 || (decide (M.1.name = "<init>") && decide ((q.2.1 k).1 = M.1.cls))
  | none => false
theorem q_pf_ok {t k : Nat} (h : q_pf M t k = true) : ∀ q, q_cls[t]? = some q → (q.2.1 k).2.2.2 = false ∨ (M.1.name = "<init>" ∧ (q.2.1 k).1 = M.1.cls) := by
  intro q hq
  unfold q_pf at h
  rw [hq] at h
  simp only [Bool.or_eq_true, Bool.not_eq_true', Bool.and_eq_true, decide_eq_true_eq] at h
  exact h
theorem Ev.putfield {a n x : Int} {t idx k : Nat} (hd : decode M.2.1 pc = .ok (.putfield idx, 3)) (hw : q_lf M.1.cls idx t k) (hp : q_pf M t k = true) (hy : q_ty t k = .int) (hf : q_fref t k = false) (hs : Is σ a t n) (ht : t < 100) (kk : Ev d M (pc + 3) L st σ (mu m a k x) r σ' m') : Ev d M pc L (vi x :: vr a :: st) σ m r σ' m' := by
  refine Ev.mem (σ2 := σ) (m2 := mu m a k x) ⟨rfl, rfl⟩ (fun {l s0 b pf pt D} hG {p e R s mi args below meth c} hC {Q cells slots H locs ls} hH hf1 hl kk => ?_) kk
  rw [List.map_cons, q_mp1 hs.1]
  refine q_putv (v := .int (Int32.ofInt x)) hG hC hH hs ht hw hd (q_pf_ok hp) (by rw [hy]; rfl) (by rw [hy]; rfl) ⟨rfl, rfl, rfl⟩ (fun a' ha' => ⟨by funext j; exact if_neg (fun q => ha' q.1), rfl⟩) (fun j => ?_) hf1 kk
  simp only [updV, q_fv, mu]
  by_cases hj : j = k
  · subst hj
    rw [if_pos rfl, if_neg (by rw [hf]; decide)]
    simp
  · rw [if_neg hj]
    have hj2 : ¬ ((j : Int) = k) := by omega
    simp [hj2]
theorem Ev.putfieldZ {a n x : Int} {t idx k : Nat} (hd : decode M.2.1 pc = .ok (.putfield idx, 3)) (hw : q_lf M.1.cls idx t k) (hp : q_pf M t k = true) (hy : q_ty t k = .boolean) (hf : q_fref t k = false) (hs : Is σ a t n) (ht : t < 100) (hx : x = 0 ∨ x = 1) (kk : Ev d M (pc + 3) L st σ (mu m a k x) r σ' m') : Ev d M pc L (vi x :: vr a :: st) σ m r σ' m' := by
  refine Ev.mem (σ2 := σ) (m2 := mu m a k x) ⟨rfl, rfl⟩ (fun {l s0 b pf pt D} hG {p e R s mi args below meth c} hC {Q cells slots H locs ls} hH hf1 hl kk => ?_) kk
  rw [List.map_cons, q_mp1 hs.1]
  refine q_putv (v := .int (Int32.ofInt x)) hG hC hH hs ht hw hd (q_pf_ok hp) (by rw [hy]; rcases hx with rfl | rfl <;> rfl) (by rw [hy]; rcases hx with rfl | rfl <;> rfl) ⟨rfl, rfl, rfl⟩ (fun a' ha' => ⟨by funext j; exact if_neg (fun q => ha' q.1), rfl⟩) (fun j => ?_) hf1 kk
  simp only [updV, q_fv, mu]
  by_cases hj : j = k
  · subst hj
    rw [if_pos rfl, if_neg (by rw [hf]; decide)]
    simp
  · rw [if_neg hj]
    have hj2 : ¬ ((j : Int) = k) := by omega
    simp [hj2]
def q_isr (ty : FieldType) : Bool := match ty with
  | .object _ => true
  | .array _ => true
  | _ => false
theorem Ev.putfieldR {a n x : Int} {t idx k : Nat} (hd : decode M.2.1 pc = .ok (.putfield idx, 3)) (hw : q_lf M.1.cls idx t k) (hp : q_pf M t k = true) (hy : q_isr (q_ty t k) = true) (hf : q_fref t k = true) (hs : Is σ a t n) (ht : t < 100) (kk : Ev d M (pc + 3) L st (su σ a k x) m r σ' m') : Ev d M pc L (vr x :: vr a :: st) σ m r σ' m' := by
  refine Ev.mem (σ2 := su σ a k x) (m2 := m) ⟨rfl, rfl⟩ (fun {l s0 b pf pt D} hG {p e R s mi args below meth c} hC {Q cells slots H locs ls} hH hf1 hl kk => ?_) kk
  rw [List.map_cons, q_mp1 hs.1]
  refine q_putv (v := q_cv (q_ad s0.heap.size b pf pt) (vr x)) (σ1 := su σ a k x) (m1 := m) hG hC hH hs ht hw hd (q_pf_ok hp) ?_ ?_ ⟨rfl, rfl, rfl⟩ (fun a' ha' => ⟨rfl, by funext j; exact if_neg (fun q => ha' q.1)⟩) (fun j => ?_) hf1 kk
  · simp only [q_cv]
    cases hty : q_ty t k <;> simp [hty, q_isr] at hy <;> split <;> rfl
  · simp only [q_cv]
    cases hty : q_ty t k <;> simp [hty, q_isr] at hy <;> split <;> rfl
  · simp only [updV, q_fv, su, mu]
    by_cases hj : j = k
    · subst hj
      rw [if_pos rfl, if_pos hf]
      simp
    · rw [if_neg hj]
      have hj2 : ¬ ((j : Int) = k) := by omega
      simp [hj2]
end
end
section
section
variable {d : Nat} {M : Md} {pc : Nat} {L : List (Option AV)} {st : List AV} {σ σ' : Sg} {m m' : Mm} {r : Option AV}
/-! the class's two static rows -/
theorem q_gets {s0 : State} {D : va_G} {b pf pt : Nat} {H : Heap} {idx : Nat} {nm : String} {v : Value} {l : Launch} {p : Program} {e : Env} {R : Room} {s : State} {mi : MethodId} {args : Array Value} {below : List Frame} {meth : Method} {c : Code} {Q : State → Prop} {cells slots : Nat} {locs : List Loc} {ls : Array Slot} {rest : List Value}
    (hG : q_G s0 b pf pt D) (hC : q_SC s0 M d p R s mi meth c) (hH : q_HR s0 D (q_ad s0.heap.size b pf pt) σ m H) (hZ : va_Z "FloorCurves" nm "[I" v (fun q => s0.heap.size ≤ q) s0 s0.heap) (hl : Cond.fieldLink M.1.cls idx "FloorCurves" nm "[I" ∈ lw_tbl) (hd : decode M.2.1 pc = .ok (.getstatic idx, 3))
    (kk : W p l e R s mi args below meth c H locs cells slots Q (F0 mi (pc + 3) ls (v :: rest))) : W p l e R s mi args below meth c H locs cells slots Q (F0 mi pc ls rest) := by
  obtain ⟨a0, hts0⟩ := hG.1
  have hW := hC.2.2.2.2.2.2.2.1
  obtain ⟨cf, kf, fi, f, a, cell, h1, h2, h3, h4, h5, h6, h7, h8⟩ := hZ.moved hW.alike
  exact W.gets hC.1 hC.2.1 hC.2.2.2.2.1 (q_w hts0 hW hl rfl) h1 h2 h3 h4 (by rw [hH.2.2.1 a (Array.getElem?_eq_some_iff.mp h5).1]; exact h5) (fun e => by rw [e] at h6; cases h6) h7 rfl hd kk
theorem Ev.getF {idx : Nat} (hd : decode M.2.1 pc = .ok (.getstatic idx, 3)) (hl : Cond.fieldLink M.1.cls idx "FloorCurves" "PAIR_FROM" "[I" ∈ lw_tbl) (kk : Ev d M (pc + 3) L (vr 1 :: st) σ m r σ' m') : Ev d M pc L st σ m r σ' m' :=
  Ev.mem ⟨rfl, rfl⟩ (fun {l s0 b pf pt D} hG {p e R s mi args below meth c} hC {Q cells slots H locs ls} hH hf1 _ kk => q_gets hG hC hH hG.2.2.1 hl hd (kk _ _ hH hf1)) kk
theorem Ev.getT {idx : Nat} (hd : decode M.2.1 pc = .ok (.getstatic idx, 3)) (hl : Cond.fieldLink M.1.cls idx "FloorCurves" "PAIR_TO" "[I" ∈ lw_tbl) (kk : Ev d M (pc + 3) L (vr 2 :: st) σ m r σ' m') : Ev d M pc L st σ m r σ' m' :=
  Ev.mem ⟨rfl, rfl⟩ (fun {l s0 b pf pt D} hG {p e R s mi args below meth c} hC {Q cells slots H locs ls} hH hf1 _ kk => q_gets hG hC hH hG.2.2.2.1 hl hd (kk _ _ hH hf1)) kk
theorem Ev.ldc {idx : Nat} {x : Int} (hd : decode M.2.1 pc = .ok (.ldc idx, 2)) (hl : Cond.constant M.1.cls idx (Int32.ofInt x) ∈ lw_tbl) (kk : Ev d M (pc + 2) L (vi x :: st) σ m r σ' m') : Ev d M pc L st σ m r σ' m' :=
  Ev.mem ⟨rfl, rfl⟩ (fun {l s0 b pf pt D} hG {p e R s mi args below meth c} hC {Q cells slots H locs ls} hH hf1 _ kk => by
    obtain ⟨a0, hts0⟩ := hG.1
    exact lv_ldc hC.1 hC.2.1 hC.2.2.2.2.1 (q_w hts0 hC.2.2.2.2.2.2.2.1 hl rfl) hd (kk _ _ hH hf1)) kk
theorem Ev.ldc2 {idx : Nat} {x : Int} (hd : decode M.2.1 pc = .ok (.ldc2_w idx, 3)) (hl : Cond.constantLong M.1.cls idx (Int64.ofInt x) ∈ lw_tbl) (kk : Ev d M (pc + 3) L (vl x :: st) σ m r σ' m') : Ev d M pc L st σ m r σ' m' :=
  Ev.mem ⟨rfl, rfl⟩ (fun {l s0 b pf pt D} hG {p e R s mi args below meth c} hC {Q cells slots H locs ls} hH hf1 _ kk => by
    obtain ⟨a0, hts0⟩ := hG.1
    exact lv_ldc2 hC.1 hC.2.1 hC.2.2.2.2.1 (q_w hts0 hC.2.2.2.2.2.2.2.1 hl rfl) hd (kk _ _ hH hf1)) kk
/-! making -/
theorem Ev.alloc {pc2 : Nat} {st2 : List AV} {t : Nat} {n c : Int} (hc0 : 0 ≤ c) (h : ∀ {l : Launch} {s0 : State} {b pf pt : Nat} {D : va_G}, q_G s0 b pf pt D → ∀ {p : Program} {e : Env} {R : Room} {s : State} {mi : MethodId} {args : Array Value} {below : List Frame} {meth : Method} {cd : Code}, q_SC s0 M d p R s mi meth cd → ∀ {Q : State → Prop} {cells slots : Nat} {H : Heap} {locs : List Loc} {ls : Array Slot}, q_HR s0 D (q_ad s0.heap.size b pf pt) σ m H → cells + 1 ≤ R.cells → slots + c.toNat ≤ R.slots →
    (∀ (H1 : Heap), q_HR s0 D (q_ad s0.heap.size b pf pt) (sn σ t n c) (mz m σ.1) H1 → W p l e R s mi args below meth cd H1 locs (cells + 1) (slots + c.toNat) Q (F0 mi pc2 ls (st2.map (q_cv (q_ad s0.heap.size b pf pt))))) → W p l e R s mi args below meth cd H locs cells slots Q (F0 mi pc ls (st.map (q_cv (q_ad s0.heap.size b pf pt))))) (k : Ev d M pc2 L st2 (sn σ t n c) (mz m σ.1) r σ' m') : Ev d M pc L st σ m r σ' m' := by
  have hle : σ.1 + 1 ≤ σ'.1 ∧ σ.2.1 + c ≤ σ'.2.1 := k.1
  refine ⟨⟨by omega, by omega⟩, fun l s0 b pf pt D hG p e R s mi args below meth cd n0 k0 hC h1 h2 h3 h4 H locs ls hH hf hl => h hG hC hH (by omega) (by omega) (fun H1 hH1 => ?_)⟩
  have := k.2 l s0 b pf pt D hG p e R s mi args below meth cd n0 k0 hC (by show n0 ≤ σ.1 + 1; omega) (by show k0 ≤ σ.2.1 + c; omega) h3 h4 H1 locs ls hH1 hf hl
  have e1 : ((sn σ t n c).1 - n0).toNat = (σ.1 - n0).toNat + 1 := by show (σ.1 + 1 - n0).toNat = _; omega
  have e2 : ((sn σ t n c).2.1 - k0).toNat = (σ.2.1 - k0).toNat + c.toNat := by show (σ.2.1 + c - k0).toNat = _; omega
  rw [e1, e2] at this
  exact this
def q_ln (own : String) (idx t : Nat) (N : Nat) : Prop := ∃ q, q_cls[t]? = some q ∧ q.2.2 = N ∧ Cond.classLink own idx q.1 ∈ lw_tbl ∧ Cond.instantiable q.1 q.2.2 ∈ lw_tbl ∧ Cond.initialized q.1 ∈ lw_tbl
theorem q_dv (A : Int → Nat) (t k : Nat) (q : vw_C) (hq : q_cls[t]? = some q) (hk : k < q.2.2) : defaultValue (q_ty t k) = q_fv A t (fun _ => 0) (fun _ => -1) k := by
  have key : ∀ t, t < 9 → ∀ k, k < 40 → k < (q_cls[t]?.map (fun q => q.2.2)).getD 0 → (q_fref t k = true → defaultValue (q_ty t k) = .null) ∧ (q_fref t k = false → defaultValue (q_ty t k) = .int 0) := by decide +kernel
  have hlen : ∀ t, t < 9 → (q_cls[t]?.map (fun q => q.2.2)).getD 0 ≤ 40 := by decide +kernel
  have ht : t < 9 := (List.getElem?_eq_some_iff.mp hq).1
  have hl := hlen t ht
  rw [hq] at hl
  have hl' : q.2.2 ≤ 40 := hl
  have h := key t ht k (by omega) (by rw [hq]; exact hk)
  unfold q_fv
  cases hr : q_fref t k with
  | true => rw [if_pos rfl, h.1 hr]; rfl
  | false => rw [if_neg (by decide), h.2 hr]; rfl
theorem Ev.new {idx t : Nat} {N : Nat} (hd : decode M.2.1 pc = .ok (.new idx, 3)) (hw : q_ln M.1.cls idx t N) (ht : t < 100) (k : Ev d M (pc + 3) L (vr σ.1 :: st) (sn σ t 0 N) (mz m σ.1) r σ' m') : Ev d M pc L st σ m r σ' m' := by
  refine Ev.alloc (c := N) (by omega) (fun {l s0 b pf pt D} hG {p e R s mi args below meth cd} hC {Q cells slots H locs ls} hH hc1 hc2 kk => ?_) k
  obtain ⟨q, hq, rfl, w1, w2, w3⟩ := hw
  obtain ⟨a0, hts0⟩ := hG.1
  have hW := hC.2.2.2.2.2.2.2.1
  have hKn := u_Kn_moved hW.alike (hG.2.1 t q hq)
  have hts := q_uw (args := args) hts0 hW (q_clsOk t q hq).2.2
  refine W.newcK hC.1 hC.2.1 hC.2.2.2.2.1 (q_w hts0 hW w1 rfl) (q_w hts0 hW w2 rfl) (q_w hts0 hW w3 rfl) rfl hd hc1 (by omega) hKn.2.1 rfl fun H1 kC hkC e1 z1 o1 => ?_
  have hcell : q_cell s0 D (q_ad s0.heap.size b pf pt) t 0 (fun _ => 0) (fun _ => -1) H.size H1 := by
    refine ⟨fun _ => ⟨q, hq, ?_⟩, fun h => absurd ht h⟩
    exact (u_born (q_ty t) hts (fun _ h => h) hKn hkC e1 (q_clsOk t q hq).2.1).to (fun j hj => q_dv _ t j q hq hj)
  have := kk H1 (q_HR_push hG hH z1 o1 hcell)
  rw [q_mp1 (by have := hH.1; omega), q_ad3 hH.1, ← hH.2.1] at this
  have e2 : ((q.2.2 : Nat) : Int).toNat = q.2.2 := by omega
  rw [e2] at this
  exact this
def q_at (t : Nat) : ArrayType := if t = 100 then .int else if t = 101 then .long else if t = 102 then .byte else .boolean
theorem Ev.newarray {t : Nat} {ty : ArrayType} {n : Int} (hd : decode M.2.1 pc = .ok (.newarray ty, 2)) (hy : newarray.typeOf ty = q_aty t) (hdv : defaultValue (q_aty t) = q_av (fun _ => 0) t (fun _ => 0) (fun _ => -1) 0) (ht : ¬ t < 100 ∧ t < 200) (hl : Cond.arrayClass (q_aty t) ∈ lw_tbl) (hn : 0 ≤ n ∧ n ≤ 60000) (hcb : componentBytes (q_aty t) ≤ 8) (k : Ev d M (pc + 2) L (vr σ.1 :: st) (sn σ t n n) (mz m σ.1) r σ' m') : Ev d M pc L (vi n :: st) σ m r σ' m' := by
  refine Ev.alloc (c := n) hn.1 (fun {l s0 b pf pt D} hG {p e R s mi args below meth cd} hC {Q cells slots H locs ls} hH hc1 hc2 kk => ?_) k
  obtain ⟨a0, hts0⟩ := hG.1
  have hW := hC.2.2.2.2.2.2.2.1
  refine va_newaK hC.1 hC.2.1 (by rw [hy]; exact q_w hts0 hW hl rfl) rfl hd rfl (by rw [q_z, q_lt (by omega) (by omega)]; omega) (q_clamp hn.1 (by omega)) (by rw [hy]; have h8 : n.toNat * componentBytes (q_aty t) ≤ 60000 * 8 := Nat.mul_le_mul (by omega) hcb; omega) hc1 hc2 rfl fun H1 cA e1 z1 o1 hAr hNm => ?_
  have hcell : q_cell s0 D (q_ad s0.heap.size b pf pt) t n (fun _ => 0) (fun _ => -1) H.size H1 := by
    refine ⟨fun h => absurd h ht.1, fun _ => ⟨cA, ?_, ?_, ⟨hn.1, by omega⟩, ?_⟩⟩
    · rw [← hy]; exact arrOfT_moved hW.alike.symm hAr
    · rw [← hy]
      have h2 : s0.vm.findClass ("[" ++ (newarray.typeOf ty).toString) = some cA := by rw [← hW.alike.findClass]; exact hNm
      cases ty <;> exact h2
    · have e9 : (fun _ : Nat => q_av (fun _ => 0) t (fun _ => 0) (fun _ => -1) 0) = q_av (q_ad s0.heap.size b pf pt) t (fun _ => 0) (fun _ => -1) := by
        funext j
        unfold q_av
        split
        · rfl
        split
        · rfl
        · omega
      rw [e1, hy, hdv, e9]
  have := kk H1 (q_HR_push hG hH z1 o1 hcell)
  rw [q_mp1 (by have := hH.1; omega), q_ad3 hH.1, ← hH.2.1] at this
  exact this
theorem Ev.anewarray {c idx : Nat} {C : String} {n : Int} (hd : decode M.2.1 pc = .ok (.anewarray idx, 3)) (hq : q_aty (200 + c) = .object C) (hl : Cond.classLink M.1.cls idx C ∈ lw_tbl) (ho : Cond.arrayOver (.object C) ∈ lw_tbl) (hn : 0 ≤ n ∧ n ≤ 60000) (k : Ev d M (pc + 3) L (vr σ.1 :: st) (sn σ (200 + c) n n) (mz m σ.1) r σ' m') : Ev d M pc L (vi n :: st) σ m r σ' m' := by
  refine Ev.alloc (c := n) hn.1 (fun {l s0 b pf pt D} hG {p e R s mi args below meth cd} hC {Q cells slots H locs ls} hH hc1 hc2 kk => ?_) k
  obtain ⟨a0, hts0⟩ := hG.1
  have hW := hC.2.2.2.2.2.2.2.1
  have hov : va_AO C s := va_AO.moved hW.alike (va_AO.of (hts0 _ ho))
  refine W.anew hC.1 hC.2.1 hC.2.2.2.2.1 (q_w hts0 hW hl rfl) (va_AO.use hov) rfl hd rfl (by rw [q_z, q_lt (by omega) (by omega)]; omega) (by rw [q_clamp hn.1 (by omega)]; omega) hc1 (by rw [q_clamp hn.1 (by omega)]; exact hc2) fun cA kA comp f1 f2 f3 f4 => ?_
  rw [q_clamp hn.1 (by omega)]
  generalize hH1 : H.push ({ cls := cA, slots := Array.replicate n.toNat .null, vm := .none } : Cell) = H1
  have z1 : H1.size = H.size + 1 := by rw [← hH1, Array.size_push]
  have e1 : H1[H.size]? = some (arrV cA n.toNat (fun _ => .null)) := by rw [← hH1, Array.getElem?_push_size, ← arrV_new]
  have o1 : ∀ q : Nat, q < H.size → H1[q]? = H[q]? := fun q hq => by rw [← hH1, Array.getElem?_push, if_neg (Nat.ne_of_lt hq)]
  have hAr : ArrOfT s cA (.object C) := fun N z => ⟨(fun k h => by cases h), kA, f2, comp, f3⟩
  have hRA : va_RA s cA (.object C) := ⟨kA, comp, f2, f3, f4, f1⟩
  have hcell : q_cell s0 D (q_ad s0.heap.size b pf pt) (200 + c) n (fun _ => 0) (fun _ => -1) H.size H1 := by
    refine ⟨fun h => absurd h (by omega), fun _ => ⟨cA, ?_, ?_, ⟨hn.1, by omega⟩, ?_⟩⟩
    · rw [hq]; exact arrOfT_moved hW.alike.symm hAr
    · rw [hq]; exact hRA.moved hW.alike.symm
    · rw [e1]
      congr 2
      funext j
      unfold q_av
      rw [if_neg (by omega), if_neg (by omega)]
      rfl
  have := kk H1 (q_HR_push hG hH z1 o1 hcell)
  rw [q_mp1 (by have := hH.1; omega), q_ad3 hH.1, ← hH.2.1] at this
  exact this
theorem Ev.aastore {a i n x n2 : Int} {c : Nat} (hd : decode M.2.1 pc = .ok (.aastore, 1)) (hs : Is σ a (200 + c) n) (h3 : 3 ≤ a) (hi : 0 ≤ i ∧ i < n) (hx : Is σ x c n2) (hc9 : c < 9) (k : Ev d M (pc + 1) L st (su σ a i x) m r σ' m') : Ev d M pc L (vr x :: vi i :: vr a :: st) σ m r σ' m' := by
  refine Ev.mem (σ2 := su σ a i x) (m2 := m) ⟨rfl, rfl⟩ (fun {l s0 b pf pt D} hG {p e R s mi args below meth cd} hC {Q cells slots H locs ls} hH hf hl kk => ?_) k
  have hW := hC.2.2.2.2.2.2.2.1
  have hcl := hH.2.2.2.1 a h3 hs.2.1
  rw [hs.2.2.1, hs.2.2.2] at hcl
  obtain ⟨cA, g1, g2, g3, g4⟩ := hcl.2 (by omega)
  obtain ⟨-, q, hq, cellV, v1, v2, v3, v4⟩ := q_HR_obj hH hx (by omega)
  have hKn := u_Kn_moved hW.alike (hG.2.1 c q hq)
  have hty : q_aty (200 + c) = .object q.1 := by
    unfold q_aty
    rw [if_neg (by omega), if_neg (by omega), if_neg (by omega), if_neg (by omega), show 200 + c - 200 = c by omega, hq]
    rfl
  rw [hty] at g2
  obtain ⟨kA, comp, k1, k2, k3, -⟩ := g2.moved hW.alike
  have hcomp : comp = D.1 c := Option.some.inj (k3.symm.trans hKn.2.1)
  subst hcomp
  obtain ⟨kC, hkC, -⟩ := hKn.2.2
  rw [List.map_cons, q_mp2 hs.1, q_ref hx.1]
  refine W.aast hC.1 hC.2.1 g4 (fun q h => by cases h) (fun h => by cases h) k1 k2 rfl hkC ⟨by rw [q_z, q_lt (by omega) (by omega)]; omega, by rw [arrV_size, q_clamp hi.1 (by omega)]; omega⟩ v1 (fun q h => by rw [v3] at h; cases h) (by rw [v2]; exact hkC) (by rw [v2]; exact va_assign hKn.2) rfl rfl hd fun H1 e z oq => kk H1 _ ?_ (q_inr (b := b) (pf := pf) (pt := pt) (a := a) hH hf (by show _ ≤ q_ad _ _ _ _ a; rw [q_ad3 h3]; omega))
  refine q_HR_set hG hH ⟨h3, hs.2.1⟩ z oq ⟨rfl, rfl, rfl⟩ (fun a' ha' => ⟨rfl, by funext j; exact if_neg (fun q => ha' q.1)⟩) ?_
  rw [hs.2.2.1, hs.2.2.2]
  refine ⟨fun h => absurd h (by omega), fun _ => ⟨cA, g1, by rw [hty]; exact g2, g3, ?_⟩⟩
  rw [e, arrV_store, q_clamp hi.1 (by omega)]
  congr 2
  funext j
  have c1 : ¬ (200 + c = 101) := by omega
  have c2 : ¬ (200 + c < 200) := by omega
  simp only [updV, q_av, su, mu, if_neg c1, if_neg c2]
  by_cases hj : j = i.toNat
  · subst hj
    rw [if_pos rfl, show ((i.toNat : Nat) : Int) = i by omega]
    simp only [and_self, if_true]
    rw [q_ref hx.1]
  · rw [if_neg hj]
    have hj2 : ¬ ((j : Int) = i) := by omega
    simp [hj2]
end
end
section
section
variable {d : Nat} {M : Md} {pc : Nat} {L : List (Option AV)} {st : List AV} {σ σ' : Sg} {m m' : Mm} {r : Option AV}
theorem Ev.to {r1 : Option AV} {m1 : Mm} (h : Ev d M pc L st σ m r1 σ' m1) (hr : r1 = r) (hm : m1 = m') : Ev d M pc L st σ m r σ' m' := by subst hr; subst hm; exact h
theorem Ev.mono {d2 : Nat} (h : Ev d M pc L st σ m r σ' m') (hd : d ≤ d2) : Ev d2 M pc L st σ m r σ' m' :=
  ⟨h.1, fun l s0 b pf pt D hG p e R s mi args below meth c n0 k0 hC => h.2 l s0 b pf pt D hG p e R s mi args below meth c n0 k0 ⟨hC.1, hC.2.1, hC.2.2.1, hC.2.2.2.1, hC.2.2.2.2.1, hC.2.2.2.2.2.1, hC.2.2.2.2.2.2.1, hC.2.2.2.2.2.2.2.1, by have := hC.2.2.2.2.2.2.2.2.1; omega, by have := hC.2.2.2.2.2.2.2.2.2; omega⟩⟩
theorem Ev.ireturn {x : Int} (hd : decode M.2.1 pc = .ok (.ireturn, 1)) (hr : M.2.2.2 = some .int) : Ev d M pc L [vi x] σ m (some (vi x)) σ m :=
  ⟨⟨Int.le_refl _, Int.le_refl _⟩, fun l s0 b pf pt D hG p e R s mi args below meth c n0 k0 hC h1 h2 h3 h4 H locs ls hH hf hl => W.iret hC.1 hC.2.1 (hC.2.2.1.trans hr) (fun t ht hW => ⟨rfl, by rw [ht]; exact hH⟩) hf hd (hlocks := hC.2.2.2.2.2.1)⟩
theorem Ev.zreturn {x : Int} (hd : decode M.2.1 pc = .ok (.ireturn, 1)) (hr : M.2.2.2 = some .boolean) (hx : x = 0 ∨ x = 1) : Ev d M pc L [vi x] σ m (some (vi x)) σ m :=
  ⟨⟨Int.le_refl _, Int.le_refl _⟩, fun l s0 b pf pt D hG p e R s mi args below meth c n0 k0 hC h1 h2 h3 h4 H locs ls hH hf hl => W.zret (ty := .boolean) hC.1 hC.2.1 (hC.2.2.1.trans hr) (by rcases hx with rfl | rfl <;> rfl) (fun t ht hW => ⟨rfl, by rw [ht]; exact hH⟩) hf hd (hlocks := hC.2.2.2.2.2.1)⟩
theorem Ev.lreturn {x : Int} (hd : decode M.2.1 pc = .ok (.lreturn, 1)) (hr : M.2.2.2 = some .long) : Ev d M pc L [vl x] σ m (some (vl x)) σ m :=
  ⟨⟨Int.le_refl _, Int.le_refl _⟩, fun l s0 b pf pt D hG p e R s mi args below meth c n0 k0 hC h1 h2 h3 h4 H locs ls hH hf hl => W.lret hC.1 hC.2.1 (hC.2.2.1.trans hr) (fun t ht hW => ⟨rfl, by rw [ht]; exact hH⟩) hf hd (hlocks := hC.2.2.2.2.2.1)⟩
theorem Ev.return (hd : decode M.2.1 pc = .ok (.return_, 1)) (hr : M.2.2.2 = none) : Ev d M pc L [] σ m none σ m :=
  ⟨⟨Int.le_refl _, Int.le_refl _⟩, fun l s0 b pf pt D hG p e R s mi args below meth c n0 k0 hC h1 h2 h3 h4 H locs ls hH hf hl => W.vret hC.1 hC.2.1 (hC.2.2.1.trans hr) (fun t ht hW => ⟨rfl, by rw [ht]; exact hH⟩) hf hd (hlocks := hC.2.2.2.2.2.1)⟩
theorem Ev.areturn {x : Int} {n : String} (hd : decode M.2.1 pc = .ok (.areturn, 1)) (hr : M.2.2.2 = some (.object n)) : Ev d M pc L [vr x] σ m (some (vr x)) σ m := by
  refine ⟨⟨Int.le_refl _, Int.le_refl _⟩, fun l s0 b pf pt D hG p e R s mi args below meth c n0 k0 hC h1 h2 h3 h4 H locs ls hH hf hl => ?_⟩
  refine W.aret (v := q_cv (q_ad s0.heap.size b pf pt) (vr x)) hC.1 hC.2.1 (hC.2.2.1.trans hr) (Or.inl ⟨n, rfl⟩) ?_ (fun t ht hW => ⟨rfl, by rw [ht]; exact hH⟩) hf hd (hlocks := hC.2.2.2.2.2.1)
  simp only [q_cv]
  by_cases h : x < 0
  · rw [if_pos h]; exact Or.inl rfl
  · rw [if_neg h]; exact Or.inr ⟨_, rfl⟩
/-! calls -/
def q_mt (N : Md) (n : Nat) : Prop := Cond.code N.1 N.2.1 N.2.2.1 N.2.2.2 ∈ lw_tbl ∧ Cond.initialized N.1.cls ∈ lw_tbl ∧ (N.1.cls ≠ "java/lang/invoke/MethodHandle" ∧ N.1.cls ≠ "java/lang/invoke/VarHandle" ∧ (parseMethodDescriptor N.1.desc).map (fun d => d.parameters.length) = some n) ∧ plainName N.1.cls = true ∧ N.2.2.1 ≤ 21
theorem q_args (A : Int → Nat) : ∀ (av : List AV) (k i : Nat) (v : AV), (q_sl av)[i]? = some (some v) → (k + i, q_cv A v) ∈ lv_args k (av.map (q_cv A))
  | [], k, i, v, h => by simp [q_sl] at h
  | .inl x :: t, k, 0, v, h => by
    simp only [q_sl, List.getElem?_cons_zero, Option.some.injEq] at h
    subst h
    simp [lv_args]
  | .inl x :: t, k, i + 1, v, h => by
    simp only [q_sl, List.getElem?_cons_succ] at h
    have := q_args A t (k + 1) i v h
    rw [List.map_cons]
    refine List.mem_cons_of_mem _ ?_
    rw [show k + (i + 1) = k + 1 + i by omega]
    exact this
  | .inr (.inl x) :: t, k, 0, v, h => by
    simp only [q_sl, List.getElem?_cons_zero, Option.some.injEq] at h
    subst h
    simp [lv_args]
  | .inr (.inl x) :: t, k, 1, v, h => by
    simp [q_sl] at h
  | .inr (.inl x) :: t, k, i + 2, v, h => by
    simp only [q_sl, List.getElem?_cons_succ] at h
    have := q_args A t (k + 2) i v h
    rw [List.map_cons]
    refine List.mem_cons_of_mem _ ?_
    rw [show k + (i + 2) = k + 2 + i by omega]
    exact this
  | .inr (.inr x) :: t, k, 0, v, h => by
    simp only [q_sl, List.getElem?_cons_zero, Option.some.injEq] at h
    subst h
    simp [lv_args]
  | .inr (.inr x) :: t, k, i + 1, v, h => by
    simp only [q_sl, List.getElem?_cons_succ] at h
    have := q_args A t (k + 1) i v h
    rw [List.map_cons]
    refine List.mem_cons_of_mem _ ?_
    have e : (q_cv A (.inr (.inr x))).category = 1 := q_cat_eq A _
    simp only [e]
    rw [show k + (i + 1) = k + 1 + i by omega]
    exact this
theorem q_sl1 (A : Int → Nat) (v : AV) (t : List AV) : (lg_sl ((v :: t).map (q_cv A))).length = q_cat v + (lg_sl (t.map (q_cv A))).length := by
  simp only [lg_sl, List.map_cons, List.flatMap_cons, List.length_append, q_cat_eq]
  rcases v with x | x | x <;> rfl
theorem q_sll (A : Int → Nat) : ∀ (av : List AV), (lg_sl (av.map (q_cv A))).length = (q_sl av).length
  | [] => rfl
  | .inl x :: t => by rw [q_sl1, q_sll A t]; simp only [q_sl, q_cat, List.length_cons]; omega
  | .inr (.inl x) :: t => by rw [q_sl1, q_sll A t]; simp only [q_sl, q_cat, List.length_cons]; omega
  | .inr (.inr x) :: t => by rw [q_sl1, q_sll A t]; simp only [q_sl, q_cat, List.length_cons]; omega
theorem q_enLR {A : Int → Nat} {N : Md} {av : List AV} (h : (q_sl av).length ≤ N.2.2.1) : q_LR A (q_en N av) ((lg_sl (av.map (q_cv A)) ++ List.replicate (N.2.2.1 - (lg_sl (av.map (q_cv A))).length) Slot.unset).toArray) := by
  have hl := lv_entry (av.map (q_cv A)) (n := N.2.2.1) (by rw [q_sll]; exact h)
  refine ⟨?_, hl.2.1, fun i v hi => ?_⟩
  · rw [hl.1]
    simp only [q_en, List.length_append, List.length_replicate]
    omega
  · unfold q_en at hi
    by_cases hlt : i < (q_sl av).length
    · rw [List.getElem?_append_left hlt] at hi
      have := q_args A av 0 i v hi
      rw [Nat.zero_add] at this
      exact hl.2.2 _ this
    · rw [List.getElem?_append_right (by omega), List.getElem?_replicate] at hi
      split at hi <;> cases hi
theorem q_met {N : Md} {n : Nat} (hN : q_mt N n) {av : List AV} (hen : (q_sl av).length ≤ N.2.2.1) (k : Call d N av σ m r σ' m') (l : Launch) {s0 : State} {b pf pt : Nat} {D : va_G} (hG : q_G s0 b pf pt D) :
    Met l N.1 [Cond.code N.1 N.2.1 N.2.2.1 N.2.2.2] ({ frames := d, cells := (σ'.1 - σ.1).toNat, slots := (σ'.2.1 - σ.2.1).toNat, locals := 40 * d } : Room) (fun v U => v = (av.map (q_cv (q_ad s0.heap.size b pf pt))).toArray ∧ q_HR s0 D (q_ad s0.heap.size b pf pt) σ m U.heap ∧ s0.WarmedH U.vm) (q_Q s0 D (q_ad s0.heap.size b pf pt) r σ' m') (σ'.1 - σ.1).toNat (σ'.2.1 - σ.2.1).toNat (q_fr s0) := by
  refine Met.ofW (cc := N.2.1) (maxL := N.2.2.1) (ret := N.2.2.2) hN.2.2.2.1 rfl ?_
  intro p e s mi args below meth c s₁ B hml hv
  obtain ⟨rfl, hH, hW⟩ := hv
  rw [lg_entry_eq]
  have K := k.2 l s0 b pf pt D hG p e ({ frames := d, cells := (σ'.1 - σ.1).toNat, slots := (σ'.2.1 - σ.2.1).toNat, locals := 40 * d } : Room) s mi (av.map (q_cv (q_ad s0.heap.size b pf pt))).toArray below meth c σ.1 σ.2.1 ⟨B.exec, B.bytes, B.returns, hml, findClass_of_methodNamed B.named, B.notSynchronized, fun h => (name_of_methodNamed B.named B.method).1.trans h, hW, Nat.le_refl _, Nat.le_refl _⟩ (Int.le_refl _) (Int.le_refl _) (Nat.le_refl _) (Nat.le_refl _) s.heap [] _ hH (fun q hq => by cases hq) (q_enLR hen)
  rw [show (σ.1 - σ.1).toNat = 0 by omega, show (σ.2.1 - σ.2.1).toNat = 0 by omega] at K
  exact K
theorem q_run {s0 : State} {D : va_G} {A : Int → Nat} {av' : Array Value} {r1 : Option AV} {σ1 : Sg} {m1 : Mm} {mc ms : Nat} {l : Launch} {p : Program} {e : Env} {R : Room} {s : State} {mi : MethodId} {args : Array Value} {below : List Frame} {meth : Method} {c : Code} {Q : State → Prop} {cells slots : Nat} {H : Heap} {locs : List Loc} {ls : Array Slot} {stv rest : List Value}
    (hr : va_Run p l e R s mi args below meth c H locs cells slots mc ms (F0 mi pc ls stv) rest (q_Q s0 D A r1 σ1 m1 av') (q_fr s0)) (hf : ∀ q ∈ locs, s0.heap.size ≤ q.base)
    (kk : ∀ (H1 : Heap) (locs1 : List Loc), q_HR s0 D A σ1 m1 H1 → (∀ q ∈ locs1, s0.heap.size ≤ q.base) → W p l e R s mi args below meth c H1 locs1 (cells + mc) (slots + ms) Q (F0 mi (pc + 3) ls ((r1.map (q_cv A)).toList ++ rest))) : W p l e R s mi args below meth c H locs cells slots Q (F0 mi pc ls stv) := by
  intro T hT X
  obtain ⟨v, st₀, t, T', Lx, h0, X', hL, e1, e2, ⟨hv, hH1⟩, st⟩ := hr T hT X
  cases hv
  obtain ⟨t2, a1, b1⟩ := kk T'.heap (locs ++ Lx) (by rw [e1]; exact hH1) (fun q hq => (List.mem_append.mp hq).elim (hf q) (hL q)) T' rfl X'
  exact ⟨t2, st t2 a1, b1⟩
theorem Ev.callX {N : Md} {d1 n : Nat} {av stk rest : List AV} {r1 : Option AV} {σ1 : Sg} {m1 : Mm} (c : Call d1 N av σ m r1 σ1 m1) (hN : q_mt N n) (hen : (q_sl av).length ≤ N.2.2.1)
    (hrun : ∀ {l : Launch} {s0 : State} {b pf pt : Nat} {D : va_G}, q_G s0 b pf pt D → ∀ {p : Program} {e : Env} {R : Room} {s : State} {mi : MethodId} {args : Array Value} {below : List Frame} {meth : Method} {cd : Code}, q_SC s0 M d p R s mi meth cd → ∀ {cells slots : Nat} {H : Heap} {locs : List Loc} {ls : Array Slot}, q_HR s0 D (q_ad s0.heap.size b pf pt) σ m H → q_LR (q_ad s0.heap.size b pf pt) L ls →
      Met l N.1 [Cond.code N.1 N.2.1 N.2.2.1 N.2.2.2] ({ frames := d1, cells := (σ1.1 - σ.1).toNat, slots := (σ1.2.1 - σ.2.1).toNat, locals := 40 * d1 } : Room) (fun v U => v = (av.map (q_cv (q_ad s0.heap.size b pf pt))).toArray ∧ q_HR s0 D (q_ad s0.heap.size b pf pt) σ m U.heap ∧ s0.WarmedH U.vm) (q_Q s0 D (q_ad s0.heap.size b pf pt) r1 σ1 m1) (σ1.1 - σ.1).toNat (σ1.2.1 - σ.2.1).toNat (q_fr s0) →
      cells + (σ1.1 - σ.1).toNat ≤ R.cells ∧ slots + (σ1.2.1 - σ.2.1).toNat ≤ R.slots →
      va_Run p l e R s mi args below meth cd H locs cells slots (σ1.1 - σ.1).toNat (σ1.2.1 - σ.2.1).toNat (F0 mi pc ls (stk.map (q_cv (q_ad s0.heap.size b pf pt)))) (rest.map (q_cv (q_ad s0.heap.size b pf pt))) (q_Q s0 D (q_ad s0.heap.size b pf pt) r1 σ1 m1 (av.map (q_cv (q_ad s0.heap.size b pf pt))).toArray) (q_fr s0))
    (k : Ev d M (pc + 3) L (r1.toList ++ rest) σ1 m1 r σ' m') : Ev d M pc L stk σ m r σ' m' := by
  have hc := c.1
  have hk := k.1
  refine ⟨⟨by omega, by omega⟩, fun l s0 b pf pt D hG p e R s mi args below meth cd n0 k0 hC h1 h2 h3 h4 H locs ls hH hf hl => ?_⟩
  refine q_run (hrun hG hC hH hl (q_met hN hen c l hG) ⟨by omega, by omega⟩) hf (fun H1 locs1 hH1 hf1 => ?_)
  have K := k.2 l s0 b pf pt D hG p e R s mi args below meth cd n0 k0 hC (by omega) (by omega) h3 h4 H1 locs1 ls hH1 hf1 hl
  rw [show (σ.1 - n0).toNat + (σ1.1 - σ.1).toNat = (σ1.1 - n0).toNat by omega, show (σ.2.1 - k0).toNat + (σ1.2.1 - σ.2.1).toNat = (σ1.2.1 - k0).toNat by omega]
  rw [List.map_append] at K
  have e1 : (r1.map (q_cv (q_ad s0.heap.size b pf pt))).toList = r1.toList.map (q_cv (q_ad s0.heap.size b pf pt)) := by cases r1 <;> rfl
  rw [e1]
  exact K
theorem q_pre {s0 : State} {D : va_G} {A : Int → Nat} {H : Heap} {s : State} {vs : List Value} (hW : s0.WarmedH s.vm) (hH : q_HR s0 D A σ m H) : PreS s H (fun v U => v = vs.toArray ∧ q_HR s0 D A σ m U.heap ∧ s0.WarmedH U.vm) vs :=
  ⟨fun a U g mk q => q, fun U hU hWU => ⟨rfl, by rw [hU]; exact hH, State.WarmedH.trans hW hWU⟩⟩
theorem q_cw {R : Room} {s s0 : State} {args : Array Value} {N : Md} {n d1 : Nat} {a0 : Array Value} {x y : Nat} (hts0 : ∀ w ∈ lw_tbl, w.before a0 s0 = true) (hW : s0.WarmedH s.vm) (hN : q_mt N n) (hR : d1 + 1 ≤ d ∧ d ≤ R.frames ∧ 40 * d ≤ R.locals) :
    (d1 + 1 ≤ R.frames ∧ 8 + (N.2.2.1 + 11) + 40 * d1 ≤ R.locals) ∧ (∀ w ∈ [Cond.code N.1 N.2.1 N.2.2.1 N.2.2.2], ∀ (a' : Array Value) (U : State), s.WarmedH U.vm → w.before a' U = true) ∧ (Cond.code N.1 N.2.1 N.2.2.1 N.2.2.2).before args s = true ∧ (Cond.initialized N.1.cls).before args s = true ∧ (∀ sig, parseMethodDescriptor N.1.desc = some sig → n = sig.parameters.length) := by
  have h21 := hN.2.2.2.2
  refine ⟨⟨by omega, by omega⟩, fun w hw a' U hU => ?_, q_w hts0 hW hN.1 rfl, q_w hts0 hW hN.2.1 rfl, fun sig h => ?_⟩
  · rw [List.mem_singleton.mp hw]
    exact q_w hts0 (State.WarmedH.trans hW hU) hN.1 rfl
  · have h2 := hN.2.2.1.2.2
    rw [h] at h2
    exact (Option.some.inj h2).symm
theorem q_catsum (A : Int → Nat) (rest : List AV) (h : (rest.map q_cat).sum ≤ 8) : ((rest.map (q_cv A)).map fun v => v.category).sum ≤ 8 := by
  have : (rest.map (q_cv A)).map (fun v => v.category) = rest.map q_cat := by
    rw [List.map_map]
    apply List.map_congr_left
    intro v _
    exact q_cat_eq A v
  rw [this]
  exact h
theorem Ev.callS0 {N : Md} {d1 n idx : Nat} {av stk rest : List AV} {r1 : Option AV} {σ1 : Sg} {m1 : Mm} (hd : decode M.2.1 pc = .ok (.invokestatic idx, 3)) (hN : q_mt N n) (hl : Cond.methodLink M.1.cls idx N.1 ∈ lw_tbl) (hst : Cond.static N.1 ∈ lw_tbl) (hn : av.length = n) (hen : (q_sl av).length ≤ N.2.2.1) (hL : L.length = M.2.2.1) (hcat : (rest.map q_cat).sum ≤ 8) (hdd : d1 + 1 ≤ d) (hstk : stk = av.reverse ++ rest) (c : Call d1 N av σ m r1 σ1 m1) (k : Ev d M (pc + 3) L (r1.toList ++ rest) σ1 m1 r σ' m') : Ev d M pc L stk σ m r σ' m' := by
  refine Ev.callX c hN hen (fun {l s0 b pf pt D} hG {p e R s mi args below meth cd} hC {cells slots H locs ls} hH hl1 hM hf => ?_) k
  obtain ⟨a0, hts0⟩ := hG.1
  have hW := hC.2.2.2.2.2.2.2.1
  obtain ⟨⟨w1, w2⟩, w3, w4, w5, w6⟩ := q_cw (args := args) (x := 0) (y := 0) hts0 hW hN ⟨hdd, hC.2.2.2.2.2.2.2.2.1, hC.2.2.2.2.2.2.2.2.2⟩
  refine va_runS (As := av.map (q_cv (q_ad s0.heap.size b pf pt))) (rest := rest.map (q_cv (q_ad s0.heap.size b pf pt))) ⟨hC.1, hC.2.1, hC.2.2.2.1, hC.2.2.2.2.1, fun w (hw : w ∈ ([] : List Cond)) => by cases hw⟩ hM ⟨⟨rfl, rfl, w1, w2, w3, List.mem_cons_self, w4, w5, ⟨hN.2.2.1.1, hN.2.2.1.2.1⟩, w6, q_w hts0 hW hl rfl⟩, q_w hts0 hW hst rfl⟩ (q_pre hW hH) rfl (by rw [List.length_map]; exact hn) (hl1.1.trans hL) ?_ (lv_room (q_catsum _ rest hcat)) hd hf
  show stk.map _ = _
  rw [hstk, List.map_append, List.map_reverse]
theorem Ev.callSN0 {N : Md} {d1 n idx : Nat} {host : String} {av stk rest : List AV} {r1 : Option AV} {σ1 : Sg} {m1 : Mm} (hd : decode M.2.1 pc = .ok (.invokestatic idx, 3)) (hN : q_mt N n) (hl : Cond.methodLinkNest M.1.cls idx N.1 host ∈ lw_tbl) (hst : Cond.static N.1 ∈ lw_tbl) (hn : av.length = n) (hen : (q_sl av).length ≤ N.2.2.1) (hL : L.length = M.2.2.1) (hcat : (rest.map q_cat).sum ≤ 8) (hdd : d1 + 1 ≤ d) (hstk : stk = av.reverse ++ rest) (c : Call d1 N av σ m r1 σ1 m1) (k : Ev d M (pc + 3) L (r1.toList ++ rest) σ1 m1 r σ' m') : Ev d M pc L stk σ m r σ' m' := by
  refine Ev.callX c hN hen (fun {l s0 b pf pt D} hG {p e R s mi args below meth cd} hC {cells slots H locs ls} hH hl1 hM hf => ?_) k
  obtain ⟨a0, hts0⟩ := hG.1
  have hW := hC.2.2.2.2.2.2.2.1
  obtain ⟨⟨w1, w2⟩, w3, w4, w5, w6⟩ := q_cw (args := args) (x := 0) (y := 0) hts0 hW hN ⟨hdd, hC.2.2.2.2.2.2.2.2.1, hC.2.2.2.2.2.2.2.2.2⟩
  refine va_runSN (As := av.map (q_cv (q_ad s0.heap.size b pf pt))) (rest := rest.map (q_cv (q_ad s0.heap.size b pf pt))) ⟨hC.1, hC.2.1, hC.2.2.2.1, hC.2.2.2.2.1, fun w (hw : w ∈ ([] : List Cond)) => by cases hw⟩ hM ⟨⟨⟨rfl, rfl, w1, w2, w3, List.mem_cons_self⟩, w4, w5, ⟨hN.2.2.1.1, hN.2.2.1.2.1⟩, w6, va_Nw.use rfl (va_Nw.warmM hW (va_Nw.of rfl (hts0 _ hl)))⟩, q_w hts0 hW hst rfl, trivial⟩ (q_pre hW hH) rfl (by rw [List.length_map]; exact hn) (hl1.1.trans hL) ?_ (lv_room (q_catsum _ rest hcat)) hd hf
  show stk.map _ = _
  rw [hstk, List.map_append, List.map_reverse]
theorem Ev.callV0 {N : Md} {d1 n idx : Nat} {bb nb : Int} {t : Nat} {av stk rest : List AV} {r1 : Option AV} {σ1 : Sg} {m1 : Mm} (hd : decode M.2.1 pc = .ok (.invokevirtual idx, 3)) (hN : q_mt N n) (hl : Cond.methodLink M.1.cls idx N.1 ∈ lw_tbl) (hin : Cond.instanceMethod N.1 ∈ lw_tbl) (hse : Cond.selects N.1.cls N.1 N.1 ∈ lw_tbl) (hn : av.length = n) (hen : (q_sl (vr bb :: av)).length ≤ N.2.2.1) (hL : L.length = M.2.2.1) (hcat : (rest.map q_cat).sum ≤ 8) (hdd : d1 + 1 ≤ d) (hbb : Is σ bb t nb) (htt : t < 100) (hcls : (q_cls[t]?.map (fun q => q.1)) = some N.1.cls) (hstk : stk = av.reverse ++ vr bb :: rest) (c : Call d1 N (vr bb :: av) σ m r1 σ1 m1) (k : Ev d M (pc + 3) L (r1.toList ++ rest) σ1 m1 r σ' m') : Ev d M pc L stk σ m r σ' m' := by
  refine Ev.callX c hN hen (fun {l s0 b pf pt D} hG {p e R s mi args below meth cd} hC {cells slots H locs ls} hH hl1 hM hf => ?_) k
  obtain ⟨a0, hts0⟩ := hG.1
  have hW := hC.2.2.2.2.2.2.2.1
  obtain ⟨⟨w1, w2⟩, w3, w4, w5, w6⟩ := q_cw (args := args) (x := 0) (y := 0) hts0 hW hN ⟨hdd, hC.2.2.2.2.2.2.2.2.1, hC.2.2.2.2.2.2.2.2.2⟩
  have hM2 := hM
  simp only [List.map_cons, q_ref hbb.1] at hM2 ⊢
  have hrec : ∃ cellB : Cell, H[q_ad s0.heap.size b pf pt bb]? = some cellB ∧ cellB.vm.isStatics = false ∧ s.vm.findClass N.1.cls = some cellB.cls := by
    obtain ⟨-, q, hq, cellV, v1, v2, v3, v4⟩ := q_HR_obj hH hbb htt
    rw [hq] at hcls
    have hcls : q.1 = N.1.cls := Option.some.inj hcls
    refine ⟨cellV, v1, by rw [v3]; rfl, ?_⟩
    rw [v2, ← hcls]
    exact (u_Kn_moved hW.alike (hG.2.1 t q hq)).2.1
  refine va_runV (C := N.1.cls) (b := q_ad s0.heap.size b pf pt bb) (As := av.map (q_cv (q_ad s0.heap.size b pf pt))) (rest := rest.map (q_cv (q_ad s0.heap.size b pf pt))) ⟨hC.1, hC.2.1, hC.2.2.2.1, hC.2.2.2.2.1, fun w (hw : w ∈ ([] : List Cond)) => by cases hw⟩ hM2 ⟨⟨rfl, rfl, w1, w2, w3, List.mem_cons_self, w4, w5, ⟨hN.2.2.1.1, hN.2.2.1.2.1⟩, w6, q_w hts0 hW hl rfl⟩, q_w hts0 hW hin rfl, q_w hts0 hW hse rfl⟩ ⟨(q_pre hW hH).1, hrec, (q_pre hW hH).2⟩ rfl (by rw [List.length_map]; exact hn) (hl1.1.trans hL) ?_ (lv_room (q_catsum _ rest hcat)) hd hf
  show stk.map _ = _
  rw [hstk, List.map_append, List.map_reverse, q_mp1 hbb.1]
theorem Ev.callVN0 {N : Md} {d1 n idx : Nat} {host : String} {bb nb : Int} {t : Nat} {av stk rest : List AV} {r1 : Option AV} {σ1 : Sg} {m1 : Mm} (hd : decode M.2.1 pc = .ok (.invokevirtual idx, 3)) (hN : q_mt N n) (hl : Cond.methodLinkNest M.1.cls idx N.1 host ∈ lw_tbl) (hin : Cond.instanceMethod N.1 ∈ lw_tbl) (hse : Cond.selects N.1.cls N.1 N.1 ∈ lw_tbl) (hn : av.length = n) (hen : (q_sl (vr bb :: av)).length ≤ N.2.2.1) (hL : L.length = M.2.2.1) (hcat : (rest.map q_cat).sum ≤ 8) (hdd : d1 + 1 ≤ d) (hbb : Is σ bb t nb) (htt : t < 100) (hcls : (q_cls[t]?.map (fun q => q.1)) = some N.1.cls) (hstk : stk = av.reverse ++ vr bb :: rest) (c : Call d1 N (vr bb :: av) σ m r1 σ1 m1) (k : Ev d M (pc + 3) L (r1.toList ++ rest) σ1 m1 r σ' m') : Ev d M pc L stk σ m r σ' m' := by
  refine Ev.callX c hN hen (fun {l s0 b pf pt D} hG {p e R s mi args below meth cd} hC {cells slots H locs ls} hH hl1 hM hf => ?_) k
  obtain ⟨a0, hts0⟩ := hG.1
  have hW := hC.2.2.2.2.2.2.2.1
  obtain ⟨⟨w1, w2⟩, w3, w4, w5, w6⟩ := q_cw (args := args) (x := 0) (y := 0) hts0 hW hN ⟨hdd, hC.2.2.2.2.2.2.2.2.1, hC.2.2.2.2.2.2.2.2.2⟩
  have hM2 := hM
  simp only [List.map_cons, q_ref hbb.1] at hM2 ⊢
  have hrec : ∃ cellB : Cell, H[q_ad s0.heap.size b pf pt bb]? = some cellB ∧ cellB.vm.isStatics = false ∧ s.vm.findClass N.1.cls = some cellB.cls := by
    obtain ⟨-, q, hq, cellV, v1, v2, v3, v4⟩ := q_HR_obj hH hbb htt
    rw [hq] at hcls
    have hcls : q.1 = N.1.cls := Option.some.inj hcls
    refine ⟨cellV, v1, by rw [v3]; rfl, ?_⟩
    rw [v2, ← hcls]
    exact (u_Kn_moved hW.alike (hG.2.1 t q hq)).2.1
  refine va_runVN (C := N.1.cls) (b := q_ad s0.heap.size b pf pt bb) (As := av.map (q_cv (q_ad s0.heap.size b pf pt))) (rest := rest.map (q_cv (q_ad s0.heap.size b pf pt))) ⟨hC.1, hC.2.1, hC.2.2.2.1, hC.2.2.2.2.1, fun w (hw : w ∈ ([] : List Cond)) => by cases hw⟩ hM2 ⟨⟨⟨rfl, rfl, w1, w2, w3, List.mem_cons_self⟩, w4, w5, ⟨hN.2.2.1.1, hN.2.2.1.2.1⟩, w6, va_Nw.use rfl (va_Nw.warmM hW (va_Nw.of rfl (hts0 _ hl)))⟩, q_w hts0 hW hin rfl, q_w hts0 hW hse rfl⟩ ⟨(q_pre hW hH).1, hrec, (q_pre hW hH).2⟩ rfl (by rw [List.length_map]; exact hn) (hl1.1.trans hL) ?_ (lv_room (q_catsum _ rest hcat)) hd hf
  show stk.map _ = _
  rw [hstk, List.map_append, List.map_reverse, q_mp1 hbb.1]
theorem Ev.callI0 {N : Md} {d1 n idx : Nat} {bb : Int} {av stk rest : List AV} {r1 : Option AV} {σ1 : Sg} {m1 : Mm} (hd : decode M.2.1 pc = .ok (.invokespecial idx, 3)) (hN : q_mt N n) (hl : Cond.methodLink M.1.cls idx N.1 ∈ lw_tbl) (hin : Cond.instanceMethod N.1 ∈ lw_tbl) (hnm : N.1.name = "<init>") (hrt : N.2.2.2 = none) (hn : av.length = n) (hen : (q_sl (vr bb :: av)).length ≤ N.2.2.1) (hL : L.length = M.2.2.1) (hcat : (rest.map q_cat).sum ≤ 8) (hdd : d1 + 1 ≤ d) (hbb : 0 ≤ bb) (hstk : stk = av.reverse ++ vr bb :: rest) (c : Call d1 N (vr bb :: av) σ m r1 σ1 m1) (k : Ev d M (pc + 3) L (r1.toList ++ rest) σ1 m1 r σ' m') : Ev d M pc L stk σ m r σ' m' := by
  refine Ev.callX c hN hen (fun {l s0 b pf pt D} hG {p e R s mi args below meth cd} hC {cells slots H locs ls} hH hl1 hM hf => ?_) k
  obtain ⟨a0, hts0⟩ := hG.1
  have hW := hC.2.2.2.2.2.2.2.1
  obtain ⟨⟨w1, w2⟩, w3, w4, w5, w6⟩ := q_cw (args := args) (x := 0) (y := 0) hts0 hW hN ⟨hdd, hC.2.2.2.2.2.2.2.2.1, hC.2.2.2.2.2.2.2.2.2⟩
  have hM2 := hM
  simp only [List.map_cons, q_ref hbb] at hM2 ⊢
  rw [hrt] at hM2 w3 w4
  refine va_runI (b := q_ad s0.heap.size b pf pt bb) (As := av.map (q_cv (q_ad s0.heap.size b pf pt))) (rest := rest.map (q_cv (q_ad s0.heap.size b pf pt))) ⟨hC.1, hC.2.1, hC.2.2.2.1, hC.2.2.2.2.1, fun w (hw : w ∈ ([] : List Cond)) => by cases hw⟩ hM2 ⟨⟨rfl, rfl, w1, w2, w3, List.mem_cons_self, w4, w5, ⟨hN.2.2.1.1, hN.2.2.1.2.1⟩, w6, q_w hts0 hW hl rfl⟩, hnm, q_w hts0 hW hin rfl⟩ (q_pre hW hH) rfl (by rw [List.length_map]; exact hn) (hl1.1.trans hL) ?_ (lv_room (q_catsum _ rest hcat)) hd hf
  show stk.map _ = _
  rw [hstk, List.map_append, List.map_reverse, q_mp1 hbb]
theorem Ev.callIN0 {N : Md} {d1 n idx : Nat} {host : String} {bb : Int} {av stk rest : List AV} {r1 : Option AV} {σ1 : Sg} {m1 : Mm} (hd : decode M.2.1 pc = .ok (.invokespecial idx, 3)) (hN : q_mt N n) (hl : Cond.methodLinkNest M.1.cls idx N.1 host ∈ lw_tbl) (hin : Cond.instanceMethod N.1 ∈ lw_tbl) (hnm : N.1.name = "<init>") (hrt : N.2.2.2 = none) (hn : av.length = n) (hen : (q_sl (vr bb :: av)).length ≤ N.2.2.1) (hL : L.length = M.2.2.1) (hcat : (rest.map q_cat).sum ≤ 8) (hdd : d1 + 1 ≤ d) (hbb : 0 ≤ bb) (hstk : stk = av.reverse ++ vr bb :: rest) (c : Call d1 N (vr bb :: av) σ m r1 σ1 m1) (k : Ev d M (pc + 3) L (r1.toList ++ rest) σ1 m1 r σ' m') : Ev d M pc L stk σ m r σ' m' := by
  refine Ev.callX c hN hen (fun {l s0 b pf pt D} hG {p e R s mi args below meth cd} hC {cells slots H locs ls} hH hl1 hM hf => ?_) k
  obtain ⟨a0, hts0⟩ := hG.1
  have hW := hC.2.2.2.2.2.2.2.1
  obtain ⟨⟨w1, w2⟩, w3, w4, w5, w6⟩ := q_cw (args := args) (x := 0) (y := 0) hts0 hW hN ⟨hdd, hC.2.2.2.2.2.2.2.2.1, hC.2.2.2.2.2.2.2.2.2⟩
  have hM2 := hM
  simp only [List.map_cons, q_ref hbb] at hM2 ⊢
  rw [hrt] at hM2 w3 w4
  refine va_runIN (b := q_ad s0.heap.size b pf pt bb) (As := av.map (q_cv (q_ad s0.heap.size b pf pt))) (rest := rest.map (q_cv (q_ad s0.heap.size b pf pt))) ⟨hC.1, hC.2.1, hC.2.2.2.1, hC.2.2.2.2.1, fun w (hw : w ∈ ([] : List Cond)) => by cases hw⟩ hM2 ⟨⟨⟨rfl, rfl, w1, w2, w3, List.mem_cons_self⟩, w4, w5, ⟨hN.2.2.1.1, hN.2.2.1.2.1⟩, w6, va_Nw.use rfl (va_Nw.warmM hW (va_Nw.of rfl (hts0 _ hl)))⟩, hnm, q_w hts0 hW hin rfl⟩ (q_pre hW hH) rfl (by rw [List.length_map]; exact hn) (hl1.1.trans hL) ?_ (lv_room (q_catsum _ rest hcat)) hd hf
  show stk.map _ = _
  rw [hstk, List.map_append, List.map_reverse, q_mp1 hbb]
theorem Ev.callSv {N : Md} {d1 n idx : Nat} {av stk rest : List AV} {σ1 : Sg} {m1 : Mm} (hd : decode M.2.1 pc = .ok (.invokestatic idx, 3)) (hN : q_mt N n) (hl : Cond.methodLink M.1.cls idx N.1 ∈ lw_tbl) (hst : Cond.static N.1 ∈ lw_tbl) (hn : av.length = n) (hen : (q_sl av).length ≤ N.2.2.1) (hL : L.length = M.2.2.1) (hcat : (rest.map q_cat).sum ≤ 8) (hdd : d1 + 1 ≤ d) (hstk : stk = av.reverse ++ rest) (c : Call d1 N av σ m none σ1 m1) (k : Ev d M (pc + 3) L rest σ1 m1 r σ' m') : Ev d M pc L stk σ m r σ' m' :=
  Ev.callS0 hd hN hl hst hn hen hL hcat hdd hstk c k
theorem Ev.callS {N : Md} {d1 n idx : Nat} {v : AV} {av stk rest : List AV} {σ1 : Sg} {m1 : Mm} (hd : decode M.2.1 pc = .ok (.invokestatic idx, 3)) (hN : q_mt N n) (hl : Cond.methodLink M.1.cls idx N.1 ∈ lw_tbl) (hst : Cond.static N.1 ∈ lw_tbl) (hn : av.length = n) (hen : (q_sl av).length ≤ N.2.2.1) (hL : L.length = M.2.2.1) (hcat : (rest.map q_cat).sum ≤ 8) (hdd : d1 + 1 ≤ d) (hstk : stk = av.reverse ++ rest) (c : Call d1 N av σ m (some v) σ1 m1) (k : Ev d M (pc + 3) L (v :: rest) σ1 m1 r σ' m') : Ev d M pc L stk σ m r σ' m' :=
  Ev.callS0 hd hN hl hst hn hen hL hcat hdd hstk c k
theorem Ev.callSNv {N : Md} {d1 n idx : Nat} {host : String} {av stk rest : List AV} {σ1 : Sg} {m1 : Mm} (hd : decode M.2.1 pc = .ok (.invokestatic idx, 3)) (hN : q_mt N n) (hl : Cond.methodLinkNest M.1.cls idx N.1 host ∈ lw_tbl) (hst : Cond.static N.1 ∈ lw_tbl) (hn : av.length = n) (hen : (q_sl av).length ≤ N.2.2.1) (hL : L.length = M.2.2.1) (hcat : (rest.map q_cat).sum ≤ 8) (hdd : d1 + 1 ≤ d) (hstk : stk = av.reverse ++ rest) (c : Call d1 N av σ m none σ1 m1) (k : Ev d M (pc + 3) L rest σ1 m1 r σ' m') : Ev d M pc L stk σ m r σ' m' :=
  Ev.callSN0 hd hN hl hst hn hen hL hcat hdd hstk c k
theorem Ev.callSN {N : Md} {d1 n idx : Nat} {host : String} {v : AV} {av stk rest : List AV} {σ1 : Sg} {m1 : Mm} (hd : decode M.2.1 pc = .ok (.invokestatic idx, 3)) (hN : q_mt N n) (hl : Cond.methodLinkNest M.1.cls idx N.1 host ∈ lw_tbl) (hst : Cond.static N.1 ∈ lw_tbl) (hn : av.length = n) (hen : (q_sl av).length ≤ N.2.2.1) (hL : L.length = M.2.2.1) (hcat : (rest.map q_cat).sum ≤ 8) (hdd : d1 + 1 ≤ d) (hstk : stk = av.reverse ++ rest) (c : Call d1 N av σ m (some v) σ1 m1) (k : Ev d M (pc + 3) L (v :: rest) σ1 m1 r σ' m') : Ev d M pc L stk σ m r σ' m' :=
  Ev.callSN0 hd hN hl hst hn hen hL hcat hdd hstk c k
theorem Ev.callVv {N : Md} {d1 n idx : Nat} {bb nb : Int} {t : Nat} {av stk rest : List AV} {σ1 : Sg} {m1 : Mm} (hd : decode M.2.1 pc = .ok (.invokevirtual idx, 3)) (hN : q_mt N n) (hl : Cond.methodLink M.1.cls idx N.1 ∈ lw_tbl) (hin : Cond.instanceMethod N.1 ∈ lw_tbl) (hse : Cond.selects N.1.cls N.1 N.1 ∈ lw_tbl) (hn : av.length = n) (hen : (q_sl (vr bb :: av)).length ≤ N.2.2.1) (hL : L.length = M.2.2.1) (hcat : (rest.map q_cat).sum ≤ 8) (hdd : d1 + 1 ≤ d) (hbb : Is σ bb t nb) (htt : t < 100) (hcls : (q_cls[t]?.map (fun q => q.1)) = some N.1.cls) (hstk : stk = av.reverse ++ vr bb :: rest) (c : Call d1 N (vr bb :: av) σ m none σ1 m1) (k : Ev d M (pc + 3) L rest σ1 m1 r σ' m') : Ev d M pc L stk σ m r σ' m' :=
  Ev.callV0 hd hN hl hin hse hn hen hL hcat hdd hbb htt hcls hstk c k
theorem Ev.callV {N : Md} {d1 n idx : Nat} {bb nb : Int} {t : Nat} {v : AV} {av stk rest : List AV} {σ1 : Sg} {m1 : Mm} (hd : decode M.2.1 pc = .ok (.invokevirtual idx, 3)) (hN : q_mt N n) (hl : Cond.methodLink M.1.cls idx N.1 ∈ lw_tbl) (hin : Cond.instanceMethod N.1 ∈ lw_tbl) (hse : Cond.selects N.1.cls N.1 N.1 ∈ lw_tbl) (hn : av.length = n) (hen : (q_sl (vr bb :: av)).length ≤ N.2.2.1) (hL : L.length = M.2.2.1) (hcat : (rest.map q_cat).sum ≤ 8) (hdd : d1 + 1 ≤ d) (hbb : Is σ bb t nb) (htt : t < 100) (hcls : (q_cls[t]?.map (fun q => q.1)) = some N.1.cls) (hstk : stk = av.reverse ++ vr bb :: rest) (c : Call d1 N (vr bb :: av) σ m (some v) σ1 m1) (k : Ev d M (pc + 3) L (v :: rest) σ1 m1 r σ' m') : Ev d M pc L stk σ m r σ' m' :=
  Ev.callV0 hd hN hl hin hse hn hen hL hcat hdd hbb htt hcls hstk c k
theorem Ev.callVNv {N : Md} {d1 n idx : Nat} {host : String} {bb nb : Int} {t : Nat} {av stk rest : List AV} {σ1 : Sg} {m1 : Mm} (hd : decode M.2.1 pc = .ok (.invokevirtual idx, 3)) (hN : q_mt N n) (hl : Cond.methodLinkNest M.1.cls idx N.1 host ∈ lw_tbl) (hin : Cond.instanceMethod N.1 ∈ lw_tbl) (hse : Cond.selects N.1.cls N.1 N.1 ∈ lw_tbl) (hn : av.length = n) (hen : (q_sl (vr bb :: av)).length ≤ N.2.2.1) (hL : L.length = M.2.2.1) (hcat : (rest.map q_cat).sum ≤ 8) (hdd : d1 + 1 ≤ d) (hbb : Is σ bb t nb) (htt : t < 100) (hcls : (q_cls[t]?.map (fun q => q.1)) = some N.1.cls) (hstk : stk = av.reverse ++ vr bb :: rest) (c : Call d1 N (vr bb :: av) σ m none σ1 m1) (k : Ev d M (pc + 3) L rest σ1 m1 r σ' m') : Ev d M pc L stk σ m r σ' m' :=
  Ev.callVN0 hd hN hl hin hse hn hen hL hcat hdd hbb htt hcls hstk c k
theorem Ev.callVN {N : Md} {d1 n idx : Nat} {host : String} {bb nb : Int} {t : Nat} {v : AV} {av stk rest : List AV} {σ1 : Sg} {m1 : Mm} (hd : decode M.2.1 pc = .ok (.invokevirtual idx, 3)) (hN : q_mt N n) (hl : Cond.methodLinkNest M.1.cls idx N.1 host ∈ lw_tbl) (hin : Cond.instanceMethod N.1 ∈ lw_tbl) (hse : Cond.selects N.1.cls N.1 N.1 ∈ lw_tbl) (hn : av.length = n) (hen : (q_sl (vr bb :: av)).length ≤ N.2.2.1) (hL : L.length = M.2.2.1) (hcat : (rest.map q_cat).sum ≤ 8) (hdd : d1 + 1 ≤ d) (hbb : Is σ bb t nb) (htt : t < 100) (hcls : (q_cls[t]?.map (fun q => q.1)) = some N.1.cls) (hstk : stk = av.reverse ++ vr bb :: rest) (c : Call d1 N (vr bb :: av) σ m (some v) σ1 m1) (k : Ev d M (pc + 3) L (v :: rest) σ1 m1 r σ' m') : Ev d M pc L stk σ m r σ' m' :=
  Ev.callVN0 hd hN hl hin hse hn hen hL hcat hdd hbb htt hcls hstk c k
theorem Ev.callIv {N : Md} {d1 n idx : Nat} {bb : Int} {av stk rest : List AV} {σ1 : Sg} {m1 : Mm} (hd : decode M.2.1 pc = .ok (.invokespecial idx, 3)) (hN : q_mt N n) (hl : Cond.methodLink M.1.cls idx N.1 ∈ lw_tbl) (hin : Cond.instanceMethod N.1 ∈ lw_tbl) (hnm : N.1.name = "<init>") (hrt : N.2.2.2 = none) (hn : av.length = n) (hen : (q_sl (vr bb :: av)).length ≤ N.2.2.1) (hL : L.length = M.2.2.1) (hcat : (rest.map q_cat).sum ≤ 8) (hdd : d1 + 1 ≤ d) (hbb : 0 ≤ bb) (hstk : stk = av.reverse ++ vr bb :: rest) (c : Call d1 N (vr bb :: av) σ m none σ1 m1) (k : Ev d M (pc + 3) L rest σ1 m1 r σ' m') : Ev d M pc L stk σ m r σ' m' :=
  Ev.callI0 hd hN hl hin hnm hrt hn hen hL hcat hdd hbb hstk c k
theorem Ev.callINv {N : Md} {d1 n idx : Nat} {host : String} {bb : Int} {av stk rest : List AV} {σ1 : Sg} {m1 : Mm} (hd : decode M.2.1 pc = .ok (.invokespecial idx, 3)) (hN : q_mt N n) (hl : Cond.methodLinkNest M.1.cls idx N.1 host ∈ lw_tbl) (hin : Cond.instanceMethod N.1 ∈ lw_tbl) (hnm : N.1.name = "<init>") (hrt : N.2.2.2 = none) (hn : av.length = n) (hen : (q_sl (vr bb :: av)).length ≤ N.2.2.1) (hL : L.length = M.2.2.1) (hcat : (rest.map q_cat).sum ≤ 8) (hdd : d1 + 1 ≤ d) (hbb : 0 ≤ bb) (hstk : stk = av.reverse ++ vr bb :: rest) (c : Call d1 N (vr bb :: av) σ m none σ1 m1) (k : Ev d M (pc + 3) L rest σ1 m1 r σ' m') : Ev d M pc L stk σ m r σ' m' :=
  Ev.callIN0 hd hN hl hin hnm hrt hn hen hL hcat hdd hbb hstk c k
theorem Ev.objInit {a : Int} {idx : Nat} {rest : List AV} (hd : decode M.2.1 pc = .ok (.invokespecial idx, 3)) (hl : Cond.methodLink M.1.cls idx objectInit ∈ lw_tbl) (hw : Cond.instanceMethod objectInit ∈ lw_tbl) (hcd : Cond.code objectInit ⟨#[0xb1]⟩ 1 none ∈ lw_tbl) (h0 : 0 ≤ a) (hL : L.length = M.2.2.1) (hcat : (rest.map q_cat).sum ≤ 8) (hdd : 1 ≤ d) (k : Ev d M (pc + 3) L rest σ m r σ' m') : Ev d M pc L (vr a :: rest) σ m r σ' m' := by
  refine Ev.mem ⟨rfl, rfl⟩ (fun {l s0 b pf pt D} hG {p e R s mi args below meth c} hC {Q cells slots H locs ls} hH hf1 hl1 kk => ?_) k
  obtain ⟨a0, hts0⟩ := hG.1
  have hW := hC.2.2.2.2.2.2.2.1
  have hd1 := hC.2.2.2.2.2.2.2.2.1
  have hd2 := hC.2.2.2.2.2.2.2.2.2
  have hcs := q_catsum (q_ad s0.heap.size b pf pt) rest hcat
  rw [q_mp1 h0]
  exact W.objInit hC.1 hC.2.1 hC.2.2.2.2.1 (q_w hts0 hW hl rfl) (q_w hts0 hW hw rfl) (q_w hts0 hW hcd rfl) rfl (hl1.1.trans (hL.trans hC.2.2.2.1.symm)) rfl hd (by omega) (by show 2 * 0 + _ + 12 ≤ _; omega) (kk H locs hH hf1)
/-- arraycopy between two rows of one kind -/
def mcp (m : Mm) (a sp b dp n : Int) : Mm := fun c j => if c = b ∧ dp ≤ j ∧ j < dp + n then m a (sp + (j - dp)) else m c j
theorem Ev.copy {a a2 n1 n2 sp dp n : Int} {t idx : Nat} {rest : List AV} (hd : decode M.2.1 pc = .ok (.invokestatic idx, 3)) (hl : Cond.methodLink M.1.cls idx arraycopyName ∈ lw_tbl) (hw1 : Cond.native arraycopyName ∈ lw_tbl) (hw2 : Cond.static arraycopyName ∈ lw_tbl) (hw3 : Cond.initialized "java/lang/System" ∈ lw_tbl) (ht : t = 100 ∨ t = 101) (hs : Is σ a t n1) (hs2 : Is σ a2 t n2) (h3 : 3 ≤ a ∧ 3 ≤ a2) (h1 : 0 ≤ sp ∧ sp + n ≤ n1) (h2 : 0 ≤ dp ∧ dp + n ≤ n2) (hn : 0 ≤ n) (hL : L.length = M.2.2.1) (hcat : (rest.map q_cat).sum ≤ 8) (hdd : 2 ≤ d) (k : Ev d M (pc + 3) L rest σ (mcp m a sp a2 dp n) r σ' m') : Ev d M pc L (vi n :: vi dp :: vr a2 :: vi sp :: vr a :: rest) σ m r σ' m' := by
  refine Ev.mem (σ2 := σ) (m2 := mcp m a sp a2 dp n) ⟨rfl, rfl⟩ (fun {l s0 b pf pt D} hG {p e R s mi args below meth c} hC {Q cells slots H locs ls} hH hf1 hl1 kk => ?_) k
  obtain ⟨a0, hts0⟩ := hG.1
  have hW := hC.2.2.2.2.2.2.2.1
  have hd1 := hC.2.2.2.2.2.2.2.2.1
  have hd2 := hC.2.2.2.2.2.2.2.2.2
  have hcs := q_catsum (q_ad s0.heap.size b pf pt) rest hcat
  have hcl := hH.2.2.2.1 a h3.1 hs.2.1
  rw [hs.2.2.1, hs.2.2.2] at hcl
  obtain ⟨cA, g1, g2, g3, g4⟩ := hcl.2 (by omega)
  have hcl2 := hH.2.2.2.1 a2 h3.2 hs2.2.1
  rw [hs2.2.2.1, hs2.2.2.2] at hcl2
  obtain ⟨cB, f1, f2, f3, f4⟩ := hcl2.2 (by omega)
  have ea : (vi n :: vi dp :: vr a2 :: vi sp :: vr a :: rest).map (q_cv (q_ad s0.heap.size b pf pt)) = .int (Int32.ofInt n) :: .int (Int32.ofInt dp) :: .ref (q_ad s0.heap.size b pf pt a2) :: .int (Int32.ofInt sp) :: .ref (q_ad s0.heap.size b pf pt a) :: rest.map (q_cv (q_ad s0.heap.size b pf pt)) := by
    simp only [List.map_cons, q_ref hs.1, q_ref hs2.1]
    rfl
  rw [ea]
  intro T hT X
  obtain ⟨-, k0, hk0, cm0, hkk0⟩ := (arrOfT_moved hW.alike g1) n1.toNat (q_av (q_ad s0.heap.size b pf pt) t (m a) (σ.2.2.2.2 a))
  obtain ⟨-, k1, hk1, cm1, hkk1⟩ := (arrOfT_moved hW.alike f1) n2.toNat (q_av (q_ad s0.heap.size b pf pt) t (m a2) (σ.2.2.2.2 a2))
  have hprim : refKind (q_aty t) = false := by rcases ht with rfl | rfl <;> rfl
  have en : (Int32.ofInt n).toInt = n := q_i32 (by omega)
  have es : (Int32.ofInt sp).toInt = sp := q_i32 (by omega)
  have ed : (Int32.ofInt dp).toInt = dp := q_i32 (by omega)
  have cn : (Int32.ofInt n).toNatClampNeg = n.toNat := q_clamp hn (by omega)
  have cs : (Int32.ofInt sp).toNatClampNeg = sp.toNat := q_clamp h1.1 (by omega)
  have cdp : (Int32.ofInt dp).toNatClampNeg = dp.toNat := q_clamp h2.1 (by omega)
  have hnf : nativeFrameWords "java/lang/System" "arraycopy" 5 ≤ 50 := by decide +kernel
  obtain ⟨vm', X', step⟩ := X.arraycopy hC.1 hC.2.2.2.2.1 (q_w hts0 hW hl rfl) (q_w hts0 hW hw1 rfl) (q_w hts0 hW hw2 rfl) (q_w hts0 hW hw3 rfl) (src := q_ad s0.heap.size b pf pt a) (dst := q_ad s0.heap.size b pf pt a2) (cs := arrV cA n1.toNat (q_av (q_ad s0.heap.size b pf pt) t (m a) (σ.2.2.2.2 a))) (cd := arrV cB n2.toNat (q_av (q_ad s0.heap.size b pf pt) t (m a2) (σ.2.2.2.2 a2))) (srcPos := Int32.ofInt sp) (destPos := Int32.ofInt dp) (n := Int32.ofInt n) (by rw [hT]; exact g4) (by rw [hT]; exact f4)
    (fun _ h => by cases h) (fun _ h => by cases h) (fun h => by cases h) (fun h => by cases h) hk0 hk1 hkk0 hkk1 (by simp [hprim]) (by rw [q_z, q_lt (by omega) (by omega)]; omega) (by rw [q_z, q_lt (by omega) (by omega)]; omega) (by rw [q_z, q_lt (by omega) (by omega)]; omega)
    (by rw [es, en, arrV_size]; omega) (by rw [ed, en, arrV_size]; omega)
    (fun vm₁ _ i hi => by
      rw [cn] at hi
      rw [cs]
      have e9 : (arrV cA n1.toNat (q_av (q_ad s0.heap.size b pf pt) t (m a) (σ.2.2.2.2 a))).slots.getD (sp.toNat + i) .null = q_av (q_ad s0.heap.size b pf pt) t (m a) (σ.2.2.2.2 a) (sp.toNat + i) := by
        rw [Array.getD_eq_getD_getElem?, arrV_read _ _ (by omega)]
        rfl
      rw [e9]
      rcases ht with rfl | rfl
      · exact ⟨rfl, trivial⟩
      · exact ⟨rfl, trivial⟩)
    (g := F0 mi pc ls _) rfl (hl1.1.trans (hL.trans hC.2.2.2.1.symm)) (rest := rest.map (q_cv (q_ad s0.heap.size b pf pt))) rfl (by rw [hC.2.1]; exact hd) (by omega) (by show 2 * 0 + _ + _ ≤ _; omega)
  have e1 : copied (arrV cA n1.toNat (q_av (q_ad s0.heap.size b pf pt) t (m a) (σ.2.2.2.2 a))) (arrV cB n2.toNat (q_av (q_ad s0.heap.size b pf pt) t (m a2) (σ.2.2.2.2 a2))) (Int32.ofInt sp) (Int32.ofInt dp) (Int32.ofInt n) = arrV cB n2.toNat (va_cpy (q_av (q_ad s0.heap.size b pf pt) t (m a) (σ.2.2.2.2 a)) (q_av (q_ad s0.heap.size b pf pt) t (m a2) (σ.2.2.2.2 a2)) sp.toNat dp.toNat n.toNat) := by
    have := va_copied (fun z => z) cA cB (n0 := n1.toNat) (n1 := n2.toNat) (sp := sp.toNat) (dp := dp.toNat) (n := n.toNat) (q_av (q_ad s0.heap.size b pf pt) t (m a) (σ.2.2.2.2 a)) (q_av (q_ad s0.heap.size b pf pt) t (m a2) (σ.2.2.2.2 a2)) (by omega)
    rw [← this]
    show (arrV _ _ _).storeRun (Int32.ofInt dp).toNatClampNeg ((arrV _ _ _).stretch (Int32.ofInt sp).toNatClampNeg (Int32.ofInt n).toNatClampNeg) = _
    rw [cdp, cs, cn]
  rw [e1] at X' step
  have hlt : q_ad s0.heap.size b pf pt a2 < H.size := (Array.getElem?_eq_some_iff.mp f4).1
  have e2 : arrV cB n2.toNat (va_cpy (q_av (q_ad s0.heap.size b pf pt) t (m a) (σ.2.2.2.2 a)) (q_av (q_ad s0.heap.size b pf pt) t (m a2) (σ.2.2.2.2 a2)) sp.toNat dp.toNat n.toNat) = arrV cB n2.toNat (q_av (q_ad s0.heap.size b pf pt) t (mcp m a sp a2 dp n a2) (σ.2.2.2.2 a2)) := by
    congr 1
    funext j
    simp only [va_cpy]
    by_cases hj : dp.toNat ≤ j ∧ j < dp.toNat + n.toNat
    · rw [if_pos hj]
      have em : mcp m a sp a2 dp n a2 (j : Int) = m a (sp + ((j : Int) - dp)) := if_pos (by omega)
      have ec : ((sp.toNat + (j - dp.toNat) : Nat) : Int) = sp + ((j : Int) - dp) := by omega
      rcases ht with rfl | rfl
      · show Value.int (Int32.ofInt (m a ((sp.toNat + (j - dp.toNat) : Nat) : Int))) = Value.int (Int32.ofInt (mcp m a sp a2 dp n a2 (j : Int)))
        rw [em, ec]
      · show Value.long (Int64.ofInt (m a ((sp.toNat + (j - dp.toNat) : Nat) : Int))) = Value.long (Int64.ofInt (mcp m a sp a2 dp n a2 (j : Int)))
        rw [em, ec]
    · rw [if_neg hj]
      have em : mcp m a sp a2 dp n a2 (j : Int) = m a2 (j : Int) := if_neg (by omega)
      rcases ht with rfl | rfl
      · show Value.int (Int32.ofInt (m a2 (j : Int))) = Value.int (Int32.ofInt (mcp m a sp a2 dp n a2 (j : Int)))
        rw [em]
      · show Value.long (Int64.ofInt (m a2 (j : Int))) = Value.long (Int64.ofInt (mcp m a sp a2 dp n a2 (j : Int)))
        rw [em]
  rw [e2] at X' step
  have hheap : ((T.setVm vm').setCell (q_ad s0.heap.size b pf pt a2) (arrV cB n2.toNat (q_av (q_ad s0.heap.size b pf pt) t (mcp m a sp a2 dp n a2) (σ.2.2.2.2 a2)))).heap = H.setIfInBounds (q_ad s0.heap.size b pf pt a2) (arrV cB n2.toNat (q_av (q_ad s0.heap.size b pf pt) t (mcp m a sp a2 dp n a2) (σ.2.2.2.2 a2))) := by rw [← hT]; rfl
  refine (kk _ _ (q_HR_set hG hH ⟨h3.2, hs2.2.1⟩ (by simp) (fun q hq => by simp [Array.getElem?_setIfInBounds, Ne.symm hq]) ⟨rfl, rfl, rfl⟩ (fun a' ha' => ⟨by funext j; exact if_neg (fun q => ha' q.1), rfl⟩) ?_) ?_ _ hheap X').elim (fun t2 h => ⟨t2, step t2 h.1, h.2⟩)
  · rw [hs2.2.2.1, hs2.2.2.2]
    refine ⟨fun h => absurd h (by omega), fun _ => ⟨cB, f1, f2, f3, ?_⟩⟩
    simp [Array.getElem?_setIfInBounds, hlt]
  · intro q hq
    rcases List.mem_append.mp hq with h | h
    · exact hf1 q h
    · obtain ⟨z, -, hz⟩ := List.mem_map.mp h
      rw [← hz]
      show _ ≤ q_ad _ _ _ _ a2
      rw [q_ad3 h3.2]
      omega
end
end
section
section
theorem q_pow (k : Nat) : ((2 ^ k : Nat) : Int) = (2 : Int) ^ k := by simp
theorem q_bmask (w k : Nat) (hk : k < w) (x : Int) : BitVec.ofInt w x &&& BitVec.ofInt w (2 ^ k - 1) = BitVec.ofInt w (x % 2 ^ k) := by
  apply BitVec.eq_of_toNat_eq
  have hkw : 2 ^ k < 2 ^ w := Nat.pow_lt_pow_right (by decide) hk
  have hp : 0 < 2 ^ k := Nat.two_pow_pos k
  have e1 : ((2 : Int) ^ k - 1) % ((2 ^ w : Nat) : Int) = ((2 ^ k - 1 : Nat) : Int) := by
    rw [← q_pow, show (((2 ^ k : Nat) : Int) - 1) = ((2 ^ k - 1 : Nat) : Int) by omega]
    exact Int.emod_eq_of_lt (by omega) (by omega)
  rw [BitVec.toNat_and, BitVec.toNat_ofInt, BitVec.toNat_ofInt, BitVec.toNat_ofInt, e1, Int.toNat_natCast, Nat.and_two_pow_sub_one_eq_mod]
  have e2 : (x % ((2 ^ w : Nat) : Int)) % ((2 ^ k : Nat) : Int) = x % ((2 ^ k : Nat) : Int) := Int.emod_emod_of_dvd x (by exact_mod_cast Nat.pow_dvd_pow 2 (Nat.le_of_lt hk))
  have h0 : 0 ≤ x % ((2 ^ w : Nat) : Int) := Int.emod_nonneg _ (by omega)
  have h1 : 0 ≤ x % ((2 ^ k : Nat) : Int) := Int.emod_nonneg _ (by omega)
  have h2 : x % ((2 ^ k : Nat) : Int) < ((2 ^ k : Nat) : Int) := Int.emod_lt_of_pos _ (by omega)
  rw [← q_pow, Int.emod_eq_of_lt (a := x % ((2 ^ k : Nat) : Int)) h1 (by omega), ← e2]
  rw [Int.toNat_emod h0 (by omega), Int.toNat_natCast]
theorem q_bshl (w k : Nat) (x : Int) : BitVec.ofInt w x <<< k = BitVec.ofInt w (x * 2 ^ k) := by
  apply BitVec.eq_of_toNat_eq
  rw [BitVec.toNat_shiftLeft, BitVec.toNat_ofInt, BitVec.toNat_ofInt, Nat.shiftLeft_eq]
  have h0 : 0 ≤ x % ((2 ^ w : Nat) : Int) := Int.emod_nonneg _ (by have := Nat.two_pow_pos w; omega)
  have h1 : 0 ≤ (x * 2 ^ k) % ((2 ^ w : Nat) : Int) := Int.emod_nonneg _ (by have := Nat.two_pow_pos w; omega)
  apply Int.ofNat.inj
  show (((x % ((2 ^ w : Nat) : Int)).toNat * 2 ^ k % 2 ^ w : Nat) : Int) = (((x * 2 ^ k) % ((2 ^ w : Nat) : Int)).toNat : Int)
  rw [Int.toNat_of_nonneg h1, Int.natCast_emod, Int.natCast_mul, Int.toNat_of_nonneg h0, q_pow k, Int.mul_emod, Int.emod_emod_of_dvd _ (Int.dvd_refl _), ← Int.mul_emod]
theorem q_bor (w k : Nat) (hk : k < w) (u y : Int) (hy : 0 ≤ y ∧ y < 2 ^ k) : BitVec.ofInt w (u * 2 ^ k) ||| BitVec.ofInt w y = BitVec.ofInt w (u * 2 ^ k + y) := by
  apply BitVec.eq_of_toNat_eq
  have hp : 0 < 2 ^ k := Nat.two_pow_pos k
  have hpw : 0 < 2 ^ w := Nat.two_pow_pos w
  have hkw : 2 ^ k < 2 ^ w := Nat.pow_lt_pow_right (by decide) hk
  have hy2 : y < ((2 ^ k : Nat) : Int) := by rw [q_pow]; exact hy.2
  rw [BitVec.toNat_or, BitVec.toNat_ofInt, BitVec.toNat_ofInt, BitVec.toNat_ofInt]
  have ew : ((2 ^ w : Nat) : Int) = ((2 ^ (w - k) : Nat) : Int) * ((2 ^ k : Nat) : Int) := by
    rw [← Int.natCast_mul, ← Nat.pow_add, show w - k + k = w by omega]
  have e1 : (u * 2 ^ k) % ((2 ^ w : Nat) : Int) = (u % ((2 ^ (w - k) : Nat) : Int)) * ((2 ^ k : Nat) : Int) := by
    rw [ew, ← q_pow, Int.mul_comm u, Int.mul_comm ((2 ^ (w - k) : Nat) : Int), Int.mul_emod_mul_of_pos _ _ (by omega), Int.mul_comm]
  have hq0 : 0 ≤ u % ((2 ^ (w - k) : Nat) : Int) := Int.emod_nonneg _ (by have := Nat.two_pow_pos (w - k); omega)
  have hq1 : u % ((2 ^ (w - k) : Nat) : Int) < ((2 ^ (w - k) : Nat) : Int) := Int.emod_lt_of_pos _ (by have := Nat.two_pow_pos (w - k); omega)
  obtain ⟨q, hq⟩ := Int.eq_ofNat_of_zero_le hq0
  obtain ⟨z, hz⟩ := Int.eq_ofNat_of_zero_le hy.1
  have hqn : q < 2 ^ (w - k) := by omega
  have hzn : z < 2 ^ k := by omega
  have hsum : q * 2 ^ k + z < 2 ^ w := by
    have h1 : (q + 1) * 2 ^ k ≤ 2 ^ (w - k) * 2 ^ k := Nat.mul_le_mul_right _ hqn
    rw [← Nat.pow_add, show w - k + k = w by omega, Nat.add_mul] at h1
    omega
  have e3 : (u * 2 ^ k + y) % ((2 ^ w : Nat) : Int) = ((q * 2 ^ k + z : Nat) : Int) := by
    rw [← Int.emod_add_emod, e1, hq, hz]
    show ((q : Int) * ((2 ^ k : Nat) : Int) + (z : Int)) % _ = _
    rw [← Int.natCast_mul, ← Int.natCast_add]
    exact Int.emod_eq_of_lt (by omega) (by omega)
  have e2 : y % ((2 ^ w : Nat) : Int) = (z : Int) := by
    rw [hz]
    exact Int.emod_eq_of_lt (by omega) (by show (z : Int) < _; omega)
  rw [e3, e2, e1, hq]
  show (((q : Int) * ((2 ^ k : Nat) : Int)).toNat ||| (z : Int).toNat) = _
  rw [← Int.natCast_mul, Int.toNat_natCast, Int.toNat_natCast, Int.toNat_natCast, Nat.mul_comm q, ← Nat.two_pow_add_eq_or_of_lt hzn]
theorem q_band (w : Nat) (x y : Int) (hx : 0 ≤ x) (hy : 0 ≤ y) : BitVec.ofInt w x &&& BitVec.ofInt w y = BitVec.ofInt w ((x.toNat &&& y.toNat : Nat) : Int) := by
  obtain ⟨a, ha⟩ := Int.eq_ofNat_of_zero_le hx
  obtain ⟨b, hb⟩ := Int.eq_ofNat_of_zero_le hy
  subst ha; subst hb
  show BitVec.ofInt w (a : Int) &&& BitVec.ofInt w (b : Int) = BitVec.ofInt w ((a &&& b : Nat) : Int)
  rw [BitVec.ofInt_natCast, BitVec.ofInt_natCast, BitVec.ofInt_natCast]
  apply BitVec.eq_of_getLsbD_eq
  intro i hi
  simp [hi]
theorem q_bor2 (w : Nat) (x y : Int) (hx : 0 ≤ x) (hy : 0 ≤ y) : BitVec.ofInt w x ||| BitVec.ofInt w y = BitVec.ofInt w ((x.toNat ||| y.toNat : Nat) : Int) := by
  obtain ⟨a, ha⟩ := Int.eq_ofNat_of_zero_le hx
  obtain ⟨b, hb⟩ := Int.eq_ofNat_of_zero_le hy
  subst ha; subst hb
  show BitVec.ofInt w (a : Int) ||| BitVec.ofInt w (b : Int) = BitVec.ofInt w ((a ||| b : Nat) : Int)
  rw [BitVec.ofInt_natCast, BitVec.ofInt_natCast, BitVec.ofInt_natCast]
  apply BitVec.eq_of_getLsbD_eq
  intro i hi
  simp [hi]
theorem q_s31 : ∀ k : Nat, k < 32 → ((Int32.ofInt (k : Int) &&& 31).toBitVec.smod 32).toNat = k := by decide +kernel
theorem q_s63 : ∀ k : Nat, k < 64 → (((Int32.ofInt (k : Int)).toInt64 &&& 63).toBitVec.smod 64).toNat = k := by decide +kernel
variable {d : Nat} {M : Md} {pc : Nat} {L : List (Option AV)} {st : List AV} {σ σ' : Sg} {m m' : Mm} {r : Option AV}
theorem Ev.ishl {x n : Int} (hd : decode M.2.1 pc = .ok (.ishl, 1)) (hn : 0 ≤ n ∧ n < 32) (k : Ev d M (pc + 1) L (vi (x * 2 ^ n.toNat) :: st) σ m r σ' m') : Ev d M pc L (vi n :: vi x :: st) σ m r σ' m' :=
  Ev.lift (fun hX hb _ k => lv_ishl hX hb hd (by
    have e : Int32.ofInt x <<< (Int32.ofInt n &&& 31) = Int32.ofInt (x * 2 ^ n.toNat) := by
      have h := q_s31 n.toNat (by omega)
      rw [show ((n.toNat : Nat) : Int) = n by omega] at h
      apply Int32.toBitVec_inj.mp
      show (Int32.ofInt x).toBitVec <<< ((Int32.ofInt n &&& 31).toBitVec.smod 32).toNat = _
      rw [h]
      exact q_bshl 32 n.toNat x
    rw [e]; exact k)) k
theorem Ev.ishr {x n : Int} (hd : decode M.2.1 pc = .ok (.ishr, 1)) (hn : 0 ≤ n ∧ n < 32) (hx : -2147483648 ≤ x ∧ x ≤ 2147483647) (k : Ev d M (pc + 1) L (vi (x / 2 ^ n.toNat) :: st) σ m r σ' m') : Ev d M pc L (vi n :: vi x :: st) σ m r σ' m' :=
  Ev.lift (fun hX hb _ k => lv_ishr hX hb hd (by
    have e : Int32.ofInt x >>> (Int32.ofInt n &&& 31) = Int32.ofInt (x / 2 ^ n.toNat) := by
      have h := q_s31 n.toNat (by omega)
      rw [show ((n.toNat : Nat) : Int) = n by omega] at h
      rw [← Int32.ofInt_toInt (Int32.ofInt x >>> (Int32.ofInt n &&& 31)), pk_shr _ _ n.toNat h, q_i32 hx, Int.shiftRight_eq_div_pow, q_pow]
    rw [e]; exact k)) k
theorem Ev.lshl {x n : Int} (hd : decode M.2.1 pc = .ok (.lshl, 1)) (hn : 0 ≤ n ∧ n < 64) (k : Ev d M (pc + 1) L (vl (x * 2 ^ n.toNat) :: st) σ m r σ' m') : Ev d M pc L (vi n :: vl x :: st) σ m r σ' m' :=
  Ev.lift (fun hX hb _ k => lv_lshl hX hb hd (by
      have h := q_s63 n.toNat (by omega)
      rw [show ((n.toNat : Nat) : Int) = n by omega] at h
      apply Int64.toBitVec_inj.mp
      show (Int64.ofInt x).toBitVec <<< (((Int32.ofInt n).toInt64 &&& 63).toBitVec.smod 64).toNat = _
      rw [h]
      exact q_bshl 64 n.toNat x) k) k
theorem Ev.lshr {x n : Int} (hd : decode M.2.1 pc = .ok (.lshr, 1)) (hn : 0 ≤ n ∧ n < 64) (hx : -9223372036854775808 ≤ x ∧ x ≤ 9223372036854775807) (k : Ev d M (pc + 1) L (vl (x / 2 ^ n.toNat) :: st) σ m r σ' m') : Ev d M pc L (vi n :: vl x :: st) σ m r σ' m' :=
  Ev.lift (fun hX hb _ k => lv_lshr hX hb hd (by
      have h := q_s63 n.toNat (by omega)
      rw [show ((n.toNat : Nat) : Int) = n by omega] at h
      have e : (Int64.ofInt x >>> ((Int32.ofInt n).toInt64 &&& 63)).toInt = (Int64.ofInt x).toInt >>> n.toNat := by
        show ((Int64.ofInt x).toBitVec.sshiftRight (((Int32.ofInt n).toInt64 &&& 63).toBitVec.smod 64).toNat).toInt = _
        rw [h, BitVec.toInt_sshiftRight]
        rfl
      rw [← Int64.ofInt_toInt (Int64.ofInt x >>> ((Int32.ofInt n).toInt64 &&& 63)), e, q_i64 hx, Int.shiftRight_eq_div_pow, q_pow]) k) k
theorem Ev.iandm {x y : Int} (j : Nat) (hd : decode M.2.1 pc = .ok (.iand, 1)) (hj : j < 32) (hy : y = 2 ^ j - 1) (k : Ev d M (pc + 1) L (vi (x % 2 ^ j) :: st) σ m r σ' m') : Ev d M pc L (vi y :: vi x :: st) σ m r σ' m' :=
  Ev.lift (fun hX hb _ k => lv_iand hX hb hd (by
    have e : Int32.ofInt x &&& Int32.ofInt y = Int32.ofInt (x % 2 ^ j) := Int32.toBitVec_inj.mp (by rw [hy]; exact q_bmask 32 j hj x)
    rw [e]; exact k)) k
theorem Ev.landm {x y : Int} (j : Nat) (hd : decode M.2.1 pc = .ok (.land, 1)) (hj : j < 64) (hy : y = 2 ^ j - 1) (k : Ev d M (pc + 1) L (vl (x % 2 ^ j) :: st) σ m r σ' m') : Ev d M pc L (vl y :: vl x :: st) σ m r σ' m' :=
  Ev.lift (fun hX hb _ k => lv_land hX hb hd (by
    have e : Int64.ofInt x &&& Int64.ofInt y = Int64.ofInt (x % 2 ^ j) := Int64.toBitVec_inj.mp (by rw [hy]; exact q_bmask 64 j hj x)
    rw [e]; exact k)) k
theorem Ev.iand {x y : Int} (hd : decode M.2.1 pc = .ok (.iand, 1)) (hx : 0 ≤ x) (hy : 0 ≤ y) (k : Ev d M (pc + 1) L (vi ((x.toNat &&& y.toNat : Nat) : Int) :: st) σ m r σ' m') : Ev d M pc L (vi y :: vi x :: st) σ m r σ' m' :=
  Ev.lift (fun hX hb _ k => lv_iand hX hb hd (by
    have e : Int32.ofInt x &&& Int32.ofInt y = Int32.ofInt ((x.toNat &&& y.toNat : Nat) : Int) := Int32.toBitVec_inj.mp (q_band 32 x y hx hy)
    rw [e]; exact k)) k
theorem Ev.ior {x y : Int} (hd : decode M.2.1 pc = .ok (.ior, 1)) (hx : 0 ≤ x) (hy : 0 ≤ y) (k : Ev d M (pc + 1) L (vi ((x.toNat ||| y.toNat : Nat) : Int) :: st) σ m r σ' m') : Ev d M pc L (vi y :: vi x :: st) σ m r σ' m' :=
  Ev.lift (fun hX hb _ k => lv_ior hX hb hd (by
    have e : Int32.ofInt x ||| Int32.ofInt y = Int32.ofInt ((x.toNat ||| y.toNat : Nat) : Int) := Int32.toBitVec_inj.mp (q_bor2 32 x y hx hy)
    rw [e]; exact k)) k
theorem Ev.lors {u y : Int} (j : Nat) (hd : decode M.2.1 pc = .ok (.lor, 1)) (hj : j < 64) (hy : 0 ≤ y ∧ y < 2 ^ j) (k : Ev d M (pc + 1) L (vl (u * 2 ^ j + y) :: st) σ m r σ' m') : Ev d M pc L (vl y :: vl (u * 2 ^ j) :: st) σ m r σ' m' :=
  Ev.lift (fun hX hb _ k => lv_lor hX hb hd (by
    have e : Int64.ofInt (u * 2 ^ j) ||| Int64.ofInt y = Int64.ofInt (u * 2 ^ j + y) := Int64.toBitVec_inj.mp (q_bor 64 j hj u y hy)
    rw [e]; exact k)) k
def lcm (x y : Int) : Int := if y < x then 1 else if x = y then 0 else -1
theorem Ev.lcmp {x y : Int} (hd : decode M.2.1 pc = .ok (.lcmp, 1)) (hx : -9223372036854775808 ≤ x ∧ x ≤ 9223372036854775807) (hy : -9223372036854775808 ≤ y ∧ y ≤ 9223372036854775807) (k : Ev d M (pc + 1) L (vi (lcm x y) :: st) σ m r σ' m') : Ev d M pc L (vl y :: vl x :: st) σ m r σ' m' :=
  Ev.lift (fun hX hb _ k => W.lcmp hX hb hd (by
    have e : lg_cmp (Int64.ofInt x) (Int64.ofInt y) = Int32.ofInt (lcm x y) := by
      unfold lg_cmp lcm
      simp only [gt_iff_lt, Int64.lt_iff_toInt_lt, ← Int64.toInt_inj, q_i64 hx, q_i64 hy]
      split
      · rfl
      split
      · rfl
      · rfl
    rw [e]; exact k)) k
end
end
section
/-! THE CLAIM OUT OF ONE RUN OF THE LAW -/
def R_law : String := "FloorCurvesLaw"
def lw_P (b : Addr) (xs : List Int32) (args : Array Value) (s : State) : Prop := args = #[.ref b] ∧ s.IntsAt b xs ∧ xs.length ≤ 3072 ∧ (Jvm.Cond.and given_1 narrow_1).before args s = true
def lw_Q (_ : Array Value) (s : State) (o : Outcome) (t : State) : Prop := o = .returned (some (.int 1)) ∧ Framed s o t [] 600000 7302250
def lw_Z (below : List Frame) (a : Array Value) (s : State) : State → Prop := fun t => ∃ o, t.status = .running ∧ Ended t below o ∧ lw_Q a s o t
/-- the law's own end, with 1 on the stack, nothing written that was there before, its room as the claim has it -/
theorem lw_ret {p : Program} {l : Launch} {e : Env} {s : State} {m : MethodId} {below : List Frame} {meth : Method} {c : Code} {b : Nat} (hx : p.tables.exec = Jvm.exec) (hb : c.code = code) (hr : meth.sig.returnType = ret) (hlocks : meth.locks = false) {pc : Nat} {H : Heap} {ls : Array Slot} (hdg : decode code pc = .ok (.ireturn, 1)) : W p l e room_1 s m #[Value.ref b] below meth c H [] 600000 7302250 (lw_Z below #[Value.ref b] s) (F0 m pc ls [.int 1]) := by
  intro T hT X
  obtain ⟨fs, hret, hrun, hended, hW, hframe⟩ := X.leave (v := some (.int 1)) (hlocks := hlocks) (fun h => by rw [hr] at h; cases h)
  have hmeth' : T.vm.method? m = some meth := X.method'
  refine ⟨T.setFrames fs, ?_, .returned (some (.int 1)), hrun, hended, rfl, ⟨_, rfl⟩, hW, hframe⟩
  jvm_step X.here [X.here.top, hx, hb, hdg, hmeth', hr, ret, narrow_b1]
  (try refine ⟨rfl, ?_⟩); (try refine ⟨rfl, ?_⟩)
  first | (intro acts; rw [hret _ acts rfl rfl rfl]) | rw [hret _ _ rfl rfl rfl]
  exact Steps.refl _
/-- what holds at the law's entry: the machine, the code, the tables' words (any of lw_tbl by 'hts w (by decide +kernel)'), the script of L ints xs at the cell b, what the Statement gives of the start (any of its parts by flat_of_before) -/
def lw_At (p : Program) (s : State) (m : MethodId) (meth : Method) (c : Code) (b L : Nat) (xs : Nat → Int32) : Prop :=
  p.tables.exec = Jvm.exec ∧ c.code = code ∧ meth.sig.returnType = ret ∧ c.maxLocals = 4 ∧ s.vm.findClass R_law = some m.cls ∧ (∀ w ∈ lw_tbl, w.before #[Value.ref b] s = true) ∧ va_X b L xs s s.heap ∧ b < s.heap.size ∧ meth.locks = false ∧ (Jvm.Cond.and given_1 narrow_1).before #[Value.ref b] s = true

abbrev m_law : Md := (⟨"FloorCurvesLaw", "law", "([I)Z"⟩, code, 4, some .boolean)
def q_pF (j : Int) : Int := if j < 3 then 0 else if j < 5 then 1 else 2
def q_pT (j : Int) : Int := if j = 0 then 1 else if j = 1 then 2 else if j = 2 then 3 else if j = 3 then 2 else 3
def q_s0 (L : Int) : Sg := (3, 0, fun _ => 100, fun a => if a = 0 then L else 6, fun _ _ => -1)
def q_m0 (xs : Int → Int) : Mm := fun a j => if a = 0 then xs j else if a = 1 then q_pF j else q_pT j
/-- what the law's run must give -/
def q_law (L : Nat) (xs : Nat → Int32) : Prop := ∃ (σ' : Sg) (m' : Mm), Ev 2048 m_law 0 [some (vr 0), none, none, none] [] (q_s0 L) (q_m0 (fun j => (xs j.toNat).toInt)) (some (vi 1)) σ' m' ∧ σ'.1 ≤ 600000 ∧ σ'.2.1 ≤ 7302250
theorem whole_start0 {p : Program} {e : Env} {s : State} {m : MethodId} {below : List Frame} {meth : Method} {c : Code} (l : Launch) {b L : Nat} {xs : Nat → Int32} (hL : L ≤ 3072) (hlaw : q_law L xs) (C0 : lw_At p s m meth c b L xs) : W p l e room_1 s m #[Value.ref b] below meth c s.heap [] 0 0 (lw_Z below #[Value.ref b] s) (entryFrame m ([Value.ref b] : List Value).toArray 4) := by
  obtain ⟨hx, hb, hr, hml, hown, hts, hX, hbl, hlocks, hgv⟩ := id C0
  obtain ⟨σ', m', ⟨hle, hE⟩, hc1, hc2⟩ := hlaw
  have hs := flat_of_before _ hgv
  have hA : ∀ a : Nat, a < s.heap.size → ¬ (s.heap.size ≤ a) := fun a h => Nat.not_le.mpr h
  obtain ⟨pf, hpf, hTF⟩ := va_Tof (tm := .static "FloorCurves" "PAIR_FROM" "[I") (ty := .int) (N := 6) (f := fun j => .int (Int32.ofInt (q_pF j))) (A := fun a => s.heap.size ≤ a) (by decide) (hs _ (by decide +kernel)) (va_eqt (hs (.eq (.length (.static "FloorCurves" "PAIR_FROM" "[I")) (.int 6)) (by decide +kernel)))
    (fun j hj => by
      rcases (show j = 0 ∨ j = 1 ∨ j = 2 ∨ j = 3 ∨ j = 4 ∨ j = 5 by omega) with rfl | rfl | rfl | rfl | rfl | rfl
      · exact va_eqt (hs (.eq (.elem (.static "FloorCurves" "PAIR_FROM" "[I") (.int 0)) (.int 0)) (by decide +kernel))
      · exact va_eqt (hs (.eq (.elem (.static "FloorCurves" "PAIR_FROM" "[I") (.int 1)) (.int 0)) (by decide +kernel))
      · exact va_eqt (hs (.eq (.elem (.static "FloorCurves" "PAIR_FROM" "[I") (.int 2)) (.int 0)) (by decide +kernel))
      · exact va_eqt (hs (.eq (.elem (.static "FloorCurves" "PAIR_FROM" "[I") (.int 3)) (.int 1)) (by decide +kernel))
      · exact va_eqt (hs (.eq (.elem (.static "FloorCurves" "PAIR_FROM" "[I") (.int 4)) (.int 1)) (by decide +kernel))
      · exact va_eqt (hs (.eq (.elem (.static "FloorCurves" "PAIR_FROM" "[I") (.int 5)) (.int 2)) (by decide +kernel))) hA
  obtain ⟨pt, hpt, hTT⟩ := va_Tof (tm := .static "FloorCurves" "PAIR_TO" "[I") (ty := .int) (N := 6) (f := fun j => .int (Int32.ofInt (q_pT j))) (A := fun a => s.heap.size ≤ a) (by decide) (hs _ (by decide +kernel)) (va_eqt (hs (.eq (.length (.static "FloorCurves" "PAIR_TO" "[I")) (.int 6)) (by decide +kernel)))
    (fun j hj => by
      rcases (show j = 0 ∨ j = 1 ∨ j = 2 ∨ j = 3 ∨ j = 4 ∨ j = 5 by omega) with rfl | rfl | rfl | rfl | rfl | rfl
      · exact va_eqt (hs (.eq (.elem (.static "FloorCurves" "PAIR_TO" "[I") (.int 0)) (.int 1)) (by decide +kernel))
      · exact va_eqt (hs (.eq (.elem (.static "FloorCurves" "PAIR_TO" "[I") (.int 1)) (.int 2)) (by decide +kernel))
      · exact va_eqt (hs (.eq (.elem (.static "FloorCurves" "PAIR_TO" "[I") (.int 2)) (.int 3)) (by decide +kernel))
      · exact va_eqt (hs (.eq (.elem (.static "FloorCurves" "PAIR_TO" "[I") (.int 3)) (.int 2)) (by decide +kernel))
      · exact va_eqt (hs (.eq (.elem (.static "FloorCurves" "PAIR_TO" "[I") (.int 4)) (.int 3)) (by decide +kernel))
      · exact va_eqt (hs (.eq (.elem (.static "FloorCurves" "PAIR_TO" "[I") (.int 5)) (.int 3)) (by decide +kernel))) hA
  have hZF : va_Z "FloorCurves" "PAIR_FROM" "[I" (.ref pf) (fun q => s.heap.size ≤ q) s s.heap := va_Zof (hts (.laysStatic "FloorCurves" "PAIR_FROM" "[I") (by decide +kernel)) (hts (.initialized "FloorCurves") (by decide +kernel)) hpf hA
  have hZT : va_Z "FloorCurves" "PAIR_TO" "[I" (.ref pt) (fun q => s.heap.size ≤ q) s s.heap := va_Zof (hts (.laysStatic "FloorCurves" "PAIR_TO" "[I") (by decide +kernel)) (hts (.initialized "FloorCurves") (by decide +kernel)) hpt hA
  have hKn : ∀ t : Nat, ∃ (cC : ClassId) (iS : Nat → Nat), ∀ q, q_cls[t]? = some q → u_Kn s q.1 q.2.1 q.2.2 cC iS := by
    intro t
    cases hq : q_cls[t]? with
    | none => exact ⟨0, fun k => k, fun q h => by cases h⟩
    | some q =>
      have hin : ∀ t, t < 9 → ((q_cls[t]?.map (fun q => decide (Cond.instantiable q.1 q.2.2 ∈ lw_tbl))).getD false) = true := by decide +kernel
      have h1 := hin t (List.getElem?_eq_some_iff.mp hq).1
      rw [hq] at h1
      have h1 : Cond.instantiable q.1 q.2.2 ∈ lw_tbl := by simpa using h1
      have hall := (q_clsOk t q hq).2.2
      obtain ⟨cC, iS, h⟩ := u_known (C := q.1) (T := q.2.1) (N := q.2.2) (n := q.2.2) hts (fun w hw => by
        have := List.all_eq_true.mp hall w hw
        simp only [Bool.and_eq_true, decide_eq_true_eq] at this
        exact this.1) (hts _ h1)
      exact ⟨cC, iS, fun q' e => by cases e; exact h⟩
  have hG : q_G s b pf pt (fun t => (hKn t).choose, fun t => (hKn t).choose_spec.choose) := by
    refine ⟨⟨_, hts⟩, fun t q hq => (hKn t).choose_spec.choose_spec q hq, hZF, hZT, hbl, ?_, ?_⟩
    · obtain ⟨cell, h1, -⟩ := hTF
      exact (Array.getElem?_eq_some_iff.mp h1).1
    · obtain ⟨cell, h1, -⟩ := hTT
      exact (Array.getElem?_eq_some_iff.mp h1).1
  have hH : q_HR s (fun t => (hKn t).choose, fun t => (hKn t).choose_spec.choose) (q_ad s.heap.size b pf pt) (q_s0 L) (q_m0 (fun j => (xs j.toNat).toInt)) s.heap := by
    refine ⟨Int.le_refl 3, rfl, fun _ _ => rfl, fun k h1 h2 => ?_, fun k h1 h2 => ?_⟩
    · have : k < 3 := h2
      omega
    · rcases (show k = 0 ∨ k = 1 ∨ k = 2 by omega) with rfl | rfl | rfl
      · obtain ⟨scr, x1, x2, x3, x4, x5⟩ := hX
        refine ⟨rfl, scr, x1, x2, x3, ?_, ?_, ?_, fun j hj => ?_⟩
        · show (L : Int) ≤ _; omega
        · show (L : Int) ≤ _; omega
        · show _ = Int32.ofInt (L : Int); rw [x4, Int32.ofInt_eq_ofNat]
        · have hj' : (j : Int) < (L : Int) := hj
          rw [x5 j (by omega)]
          show _ = some (Value.int (Int32.ofInt ((xs (j : Int).toNat).toInt)))
          rw [Int32.ofInt_toInt, Int.toNat_natCast]
      · obtain ⟨cell, h1, h2, h3, h4, h5, h6, -⟩ := hTF
        refine ⟨rfl, cell, h1, h2, h3, ?_, ?_, h5, fun j hj => ?_⟩
        · show (6 : Int) ≤ _; omega
        · show (6 : Int) ≤ _; omega
        · have hj' : (j : Int) < 6 := hj
          exact h6 j (by omega)
      · obtain ⟨cell, h1, h2, h3, h4, h5, h6, -⟩ := hTT
        refine ⟨rfl, cell, h1, h2, h3, ?_, ?_, h5, fun j hj => ?_⟩
        · show (6 : Int) ≤ _; omega
        · show (6 : Int) ≤ _; omega
        · have hj' : (j : Int) < 6 := hj
          exact h6 j (by omega)
  have hle1 : (3 : Int) ≤ σ'.1 := hle.1
  have hle2 : (0 : Int) ≤ σ'.2.1 := hle.2
  have K := hE l s b pf pt _ hG p e room_1 s m #[Value.ref b] below meth c 3 0 ⟨hx, hb, hr, hml, hown, hlocks, (fun h => absurd h (by decide)), State.WarmedH.refl s, Nat.le_refl 2048, by decide⟩ (Int.le_refl 3) (Int.le_refl 0) (by show (σ'.1 - 3).toNat ≤ 600000; omega) (by show (σ'.2.1 - 0).toNat ≤ 7302250; omega) s.heap [] ((lg_sl [Value.ref b] ++ List.replicate (4 - (lg_sl [Value.ref b]).length) Slot.unset).toArray) hH (fun q hq => by cases hq) (q_enLR (N := m_law) (av := [vr 0]) (by decide))
  rw [lg_entry_eq]
  intro T hT X
  obtain ⟨t, a1, o, b1, b2, ⟨ho, -⟩, Lx, ⟨f1, f2, f3⟩, hfree⟩ := K T hT X
  refine ⟨t, a1, o, b1, b2, ho, f1, f2, ?_⟩
  exact f3.weaken (fun y hy hlt => absurd hlt (Nat.not_lt.mpr (hfree y hy))) (by omega) (by omega)
theorem law_runs (L : Nat) (hL : L ≤ 3072) (xs : Nat → Int32) : q_law L xs := sorry
theorem whole_start {p : Program} {e : Env} {s : State} {m : MethodId} {below : List Frame} {meth : Method} {c : Code} (l : Launch) {b L : Nat} {xs : Nat → Int32} (hL : L ≤ 3072) (C0 : lw_At p s m meth c b L xs) : W p l e room_1 s m #[Value.ref b] below meth c s.heap [] 0 0 (lw_Z below #[Value.ref b] s) (entryFrame m ([Value.ref b] : List Value).toArray 4) := whole_start0 l hL (law_runs L hL xs) C0
set_option maxHeartbeats 4000000 in
theorem lw_walk (l : Launch) (b : Addr) (xs : List Int32) : MetFree l x (headSpec (Jvm.Cond.code x code maxLocals ret :: tables_1) room_1) (lw_P b xs) (fun _ _ _ _ _ => True) lw_Q := by
  refine MetFree.of_bodyS (code := code) (maxLocals := maxLocals) (ret := ret) (by decide) ?_ ?_
  · intro args s m h hn
    obtain ⟨meth, c, h1, h2, h3, h4, h5, h6, -, -⟩ := Cond.code_spec hn (atoms_spec (ws := Jvm.Cond.code x code maxLocals ret :: tables_1) h _ List.mem_cons_self)
    exact ⟨meth, c, h1, h2, h3, h4, h5, h6⟩
  · intro p e s m args below meth c s₁ B hml0 hP _
    obtain ⟨rfl, hx, hbd, hgv⟩ := hP
    obtain ⟨scr, harrAt, hlist, hof, hsmall⟩ := hx
    obtain ⟨hcb, hkn, -, -⟩ := State.arrayAt?_spec harrAt
    have hown : s.vm.findClass R_law = some m.cls := findClass_of_methodNamed B.named
    have hts0 : ∀ c ∈ (Jvm.Cond.code x code maxLocals ret :: tables_1), c.before #[Value.ref b] s = true := atoms_spec (ws := Jvm.Cond.code x code maxLocals ret :: tables_1) B.pre
    have hts : ∀ w ∈ lw_tbl, w.before #[Value.ref b] s = true := k2_hts_sels lw_privs (fun w hw => hts0 w (List.mem_cons_of_mem _ hw)) lw_privs_ok
    have hml : c.maxLocals = 4 := B.maxLocals_eq (hts0 _ List.mem_cons_self)
    have X₀ : Stand p l e room_1 s m #[Value.ref b] below meth c s₁ [] 0 0 := Stand.of_body B
    have hh0 : s₁.heap = s.heap := by rw [B.state]; rfl
    have hsz : scr.slots.size = xs.length := by rw [← Array.length_toList, hlist, List.length_map]
    have hval : ∀ j : Nat, j < xs.length → scr.slots[j]? = some (.int (xs.getD j 0)) := fun j hj => by
      rw [← Array.getElem?_toList, hlist]
      simp [hj]
    have hbl : b < s.heap.size := (Array.getElem?_eq_some_iff.mp hcb).1
    have hX : va_X b xs.length (fun j => xs.getD j 0) s s.heap := ⟨scr, hcb, hof, hkn, hsz, hval⟩
    have K : W p l e room_1 s m #[Value.ref b] below meth c s₁.heap [] 0 0 (lw_Z below #[Value.ref b] s) (entryFrame m ([Value.ref b] : List Value).toArray 4) := by
      rw [hh0]
      exact whole_start l hbd ⟨B.exec, B.bytes, B.returns, hml, hown, hts, hX, hbl, B.notSynchronized, hgv⟩
    obtain ⟨t, a1, o, b1, b2, b3⟩ := K s₁ rfl X₀
    exact ⟨t, o, a1, b1, b2, b3⟩
theorem lw_pre_spec {args : Array Value} {s : State} (h : (Jvm.Cond.and given_1 narrow_1).before args s = true) (hr : rest_1_c.before args s = true) : ∃ (b : Addr) (xs : List Int32), lw_P b xs args s := by
  have hs := flat_of_before _ h
  have hq := flat_of_before _ hr
  have hc : (Cond.count 1).before args s = true := hs _ (by decide +kernel)
  have harr : (Cond.arrayOf (.arg 0) .int).before args s = true := hs _ (by decide +kernel)
  have hle : (Cond.le (.length (.arg 0)) (.int 3072)).before args s = true := hs _ (by decide +kernel)
  have hlen : (Cond.isInt (.length (.arg 0))).before args s = true := hq _ (by decide +kernel)
  have hall : (Cond.all (.arg 0) (.isInt (.elem (.arg 0) (.index 0)))).before args s = true := hq _ (by decide +kernel)
  obtain ⟨b, xs, hb, hx⟩ := State.ints_of_pre rfl harr hlen hall
  have hsm : xs.length < 2 ^ 31 := hx.choose_spec.2.2.2
  have hev : (Term.length (.arg 0)).eval args s none [] s = some (.int xs.length.toInt32) := hx.length_eval hb
  have hv := Cond.le_ints hev (show (Term.int 3072).eval args s none [] s = some (.int 3072) from rfl)
  have hd : xs.length.toInt32 ≤ 3072 := by
    simpa [Cond.before, Cond.holds, hv] using hle
  have hN : xs.length ≤ 3072 := (Int32.ofNat_le_ofNat hsm (by decide)).mp (show Int32.ofNat xs.length ≤ Int32.ofNat 3072 from hd)
  exact ⟨b, xs, Cond.one_arg hc (show args[0]? = some (.ref b) from hb), hx, hN, h⟩
theorem lw_comes (l : Launch) : Comes l x (Jvm.Cond.code x code maxLocals ret :: tables_1) room_1 (fun tb e args s => Calls_1 tb e args s ∧ rest_1 tb e args s ∧ Pre_1 tb e args s)
    (fun _ _ args s o t => lw_Q args s o t) := by
  intro p e ha hc hk s m args below hf hfit hheap happ hpre
  obtain ⟨b, xs, hP⟩ := lw_pre_spec hpre.2.2 hpre.2.1
  obtain ⟨k, o, h1, h2, h3, hQ⟩ := lw_walk l b xs p e ha hc hk s m args below hf ((Spec.applies_iff_loose hf).mp happ).1 hP trivial
  exact ⟨k, o, h1, h2, h3, hQ⟩
theorem lw_frame {s t : State} {o : Outcome} {args : Array Value} (h : Framed s o t [] 600000 7302250) :
    Framed s o t (fieldLocs frame_1_writes args s ++ arrayLocs frame_1_arrays args s ++ staticLocs frame_1_statics s) 600000 7302250 := h
theorem lw_limb (L : Cond) (hL : ∀ (args : Array Value) (s t : State), L.after args s (.returned (some (.int 1))) t = true) :
    ArmFor flags0 classFile x code maxLocals ret World_1 tables_1 room_1 Calls_1 rest_1 Pre_1
      (fun tb e a s o t => postC L tb e a s o t ∧ Framed s o t (fieldLocs frame_1_writes a s ++ arrayLocs frame_1_arrays a s ++ staticLocs frame_1_statics s) 600000 7302250) := by
  intro l _ _ _ p e ha hc hk s m args below hf hfit hheap happ hpre
  obtain ⟨k, o, h1, h2, h3, rfl, hF⟩ := lw_comes l p e ha hc hk s m args below hf hfit hheap happ hpre
  exact ⟨k, _, h1, h2, h3, hL args s _, lw_frame hF⟩
theorem i_vc : Claimed_1_1 ∧ Claimed_1_2 := ⟨lw_limb limb_1_1 (fun args s t => by simp [limb_1_1, Cond.after, Cond.holds, Cond.value]), lw_limb limb_1_2 (fun args s t => Cond.after_iff.mpr (by
  first | (rw [show limb_1_2 = Cond.eq .result (.int 1) from rfl, Cond.eq_ints (x := 1) (y := 1) rfl rfl]; simp; done) | (simp [limb_1_2, Cond.value, Term.eval]; done)))⟩
end
