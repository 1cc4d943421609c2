abbrev m_Cat_init : Md := (⟨"FloorCurves$Catalogue", "<init>", "(I)V"⟩, prog_2_method_1_code, 2, none)
abbrev m_Cat_fillFrom : Md := (⟨"FloorCurves$Catalogue", "fillFrom", "(I)V"⟩, prog_2_method_2_code, 4, none)
abbrev m_Cat_enter : Md := (⟨"FloorCurves$Catalogue", "enter", "()V"⟩, prog_2_method_3_code, 5, none)
abbrev m_Cat_isKnots : Md := (⟨"FloorCurves$Catalogue", "isKnots", "(I)Z"⟩, prog_2_method_4_code, 1, some .boolean)
abbrev m_Cat_howMany : Md := (⟨"FloorCurves$Catalogue", "howMany", "(I)I"⟩, prog_2_method_5_code, 2, some .int)
abbrev m_Cat_counted : Md := (⟨"FloorCurves$Catalogue", "counted", "(I)J"⟩, prog_2_method_6_code, 2, some .long)
abbrev m_Cat_countedBySign : Md := (⟨"FloorCurves$Catalogue", "countedBySign", "(I)J"⟩, prog_2_method_7_code, 2, some .long)
abbrev m_Cat_countedByPower : Md := (⟨"FloorCurves$Catalogue", "countedByPower", "(II)J"⟩, prog_2_method_8_code, 3, some .long)
abbrev m_Cat_rowAt : Md := (⟨"FloorCurves$Catalogue", "rowAt", "(II)J"⟩, prog_2_method_9_code, 5, some .long)
abbrev m_Cat_howManyBefore : Md := (⟨"FloorCurves$Catalogue", "howManyBefore", "(IJ)I"⟩, prog_2_method_10_code, 6, some .int)
abbrev m_Mk_init : Md := (⟨"FloorCurves$Marker", "<init>", "()V"⟩, prog_3_method_1_code, 1, none)
abbrev m_Mk_ways : Md := (⟨"FloorCurves$Marker", "ways", "(LFloorCurves$Picture;II)J"⟩, prog_3_method_2_code, 5, some .long)
abbrev m_Mk_addKind : Md := (⟨"FloorCurves$Marker", "addKind", "(III)V"⟩, prog_3_method_3_code, 4, none)
abbrev m_Mk_deal : Md := (⟨"FloorCurves$Marker", "deal", "(III)J"⟩, prog_3_method_4_code, 10, some .long)
abbrev m_Mk_dealNext : Md := (⟨"FloorCurves$Marker", "dealNext", "(I)J"⟩, prog_3_method_5_code, 2, some .long)
abbrev m_Pic_init : Md := (⟨"FloorCurves$Picture", "<init>", "()V"⟩, prog_4_method_1_code, 1, none)
abbrev m_Pic_clear : Md := (⟨"FloorCurves$Picture", "clear", "(I)V"⟩, prog_4_method_2_code, 2, none)
abbrev m_Pic_copyOf : Md := (⟨"FloorCurves$Picture", "copyOf", "(LFloorCurves$Picture;)V"⟩, prog_4_method_3_code, 2, none)
abbrev m_Pic_degree : Md := (⟨"FloorCurves$Picture", "degree", "()I"⟩, prog_4_method_4_code, 1, some .int)
abbrev m_Pic_stairCount : Md := (⟨"FloorCurves$Picture", "stairCount", "()I"⟩, prog_4_method_5_code, 1, some .int)
abbrev m_Pic_hasFloor : Md := (⟨"FloorCurves$Picture", "hasFloor", "(I)Z"⟩, prog_4_method_6_code, 2, some .boolean)
abbrev m_Pic_spotOf : Md := (⟨"FloorCurves$Picture", "spotOf", "(III)I"⟩, prog_4_method_7_code, 5, some .int)
abbrev m_Pic_spotOfStair : Md := (⟨"FloorCurves$Picture", "spotOfStair", "(I)I"⟩, prog_4_method_8_code, 4, some .int)
abbrev m_Pic_amountAt : Md := (⟨"FloorCurves$Picture", "amountAt", "(I)I"⟩, prog_4_method_9_code, 2, some .int)
abbrev m_Pic_add : Md := (⟨"FloorCurves$Picture", "add", "(I)V"⟩, prog_4_method_10_code, 2, none)
abbrev m_Pic_remove : Md := (⟨"FloorCurves$Picture", "remove", "(I)V"⟩, prog_4_method_11_code, 2, none)
abbrev m_Pic_change : Md := (⟨"FloorCurves$Picture", "change", "(II)V"⟩, prog_4_method_12_code, 3, none)
abbrev m_Pic_outOf : Md := (⟨"FloorCurves$Picture", "outOf", "(I)I"⟩, prog_4_method_13_code, 2, some .int)
abbrev m_Pic_isRight : Md := (⟨"FloorCurves$Picture", "isRight", "()Z"⟩, prog_4_method_14_code, 2, some .boolean)
abbrev m_Pic_isRightTurned : Md := (⟨"FloorCurves$Picture", "isRightTurned", "()Z"⟩, prog_4_method_15_code, 2, some .boolean)
abbrev m_Pic_knots : Md := (⟨"FloorCurves$Picture", "knots", "()I"⟩, prog_4_method_16_code, 1, some .int)
abbrev m_Pic_parts : Md := (⟨"FloorCurves$Picture", "parts", "()I"⟩, prog_4_method_17_code, 4, some .int)
abbrev m_Pic_hangingTogetherWith : Md := (⟨"FloorCurves$Picture", "hangingTogetherWith", "(I)I"⟩, prog_4_method_18_code, 6, some .int)
abbrev m_Pic_mult : Md := (⟨"FloorCurves$Picture", "mult", "()I"⟩, prog_4_method_19_code, 4, some .int)
abbrev m_Pic_sign : Md := (⟨"FloorCurves$Picture", "sign", "()I"⟩, prog_4_method_20_code, 2, some .int)
abbrev m_Pic_pack : Md := (⟨"FloorCurves$Picture", "pack", "()J"⟩, prog_4_method_21_code, 4, some .long)
abbrev m_Pic_unpack : Md := (⟨"FloorCurves$Picture", "unpack", "(IJ)V"⟩, prog_4_method_22_code, 7, none)
abbrev m_Pow_init : Md := (⟨"FloorCurves$Powers", "<init>", "()V"⟩, prog_5_method_1_code, 1, none)
abbrev m_Pow_expand : Md := (⟨"FloorCurves$Powers", "expand", "(LFloorCurves$Picture;)V"⟩, prog_5_method_2_code, 4, none)
abbrev m_Pow_multiply : Md := (⟨"FloorCurves$Powers", "multiply", "(I)V"⟩, prog_5_method_3_code, 5, none)
abbrev m_Pow_at : Md := (⟨"FloorCurves$Powers", "at", "(I)J"⟩, prog_5_method_4_code, 2, some .long)
abbrev m_Rows_one : Md := (⟨"FloorCurves$Rows", "one", "(II)I"⟩, prog_6_method_2_code, 2, some .int)
abbrev m_Rows_oneOfField : Md := (⟨"FloorCurves$Rows", "oneOfField", "(I)I"⟩, prog_6_method_3_code, 1, some .int)
abbrev m_Rows_figureOfField : Md := (⟨"FloorCurves$Rows", "figureOfField", "(I)I"⟩, prog_6_method_4_code, 1, some .int)
abbrev m_Rows_amount : Md := (⟨"FloorCurves$Rows", "amount", "(III)I"⟩, prog_6_method_5_code, 3, some .int)
abbrev m_Rows_degreeOf : Md := (⟨"FloorCurves$Rows", "degreeOf", "(I)I"⟩, prog_6_method_6_code, 3, some .int)
abbrev m_Rows_moreB : Md := (⟨"FloorCurves$Rows", "moreB", "(II)I"⟩, prog_6_method_7_code, 4, some .int)
abbrev m_Rows_timesOfPart : Md := (⟨"FloorCurves$Rows", "timesOfPart", "(II)J"⟩, prog_6_method_8_code, 7, some .long)
abbrev m_Sh_init : Md := (⟨"FloorCurves$Sheet", "<init>", "()V"⟩, prog_7_method_1_code, 1, none)
abbrev m_Sh_isLane : Md := (⟨"FloorCurves$Sheet", "isLane", "(I)Z"⟩, prog_7_method_2_code, 1, some .boolean)
abbrev m_Sh_renew : Md := (⟨"FloorCurves$Sheet", "renew", "(II)V"⟩, prog_7_method_3_code, 3, none)
abbrev m_Sh_isNothing : Md := (⟨"FloorCurves$Sheet", "isNothing", "()Z"⟩, prog_7_method_4_code, 1, some .boolean)
abbrev m_Sh_isOfLane : Md := (⟨"FloorCurves$Sheet", "isOfLane", "(I)Z"⟩, prog_7_method_5_code, 2, some .boolean)
abbrev m_Sh_length : Md := (⟨"FloorCurves$Sheet", "length", "()I"⟩, prog_7_method_6_code, 1, some .int)
abbrev m_Sh_hasCell : Md := (⟨"FloorCurves$Sheet", "hasCell", "(I)Z"⟩, prog_7_method_7_code, 2, some .boolean)
abbrev m_Sh_hasThreeFrom : Md := (⟨"FloorCurves$Sheet", "hasThreeFrom", "(I)Z"⟩, prog_7_method_8_code, 2, some .boolean)
abbrev m_Sh_read : Md := (⟨"FloorCurves$Sheet", "read", "(I)I"⟩, prog_7_method_9_code, 2, some .int)
abbrev m_Sh_write : Md := (⟨"FloorCurves$Sheet", "write", "(II)V"⟩, prog_7_method_10_code, 3, none)
abbrev m_Tg_init : Md := (⟨"FloorCurves$Tangents", "<init>", "()V"⟩, prog_8_method_1_code, 1, none)
abbrev m_Tg_valueOf : Md := (⟨"FloorCurves$Tangents", "valueOf", "(II)J"⟩, prog_8_method_2_code, 5, some .long)
abbrev m_Tg_learn : Md := (⟨"FloorCurves$Tangents", "learn", "(I)V"⟩, prog_8_method_3_code, 3, none)
abbrev m_Tg_enterRows : Md := (⟨"FloorCurves$Tangents", "enterRows", "(III)V"⟩, prog_8_method_4_code, 6, none)
abbrev m_Tg_indexOf : Md := (⟨"FloorCurves$Tangents", "indexOf", "(II)I"⟩, prog_8_method_5_code, 4, some .int)
abbrev m_Tg_addMoves : Md := (⟨"FloorCurves$Tangents", "addMoves", "(II)V"⟩, prog_8_method_6_code, 4, none)
abbrev m_Tg_addSplits : Md := (⟨"FloorCurves$Tangents", "addSplits", "(II)V"⟩, prog_8_method_7_code, 6, none)
abbrev m_Tg_addTo : Md := (⟨"FloorCurves$Tangents", "addTo", "(IIJI)V"⟩, prog_8_method_8_code, 7, none)
abbrev m_Tp_init : Md := (⟨"FloorCurves$Tape", "<init>", "()V"⟩, prog_9_method_1_code, 1, none)
abbrev m_Tp_length : Md := (⟨"FloorCurves$Tape", "length", "()I"⟩, prog_9_method_2_code, 1, some .int)
abbrev m_Tp_toldRows : Md := (⟨"FloorCurves$Tape", "toldRows", "()I"⟩, prog_9_method_3_code, 1, some .int)
abbrev m_Tp_latestFault : Md := (⟨"FloorCurves$Tape", "latestFault", "()I"⟩, prog_9_method_4_code, 1, some .int)
abbrev m_Tp_appendEight : Md := (⟨"FloorCurves$Tape", "appendEight", "(J)Z"⟩, prog_9_method_5_code, 4, some .boolean)
abbrev m_Tp_keepFirst : Md := (⟨"FloorCurves$Tape", "keepFirst", "(I)Z"⟩, prog_9_method_6_code, 2, some .boolean)
abbrev m_Tp_read : Md := (⟨"FloorCurves$Tape", "read", "()I"⟩, prog_9_method_7_code, 7, some .int)
abbrev m_Tp_failAt : Md := (⟨"FloorCurves$Tape", "failAt", "(II)I"⟩, prog_9_method_8_code, 3, some .int)
abbrev m_FC_init : Md := (⟨"FloorCurves", "<init>", "()V"⟩, prog_1_method_1_code, 2, none)
abbrev m_FC_picture : Md := (⟨"FloorCurves", "picture", "(I)I"⟩, prog_1_method_2_code, 2, some .int)
abbrev m_FC_stair : Md := (⟨"FloorCurves", "stair", "(IIII)I"⟩, prog_1_method_3_code, 7, some .int)
abbrev m_FC_cut : Md := (⟨"FloorCurves", "cut", "(IIII)I"⟩, prog_1_method_4_code, 7, some .int)
abbrev m_FC_drop : Md := (⟨"FloorCurves", "drop", "()I"⟩, prog_1_method_5_code, 1, some .int)
abbrev m_FC_about : Md := (⟨"FloorCurves", "about", "(II)I"⟩, prog_1_method_6_code, 4, some .int)
abbrev m_FC_told : Md := (⟨"FloorCurves", "told", "(III)I"⟩, prog_1_method_7_code, 6, some .int)
abbrev m_FC_out : Md := (⟨"FloorCurves", "out", "(II)I"⟩, prog_1_method_8_code, 4, some .int)
abbrev m_FC_spread : Md := (⟨"FloorCurves", "spread", "(II)J"⟩, prog_1_method_9_code, 4, some .long)
abbrev m_FC_markings : Md := (⟨"FloorCurves", "markings", "(I)J"⟩, prog_1_method_10_code, 3, some .long)
abbrev m_FC_between : Md := (⟨"FloorCurves", "between", "(III)J"⟩, prog_1_method_11_code, 5, some .long)
abbrev m_FC_unlike : Md := (⟨"FloorCurves", "unlike", "(II)I"⟩, prog_1_method_12_code, 6, some .int)
abbrev m_FC_turned : Md := (⟨"FloorCurves", "turned", "(I)I"⟩, prog_1_method_13_code, 3, some .int)
abbrev m_FC_count : Md := (⟨"FloorCurves", "count", "(II)J"⟩, prog_1_method_14_code, 4, some .long)
abbrev m_FC_signed : Md := (⟨"FloorCurves", "signed", "(II)J"⟩, prog_1_method_15_code, 4, some .long)
abbrev m_FC_spreadAll : Md := (⟨"FloorCurves", "spreadAll", "(III)J"⟩, prog_1_method_16_code, 5, some .long)
abbrev m_FC_listed : Md := (⟨"FloorCurves", "listed", "(II)I"⟩, prog_1_method_17_code, 4, some .int)
abbrev m_FC_take : Md := (⟨"FloorCurves", "take", "(III)I"⟩, prog_1_method_18_code, 5, some .int)
abbrev m_FC_place : Md := (⟨"FloorCurves", "place", "(I)I"⟩, prog_1_method_19_code, 4, some .int)
abbrev m_FC_feed : Md := (⟨"FloorCurves", "feed", "(J)I"⟩, prog_1_method_20_code, 3, some .int)
abbrev m_FC_end : Md := (⟨"FloorCurves", "end", "(I)I"⟩, prog_1_method_21_code, 3, some .int)
abbrev m_FC_text : Md := (⟨"FloorCurves", "text", "()I"⟩, prog_1_method_22_code, 2, some .int)
abbrev m_FC_fault : Md := (⟨"FloorCurves", "fault", "()I"⟩, prog_1_method_23_code, 1, some .int)
abbrev m_FC_tangent : Md := (⟨"FloorCurves", "tangent", "(I)J"⟩, prog_1_method_24_code, 2, some .long)
abbrev m_FC_has : Md := (⟨"FloorCurves", "has", "(II)I"⟩, prog_1_method_25_code, 3, some .int)
abbrev m_FC_rational : Md := (⟨"FloorCurves", "rational", "(I)J"⟩, prog_1_method_26_code, 6, some .long)
abbrev m_FC_sheet : Md := (⟨"FloorCurves", "sheet", "(III)I"⟩, prog_1_method_27_code, 5, some .int)
abbrev m_FC_lay : Md := (⟨"FloorCurves", "lay", "(III)I"⟩, prog_1_method_28_code, 5, some .int)
abbrev m_FC_draw : Md := (⟨"FloorCurves", "draw", "(IIIII)I"⟩, prog_1_method_29_code, 10, some .int)
abbrev m_FC_many : Md := (⟨"FloorCurves", "many", "(I)I"⟩, prog_1_method_30_code, 2, some .int)
abbrev m_FC_isDegree : Md := (⟨"FloorCurves", "isDegree", "(I)Z"⟩, prog_1_method_31_code, 1, some .boolean)
abbrev m_FC_pictureAt : Md := (⟨"FloorCurves", "pictureAt", "(I)LFloorCurves$Picture;"⟩, prog_1_method_32_code, 2, some (.object "FloorCurves$Picture"))
abbrev m_FC_sheetAt : Md := (⟨"FloorCurves", "sheetAt", "(I)LFloorCurves$Sheet;"⟩, prog_1_method_33_code, 2, some (.object "FloorCurves$Sheet"))
abbrev m_FC_keepDraft : Md := (⟨"FloorCurves", "keepDraft", "()I"⟩, prog_1_method_34_code, 2, some .int)
abbrev m_FC_catalogueOf : Md := (⟨"FloorCurves", "catalogueOf", "(II)LFloorCurves$Catalogue;"⟩, prog_1_method_35_code, 3, some (.object "FloorCurves$Catalogue"))
abbrev m_FC_cellsOfFirstSheet : Md := (⟨"FloorCurves", "cellsOfFirstSheet", "()I"⟩, prog_1_method_36_code, 2, some .int)
abbrev m_FC_stairsOfAll : Md := (⟨"FloorCurves", "stairsOfAll", "()I"⟩, prog_1_method_37_code, 4, some .int)
abbrev m_FC_splitsOf : Md := (⟨"FloorCurves", "splitsOf", "(II)J"⟩, prog_1_method_38_code, 5, some .long)
abbrev m_FC_choose : Md := (⟨"FloorCurves", "choose", "(II)J"⟩, prog_1_method_39_code, 5, some .long)
abbrev m_FC_fromOf : Md := (⟨"FloorCurves", "fromOf", "(I)I"⟩, prog_1_method_40_code, 1, some .int)
abbrev m_FC_toOf : Md := (⟨"FloorCurves", "toOf", "(I)I"⟩, prog_1_method_41_code, 1, some .int)
abbrev m_FC_weightOf : Md := (⟨"FloorCurves", "weightOf", "(I)I"⟩, prog_1_method_42_code, 1, some .int)
abbrev m_Mo_init : Md := (⟨"FloorCurvesModel", "<init>", "()V"⟩, prog_11_method_1_code, 1, none)
abbrev m_Mo_in : Md := (⟨"FloorCurvesModel", "in", "(JJJ)Z"⟩, prog_11_method_3_code, 6, some .boolean)
abbrev m_Mo_is : Md := (⟨"FloorCurvesModel", "is", "(I)Z"⟩, prog_11_method_4_code, 2, some .boolean)
abbrev m_Mo_picture : Md := (⟨"FloorCurvesModel", "picture", "(I)I"⟩, prog_11_method_5_code, 2, some .int)
abbrev m_Mo_isStair : Md := (⟨"FloorCurvesModel", "isStair", "(IIII)Z"⟩, prog_11_method_6_code, 4, some .boolean)
abbrev m_Mo_isAhead : Md := (⟨"FloorCurvesModel", "isAhead", "(IIII)Z"⟩, prog_11_method_7_code, 5, some .boolean)
abbrev m_Mo_put : Md := (⟨"FloorCurvesModel", "put", "(IIII)V"⟩, prog_11_method_8_code, 6, none)
abbrev m_Mo_stair : Md := (⟨"FloorCurvesModel", "stair", "(IIII)I"⟩, prog_11_method_9_code, 5, some .int)
abbrev m_Mo_cut : Md := (⟨"FloorCurvesModel", "cut", "(IIII)I"⟩, prog_11_method_10_code, 8, some .int)
abbrev m_Mo_drop : Md := (⟨"FloorCurvesModel", "drop", "()I"⟩, prog_11_method_11_code, 1, some .int)
abbrev m_Mo_outOf : Md := (⟨"FloorCurvesModel", "outOf", "(II)I"⟩, prog_11_method_12_code, 5, some .int)
abbrev m_Mo_isRight : Md := (⟨"FloorCurvesModel", "isRight", "(I)Z"⟩, prog_11_method_13_code, 4, some .boolean)
abbrev m_Mo_knots : Md := (⟨"FloorCurvesModel", "knots", "(I)I"⟩, prog_11_method_14_code, 2, some .int)
abbrev m_Mo_partsOf : Md := (⟨"FloorCurvesModel", "partsOf", "(I)I"⟩, prog_11_method_15_code, 9, some .int)
abbrev m_Mo_multOf : Md := (⟨"FloorCurvesModel", "multOf", "(I)I"⟩, prog_11_method_16_code, 4, some .int)
abbrev m_Mo_signOf : Md := (⟨"FloorCurvesModel", "signOf", "(I)I"⟩, prog_11_method_17_code, 4, some .int)
abbrev m_Mo_about : Md := (⟨"FloorCurvesModel", "about", "(II)I"⟩, prog_11_method_18_code, 3, some .int)
abbrev m_Mo_told : Md := (⟨"FloorCurvesModel", "told", "(III)I"⟩, prog_11_method_19_code, 5, some .int)
abbrev m_Mo_out : Md := (⟨"FloorCurvesModel", "out", "(II)I"⟩, prog_11_method_20_code, 3, some .int)
abbrev m_Mo_layPowers : Md := (⟨"FloorCurvesModel", "layPowers", "(I)V"⟩, prog_11_method_21_code, 8, none)
abbrev m_Mo_spread : Md := (⟨"FloorCurvesModel", "spread", "(II)J"⟩, prog_11_method_22_code, 3, some .long)
abbrev m_Mo_kind : Md := (⟨"FloorCurvesModel", "kind", "(III)V"⟩, prog_11_method_23_code, 4, none)
abbrev m_Mo_layKinds : Md := (⟨"FloorCurvesModel", "layKinds", "(I)V"⟩, prog_11_method_24_code, 5, none)
abbrev m_Mo_usedOf : Md := (⟨"FloorCurvesModel", "usedOf", "(II)I"⟩, prog_11_method_25_code, 3, some .int)
abbrev m_Mo_marked : Md := (⟨"FloorCurvesModel", "marked", "(III)J"⟩, prog_11_method_26_code, 11, some .long)
abbrev m_Mo_goOn : Md := (⟨"FloorCurvesModel", "goOn", "(IIIJIII)V"⟩, prog_11_method_27_code, 13, none)
abbrev m_Mo_markings : Md := (⟨"FloorCurvesModel", "markings", "(I)J"⟩, prog_11_method_28_code, 2, some .long)
abbrev m_Mo_between : Md := (⟨"FloorCurvesModel", "between", "(III)J"⟩, prog_11_method_29_code, 4, some .long)
abbrev m_Mo_unlikeAt : Md := (⟨"FloorCurvesModel", "unlikeAt", "(III)I"⟩, prog_11_method_30_code, 9, some .int)
abbrev m_Mo_unlike : Md := (⟨"FloorCurvesModel", "unlike", "(II)I"⟩, prog_11_method_31_code, 4, some .int)
abbrev m_Mo_turned : Md := (⟨"FloorCurvesModel", "turned", "(I)I"⟩, prog_11_method_32_code, 4, some .int)
abbrev m_Mo_pairOf : Md := (⟨"FloorCurvesModel", "pairOf", "(II)I"⟩, prog_11_method_33_code, 2, some .int)
abbrev m_Mo_weighedFrom : Md := (⟨"FloorCurvesModel", "weighedFrom", "(I)I"⟩, prog_11_method_34_code, 5, some .int)
abbrev m_Mo_weighedTo : Md := (⟨"FloorCurvesModel", "weighedTo", "(I)I"⟩, prog_11_method_35_code, 5, some .int)
abbrev m_Mo_fromOf : Md := (⟨"FloorCurvesModel", "fromOf", "(I)I"⟩, prog_11_method_36_code, 1, some .int)
abbrev m_Mo_toOf : Md := (⟨"FloorCurvesModel", "toOf", "(I)I"⟩, prog_11_method_37_code, 2, some .int)
abbrev m_Mo_nextRow : Md := (⟨"FloorCurvesModel", "nextRow", "(I)Z"⟩, prog_11_method_38_code, 4, some .boolean)
abbrev m_Mo_rowMany : Md := (⟨"FloorCurvesModel", "rowMany", "()I"⟩, prog_11_method_39_code, 3, some .int)
abbrev m_Mo_clearRow : Md := (⟨"FloorCurvesModel", "clearRow", "()V"⟩, prog_11_method_40_code, 2, none)
abbrev m_Mo_layRow : Md := (⟨"FloorCurvesModel", "layRow", "(II)V"⟩, prog_11_method_41_code, 5, none)
abbrev m_Mo_areKnots : Md := (⟨"FloorCurvesModel", "areKnots", "(II)Z"⟩, prog_11_method_42_code, 2, some .boolean)
abbrev m_Mo_find : Md := (⟨"FloorCurvesModel", "find", "(II)V"⟩, prog_11_method_43_code, 8, none)
abbrev m_Mo_count : Md := (⟨"FloorCurvesModel", "count", "(II)J"⟩, prog_11_method_44_code, 3, some .long)
abbrev m_Mo_signed : Md := (⟨"FloorCurvesModel", "signed", "(II)J"⟩, prog_11_method_45_code, 3, some .long)
abbrev m_Mo_spreadAll : Md := (⟨"FloorCurvesModel", "spreadAll", "(III)J"⟩, prog_11_method_46_code, 4, some .long)
abbrev m_Mo_listed : Md := (⟨"FloorCurvesModel", "listed", "(II)I"⟩, prog_11_method_47_code, 3, some .int)
abbrev m_Mo_take : Md := (⟨"FloorCurvesModel", "take", "(III)I"⟩, prog_11_method_48_code, 7, some .int)
abbrev m_Mo_place : Md := (⟨"FloorCurvesModel", "place", "(I)I"⟩, prog_11_method_49_code, 6, some .int)
abbrev m_Mo_feed : Md := (⟨"FloorCurvesModel", "feed", "(J)I"⟩, prog_11_method_50_code, 4, some .int)
abbrev m_Mo_end : Md := (⟨"FloorCurvesModel", "end", "(I)I"⟩, prog_11_method_51_code, 3, some .int)
abbrev m_Mo_next : Md := (⟨"FloorCurvesModel", "next", "()I"⟩, prog_11_method_52_code, 1, some .int)
abbrev m_Mo_isLetter : Md := (⟨"FloorCurvesModel", "isLetter", "(I)Z"⟩, prog_11_method_53_code, 1, some .boolean)
abbrev m_Mo_isToken : Md := (⟨"FloorCurvesModel", "isToken", "(I)Z"⟩, prog_11_method_54_code, 1, some .boolean)
abbrev m_Mo_text : Md := (⟨"FloorCurvesModel", "text", "()I"⟩, prog_11_method_55_code, 9, some .int)
abbrev m_Mo_fault : Md := (⟨"FloorCurvesModel", "fault", "()I"⟩, prog_11_method_56_code, 1, some .int)
abbrev m_Mo_sumOf : Md := (⟨"FloorCurvesModel", "sumOf", "([II)I"⟩, prog_11_method_57_code, 4, some .int)
abbrev m_Mo_indexOf : Md := (⟨"FloorCurvesModel", "indexOf", "([II)I"⟩, prog_11_method_58_code, 6, some .int)
abbrev m_Mo_layRows : Md := (⟨"FloorCurvesModel", "layRows", "()V"⟩, prog_11_method_59_code, 5, none)
abbrev m_Mo_choose : Md := (⟨"FloorCurvesModel", "choose", "(II)J"⟩, prog_11_method_60_code, 5, some .long)
abbrev m_Mo_power : Md := (⟨"FloorCurvesModel", "power", "(II)J"⟩, prog_11_method_61_code, 5, some .long)
abbrev m_Mo_reckon : Md := (⟨"FloorCurvesModel", "reckon", "(I)V"⟩, prog_11_method_62_code, 8, none)
abbrev m_Mo_goes : Md := (⟨"FloorCurvesModel", "goes", "(IIII)J"⟩, prog_11_method_63_code, 13, some .long)
abbrev m_Mo_layWorths : Md := (⟨"FloorCurvesModel", "layWorths", "()V"⟩, prog_11_method_64_code, 4, none)
abbrev m_Mo_tangent : Md := (⟨"FloorCurvesModel", "tangent", "(I)J"⟩, prog_11_method_65_code, 2, some .long)
abbrev m_Mo_has : Md := (⟨"FloorCurvesModel", "has", "(II)I"⟩, prog_11_method_66_code, 3, some .int)
abbrev m_Mo_rational : Md := (⟨"FloorCurvesModel", "rational", "(I)J"⟩, prog_11_method_67_code, 6, some .long)
abbrev m_Mo_sheet : Md := (⟨"FloorCurvesModel", "sheet", "(III)I"⟩, prog_11_method_68_code, 5, some .int)
abbrev m_Mo_lay : Md := (⟨"FloorCurvesModel", "lay", "(III)I"⟩, prog_11_method_69_code, 4, some .int)
abbrev m_Mo_draw : Md := (⟨"FloorCurvesModel", "draw", "(IIIII)I"⟩, prog_11_method_70_code, 10, some .int)
abbrev m_Mo_many : Md := (⟨"FloorCurvesModel", "many", "(I)I"⟩, prog_11_method_71_code, 4, some .int)
abbrev m_Mth_abs : Md := (⟨"java/lang/Math", "abs", "(I)I"⟩, prog_12_method_59_code, 1, some .int)
abbrev m_Mth_min : Md := (⟨"java/lang/Math", "min", "(II)I"⟩, prog_12_method_69_code, 2, some .int)
abbrev m_Arr_fillL : Md := (⟨"java/util/Arrays", "fill", "([JJ)V"⟩, prog_14_method_101_code, 5, none)
abbrev m_Arr_fillI : Md := (⟨"java/util/Arrays", "fill", "([II)V"⟩, prog_14_method_103_code, 4, none)
theorem mt_Cat_init : q_mt m_Cat_init 1 := ⟨List.mem_of_getElem? (i := 451) (by decide +kernel), List.mem_of_getElem? (i := 62) (by decide +kernel), ⟨by decide, by decide, by decide +kernel⟩, by decide +kernel, by decide⟩
theorem in_Cat_init : Cond.instanceMethod m_Cat_init.1 ∈ lw_tbl := List.mem_of_getElem? (i := 450) (by decide +kernel)
theorem mt_Cat_fillFrom : q_mt m_Cat_fillFrom 1 := ⟨List.mem_of_getElem? (i := 463) (by decide +kernel), List.mem_of_getElem? (i := 62) (by decide +kernel), ⟨by decide, by decide, by decide +kernel⟩, by decide +kernel, by decide⟩
theorem in_Cat_fillFrom : Cond.instanceMethod m_Cat_fillFrom.1 ∈ lw_tbl := List.mem_of_getElem? (i := 462) (by decide +kernel)
theorem se_Cat_fillFrom : Cond.selects m_Cat_fillFrom.1.cls m_Cat_fillFrom.1 m_Cat_fillFrom.1 ∈ lw_tbl := List.mem_of_getElem? (i := 9) (by decide +kernel)
theorem mt_Cat_enter : q_mt m_Cat_enter 0 := ⟨List.mem_of_getElem? (i := 467) (by decide +kernel), List.mem_of_getElem? (i := 62) (by decide +kernel), ⟨by decide, by decide, by decide +kernel⟩, by decide +kernel, by decide⟩
theorem in_Cat_enter : Cond.instanceMethod m_Cat_enter.1 ∈ lw_tbl := List.mem_of_getElem? (i := 466) (by decide +kernel)
theorem se_Cat_enter : Cond.selects m_Cat_enter.1.cls m_Cat_enter.1 m_Cat_enter.1 ∈ lw_tbl := List.mem_of_getElem? (i := 10) (by decide +kernel)
theorem mt_Cat_isKnots : q_mt m_Cat_isKnots 1 := ⟨List.mem_of_getElem? (i := 471) (by decide +kernel), List.mem_of_getElem? (i := 62) (by decide +kernel), ⟨by decide, by decide, by decide +kernel⟩, by decide +kernel, by decide⟩
theorem st_Cat_isKnots : Cond.static m_Cat_isKnots.1 ∈ lw_tbl := List.mem_of_getElem? (i := 470) (by decide +kernel)
theorem mt_Cat_howMany : q_mt m_Cat_howMany 1 := ⟨List.mem_of_getElem? (i := 549) (by decide +kernel), List.mem_of_getElem? (i := 62) (by decide +kernel), ⟨by decide, by decide, by decide +kernel⟩, by decide +kernel, by decide⟩
theorem in_Cat_howMany : Cond.instanceMethod m_Cat_howMany.1 ∈ lw_tbl := List.mem_of_getElem? (i := 547) (by decide +kernel)
theorem se_Cat_howMany : Cond.selects m_Cat_howMany.1.cls m_Cat_howMany.1 m_Cat_howMany.1 ∈ lw_tbl := List.mem_of_getElem? (i := 548) (by decide +kernel)
theorem mt_Cat_counted : q_mt m_Cat_counted 1 := ⟨List.mem_of_getElem? (i := 525) (by decide +kernel), List.mem_of_getElem? (i := 62) (by decide +kernel), ⟨by decide, by decide, by decide +kernel⟩, by decide +kernel, by decide⟩
theorem in_Cat_counted : Cond.instanceMethod m_Cat_counted.1 ∈ lw_tbl := List.mem_of_getElem? (i := 523) (by decide +kernel)
theorem se_Cat_counted : Cond.selects m_Cat_counted.1.cls m_Cat_counted.1 m_Cat_counted.1 ∈ lw_tbl := List.mem_of_getElem? (i := 524) (by decide +kernel)
theorem mt_Cat_countedBySign : q_mt m_Cat_countedBySign 1 := ⟨List.mem_of_getElem? (i := 533) (by decide +kernel), List.mem_of_getElem? (i := 62) (by decide +kernel), ⟨by decide, by decide, by decide +kernel⟩, by decide +kernel, by decide⟩
theorem in_Cat_countedBySign : Cond.instanceMethod m_Cat_countedBySign.1 ∈ lw_tbl := List.mem_of_getElem? (i := 531) (by decide +kernel)
theorem se_Cat_countedBySign : Cond.selects m_Cat_countedBySign.1.cls m_Cat_countedBySign.1 m_Cat_countedBySign.1 ∈ lw_tbl := List.mem_of_getElem? (i := 532) (by decide +kernel)
theorem mt_Cat_countedByPower : q_mt m_Cat_countedByPower 2 := ⟨List.mem_of_getElem? (i := 541) (by decide +kernel), List.mem_of_getElem? (i := 62) (by decide +kernel), ⟨by decide, by decide, by decide +kernel⟩, by decide +kernel, by decide⟩
theorem in_Cat_countedByPower : Cond.instanceMethod m_Cat_countedByPower.1 ∈ lw_tbl := List.mem_of_getElem? (i := 539) (by decide +kernel)
theorem se_Cat_countedByPower : Cond.selects m_Cat_countedByPower.1.cls m_Cat_countedByPower.1 m_Cat_countedByPower.1 ∈ lw_tbl := List.mem_of_getElem? (i := 540) (by decide +kernel)
theorem mt_Cat_rowAt : q_mt m_Cat_rowAt 2 := ⟨List.mem_of_getElem? (i := 557) (by decide +kernel), List.mem_of_getElem? (i := 62) (by decide +kernel), ⟨by decide, by decide, by decide +kernel⟩, by decide +kernel, by decide⟩
theorem in_Cat_rowAt : Cond.instanceMethod m_Cat_rowAt.1 ∈ lw_tbl := List.mem_of_getElem? (i := 555) (by decide +kernel)
theorem se_Cat_rowAt : Cond.selects m_Cat_rowAt.1.cls m_Cat_rowAt.1 m_Cat_rowAt.1 ∈ lw_tbl := List.mem_of_getElem? (i := 556) (by decide +kernel)
theorem mt_Cat_howManyBefore : q_mt m_Cat_howManyBefore 2 := ⟨List.mem_of_getElem? (i := 572) (by decide +kernel), List.mem_of_getElem? (i := 62) (by decide +kernel), ⟨by decide, by decide, by decide +kernel⟩, by decide +kernel, by decide⟩
theorem in_Cat_howManyBefore : Cond.instanceMethod m_Cat_howManyBefore.1 ∈ lw_tbl := List.mem_of_getElem? (i := 570) (by decide +kernel)
theorem se_Cat_howManyBefore : Cond.selects m_Cat_howManyBefore.1.cls m_Cat_howManyBefore.1 m_Cat_howManyBefore.1 ∈ lw_tbl := List.mem_of_getElem? (i := 571) (by decide +kernel)
theorem mt_Mk_init : q_mt m_Mk_init 0 := ⟨List.mem_of_getElem? (i := 97) (by decide +kernel), List.mem_of_getElem? (i := 53) (by decide +kernel), ⟨by decide, by decide, by decide +kernel⟩, by decide +kernel, by decide⟩
theorem in_Mk_init : Cond.instanceMethod m_Mk_init.1 ∈ lw_tbl := List.mem_of_getElem? (i := 96) (by decide +kernel)
theorem mt_Mk_ways : q_mt m_Mk_ways 3 := ⟨List.mem_of_getElem? (i := 402) (by decide +kernel), List.mem_of_getElem? (i := 53) (by decide +kernel), ⟨by decide, by decide, by decide +kernel⟩, by decide +kernel, by decide⟩
theorem in_Mk_ways : Cond.instanceMethod m_Mk_ways.1 ∈ lw_tbl := List.mem_of_getElem? (i := 400) (by decide +kernel)
theorem se_Mk_ways : Cond.selects m_Mk_ways.1.cls m_Mk_ways.1 m_Mk_ways.1 ∈ lw_tbl := List.mem_of_getElem? (i := 401) (by decide +kernel)
theorem mt_Mk_addKind : q_mt m_Mk_addKind 3 := ⟨List.mem_of_getElem? (i := 410) (by decide +kernel), List.mem_of_getElem? (i := 53) (by decide +kernel), ⟨by decide, by decide, by decide +kernel⟩, by decide +kernel, by decide⟩
theorem in_Mk_addKind : Cond.instanceMethod m_Mk_addKind.1 ∈ lw_tbl := List.mem_of_getElem? (i := 409) (by decide +kernel)
theorem se_Mk_addKind : Cond.selects m_Mk_addKind.1.cls m_Mk_addKind.1 m_Mk_addKind.1 ∈ lw_tbl := List.mem_of_getElem? (i := 5) (by decide +kernel)
theorem mt_Mk_deal : q_mt m_Mk_deal 3 := ⟨List.mem_of_getElem? (i := 420) (by decide +kernel), List.mem_of_getElem? (i := 53) (by decide +kernel), ⟨by decide, by decide, by decide +kernel⟩, by decide +kernel, by decide⟩
theorem in_Mk_deal : Cond.instanceMethod m_Mk_deal.1 ∈ lw_tbl := List.mem_of_getElem? (i := 419) (by decide +kernel)
theorem se_Mk_deal : Cond.selects m_Mk_deal.1.cls m_Mk_deal.1 m_Mk_deal.1 ∈ lw_tbl := List.mem_of_getElem? (i := 7) (by decide +kernel)
theorem mt_Mk_dealNext : q_mt m_Mk_dealNext 1 := ⟨List.mem_of_getElem? (i := 416) (by decide +kernel), List.mem_of_getElem? (i := 53) (by decide +kernel), ⟨by decide, by decide, by decide +kernel⟩, by decide +kernel, by decide⟩
theorem in_Mk_dealNext : Cond.instanceMethod m_Mk_dealNext.1 ∈ lw_tbl := List.mem_of_getElem? (i := 415) (by decide +kernel)
theorem se_Mk_dealNext : Cond.selects m_Mk_dealNext.1.cls m_Mk_dealNext.1 m_Mk_dealNext.1 ∈ lw_tbl := List.mem_of_getElem? (i := 6) (by decide +kernel)
theorem mt_Pic_init : q_mt m_Pic_init 0 := ⟨List.mem_of_getElem? (i := 77) (by decide +kernel), List.mem_of_getElem? (i := 52) (by decide +kernel), ⟨by decide, by decide, by decide +kernel⟩, by decide +kernel, by decide⟩
theorem in_Pic_init : Cond.instanceMethod m_Pic_init.1 ∈ lw_tbl := List.mem_of_getElem? (i := 76) (by decide +kernel)
theorem mt_Pic_clear : q_mt m_Pic_clear 1 := ⟨List.mem_of_getElem? (i := 240) (by decide +kernel), List.mem_of_getElem? (i := 52) (by decide +kernel), ⟨by decide, by decide, by decide +kernel⟩, by decide +kernel, by decide⟩
theorem in_Pic_clear : Cond.instanceMethod m_Pic_clear.1 ∈ lw_tbl := List.mem_of_getElem? (i := 238) (by decide +kernel)
theorem se_Pic_clear : Cond.selects m_Pic_clear.1.cls m_Pic_clear.1 m_Pic_clear.1 ∈ lw_tbl := List.mem_of_getElem? (i := 239) (by decide +kernel)
theorem mt_Pic_copyOf : q_mt m_Pic_copyOf 1 := ⟨List.mem_of_getElem? (i := 252) (by decide +kernel), List.mem_of_getElem? (i := 52) (by decide +kernel), ⟨by decide, by decide, by decide +kernel⟩, by decide +kernel, by decide⟩
theorem in_Pic_copyOf : Cond.instanceMethod m_Pic_copyOf.1 ∈ lw_tbl := List.mem_of_getElem? (i := 250) (by decide +kernel)
theorem se_Pic_copyOf : Cond.selects m_Pic_copyOf.1.cls m_Pic_copyOf.1 m_Pic_copyOf.1 ∈ lw_tbl := List.mem_of_getElem? (i := 251) (by decide +kernel)
theorem mt_Pic_degree : q_mt m_Pic_degree 0 := ⟨List.mem_of_getElem? (i := 322) (by decide +kernel), List.mem_of_getElem? (i := 52) (by decide +kernel), ⟨by decide, by decide, by decide +kernel⟩, by decide +kernel, by decide⟩
theorem in_Pic_degree : Cond.instanceMethod m_Pic_degree.1 ∈ lw_tbl := List.mem_of_getElem? (i := 320) (by decide +kernel)
theorem se_Pic_degree : Cond.selects m_Pic_degree.1.cls m_Pic_degree.1 m_Pic_degree.1 ∈ lw_tbl := List.mem_of_getElem? (i := 321) (by decide +kernel)
theorem mt_Pic_stairCount : q_mt m_Pic_stairCount 0 := ⟨List.mem_of_getElem? (i := 279) (by decide +kernel), List.mem_of_getElem? (i := 52) (by decide +kernel), ⟨by decide, by decide, by decide +kernel⟩, by decide +kernel, by decide⟩
theorem in_Pic_stairCount : Cond.instanceMethod m_Pic_stairCount.1 ∈ lw_tbl := List.mem_of_getElem? (i := 277) (by decide +kernel)
theorem se_Pic_stairCount : Cond.selects m_Pic_stairCount.1.cls m_Pic_stairCount.1 m_Pic_stairCount.1 ∈ lw_tbl := List.mem_of_getElem? (i := 278) (by decide +kernel)
theorem mt_Pic_hasFloor : q_mt m_Pic_hasFloor 1 := ⟨List.mem_of_getElem? (i := 271) (by decide +kernel), List.mem_of_getElem? (i := 52) (by decide +kernel), ⟨by decide, by decide, by decide +kernel⟩, by decide +kernel, by decide⟩
theorem in_Pic_hasFloor : Cond.instanceMethod m_Pic_hasFloor.1 ∈ lw_tbl := List.mem_of_getElem? (i := 269) (by decide +kernel)
theorem se_Pic_hasFloor : Cond.selects m_Pic_hasFloor.1.cls m_Pic_hasFloor.1 m_Pic_hasFloor.1 ∈ lw_tbl := List.mem_of_getElem? (i := 270) (by decide +kernel)
theorem mt_Pic_spotOf : q_mt m_Pic_spotOf 3 := ⟨List.mem_of_getElem? (i := 267) (by decide +kernel), List.mem_of_getElem? (i := 52) (by decide +kernel), ⟨by decide, by decide, by decide +kernel⟩, by decide +kernel, by decide⟩
theorem in_Pic_spotOf : Cond.instanceMethod m_Pic_spotOf.1 ∈ lw_tbl := List.mem_of_getElem? (i := 265) (by decide +kernel)
theorem se_Pic_spotOf : Cond.selects m_Pic_spotOf.1.cls m_Pic_spotOf.1 m_Pic_spotOf.1 ∈ lw_tbl := List.mem_of_getElem? (i := 266) (by decide +kernel)
theorem mt_Pic_spotOfStair : q_mt m_Pic_spotOfStair 1 := ⟨List.mem_of_getElem? (i := 358) (by decide +kernel), List.mem_of_getElem? (i := 52) (by decide +kernel), ⟨by decide, by decide, by decide +kernel⟩, by decide +kernel, by decide⟩
theorem in_Pic_spotOfStair : Cond.instanceMethod m_Pic_spotOfStair.1 ∈ lw_tbl := List.mem_of_getElem? (i := 356) (by decide +kernel)
theorem se_Pic_spotOfStair : Cond.selects m_Pic_spotOfStair.1.cls m_Pic_spotOfStair.1 m_Pic_spotOfStair.1 ∈ lw_tbl := List.mem_of_getElem? (i := 357) (by decide +kernel)
theorem mt_Pic_amountAt : q_mt m_Pic_amountAt 1 := ⟨List.mem_of_getElem? (i := 306) (by decide +kernel), List.mem_of_getElem? (i := 52) (by decide +kernel), ⟨by decide, by decide, by decide +kernel⟩, by decide +kernel, by decide⟩
theorem in_Pic_amountAt : Cond.instanceMethod m_Pic_amountAt.1 ∈ lw_tbl := List.mem_of_getElem? (i := 304) (by decide +kernel)
theorem se_Pic_amountAt : Cond.selects m_Pic_amountAt.1.cls m_Pic_amountAt.1 m_Pic_amountAt.1 ∈ lw_tbl := List.mem_of_getElem? (i := 305) (by decide +kernel)
theorem mt_Pic_add : q_mt m_Pic_add 1 := ⟨List.mem_of_getElem? (i := 283) (by decide +kernel), List.mem_of_getElem? (i := 52) (by decide +kernel), ⟨by decide, by decide, by decide +kernel⟩, by decide +kernel, by decide⟩
theorem in_Pic_add : Cond.instanceMethod m_Pic_add.1 ∈ lw_tbl := List.mem_of_getElem? (i := 281) (by decide +kernel)
theorem se_Pic_add : Cond.selects m_Pic_add.1.cls m_Pic_add.1 m_Pic_add.1 ∈ lw_tbl := List.mem_of_getElem? (i := 282) (by decide +kernel)
theorem mt_Pic_remove : q_mt m_Pic_remove 1 := ⟨List.mem_of_getElem? (i := 310) (by decide +kernel), List.mem_of_getElem? (i := 52) (by decide +kernel), ⟨by decide, by decide, by decide +kernel⟩, by decide +kernel, by decide⟩
theorem in_Pic_remove : Cond.instanceMethod m_Pic_remove.1 ∈ lw_tbl := List.mem_of_getElem? (i := 308) (by decide +kernel)
theorem se_Pic_remove : Cond.selects m_Pic_remove.1.cls m_Pic_remove.1 m_Pic_remove.1 ∈ lw_tbl := List.mem_of_getElem? (i := 309) (by decide +kernel)
theorem mt_Pic_change : q_mt m_Pic_change 2 := ⟨List.mem_of_getElem? (i := 287) (by decide +kernel), List.mem_of_getElem? (i := 52) (by decide +kernel), ⟨by decide, by decide, by decide +kernel⟩, by decide +kernel, by decide⟩
theorem in_Pic_change : Cond.instanceMethod m_Pic_change.1 ∈ lw_tbl := List.mem_of_getElem? (i := 286) (by decide +kernel)
theorem se_Pic_change : Cond.selects m_Pic_change.1.cls m_Pic_change.1 m_Pic_change.1 ∈ lw_tbl := List.mem_of_getElem? (i := 2) (by decide +kernel)
theorem mt_Pic_outOf : q_mt m_Pic_outOf 1 := ⟨List.mem_of_getElem? (i := 330) (by decide +kernel), List.mem_of_getElem? (i := 52) (by decide +kernel), ⟨by decide, by decide, by decide +kernel⟩, by decide +kernel, by decide⟩
theorem in_Pic_outOf : Cond.instanceMethod m_Pic_outOf.1 ∈ lw_tbl := List.mem_of_getElem? (i := 328) (by decide +kernel)
theorem se_Pic_outOf : Cond.selects m_Pic_outOf.1.cls m_Pic_outOf.1 m_Pic_outOf.1 ∈ lw_tbl := List.mem_of_getElem? (i := 329) (by decide +kernel)
theorem mt_Pic_isRight : q_mt m_Pic_isRight 0 := ⟨List.mem_of_getElem? (i := 326) (by decide +kernel), List.mem_of_getElem? (i := 52) (by decide +kernel), ⟨by decide, by decide, by decide +kernel⟩, by decide +kernel, by decide⟩
theorem in_Pic_isRight : Cond.instanceMethod m_Pic_isRight.1 ∈ lw_tbl := List.mem_of_getElem? (i := 324) (by decide +kernel)
theorem se_Pic_isRight : Cond.selects m_Pic_isRight.1.cls m_Pic_isRight.1 m_Pic_isRight.1 ∈ lw_tbl := List.mem_of_getElem? (i := 325) (by decide +kernel)
theorem mt_Pic_isRightTurned : q_mt m_Pic_isRightTurned 0 := ⟨List.mem_of_getElem? (i := 439) (by decide +kernel), List.mem_of_getElem? (i := 52) (by decide +kernel), ⟨by decide, by decide, by decide +kernel⟩, by decide +kernel, by decide⟩
theorem in_Pic_isRightTurned : Cond.instanceMethod m_Pic_isRightTurned.1 ∈ lw_tbl := List.mem_of_getElem? (i := 437) (by decide +kernel)
theorem se_Pic_isRightTurned : Cond.selects m_Pic_isRightTurned.1.cls m_Pic_isRightTurned.1 m_Pic_isRightTurned.1 ∈ lw_tbl := List.mem_of_getElem? (i := 438) (by decide +kernel)
theorem mt_Pic_knots : q_mt m_Pic_knots 0 := ⟨List.mem_of_getElem? (i := 334) (by decide +kernel), List.mem_of_getElem? (i := 52) (by decide +kernel), ⟨by decide, by decide, by decide +kernel⟩, by decide +kernel, by decide⟩
theorem in_Pic_knots : Cond.instanceMethod m_Pic_knots.1 ∈ lw_tbl := List.mem_of_getElem? (i := 332) (by decide +kernel)
theorem se_Pic_knots : Cond.selects m_Pic_knots.1.cls m_Pic_knots.1 m_Pic_knots.1 ∈ lw_tbl := List.mem_of_getElem? (i := 333) (by decide +kernel)
theorem mt_Pic_parts : q_mt m_Pic_parts 0 := ⟨List.mem_of_getElem? (i := 338) (by decide +kernel), List.mem_of_getElem? (i := 52) (by decide +kernel), ⟨by decide, by decide, by decide +kernel⟩, by decide +kernel, by decide⟩
theorem in_Pic_parts : Cond.instanceMethod m_Pic_parts.1 ∈ lw_tbl := List.mem_of_getElem? (i := 336) (by decide +kernel)
theorem se_Pic_parts : Cond.selects m_Pic_parts.1.cls m_Pic_parts.1 m_Pic_parts.1 ∈ lw_tbl := List.mem_of_getElem? (i := 337) (by decide +kernel)
theorem mt_Pic_hangingTogetherWith : q_mt m_Pic_hangingTogetherWith 1 := ⟨List.mem_of_getElem? (i := 342) (by decide +kernel), List.mem_of_getElem? (i := 52) (by decide +kernel), ⟨by decide, by decide, by decide +kernel⟩, by decide +kernel, by decide⟩
theorem in_Pic_hangingTogetherWith : Cond.instanceMethod m_Pic_hangingTogetherWith.1 ∈ lw_tbl := List.mem_of_getElem? (i := 341) (by decide +kernel)
theorem se_Pic_hangingTogetherWith : Cond.selects m_Pic_hangingTogetherWith.1.cls m_Pic_hangingTogetherWith.1 m_Pic_hangingTogetherWith.1 ∈ lw_tbl := List.mem_of_getElem? (i := 3) (by decide +kernel)
theorem mt_Pic_mult : q_mt m_Pic_mult 0 := ⟨List.mem_of_getElem? (i := 346) (by decide +kernel), List.mem_of_getElem? (i := 52) (by decide +kernel), ⟨by decide, by decide, by decide +kernel⟩, by decide +kernel, by decide⟩
theorem in_Pic_mult : Cond.instanceMethod m_Pic_mult.1 ∈ lw_tbl := List.mem_of_getElem? (i := 344) (by decide +kernel)
theorem se_Pic_mult : Cond.selects m_Pic_mult.1.cls m_Pic_mult.1 m_Pic_mult.1 ∈ lw_tbl := List.mem_of_getElem? (i := 345) (by decide +kernel)
theorem mt_Pic_sign : q_mt m_Pic_sign 0 := ⟨List.mem_of_getElem? (i := 350) (by decide +kernel), List.mem_of_getElem? (i := 52) (by decide +kernel), ⟨by decide, by decide, by decide +kernel⟩, by decide +kernel, by decide⟩
theorem in_Pic_sign : Cond.instanceMethod m_Pic_sign.1 ∈ lw_tbl := List.mem_of_getElem? (i := 348) (by decide +kernel)
theorem se_Pic_sign : Cond.selects m_Pic_sign.1.cls m_Pic_sign.1 m_Pic_sign.1 ∈ lw_tbl := List.mem_of_getElem? (i := 349) (by decide +kernel)
theorem mt_Pic_pack : q_mt m_Pic_pack 0 := ⟨List.mem_of_getElem? (i := 475) (by decide +kernel), List.mem_of_getElem? (i := 52) (by decide +kernel), ⟨by decide, by decide, by decide +kernel⟩, by decide +kernel, by decide⟩
theorem in_Pic_pack : Cond.instanceMethod m_Pic_pack.1 ∈ lw_tbl := List.mem_of_getElem? (i := 473) (by decide +kernel)
theorem se_Pic_pack : Cond.selects m_Pic_pack.1.cls m_Pic_pack.1 m_Pic_pack.1 ∈ lw_tbl := List.mem_of_getElem? (i := 474) (by decide +kernel)
theorem mt_Pic_unpack : q_mt m_Pic_unpack 2 := ⟨List.mem_of_getElem? (i := 561) (by decide +kernel), List.mem_of_getElem? (i := 52) (by decide +kernel), ⟨by decide, by decide, by decide +kernel⟩, by decide +kernel, by decide⟩
theorem in_Pic_unpack : Cond.instanceMethod m_Pic_unpack.1 ∈ lw_tbl := List.mem_of_getElem? (i := 559) (by decide +kernel)
theorem se_Pic_unpack : Cond.selects m_Pic_unpack.1.cls m_Pic_unpack.1 m_Pic_unpack.1 ∈ lw_tbl := List.mem_of_getElem? (i := 560) (by decide +kernel)
theorem mt_Pow_init : q_mt m_Pow_init 0 := ⟨List.mem_of_getElem? (i := 125) (by decide +kernel), List.mem_of_getElem? (i := 54) (by decide +kernel), ⟨by decide, by decide, by decide +kernel⟩, by decide +kernel, by decide⟩
theorem in_Pow_init : Cond.instanceMethod m_Pow_init.1 ∈ lw_tbl := List.mem_of_getElem? (i := 124) (by decide +kernel)
theorem mt_Pow_expand : q_mt m_Pow_expand 1 := ⟨List.mem_of_getElem? (i := 376) (by decide +kernel), List.mem_of_getElem? (i := 54) (by decide +kernel), ⟨by decide, by decide, by decide +kernel⟩, by decide +kernel, by decide⟩
theorem in_Pow_expand : Cond.instanceMethod m_Pow_expand.1 ∈ lw_tbl := List.mem_of_getElem? (i := 374) (by decide +kernel)
theorem se_Pow_expand : Cond.selects m_Pow_expand.1.cls m_Pow_expand.1 m_Pow_expand.1 ∈ lw_tbl := List.mem_of_getElem? (i := 375) (by decide +kernel)
theorem mt_Pow_multiply : q_mt m_Pow_multiply 1 := ⟨List.mem_of_getElem? (i := 385) (by decide +kernel), List.mem_of_getElem? (i := 54) (by decide +kernel), ⟨by decide, by decide, by decide +kernel⟩, by decide +kernel, by decide⟩
theorem in_Pow_multiply : Cond.instanceMethod m_Pow_multiply.1 ∈ lw_tbl := List.mem_of_getElem? (i := 384) (by decide +kernel)
theorem se_Pow_multiply : Cond.selects m_Pow_multiply.1.cls m_Pow_multiply.1 m_Pow_multiply.1 ∈ lw_tbl := List.mem_of_getElem? (i := 4) (by decide +kernel)
theorem mt_Pow_at : q_mt m_Pow_at 1 := ⟨List.mem_of_getElem? (i := 393) (by decide +kernel), List.mem_of_getElem? (i := 54) (by decide +kernel), ⟨by decide, by decide, by decide +kernel⟩, by decide +kernel, by decide⟩
theorem in_Pow_at : Cond.instanceMethod m_Pow_at.1 ∈ lw_tbl := List.mem_of_getElem? (i := 391) (by decide +kernel)
theorem se_Pow_at : Cond.selects m_Pow_at.1.cls m_Pow_at.1 m_Pow_at.1 ∈ lw_tbl := List.mem_of_getElem? (i := 392) (by decide +kernel)
theorem mt_Rows_one : q_mt m_Rows_one 2 := ⟨List.mem_of_getElem? (i := 607) (by decide +kernel), List.mem_of_getElem? (i := 63) (by decide +kernel), ⟨by decide, by decide, by decide +kernel⟩, by decide +kernel, by decide⟩
theorem st_Rows_one : Cond.static m_Rows_one.1 ∈ lw_tbl := List.mem_of_getElem? (i := 606) (by decide +kernel)
theorem mt_Rows_oneOfField : q_mt m_Rows_oneOfField 1 := ⟨List.mem_of_getElem? (i := 648) (by decide +kernel), List.mem_of_getElem? (i := 63) (by decide +kernel), ⟨by decide, by decide, by decide +kernel⟩, by decide +kernel, by decide⟩
theorem st_Rows_oneOfField : Cond.static m_Rows_oneOfField.1 ∈ lw_tbl := List.mem_of_getElem? (i := 647) (by decide +kernel)
theorem mt_Rows_figureOfField : q_mt m_Rows_figureOfField 1 := ⟨List.mem_of_getElem? (i := 645) (by decide +kernel), List.mem_of_getElem? (i := 63) (by decide +kernel), ⟨by decide, by decide, by decide +kernel⟩, by decide +kernel, by decide⟩
theorem st_Rows_figureOfField : Cond.static m_Rows_figureOfField.1 ∈ lw_tbl := List.mem_of_getElem? (i := 644) (by decide +kernel)
theorem mt_Rows_amount : q_mt m_Rows_amount 3 := ⟨List.mem_of_getElem? (i := 617) (by decide +kernel), List.mem_of_getElem? (i := 63) (by decide +kernel), ⟨by decide, by decide, by decide +kernel⟩, by decide +kernel, by decide⟩
theorem st_Rows_amount : Cond.static m_Rows_amount.1 ∈ lw_tbl := List.mem_of_getElem? (i := 616) (by decide +kernel)
theorem mt_Rows_degreeOf : q_mt m_Rows_degreeOf 1 := ⟨List.mem_of_getElem? (i := 614) (by decide +kernel), List.mem_of_getElem? (i := 63) (by decide +kernel), ⟨by decide, by decide, by decide +kernel⟩, by decide +kernel, by decide⟩
theorem st_Rows_degreeOf : Cond.static m_Rows_degreeOf.1 ∈ lw_tbl := List.mem_of_getElem? (i := 613) (by decide +kernel)
theorem mt_Rows_moreB : q_mt m_Rows_moreB 2 := ⟨List.mem_of_getElem? (i := 677) (by decide +kernel), List.mem_of_getElem? (i := 63) (by decide +kernel), ⟨by decide, by decide, by decide +kernel⟩, by decide +kernel, by decide⟩
theorem st_Rows_moreB : Cond.static m_Rows_moreB.1 ∈ lw_tbl := List.mem_of_getElem? (i := 676) (by decide +kernel)
theorem mt_Rows_timesOfPart : q_mt m_Rows_timesOfPart 2 := ⟨List.mem_of_getElem? (i := 671) (by decide +kernel), List.mem_of_getElem? (i := 63) (by decide +kernel), ⟨by decide, by decide, by decide +kernel⟩, by decide +kernel, by decide⟩
theorem st_Rows_timesOfPart : Cond.static m_Rows_timesOfPart.1 ∈ lw_tbl := List.mem_of_getElem? (i := 670) (by decide +kernel)
theorem mt_Sh_init : q_mt m_Sh_init 0 := ⟨List.mem_of_getElem? (i := 187) (by decide +kernel), List.mem_of_getElem? (i := 57) (by decide +kernel), ⟨by decide, by decide, by decide +kernel⟩, by decide +kernel, by decide⟩
theorem in_Sh_init : Cond.instanceMethod m_Sh_init.1 ∈ lw_tbl := List.mem_of_getElem? (i := 186) (by decide +kernel)
theorem mt_Sh_isLane : q_mt m_Sh_isLane 1 := ⟨List.mem_of_getElem? (i := 701) (by decide +kernel), List.mem_of_getElem? (i := 57) (by decide +kernel), ⟨by decide, by decide, by decide +kernel⟩, by decide +kernel, by decide⟩
theorem st_Sh_isLane : Cond.static m_Sh_isLane.1 ∈ lw_tbl := List.mem_of_getElem? (i := 700) (by decide +kernel)
theorem mt_Sh_renew : q_mt m_Sh_renew 2 := ⟨List.mem_of_getElem? (i := 705) (by decide +kernel), List.mem_of_getElem? (i := 57) (by decide +kernel), ⟨by decide, by decide, by decide +kernel⟩, by decide +kernel, by decide⟩
theorem in_Sh_renew : Cond.instanceMethod m_Sh_renew.1 ∈ lw_tbl := List.mem_of_getElem? (i := 703) (by decide +kernel)
theorem se_Sh_renew : Cond.selects m_Sh_renew.1.cls m_Sh_renew.1 m_Sh_renew.1 ∈ lw_tbl := List.mem_of_getElem? (i := 704) (by decide +kernel)
theorem mt_Sh_isNothing : q_mt m_Sh_isNothing 0 := ⟨List.mem_of_getElem? (i := 715) (by decide +kernel), List.mem_of_getElem? (i := 57) (by decide +kernel), ⟨by decide, by decide, by decide +kernel⟩, by decide +kernel, by decide⟩
theorem in_Sh_isNothing : Cond.instanceMethod m_Sh_isNothing.1 ∈ lw_tbl := List.mem_of_getElem? (i := 713) (by decide +kernel)
theorem se_Sh_isNothing : Cond.selects m_Sh_isNothing.1.cls m_Sh_isNothing.1 m_Sh_isNothing.1 ∈ lw_tbl := List.mem_of_getElem? (i := 714) (by decide +kernel)
theorem mt_Sh_isOfLane : q_mt m_Sh_isOfLane 1 := ⟨List.mem_of_getElem? (i := 732) (by decide +kernel), List.mem_of_getElem? (i := 57) (by decide +kernel), ⟨by decide, by decide, by decide +kernel⟩, by decide +kernel, by decide⟩
theorem in_Sh_isOfLane : Cond.instanceMethod m_Sh_isOfLane.1 ∈ lw_tbl := List.mem_of_getElem? (i := 730) (by decide +kernel)
theorem se_Sh_isOfLane : Cond.selects m_Sh_isOfLane.1.cls m_Sh_isOfLane.1 m_Sh_isOfLane.1 ∈ lw_tbl := List.mem_of_getElem? (i := 731) (by decide +kernel)
theorem mt_Sh_length : q_mt m_Sh_length 0 := ⟨List.mem_of_getElem? (i := 752) (by decide +kernel), List.mem_of_getElem? (i := 57) (by decide +kernel), ⟨by decide, by decide, by decide +kernel⟩, by decide +kernel, by decide⟩
theorem in_Sh_length : Cond.instanceMethod m_Sh_length.1 ∈ lw_tbl := List.mem_of_getElem? (i := 750) (by decide +kernel)
theorem se_Sh_length : Cond.selects m_Sh_length.1.cls m_Sh_length.1 m_Sh_length.1 ∈ lw_tbl := List.mem_of_getElem? (i := 751) (by decide +kernel)
theorem mt_Sh_hasCell : q_mt m_Sh_hasCell 1 := ⟨List.mem_of_getElem? (i := 719) (by decide +kernel), List.mem_of_getElem? (i := 57) (by decide +kernel), ⟨by decide, by decide, by decide +kernel⟩, by decide +kernel, by decide⟩
theorem in_Sh_hasCell : Cond.instanceMethod m_Sh_hasCell.1 ∈ lw_tbl := List.mem_of_getElem? (i := 717) (by decide +kernel)
theorem se_Sh_hasCell : Cond.selects m_Sh_hasCell.1.cls m_Sh_hasCell.1 m_Sh_hasCell.1 ∈ lw_tbl := List.mem_of_getElem? (i := 718) (by decide +kernel)
theorem mt_Sh_hasThreeFrom : q_mt m_Sh_hasThreeFrom 1 := ⟨List.mem_of_getElem? (i := 736) (by decide +kernel), List.mem_of_getElem? (i := 57) (by decide +kernel), ⟨by decide, by decide, by decide +kernel⟩, by decide +kernel, by decide⟩
theorem in_Sh_hasThreeFrom : Cond.instanceMethod m_Sh_hasThreeFrom.1 ∈ lw_tbl := List.mem_of_getElem? (i := 734) (by decide +kernel)
theorem se_Sh_hasThreeFrom : Cond.selects m_Sh_hasThreeFrom.1.cls m_Sh_hasThreeFrom.1 m_Sh_hasThreeFrom.1 ∈ lw_tbl := List.mem_of_getElem? (i := 735) (by decide +kernel)
theorem mt_Sh_read : q_mt m_Sh_read 1 := ⟨List.mem_of_getElem? (i := 740) (by decide +kernel), List.mem_of_getElem? (i := 57) (by decide +kernel), ⟨by decide, by decide, by decide +kernel⟩, by decide +kernel, by decide⟩
theorem in_Sh_read : Cond.instanceMethod m_Sh_read.1 ∈ lw_tbl := List.mem_of_getElem? (i := 738) (by decide +kernel)
theorem se_Sh_read : Cond.selects m_Sh_read.1.cls m_Sh_read.1 m_Sh_read.1 ∈ lw_tbl := List.mem_of_getElem? (i := 739) (by decide +kernel)
theorem mt_Sh_write : q_mt m_Sh_write 2 := ⟨List.mem_of_getElem? (i := 723) (by decide +kernel), List.mem_of_getElem? (i := 57) (by decide +kernel), ⟨by decide, by decide, by decide +kernel⟩, by decide +kernel, by decide⟩
theorem in_Sh_write : Cond.instanceMethod m_Sh_write.1 ∈ lw_tbl := List.mem_of_getElem? (i := 721) (by decide +kernel)
theorem se_Sh_write : Cond.selects m_Sh_write.1.cls m_Sh_write.1 m_Sh_write.1 ∈ lw_tbl := List.mem_of_getElem? (i := 722) (by decide +kernel)
theorem mt_Tg_init : q_mt m_Tg_init 0 := ⟨List.mem_of_getElem? (i := 164) (by decide +kernel), List.mem_of_getElem? (i := 56) (by decide +kernel), ⟨by decide, by decide, by decide +kernel⟩, by decide +kernel, by decide⟩
theorem in_Tg_init : Cond.instanceMethod m_Tg_init.1 ∈ lw_tbl := List.mem_of_getElem? (i := 163) (by decide +kernel)
theorem mt_Tg_valueOf : q_mt m_Tg_valueOf 2 := ⟨List.mem_of_getElem? (i := 633) (by decide +kernel), List.mem_of_getElem? (i := 56) (by decide +kernel), ⟨by decide, by decide, by decide +kernel⟩, by decide +kernel, by decide⟩
theorem in_Tg_valueOf : Cond.instanceMethod m_Tg_valueOf.1 ∈ lw_tbl := List.mem_of_getElem? (i := 631) (by decide +kernel)
theorem se_Tg_valueOf : Cond.selects m_Tg_valueOf.1.cls m_Tg_valueOf.1 m_Tg_valueOf.1 ∈ lw_tbl := List.mem_of_getElem? (i := 632) (by decide +kernel)
theorem mt_Tg_learn : q_mt m_Tg_learn 1 := ⟨List.mem_of_getElem? (i := 638) (by decide +kernel), List.mem_of_getElem? (i := 56) (by decide +kernel), ⟨by decide, by decide, by decide +kernel⟩, by decide +kernel, by decide⟩
theorem in_Tg_learn : Cond.instanceMethod m_Tg_learn.1 ∈ lw_tbl := List.mem_of_getElem? (i := 637) (by decide +kernel)
theorem se_Tg_learn : Cond.selects m_Tg_learn.1.cls m_Tg_learn.1 m_Tg_learn.1 ∈ lw_tbl := List.mem_of_getElem? (i := 12) (by decide +kernel)
theorem mt_Tg_enterRows : q_mt m_Tg_enterRows 3 := ⟨List.mem_of_getElem? (i := 642) (by decide +kernel), List.mem_of_getElem? (i := 56) (by decide +kernel), ⟨by decide, by decide, by decide +kernel⟩, by decide +kernel, by decide⟩
theorem in_Tg_enterRows : Cond.instanceMethod m_Tg_enterRows.1 ∈ lw_tbl := List.mem_of_getElem? (i := 641) (by decide +kernel)
theorem se_Tg_enterRows : Cond.selects m_Tg_enterRows.1.cls m_Tg_enterRows.1 m_Tg_enterRows.1 ∈ lw_tbl := List.mem_of_getElem? (i := 13) (by decide +kernel)
theorem mt_Tg_indexOf : q_mt m_Tg_indexOf 2 := ⟨List.mem_of_getElem? (i := 660) (by decide +kernel), List.mem_of_getElem? (i := 56) (by decide +kernel), ⟨by decide, by decide, by decide +kernel⟩, by decide +kernel, by decide⟩
theorem in_Tg_indexOf : Cond.instanceMethod m_Tg_indexOf.1 ∈ lw_tbl := List.mem_of_getElem? (i := 659) (by decide +kernel)
theorem se_Tg_indexOf : Cond.selects m_Tg_indexOf.1.cls m_Tg_indexOf.1 m_Tg_indexOf.1 ∈ lw_tbl := List.mem_of_getElem? (i := 15) (by decide +kernel)
theorem mt_Tg_addMoves : q_mt m_Tg_addMoves 2 := ⟨List.mem_of_getElem? (i := 654) (by decide +kernel), List.mem_of_getElem? (i := 56) (by decide +kernel), ⟨by decide, by decide, by decide +kernel⟩, by decide +kernel, by decide⟩
theorem in_Tg_addMoves : Cond.instanceMethod m_Tg_addMoves.1 ∈ lw_tbl := List.mem_of_getElem? (i := 653) (by decide +kernel)
theorem se_Tg_addMoves : Cond.selects m_Tg_addMoves.1.cls m_Tg_addMoves.1 m_Tg_addMoves.1 ∈ lw_tbl := List.mem_of_getElem? (i := 14) (by decide +kernel)
theorem mt_Tg_addSplits : q_mt m_Tg_addSplits 2 := ⟨List.mem_of_getElem? (i := 668) (by decide +kernel), List.mem_of_getElem? (i := 56) (by decide +kernel), ⟨by decide, by decide, by decide +kernel⟩, by decide +kernel, by decide⟩
theorem in_Tg_addSplits : Cond.instanceMethod m_Tg_addSplits.1 ∈ lw_tbl := List.mem_of_getElem? (i := 667) (by decide +kernel)
theorem se_Tg_addSplits : Cond.selects m_Tg_addSplits.1.cls m_Tg_addSplits.1 m_Tg_addSplits.1 ∈ lw_tbl := List.mem_of_getElem? (i := 17) (by decide +kernel)
theorem mt_Tg_addTo : q_mt m_Tg_addTo 4 := ⟨List.mem_of_getElem? (i := 664) (by decide +kernel), List.mem_of_getElem? (i := 56) (by decide +kernel), ⟨by decide, by decide, by decide +kernel⟩, by decide +kernel, by decide⟩
theorem in_Tg_addTo : Cond.instanceMethod m_Tg_addTo.1 ∈ lw_tbl := List.mem_of_getElem? (i := 663) (by decide +kernel)
theorem se_Tg_addTo : Cond.selects m_Tg_addTo.1.cls m_Tg_addTo.1 m_Tg_addTo.1 ∈ lw_tbl := List.mem_of_getElem? (i := 16) (by decide +kernel)
theorem mt_Tp_init : q_mt m_Tp_init 0 := ⟨List.mem_of_getElem? (i := 144) (by decide +kernel), List.mem_of_getElem? (i := 55) (by decide +kernel), ⟨by decide, by decide, by decide +kernel⟩, by decide +kernel, by decide⟩
theorem in_Tp_init : Cond.instanceMethod m_Tp_init.1 ∈ lw_tbl := List.mem_of_getElem? (i := 143) (by decide +kernel)
theorem mt_Tp_length : q_mt m_Tp_length 0 := ⟨List.mem_of_getElem? (i := 584) (by decide +kernel), List.mem_of_getElem? (i := 55) (by decide +kernel), ⟨by decide, by decide, by decide +kernel⟩, by decide +kernel, by decide⟩
theorem in_Tp_length : Cond.instanceMethod m_Tp_length.1 ∈ lw_tbl := List.mem_of_getElem? (i := 582) (by decide +kernel)
theorem se_Tp_length : Cond.selects m_Tp_length.1.cls m_Tp_length.1 m_Tp_length.1 ∈ lw_tbl := List.mem_of_getElem? (i := 583) (by decide +kernel)
theorem mt_Tp_toldRows : q_mt m_Tp_toldRows 0 := ⟨List.mem_of_getElem? (i := 611) (by decide +kernel), List.mem_of_getElem? (i := 55) (by decide +kernel), ⟨by decide, by decide, by decide +kernel⟩, by decide +kernel, by decide⟩
theorem in_Tp_toldRows : Cond.instanceMethod m_Tp_toldRows.1 ∈ lw_tbl := List.mem_of_getElem? (i := 609) (by decide +kernel)
theorem se_Tp_toldRows : Cond.selects m_Tp_toldRows.1.cls m_Tp_toldRows.1 m_Tp_toldRows.1 ∈ lw_tbl := List.mem_of_getElem? (i := 610) (by decide +kernel)
theorem mt_Tp_latestFault : q_mt m_Tp_latestFault 0 := ⟨List.mem_of_getElem? (i := 625) (by decide +kernel), List.mem_of_getElem? (i := 55) (by decide +kernel), ⟨by decide, by decide, by decide +kernel⟩, by decide +kernel, by decide⟩
theorem in_Tp_latestFault : Cond.instanceMethod m_Tp_latestFault.1 ∈ lw_tbl := List.mem_of_getElem? (i := 623) (by decide +kernel)
theorem se_Tp_latestFault : Cond.selects m_Tp_latestFault.1.cls m_Tp_latestFault.1 m_Tp_latestFault.1 ∈ lw_tbl := List.mem_of_getElem? (i := 624) (by decide +kernel)
theorem mt_Tp_appendEight : q_mt m_Tp_appendEight 1 := ⟨List.mem_of_getElem? (i := 580) (by decide +kernel), List.mem_of_getElem? (i := 55) (by decide +kernel), ⟨by decide, by decide, by decide +kernel⟩, by decide +kernel, by decide⟩
theorem in_Tp_appendEight : Cond.instanceMethod m_Tp_appendEight.1 ∈ lw_tbl := List.mem_of_getElem? (i := 578) (by decide +kernel)
theorem se_Tp_appendEight : Cond.selects m_Tp_appendEight.1.cls m_Tp_appendEight.1 m_Tp_appendEight.1 ∈ lw_tbl := List.mem_of_getElem? (i := 579) (by decide +kernel)
theorem mt_Tp_keepFirst : q_mt m_Tp_keepFirst 1 := ⟨List.mem_of_getElem? (i := 592) (by decide +kernel), List.mem_of_getElem? (i := 55) (by decide +kernel), ⟨by decide, by decide, by decide +kernel⟩, by decide +kernel, by decide⟩
theorem in_Tp_keepFirst : Cond.instanceMethod m_Tp_keepFirst.1 ∈ lw_tbl := List.mem_of_getElem? (i := 590) (by decide +kernel)
theorem se_Tp_keepFirst : Cond.selects m_Tp_keepFirst.1.cls m_Tp_keepFirst.1 m_Tp_keepFirst.1 ∈ lw_tbl := List.mem_of_getElem? (i := 591) (by decide +kernel)
theorem mt_Tp_read : q_mt m_Tp_read 0 := ⟨List.mem_of_getElem? (i := 600) (by decide +kernel), List.mem_of_getElem? (i := 55) (by decide +kernel), ⟨by decide, by decide, by decide +kernel⟩, by decide +kernel, by decide⟩
theorem in_Tp_read : Cond.instanceMethod m_Tp_read.1 ∈ lw_tbl := List.mem_of_getElem? (i := 598) (by decide +kernel)
theorem se_Tp_read : Cond.selects m_Tp_read.1.cls m_Tp_read.1 m_Tp_read.1 ∈ lw_tbl := List.mem_of_getElem? (i := 599) (by decide +kernel)
theorem mt_Tp_failAt : q_mt m_Tp_failAt 2 := ⟨List.mem_of_getElem? (i := 604) (by decide +kernel), List.mem_of_getElem? (i := 55) (by decide +kernel), ⟨by decide, by decide, by decide +kernel⟩, by decide +kernel, by decide⟩
theorem in_Tp_failAt : Cond.instanceMethod m_Tp_failAt.1 ∈ lw_tbl := List.mem_of_getElem? (i := 603) (by decide +kernel)
theorem se_Tp_failAt : Cond.selects m_Tp_failAt.1.cls m_Tp_failAt.1 m_Tp_failAt.1 ∈ lw_tbl := List.mem_of_getElem? (i := 11) (by decide +kernel)
theorem mt_FC_init : q_mt m_FC_init 0 := ⟨List.mem_of_getElem? (i := 68) (by decide +kernel), List.mem_of_getElem? (i := 51) (by decide +kernel), ⟨by decide, by decide, by decide +kernel⟩, by decide +kernel, by decide⟩
theorem in_FC_init : Cond.instanceMethod m_FC_init.1 ∈ lw_tbl := List.mem_of_getElem? (i := 67) (by decide +kernel)
theorem mt_FC_picture : q_mt m_FC_picture 1 := ⟨List.mem_of_getElem? (i := 233) (by decide +kernel), List.mem_of_getElem? (i := 51) (by decide +kernel), ⟨by decide, by decide, by decide +kernel⟩, by decide +kernel, by decide⟩
theorem in_FC_picture : Cond.instanceMethod m_FC_picture.1 ∈ lw_tbl := List.mem_of_getElem? (i := 231) (by decide +kernel)
theorem se_FC_picture : Cond.selects m_FC_picture.1.cls m_FC_picture.1 m_FC_picture.1 ∈ lw_tbl := List.mem_of_getElem? (i := 232) (by decide +kernel)
theorem mt_FC_stair : q_mt m_FC_stair 4 := ⟨List.mem_of_getElem? (i := 259) (by decide +kernel), List.mem_of_getElem? (i := 51) (by decide +kernel), ⟨by decide, by decide, by decide +kernel⟩, by decide +kernel, by decide⟩
theorem in_FC_stair : Cond.instanceMethod m_FC_stair.1 ∈ lw_tbl := List.mem_of_getElem? (i := 257) (by decide +kernel)
theorem se_FC_stair : Cond.selects m_FC_stair.1.cls m_FC_stair.1 m_FC_stair.1 ∈ lw_tbl := List.mem_of_getElem? (i := 258) (by decide +kernel)
theorem mt_FC_cut : q_mt m_FC_cut 4 := ⟨List.mem_of_getElem? (i := 302) (by decide +kernel), List.mem_of_getElem? (i := 51) (by decide +kernel), ⟨by decide, by decide, by decide +kernel⟩, by decide +kernel, by decide⟩
theorem in_FC_cut : Cond.instanceMethod m_FC_cut.1 ∈ lw_tbl := List.mem_of_getElem? (i := 300) (by decide +kernel)
theorem se_FC_cut : Cond.selects m_FC_cut.1.cls m_FC_cut.1 m_FC_cut.1 ∈ lw_tbl := List.mem_of_getElem? (i := 301) (by decide +kernel)
theorem mt_FC_drop : q_mt m_FC_drop 0 := ⟨List.mem_of_getElem? (i := 314) (by decide +kernel), List.mem_of_getElem? (i := 51) (by decide +kernel), ⟨by decide, by decide, by decide +kernel⟩, by decide +kernel, by decide⟩
theorem in_FC_drop : Cond.instanceMethod m_FC_drop.1 ∈ lw_tbl := List.mem_of_getElem? (i := 312) (by decide +kernel)
theorem se_FC_drop : Cond.selects m_FC_drop.1.cls m_FC_drop.1 m_FC_drop.1 ∈ lw_tbl := List.mem_of_getElem? (i := 313) (by decide +kernel)
theorem mt_FC_about : q_mt m_FC_about 2 := ⟨List.mem_of_getElem? (i := 318) (by decide +kernel), List.mem_of_getElem? (i := 51) (by decide +kernel), ⟨by decide, by decide, by decide +kernel⟩, by decide +kernel, by decide⟩
theorem in_FC_about : Cond.instanceMethod m_FC_about.1 ∈ lw_tbl := List.mem_of_getElem? (i := 316) (by decide +kernel)
theorem se_FC_about : Cond.selects m_FC_about.1.cls m_FC_about.1 m_FC_about.1 ∈ lw_tbl := List.mem_of_getElem? (i := 317) (by decide +kernel)
theorem mt_FC_told : q_mt m_FC_told 3 := ⟨List.mem_of_getElem? (i := 354) (by decide +kernel), List.mem_of_getElem? (i := 51) (by decide +kernel), ⟨by decide, by decide, by decide +kernel⟩, by decide +kernel, by decide⟩
theorem in_FC_told : Cond.instanceMethod m_FC_told.1 ∈ lw_tbl := List.mem_of_getElem? (i := 352) (by decide +kernel)
theorem se_FC_told : Cond.selects m_FC_told.1.cls m_FC_told.1 m_FC_told.1 ∈ lw_tbl := List.mem_of_getElem? (i := 353) (by decide +kernel)
theorem mt_FC_out : q_mt m_FC_out 2 := ⟨List.mem_of_getElem? (i := 365) (by decide +kernel), List.mem_of_getElem? (i := 51) (by decide +kernel), ⟨by decide, by decide, by decide +kernel⟩, by decide +kernel, by decide⟩
theorem in_FC_out : Cond.instanceMethod m_FC_out.1 ∈ lw_tbl := List.mem_of_getElem? (i := 363) (by decide +kernel)
theorem se_FC_out : Cond.selects m_FC_out.1.cls m_FC_out.1 m_FC_out.1 ∈ lw_tbl := List.mem_of_getElem? (i := 364) (by decide +kernel)
theorem mt_FC_spread : q_mt m_FC_spread 2 := ⟨List.mem_of_getElem? (i := 371) (by decide +kernel), List.mem_of_getElem? (i := 51) (by decide +kernel), ⟨by decide, by decide, by decide +kernel⟩, by decide +kernel, by decide⟩
theorem in_FC_spread : Cond.instanceMethod m_FC_spread.1 ∈ lw_tbl := List.mem_of_getElem? (i := 369) (by decide +kernel)
theorem se_FC_spread : Cond.selects m_FC_spread.1.cls m_FC_spread.1 m_FC_spread.1 ∈ lw_tbl := List.mem_of_getElem? (i := 370) (by decide +kernel)
theorem mt_FC_markings : q_mt m_FC_markings 1 := ⟨List.mem_of_getElem? (i := 397) (by decide +kernel), List.mem_of_getElem? (i := 51) (by decide +kernel), ⟨by decide, by decide, by decide +kernel⟩, by decide +kernel, by decide⟩
theorem in_FC_markings : Cond.instanceMethod m_FC_markings.1 ∈ lw_tbl := List.mem_of_getElem? (i := 395) (by decide +kernel)
theorem se_FC_markings : Cond.selects m_FC_markings.1.cls m_FC_markings.1 m_FC_markings.1 ∈ lw_tbl := List.mem_of_getElem? (i := 396) (by decide +kernel)
theorem mt_FC_between : q_mt m_FC_between 3 := ⟨List.mem_of_getElem? (i := 424) (by decide +kernel), List.mem_of_getElem? (i := 51) (by decide +kernel), ⟨by decide, by decide, by decide +kernel⟩, by decide +kernel, by decide⟩
theorem in_FC_between : Cond.instanceMethod m_FC_between.1 ∈ lw_tbl := List.mem_of_getElem? (i := 422) (by decide +kernel)
theorem se_FC_between : Cond.selects m_FC_between.1.cls m_FC_between.1 m_FC_between.1 ∈ lw_tbl := List.mem_of_getElem? (i := 423) (by decide +kernel)
theorem mt_FC_unlike : q_mt m_FC_unlike 2 := ⟨List.mem_of_getElem? (i := 428) (by decide +kernel), List.mem_of_getElem? (i := 51) (by decide +kernel), ⟨by decide, by decide, by decide +kernel⟩, by decide +kernel, by decide⟩
theorem in_FC_unlike : Cond.instanceMethod m_FC_unlike.1 ∈ lw_tbl := List.mem_of_getElem? (i := 426) (by decide +kernel)
theorem se_FC_unlike : Cond.selects m_FC_unlike.1.cls m_FC_unlike.1 m_FC_unlike.1 ∈ lw_tbl := List.mem_of_getElem? (i := 427) (by decide +kernel)
theorem mt_FC_turned : q_mt m_FC_turned 1 := ⟨List.mem_of_getElem? (i := 435) (by decide +kernel), List.mem_of_getElem? (i := 51) (by decide +kernel), ⟨by decide, by decide, by decide +kernel⟩, by decide +kernel, by decide⟩
theorem in_FC_turned : Cond.instanceMethod m_FC_turned.1 ∈ lw_tbl := List.mem_of_getElem? (i := 433) (by decide +kernel)
theorem se_FC_turned : Cond.selects m_FC_turned.1.cls m_FC_turned.1 m_FC_turned.1 ∈ lw_tbl := List.mem_of_getElem? (i := 434) (by decide +kernel)
theorem mt_FC_count : q_mt m_FC_count 2 := ⟨List.mem_of_getElem? (i := 443) (by decide +kernel), List.mem_of_getElem? (i := 51) (by decide +kernel), ⟨by decide, by decide, by decide +kernel⟩, by decide +kernel, by decide⟩
theorem in_FC_count : Cond.instanceMethod m_FC_count.1 ∈ lw_tbl := List.mem_of_getElem? (i := 441) (by decide +kernel)
theorem se_FC_count : Cond.selects m_FC_count.1.cls m_FC_count.1 m_FC_count.1 ∈ lw_tbl := List.mem_of_getElem? (i := 442) (by decide +kernel)
theorem mt_FC_signed : q_mt m_FC_signed 2 := ⟨List.mem_of_getElem? (i := 529) (by decide +kernel), List.mem_of_getElem? (i := 51) (by decide +kernel), ⟨by decide, by decide, by decide +kernel⟩, by decide +kernel, by decide⟩
theorem in_FC_signed : Cond.instanceMethod m_FC_signed.1 ∈ lw_tbl := List.mem_of_getElem? (i := 527) (by decide +kernel)
theorem se_FC_signed : Cond.selects m_FC_signed.1.cls m_FC_signed.1 m_FC_signed.1 ∈ lw_tbl := List.mem_of_getElem? (i := 528) (by decide +kernel)
theorem mt_FC_spreadAll : q_mt m_FC_spreadAll 3 := ⟨List.mem_of_getElem? (i := 537) (by decide +kernel), List.mem_of_getElem? (i := 51) (by decide +kernel), ⟨by decide, by decide, by decide +kernel⟩, by decide +kernel, by decide⟩
theorem in_FC_spreadAll : Cond.instanceMethod m_FC_spreadAll.1 ∈ lw_tbl := List.mem_of_getElem? (i := 535) (by decide +kernel)
theorem se_FC_spreadAll : Cond.selects m_FC_spreadAll.1.cls m_FC_spreadAll.1 m_FC_spreadAll.1 ∈ lw_tbl := List.mem_of_getElem? (i := 536) (by decide +kernel)
theorem mt_FC_listed : q_mt m_FC_listed 2 := ⟨List.mem_of_getElem? (i := 545) (by decide +kernel), List.mem_of_getElem? (i := 51) (by decide +kernel), ⟨by decide, by decide, by decide +kernel⟩, by decide +kernel, by decide⟩
theorem in_FC_listed : Cond.instanceMethod m_FC_listed.1 ∈ lw_tbl := List.mem_of_getElem? (i := 543) (by decide +kernel)
theorem se_FC_listed : Cond.selects m_FC_listed.1.cls m_FC_listed.1 m_FC_listed.1 ∈ lw_tbl := List.mem_of_getElem? (i := 544) (by decide +kernel)
theorem mt_FC_take : q_mt m_FC_take 3 := ⟨List.mem_of_getElem? (i := 553) (by decide +kernel), List.mem_of_getElem? (i := 51) (by decide +kernel), ⟨by decide, by decide, by decide +kernel⟩, by decide +kernel, by decide⟩
theorem in_FC_take : Cond.instanceMethod m_FC_take.1 ∈ lw_tbl := List.mem_of_getElem? (i := 551) (by decide +kernel)
theorem se_FC_take : Cond.selects m_FC_take.1.cls m_FC_take.1 m_FC_take.1 ∈ lw_tbl := List.mem_of_getElem? (i := 552) (by decide +kernel)
theorem mt_FC_place : q_mt m_FC_place 1 := ⟨List.mem_of_getElem? (i := 567) (by decide +kernel), List.mem_of_getElem? (i := 51) (by decide +kernel), ⟨by decide, by decide, by decide +kernel⟩, by decide +kernel, by decide⟩
theorem in_FC_place : Cond.instanceMethod m_FC_place.1 ∈ lw_tbl := List.mem_of_getElem? (i := 565) (by decide +kernel)
theorem se_FC_place : Cond.selects m_FC_place.1.cls m_FC_place.1 m_FC_place.1 ∈ lw_tbl := List.mem_of_getElem? (i := 566) (by decide +kernel)
theorem mt_FC_feed : q_mt m_FC_feed 1 := ⟨List.mem_of_getElem? (i := 576) (by decide +kernel), List.mem_of_getElem? (i := 51) (by decide +kernel), ⟨by decide, by decide, by decide +kernel⟩, by decide +kernel, by decide⟩
theorem in_FC_feed : Cond.instanceMethod m_FC_feed.1 ∈ lw_tbl := List.mem_of_getElem? (i := 574) (by decide +kernel)
theorem se_FC_feed : Cond.selects m_FC_feed.1.cls m_FC_feed.1 m_FC_feed.1 ∈ lw_tbl := List.mem_of_getElem? (i := 575) (by decide +kernel)
theorem mt_FC_end : q_mt m_FC_end 1 := ⟨List.mem_of_getElem? (i := 588) (by decide +kernel), List.mem_of_getElem? (i := 51) (by decide +kernel), ⟨by decide, by decide, by decide +kernel⟩, by decide +kernel, by decide⟩
theorem in_FC_end : Cond.instanceMethod m_FC_end.1 ∈ lw_tbl := List.mem_of_getElem? (i := 586) (by decide +kernel)
theorem se_FC_end : Cond.selects m_FC_end.1.cls m_FC_end.1 m_FC_end.1 ∈ lw_tbl := List.mem_of_getElem? (i := 587) (by decide +kernel)
theorem mt_FC_text : q_mt m_FC_text 0 := ⟨List.mem_of_getElem? (i := 596) (by decide +kernel), List.mem_of_getElem? (i := 51) (by decide +kernel), ⟨by decide, by decide, by decide +kernel⟩, by decide +kernel, by decide⟩
theorem in_FC_text : Cond.instanceMethod m_FC_text.1 ∈ lw_tbl := List.mem_of_getElem? (i := 594) (by decide +kernel)
theorem se_FC_text : Cond.selects m_FC_text.1.cls m_FC_text.1 m_FC_text.1 ∈ lw_tbl := List.mem_of_getElem? (i := 595) (by decide +kernel)
theorem mt_FC_fault : q_mt m_FC_fault 0 := ⟨List.mem_of_getElem? (i := 621) (by decide +kernel), List.mem_of_getElem? (i := 51) (by decide +kernel), ⟨by decide, by decide, by decide +kernel⟩, by decide +kernel, by decide⟩
theorem in_FC_fault : Cond.instanceMethod m_FC_fault.1 ∈ lw_tbl := List.mem_of_getElem? (i := 619) (by decide +kernel)
theorem se_FC_fault : Cond.selects m_FC_fault.1.cls m_FC_fault.1 m_FC_fault.1 ∈ lw_tbl := List.mem_of_getElem? (i := 620) (by decide +kernel)
theorem mt_FC_tangent : q_mt m_FC_tangent 1 := ⟨List.mem_of_getElem? (i := 629) (by decide +kernel), List.mem_of_getElem? (i := 51) (by decide +kernel), ⟨by decide, by decide, by decide +kernel⟩, by decide +kernel, by decide⟩
theorem in_FC_tangent : Cond.instanceMethod m_FC_tangent.1 ∈ lw_tbl := List.mem_of_getElem? (i := 627) (by decide +kernel)
theorem se_FC_tangent : Cond.selects m_FC_tangent.1.cls m_FC_tangent.1 m_FC_tangent.1 ∈ lw_tbl := List.mem_of_getElem? (i := 628) (by decide +kernel)
theorem mt_FC_has : q_mt m_FC_has 2 := ⟨List.mem_of_getElem? (i := 681) (by decide +kernel), List.mem_of_getElem? (i := 51) (by decide +kernel), ⟨by decide, by decide, by decide +kernel⟩, by decide +kernel, by decide⟩
theorem in_FC_has : Cond.instanceMethod m_FC_has.1 ∈ lw_tbl := List.mem_of_getElem? (i := 679) (by decide +kernel)
theorem se_FC_has : Cond.selects m_FC_has.1.cls m_FC_has.1 m_FC_has.1 ∈ lw_tbl := List.mem_of_getElem? (i := 680) (by decide +kernel)
theorem mt_FC_rational : q_mt m_FC_rational 1 := ⟨List.mem_of_getElem? (i := 686) (by decide +kernel), List.mem_of_getElem? (i := 51) (by decide +kernel), ⟨by decide, by decide, by decide +kernel⟩, by decide +kernel, by decide⟩
theorem in_FC_rational : Cond.instanceMethod m_FC_rational.1 ∈ lw_tbl := List.mem_of_getElem? (i := 684) (by decide +kernel)
theorem se_FC_rational : Cond.selects m_FC_rational.1.cls m_FC_rational.1 m_FC_rational.1 ∈ lw_tbl := List.mem_of_getElem? (i := 685) (by decide +kernel)
theorem mt_FC_sheet : q_mt m_FC_sheet 3 := ⟨List.mem_of_getElem? (i := 694) (by decide +kernel), List.mem_of_getElem? (i := 51) (by decide +kernel), ⟨by decide, by decide, by decide +kernel⟩, by decide +kernel, by decide⟩
theorem in_FC_sheet : Cond.instanceMethod m_FC_sheet.1 ∈ lw_tbl := List.mem_of_getElem? (i := 692) (by decide +kernel)
theorem se_FC_sheet : Cond.selects m_FC_sheet.1.cls m_FC_sheet.1 m_FC_sheet.1 ∈ lw_tbl := List.mem_of_getElem? (i := 693) (by decide +kernel)
theorem mt_FC_lay : q_mt m_FC_lay 3 := ⟨List.mem_of_getElem? (i := 711) (by decide +kernel), List.mem_of_getElem? (i := 51) (by decide +kernel), ⟨by decide, by decide, by decide +kernel⟩, by decide +kernel, by decide⟩
theorem in_FC_lay : Cond.instanceMethod m_FC_lay.1 ∈ lw_tbl := List.mem_of_getElem? (i := 709) (by decide +kernel)
theorem se_FC_lay : Cond.selects m_FC_lay.1.cls m_FC_lay.1 m_FC_lay.1 ∈ lw_tbl := List.mem_of_getElem? (i := 710) (by decide +kernel)
theorem mt_FC_draw : q_mt m_FC_draw 5 := ⟨List.mem_of_getElem? (i := 728) (by decide +kernel), List.mem_of_getElem? (i := 51) (by decide +kernel), ⟨by decide, by decide, by decide +kernel⟩, by decide +kernel, by decide⟩
theorem in_FC_draw : Cond.instanceMethod m_FC_draw.1 ∈ lw_tbl := List.mem_of_getElem? (i := 726) (by decide +kernel)
theorem se_FC_draw : Cond.selects m_FC_draw.1.cls m_FC_draw.1 m_FC_draw.1 ∈ lw_tbl := List.mem_of_getElem? (i := 727) (by decide +kernel)
theorem mt_FC_many : q_mt m_FC_many 1 := ⟨List.mem_of_getElem? (i := 744) (by decide +kernel), List.mem_of_getElem? (i := 51) (by decide +kernel), ⟨by decide, by decide, by decide +kernel⟩, by decide +kernel, by decide⟩
theorem in_FC_many : Cond.instanceMethod m_FC_many.1 ∈ lw_tbl := List.mem_of_getElem? (i := 742) (by decide +kernel)
theorem se_FC_many : Cond.selects m_FC_many.1.cls m_FC_many.1 m_FC_many.1 ∈ lw_tbl := List.mem_of_getElem? (i := 743) (by decide +kernel)
theorem mt_FC_isDegree : q_mt m_FC_isDegree 1 := ⟨List.mem_of_getElem? (i := 236) (by decide +kernel), List.mem_of_getElem? (i := 51) (by decide +kernel), ⟨by decide, by decide, by decide +kernel⟩, by decide +kernel, by decide⟩
theorem st_FC_isDegree : Cond.static m_FC_isDegree.1 ∈ lw_tbl := List.mem_of_getElem? (i := 235) (by decide +kernel)
theorem mt_FC_pictureAt : q_mt m_FC_pictureAt 1 := ⟨List.mem_of_getElem? (i := 263) (by decide +kernel), List.mem_of_getElem? (i := 51) (by decide +kernel), ⟨by decide, by decide, by decide +kernel⟩, by decide +kernel, by decide⟩
theorem in_FC_pictureAt : Cond.instanceMethod m_FC_pictureAt.1 ∈ lw_tbl := List.mem_of_getElem? (i := 262) (by decide +kernel)
theorem se_FC_pictureAt : Cond.selects m_FC_pictureAt.1.cls m_FC_pictureAt.1 m_FC_pictureAt.1 ∈ lw_tbl := List.mem_of_getElem? (i := 1) (by decide +kernel)
theorem mt_FC_sheetAt : q_mt m_FC_sheetAt 1 := ⟨List.mem_of_getElem? (i := 698) (by decide +kernel), List.mem_of_getElem? (i := 51) (by decide +kernel), ⟨by decide, by decide, by decide +kernel⟩, by decide +kernel, by decide⟩
theorem in_FC_sheetAt : Cond.instanceMethod m_FC_sheetAt.1 ∈ lw_tbl := List.mem_of_getElem? (i := 697) (by decide +kernel)
theorem se_FC_sheetAt : Cond.selects m_FC_sheetAt.1.cls m_FC_sheetAt.1 m_FC_sheetAt.1 ∈ lw_tbl := List.mem_of_getElem? (i := 18) (by decide +kernel)
theorem mt_FC_keepDraft : q_mt m_FC_keepDraft 0 := ⟨List.mem_of_getElem? (i := 248) (by decide +kernel), List.mem_of_getElem? (i := 51) (by decide +kernel), ⟨by decide, by decide, by decide +kernel⟩, by decide +kernel, by decide⟩
theorem in_FC_keepDraft : Cond.instanceMethod m_FC_keepDraft.1 ∈ lw_tbl := List.mem_of_getElem? (i := 247) (by decide +kernel)
theorem se_FC_keepDraft : Cond.selects m_FC_keepDraft.1.cls m_FC_keepDraft.1 m_FC_keepDraft.1 ∈ lw_tbl := List.mem_of_getElem? (i := 0) (by decide +kernel)
theorem mt_FC_catalogueOf : q_mt m_FC_catalogueOf 2 := ⟨List.mem_of_getElem? (i := 447) (by decide +kernel), List.mem_of_getElem? (i := 51) (by decide +kernel), ⟨by decide, by decide, by decide +kernel⟩, by decide +kernel, by decide⟩
theorem in_FC_catalogueOf : Cond.instanceMethod m_FC_catalogueOf.1 ∈ lw_tbl := List.mem_of_getElem? (i := 446) (by decide +kernel)
theorem se_FC_catalogueOf : Cond.selects m_FC_catalogueOf.1.cls m_FC_catalogueOf.1 m_FC_catalogueOf.1 ∈ lw_tbl := List.mem_of_getElem? (i := 8) (by decide +kernel)
theorem mt_FC_cellsOfFirstSheet : q_mt m_FC_cellsOfFirstSheet 0 := ⟨List.mem_of_getElem? (i := 748) (by decide +kernel), List.mem_of_getElem? (i := 51) (by decide +kernel), ⟨by decide, by decide, by decide +kernel⟩, by decide +kernel, by decide⟩
theorem in_FC_cellsOfFirstSheet : Cond.instanceMethod m_FC_cellsOfFirstSheet.1 ∈ lw_tbl := List.mem_of_getElem? (i := 747) (by decide +kernel)
theorem se_FC_cellsOfFirstSheet : Cond.selects m_FC_cellsOfFirstSheet.1.cls m_FC_cellsOfFirstSheet.1 m_FC_cellsOfFirstSheet.1 ∈ lw_tbl := List.mem_of_getElem? (i := 19) (by decide +kernel)
theorem mt_FC_stairsOfAll : q_mt m_FC_stairsOfAll 0 := ⟨List.mem_of_getElem? (i := 756) (by decide +kernel), List.mem_of_getElem? (i := 51) (by decide +kernel), ⟨by decide, by decide, by decide +kernel⟩, by decide +kernel, by decide⟩
theorem in_FC_stairsOfAll : Cond.instanceMethod m_FC_stairsOfAll.1 ∈ lw_tbl := List.mem_of_getElem? (i := 755) (by decide +kernel)
theorem se_FC_stairsOfAll : Cond.selects m_FC_stairsOfAll.1.cls m_FC_stairsOfAll.1 m_FC_stairsOfAll.1 ∈ lw_tbl := List.mem_of_getElem? (i := 20) (by decide +kernel)
theorem mt_FC_splitsOf : q_mt m_FC_splitsOf 2 := ⟨List.mem_of_getElem? (i := 689) (by decide +kernel), List.mem_of_getElem? (i := 51) (by decide +kernel), ⟨by decide, by decide, by decide +kernel⟩, by decide +kernel, by decide⟩
theorem st_FC_splitsOf : Cond.static m_FC_splitsOf.1 ∈ lw_tbl := List.mem_of_getElem? (i := 688) (by decide +kernel)
theorem mt_FC_choose : q_mt m_FC_choose 2 := ⟨List.mem_of_getElem? (i := 674) (by decide +kernel), List.mem_of_getElem? (i := 51) (by decide +kernel), ⟨by decide, by decide, by decide +kernel⟩, by decide +kernel, by decide⟩
theorem st_FC_choose : Cond.static m_FC_choose.1 ∈ lw_tbl := List.mem_of_getElem? (i := 673) (by decide +kernel)
theorem mt_FC_fromOf : q_mt m_FC_fromOf 1 := ⟨List.mem_of_getElem? (i := 290) (by decide +kernel), List.mem_of_getElem? (i := 51) (by decide +kernel), ⟨by decide, by decide, by decide +kernel⟩, by decide +kernel, by decide⟩
theorem st_FC_fromOf : Cond.static m_FC_fromOf.1 ∈ lw_tbl := List.mem_of_getElem? (i := 289) (by decide +kernel)
theorem mt_FC_toOf : q_mt m_FC_toOf 1 := ⟨List.mem_of_getElem? (i := 297) (by decide +kernel), List.mem_of_getElem? (i := 51) (by decide +kernel), ⟨by decide, by decide, by decide +kernel⟩, by decide +kernel, by decide⟩
theorem st_FC_toOf : Cond.static m_FC_toOf.1 ∈ lw_tbl := List.mem_of_getElem? (i := 296) (by decide +kernel)
theorem mt_FC_weightOf : q_mt m_FC_weightOf 1 := ⟨List.mem_of_getElem? (i := 294) (by decide +kernel), List.mem_of_getElem? (i := 51) (by decide +kernel), ⟨by decide, by decide, by decide +kernel⟩, by decide +kernel, by decide⟩
theorem st_FC_weightOf : Cond.static m_FC_weightOf.1 ∈ lw_tbl := List.mem_of_getElem? (i := 293) (by decide +kernel)
theorem mt_Mo_init : q_mt m_Mo_init 0 := ⟨List.mem_of_getElem? (i := 761) (by decide +kernel), List.mem_of_getElem? (i := 58) (by decide +kernel), ⟨by decide, by decide, by decide +kernel⟩, by decide +kernel, by decide⟩
theorem in_Mo_init : Cond.instanceMethod m_Mo_init.1 ∈ lw_tbl := List.mem_of_getElem? (i := 760) (by decide +kernel)
theorem mt_Mo_in : q_mt m_Mo_in 3 := ⟨List.mem_of_getElem? (i := 890) (by decide +kernel), List.mem_of_getElem? (i := 58) (by decide +kernel), ⟨by decide, by decide, by decide +kernel⟩, by decide +kernel, by decide⟩
theorem st_Mo_in : Cond.static m_Mo_in.1 ∈ lw_tbl := List.mem_of_getElem? (i := 889) (by decide +kernel)
theorem mt_Mo_is : q_mt m_Mo_is 1 := ⟨List.mem_of_getElem? (i := 898) (by decide +kernel), List.mem_of_getElem? (i := 58) (by decide +kernel), ⟨by decide, by decide, by decide +kernel⟩, by decide +kernel, by decide⟩
theorem in_Mo_is : Cond.instanceMethod m_Mo_is.1 ∈ lw_tbl := List.mem_of_getElem? (i := 897) (by decide +kernel)
theorem se_Mo_is : Cond.selects m_Mo_is.1.cls m_Mo_is.1 m_Mo_is.1 ∈ lw_tbl := List.mem_of_getElem? (i := 21) (by decide +kernel)
theorem mt_Mo_picture : q_mt m_Mo_picture 1 := ⟨List.mem_of_getElem? (i := 886) (by decide +kernel), List.mem_of_getElem? (i := 58) (by decide +kernel), ⟨by decide, by decide, by decide +kernel⟩, by decide +kernel, by decide⟩
theorem in_Mo_picture : Cond.instanceMethod m_Mo_picture.1 ∈ lw_tbl := List.mem_of_getElem? (i := 884) (by decide +kernel)
theorem se_Mo_picture : Cond.selects m_Mo_picture.1.cls m_Mo_picture.1 m_Mo_picture.1 ∈ lw_tbl := List.mem_of_getElem? (i := 885) (by decide +kernel)
theorem mt_Mo_isStair : q_mt m_Mo_isStair 4 := ⟨List.mem_of_getElem? (i := 901) (by decide +kernel), List.mem_of_getElem? (i := 58) (by decide +kernel), ⟨by decide, by decide, by decide +kernel⟩, by decide +kernel, by decide⟩
theorem st_Mo_isStair : Cond.static m_Mo_isStair.1 ∈ lw_tbl := List.mem_of_getElem? (i := 900) (by decide +kernel)
theorem mt_Mo_isAhead : q_mt m_Mo_isAhead 4 := ⟨List.mem_of_getElem? (i := 909) (by decide +kernel), List.mem_of_getElem? (i := 58) (by decide +kernel), ⟨by decide, by decide, by decide +kernel⟩, by decide +kernel, by decide⟩
theorem in_Mo_isAhead : Cond.instanceMethod m_Mo_isAhead.1 ∈ lw_tbl := List.mem_of_getElem? (i := 908) (by decide +kernel)
theorem se_Mo_isAhead : Cond.selects m_Mo_isAhead.1.cls m_Mo_isAhead.1 m_Mo_isAhead.1 ∈ lw_tbl := List.mem_of_getElem? (i := 23) (by decide +kernel)
theorem mt_Mo_put : q_mt m_Mo_put 4 := ⟨List.mem_of_getElem? (i := 905) (by decide +kernel), List.mem_of_getElem? (i := 58) (by decide +kernel), ⟨by decide, by decide, by decide +kernel⟩, by decide +kernel, by decide⟩
theorem in_Mo_put : Cond.instanceMethod m_Mo_put.1 ∈ lw_tbl := List.mem_of_getElem? (i := 904) (by decide +kernel)
theorem se_Mo_put : Cond.selects m_Mo_put.1.cls m_Mo_put.1 m_Mo_put.1 ∈ lw_tbl := List.mem_of_getElem? (i := 22) (by decide +kernel)
theorem mt_Mo_stair : q_mt m_Mo_stair 4 := ⟨List.mem_of_getElem? (i := 894) (by decide +kernel), List.mem_of_getElem? (i := 58) (by decide +kernel), ⟨by decide, by decide, by decide +kernel⟩, by decide +kernel, by decide⟩
theorem in_Mo_stair : Cond.instanceMethod m_Mo_stair.1 ∈ lw_tbl := List.mem_of_getElem? (i := 892) (by decide +kernel)
theorem se_Mo_stair : Cond.selects m_Mo_stair.1.cls m_Mo_stair.1 m_Mo_stair.1 ∈ lw_tbl := List.mem_of_getElem? (i := 893) (by decide +kernel)
theorem mt_Mo_cut : q_mt m_Mo_cut 4 := ⟨List.mem_of_getElem? (i := 913) (by decide +kernel), List.mem_of_getElem? (i := 58) (by decide +kernel), ⟨by decide, by decide, by decide +kernel⟩, by decide +kernel, by decide⟩
theorem in_Mo_cut : Cond.instanceMethod m_Mo_cut.1 ∈ lw_tbl := List.mem_of_getElem? (i := 911) (by decide +kernel)
theorem se_Mo_cut : Cond.selects m_Mo_cut.1.cls m_Mo_cut.1 m_Mo_cut.1 ∈ lw_tbl := List.mem_of_getElem? (i := 912) (by decide +kernel)
theorem mt_Mo_drop : q_mt m_Mo_drop 0 := ⟨List.mem_of_getElem? (i := 917) (by decide +kernel), List.mem_of_getElem? (i := 58) (by decide +kernel), ⟨by decide, by decide, by decide +kernel⟩, by decide +kernel, by decide⟩
theorem in_Mo_drop : Cond.instanceMethod m_Mo_drop.1 ∈ lw_tbl := List.mem_of_getElem? (i := 915) (by decide +kernel)
theorem se_Mo_drop : Cond.selects m_Mo_drop.1.cls m_Mo_drop.1 m_Mo_drop.1 ∈ lw_tbl := List.mem_of_getElem? (i := 916) (by decide +kernel)
theorem mt_Mo_outOf : q_mt m_Mo_outOf 2 := ⟨List.mem_of_getElem? (i := 930) (by decide +kernel), List.mem_of_getElem? (i := 58) (by decide +kernel), ⟨by decide, by decide, by decide +kernel⟩, by decide +kernel, by decide⟩
theorem in_Mo_outOf : Cond.instanceMethod m_Mo_outOf.1 ∈ lw_tbl := List.mem_of_getElem? (i := 929) (by decide +kernel)
theorem se_Mo_outOf : Cond.selects m_Mo_outOf.1.cls m_Mo_outOf.1 m_Mo_outOf.1 ∈ lw_tbl := List.mem_of_getElem? (i := 25) (by decide +kernel)
theorem mt_Mo_isRight : q_mt m_Mo_isRight 1 := ⟨List.mem_of_getElem? (i := 926) (by decide +kernel), List.mem_of_getElem? (i := 58) (by decide +kernel), ⟨by decide, by decide, by decide +kernel⟩, by decide +kernel, by decide⟩
theorem in_Mo_isRight : Cond.instanceMethod m_Mo_isRight.1 ∈ lw_tbl := List.mem_of_getElem? (i := 925) (by decide +kernel)
theorem se_Mo_isRight : Cond.selects m_Mo_isRight.1.cls m_Mo_isRight.1 m_Mo_isRight.1 ∈ lw_tbl := List.mem_of_getElem? (i := 24) (by decide +kernel)
theorem mt_Mo_knots : q_mt m_Mo_knots 1 := ⟨List.mem_of_getElem? (i := 934) (by decide +kernel), List.mem_of_getElem? (i := 58) (by decide +kernel), ⟨by decide, by decide, by decide +kernel⟩, by decide +kernel, by decide⟩
theorem in_Mo_knots : Cond.instanceMethod m_Mo_knots.1 ∈ lw_tbl := List.mem_of_getElem? (i := 933) (by decide +kernel)
theorem se_Mo_knots : Cond.selects m_Mo_knots.1.cls m_Mo_knots.1 m_Mo_knots.1 ∈ lw_tbl := List.mem_of_getElem? (i := 26) (by decide +kernel)
theorem mt_Mo_partsOf : q_mt m_Mo_partsOf 1 := ⟨List.mem_of_getElem? (i := 938) (by decide +kernel), List.mem_of_getElem? (i := 58) (by decide +kernel), ⟨by decide, by decide, by decide +kernel⟩, by decide +kernel, by decide⟩
theorem in_Mo_partsOf : Cond.instanceMethod m_Mo_partsOf.1 ∈ lw_tbl := List.mem_of_getElem? (i := 937) (by decide +kernel)
theorem se_Mo_partsOf : Cond.selects m_Mo_partsOf.1.cls m_Mo_partsOf.1 m_Mo_partsOf.1 ∈ lw_tbl := List.mem_of_getElem? (i := 27) (by decide +kernel)
theorem mt_Mo_multOf : q_mt m_Mo_multOf 1 := ⟨List.mem_of_getElem? (i := 942) (by decide +kernel), List.mem_of_getElem? (i := 58) (by decide +kernel), ⟨by decide, by decide, by decide +kernel⟩, by decide +kernel, by decide⟩
theorem in_Mo_multOf : Cond.instanceMethod m_Mo_multOf.1 ∈ lw_tbl := List.mem_of_getElem? (i := 941) (by decide +kernel)
theorem se_Mo_multOf : Cond.selects m_Mo_multOf.1.cls m_Mo_multOf.1 m_Mo_multOf.1 ∈ lw_tbl := List.mem_of_getElem? (i := 28) (by decide +kernel)
theorem mt_Mo_signOf : q_mt m_Mo_signOf 1 := ⟨List.mem_of_getElem? (i := 946) (by decide +kernel), List.mem_of_getElem? (i := 58) (by decide +kernel), ⟨by decide, by decide, by decide +kernel⟩, by decide +kernel, by decide⟩
theorem in_Mo_signOf : Cond.instanceMethod m_Mo_signOf.1 ∈ lw_tbl := List.mem_of_getElem? (i := 945) (by decide +kernel)
theorem se_Mo_signOf : Cond.selects m_Mo_signOf.1.cls m_Mo_signOf.1 m_Mo_signOf.1 ∈ lw_tbl := List.mem_of_getElem? (i := 29) (by decide +kernel)
theorem mt_Mo_about : q_mt m_Mo_about 2 := ⟨List.mem_of_getElem? (i := 921) (by decide +kernel), List.mem_of_getElem? (i := 58) (by decide +kernel), ⟨by decide, by decide, by decide +kernel⟩, by decide +kernel, by decide⟩
theorem in_Mo_about : Cond.instanceMethod m_Mo_about.1 ∈ lw_tbl := List.mem_of_getElem? (i := 919) (by decide +kernel)
theorem se_Mo_about : Cond.selects m_Mo_about.1.cls m_Mo_about.1 m_Mo_about.1 ∈ lw_tbl := List.mem_of_getElem? (i := 920) (by decide +kernel)
theorem mt_Mo_told : q_mt m_Mo_told 3 := ⟨List.mem_of_getElem? (i := 950) (by decide +kernel), List.mem_of_getElem? (i := 58) (by decide +kernel), ⟨by decide, by decide, by decide +kernel⟩, by decide +kernel, by decide⟩
theorem in_Mo_told : Cond.instanceMethod m_Mo_told.1 ∈ lw_tbl := List.mem_of_getElem? (i := 948) (by decide +kernel)
theorem se_Mo_told : Cond.selects m_Mo_told.1.cls m_Mo_told.1 m_Mo_told.1 ∈ lw_tbl := List.mem_of_getElem? (i := 949) (by decide +kernel)
theorem mt_Mo_out : q_mt m_Mo_out 2 := ⟨List.mem_of_getElem? (i := 955) (by decide +kernel), List.mem_of_getElem? (i := 58) (by decide +kernel), ⟨by decide, by decide, by decide +kernel⟩, by decide +kernel, by decide⟩
theorem in_Mo_out : Cond.instanceMethod m_Mo_out.1 ∈ lw_tbl := List.mem_of_getElem? (i := 953) (by decide +kernel)
theorem se_Mo_out : Cond.selects m_Mo_out.1.cls m_Mo_out.1 m_Mo_out.1 ∈ lw_tbl := List.mem_of_getElem? (i := 954) (by decide +kernel)
theorem mt_Mo_layPowers : q_mt m_Mo_layPowers 1 := ⟨List.mem_of_getElem? (i := 964) (by decide +kernel), List.mem_of_getElem? (i := 58) (by decide +kernel), ⟨by decide, by decide, by decide +kernel⟩, by decide +kernel, by decide⟩
theorem in_Mo_layPowers : Cond.instanceMethod m_Mo_layPowers.1 ∈ lw_tbl := List.mem_of_getElem? (i := 963) (by decide +kernel)
theorem se_Mo_layPowers : Cond.selects m_Mo_layPowers.1.cls m_Mo_layPowers.1 m_Mo_layPowers.1 ∈ lw_tbl := List.mem_of_getElem? (i := 30) (by decide +kernel)
theorem mt_Mo_spread : q_mt m_Mo_spread 2 := ⟨List.mem_of_getElem? (i := 959) (by decide +kernel), List.mem_of_getElem? (i := 58) (by decide +kernel), ⟨by decide, by decide, by decide +kernel⟩, by decide +kernel, by decide⟩
theorem in_Mo_spread : Cond.instanceMethod m_Mo_spread.1 ∈ lw_tbl := List.mem_of_getElem? (i := 957) (by decide +kernel)
theorem se_Mo_spread : Cond.selects m_Mo_spread.1.cls m_Mo_spread.1 m_Mo_spread.1 ∈ lw_tbl := List.mem_of_getElem? (i := 958) (by decide +kernel)
theorem mt_Mo_kind : q_mt m_Mo_kind 3 := ⟨List.mem_of_getElem? (i := 983) (by decide +kernel), List.mem_of_getElem? (i := 58) (by decide +kernel), ⟨by decide, by decide, by decide +kernel⟩, by decide +kernel, by decide⟩
theorem in_Mo_kind : Cond.instanceMethod m_Mo_kind.1 ∈ lw_tbl := List.mem_of_getElem? (i := 982) (by decide +kernel)
theorem se_Mo_kind : Cond.selects m_Mo_kind.1.cls m_Mo_kind.1 m_Mo_kind.1 ∈ lw_tbl := List.mem_of_getElem? (i := 33) (by decide +kernel)
theorem mt_Mo_layKinds : q_mt m_Mo_layKinds 1 := ⟨List.mem_of_getElem? (i := 979) (by decide +kernel), List.mem_of_getElem? (i := 58) (by decide +kernel), ⟨by decide, by decide, by decide +kernel⟩, by decide +kernel, by decide⟩
theorem in_Mo_layKinds : Cond.instanceMethod m_Mo_layKinds.1 ∈ lw_tbl := List.mem_of_getElem? (i := 978) (by decide +kernel)
theorem se_Mo_layKinds : Cond.selects m_Mo_layKinds.1.cls m_Mo_layKinds.1 m_Mo_layKinds.1 ∈ lw_tbl := List.mem_of_getElem? (i := 32) (by decide +kernel)
theorem mt_Mo_usedOf : q_mt m_Mo_usedOf 2 := ⟨List.mem_of_getElem? (i := 991) (by decide +kernel), List.mem_of_getElem? (i := 58) (by decide +kernel), ⟨by decide, by decide, by decide +kernel⟩, by decide +kernel, by decide⟩
theorem in_Mo_usedOf : Cond.instanceMethod m_Mo_usedOf.1 ∈ lw_tbl := List.mem_of_getElem? (i := 990) (by decide +kernel)
theorem se_Mo_usedOf : Cond.selects m_Mo_usedOf.1.cls m_Mo_usedOf.1 m_Mo_usedOf.1 ∈ lw_tbl := List.mem_of_getElem? (i := 35) (by decide +kernel)
theorem mt_Mo_marked : q_mt m_Mo_marked 3 := ⟨List.mem_of_getElem? (i := 975) (by decide +kernel), List.mem_of_getElem? (i := 58) (by decide +kernel), ⟨by decide, by decide, by decide +kernel⟩, by decide +kernel, by decide⟩
theorem in_Mo_marked : Cond.instanceMethod m_Mo_marked.1 ∈ lw_tbl := List.mem_of_getElem? (i := 974) (by decide +kernel)
theorem se_Mo_marked : Cond.selects m_Mo_marked.1.cls m_Mo_marked.1 m_Mo_marked.1 ∈ lw_tbl := List.mem_of_getElem? (i := 31) (by decide +kernel)
theorem mt_Mo_goOn : q_mt m_Mo_goOn 7 := ⟨List.mem_of_getElem? (i := 987) (by decide +kernel), List.mem_of_getElem? (i := 58) (by decide +kernel), ⟨by decide, by decide, by decide +kernel⟩, by decide +kernel, by decide⟩
theorem in_Mo_goOn : Cond.instanceMethod m_Mo_goOn.1 ∈ lw_tbl := List.mem_of_getElem? (i := 986) (by decide +kernel)
theorem se_Mo_goOn : Cond.selects m_Mo_goOn.1.cls m_Mo_goOn.1 m_Mo_goOn.1 ∈ lw_tbl := List.mem_of_getElem? (i := 34) (by decide +kernel)
theorem mt_Mo_markings : q_mt m_Mo_markings 1 := ⟨List.mem_of_getElem? (i := 971) (by decide +kernel), List.mem_of_getElem? (i := 58) (by decide +kernel), ⟨by decide, by decide, by decide +kernel⟩, by decide +kernel, by decide⟩
theorem in_Mo_markings : Cond.instanceMethod m_Mo_markings.1 ∈ lw_tbl := List.mem_of_getElem? (i := 969) (by decide +kernel)
theorem se_Mo_markings : Cond.selects m_Mo_markings.1.cls m_Mo_markings.1 m_Mo_markings.1 ∈ lw_tbl := List.mem_of_getElem? (i := 970) (by decide +kernel)
theorem mt_Mo_between : q_mt m_Mo_between 3 := ⟨List.mem_of_getElem? (i := 996) (by decide +kernel), List.mem_of_getElem? (i := 58) (by decide +kernel), ⟨by decide, by decide, by decide +kernel⟩, by decide +kernel, by decide⟩
theorem in_Mo_between : Cond.instanceMethod m_Mo_between.1 ∈ lw_tbl := List.mem_of_getElem? (i := 994) (by decide +kernel)
theorem se_Mo_between : Cond.selects m_Mo_between.1.cls m_Mo_between.1 m_Mo_between.1 ∈ lw_tbl := List.mem_of_getElem? (i := 995) (by decide +kernel)
theorem mt_Mo_unlikeAt : q_mt m_Mo_unlikeAt 3 := ⟨List.mem_of_getElem? (i := 1004) (by decide +kernel), List.mem_of_getElem? (i := 58) (by decide +kernel), ⟨by decide, by decide, by decide +kernel⟩, by decide +kernel, by decide⟩
theorem in_Mo_unlikeAt : Cond.instanceMethod m_Mo_unlikeAt.1 ∈ lw_tbl := List.mem_of_getElem? (i := 1003) (by decide +kernel)
theorem se_Mo_unlikeAt : Cond.selects m_Mo_unlikeAt.1.cls m_Mo_unlikeAt.1 m_Mo_unlikeAt.1 ∈ lw_tbl := List.mem_of_getElem? (i := 36) (by decide +kernel)
theorem mt_Mo_unlike : q_mt m_Mo_unlike 2 := ⟨List.mem_of_getElem? (i := 1000) (by decide +kernel), List.mem_of_getElem? (i := 58) (by decide +kernel), ⟨by decide, by decide, by decide +kernel⟩, by decide +kernel, by decide⟩
theorem in_Mo_unlike : Cond.instanceMethod m_Mo_unlike.1 ∈ lw_tbl := List.mem_of_getElem? (i := 998) (by decide +kernel)
theorem se_Mo_unlike : Cond.selects m_Mo_unlike.1.cls m_Mo_unlike.1 m_Mo_unlike.1 ∈ lw_tbl := List.mem_of_getElem? (i := 999) (by decide +kernel)
theorem mt_Mo_turned : q_mt m_Mo_turned 1 := ⟨List.mem_of_getElem? (i := 1008) (by decide +kernel), List.mem_of_getElem? (i := 58) (by decide +kernel), ⟨by decide, by decide, by decide +kernel⟩, by decide +kernel, by decide⟩
theorem in_Mo_turned : Cond.instanceMethod m_Mo_turned.1 ∈ lw_tbl := List.mem_of_getElem? (i := 1006) (by decide +kernel)
theorem se_Mo_turned : Cond.selects m_Mo_turned.1.cls m_Mo_turned.1 m_Mo_turned.1 ∈ lw_tbl := List.mem_of_getElem? (i := 1007) (by decide +kernel)
theorem mt_Mo_pairOf : q_mt m_Mo_pairOf 2 := ⟨List.mem_of_getElem? (i := 1048) (by decide +kernel), List.mem_of_getElem? (i := 58) (by decide +kernel), ⟨by decide, by decide, by decide +kernel⟩, by decide +kernel, by decide⟩
theorem st_Mo_pairOf : Cond.static m_Mo_pairOf.1 ∈ lw_tbl := List.mem_of_getElem? (i := 1047) (by decide +kernel)
theorem mt_Mo_weighedFrom : q_mt m_Mo_weighedFrom 1 := ⟨List.mem_of_getElem? (i := 1045) (by decide +kernel), List.mem_of_getElem? (i := 58) (by decide +kernel), ⟨by decide, by decide, by decide +kernel⟩, by decide +kernel, by decide⟩
theorem in_Mo_weighedFrom : Cond.instanceMethod m_Mo_weighedFrom.1 ∈ lw_tbl := List.mem_of_getElem? (i := 1044) (by decide +kernel)
theorem se_Mo_weighedFrom : Cond.selects m_Mo_weighedFrom.1.cls m_Mo_weighedFrom.1 m_Mo_weighedFrom.1 ∈ lw_tbl := List.mem_of_getElem? (i := 42) (by decide +kernel)
theorem mt_Mo_weighedTo : q_mt m_Mo_weighedTo 1 := ⟨List.mem_of_getElem? (i := 1052) (by decide +kernel), List.mem_of_getElem? (i := 58) (by decide +kernel), ⟨by decide, by decide, by decide +kernel⟩, by decide +kernel, by decide⟩
theorem in_Mo_weighedTo : Cond.instanceMethod m_Mo_weighedTo.1 ∈ lw_tbl := List.mem_of_getElem? (i := 1051) (by decide +kernel)
theorem se_Mo_weighedTo : Cond.selects m_Mo_weighedTo.1.cls m_Mo_weighedTo.1 m_Mo_weighedTo.1 ∈ lw_tbl := List.mem_of_getElem? (i := 43) (by decide +kernel)
theorem mt_Mo_fromOf : q_mt m_Mo_fromOf 1 := ⟨List.mem_of_getElem? (i := 1034) (by decide +kernel), List.mem_of_getElem? (i := 58) (by decide +kernel), ⟨by decide, by decide, by decide +kernel⟩, by decide +kernel, by decide⟩
theorem st_Mo_fromOf : Cond.static m_Mo_fromOf.1 ∈ lw_tbl := List.mem_of_getElem? (i := 1033) (by decide +kernel)
theorem mt_Mo_toOf : q_mt m_Mo_toOf 1 := ⟨List.mem_of_getElem? (i := 1037) (by decide +kernel), List.mem_of_getElem? (i := 58) (by decide +kernel), ⟨by decide, by decide, by decide +kernel⟩, by decide +kernel, by decide⟩
theorem st_Mo_toOf : Cond.static m_Mo_toOf.1 ∈ lw_tbl := List.mem_of_getElem? (i := 1036) (by decide +kernel)
theorem mt_Mo_nextRow : q_mt m_Mo_nextRow 1 := ⟨List.mem_of_getElem? (i := 1041) (by decide +kernel), List.mem_of_getElem? (i := 58) (by decide +kernel), ⟨by decide, by decide, by decide +kernel⟩, by decide +kernel, by decide⟩
theorem in_Mo_nextRow : Cond.instanceMethod m_Mo_nextRow.1 ∈ lw_tbl := List.mem_of_getElem? (i := 1040) (by decide +kernel)
theorem se_Mo_nextRow : Cond.selects m_Mo_nextRow.1.cls m_Mo_nextRow.1 m_Mo_nextRow.1 ∈ lw_tbl := List.mem_of_getElem? (i := 41) (by decide +kernel)
theorem mt_Mo_rowMany : q_mt m_Mo_rowMany 0 := ⟨List.mem_of_getElem? (i := 1027) (by decide +kernel), List.mem_of_getElem? (i := 58) (by decide +kernel), ⟨by decide, by decide, by decide +kernel⟩, by decide +kernel, by decide⟩
theorem in_Mo_rowMany : Cond.instanceMethod m_Mo_rowMany.1 ∈ lw_tbl := List.mem_of_getElem? (i := 1026) (by decide +kernel)
theorem se_Mo_rowMany : Cond.selects m_Mo_rowMany.1.cls m_Mo_rowMany.1 m_Mo_rowMany.1 ∈ lw_tbl := List.mem_of_getElem? (i := 39) (by decide +kernel)
theorem mt_Mo_clearRow : q_mt m_Mo_clearRow 0 := ⟨List.mem_of_getElem? (i := 1023) (by decide +kernel), List.mem_of_getElem? (i := 58) (by decide +kernel), ⟨by decide, by decide, by decide +kernel⟩, by decide +kernel, by decide⟩
theorem in_Mo_clearRow : Cond.instanceMethod m_Mo_clearRow.1 ∈ lw_tbl := List.mem_of_getElem? (i := 1022) (by decide +kernel)
theorem se_Mo_clearRow : Cond.selects m_Mo_clearRow.1.cls m_Mo_clearRow.1 m_Mo_clearRow.1 ∈ lw_tbl := List.mem_of_getElem? (i := 38) (by decide +kernel)
theorem mt_Mo_layRow : q_mt m_Mo_layRow 2 := ⟨List.mem_of_getElem? (i := 1031) (by decide +kernel), List.mem_of_getElem? (i := 58) (by decide +kernel), ⟨by decide, by decide, by decide +kernel⟩, by decide +kernel, by decide⟩
theorem in_Mo_layRow : Cond.instanceMethod m_Mo_layRow.1 ∈ lw_tbl := List.mem_of_getElem? (i := 1030) (by decide +kernel)
theorem se_Mo_layRow : Cond.selects m_Mo_layRow.1.cls m_Mo_layRow.1 m_Mo_layRow.1 ∈ lw_tbl := List.mem_of_getElem? (i := 40) (by decide +kernel)
theorem mt_Mo_areKnots : q_mt m_Mo_areKnots 2 := ⟨List.mem_of_getElem? (i := 1015) (by decide +kernel), List.mem_of_getElem? (i := 58) (by decide +kernel), ⟨by decide, by decide, by decide +kernel⟩, by decide +kernel, by decide⟩
theorem st_Mo_areKnots : Cond.static m_Mo_areKnots.1 ∈ lw_tbl := List.mem_of_getElem? (i := 1014) (by decide +kernel)
theorem mt_Mo_find : q_mt m_Mo_find 2 := ⟨List.mem_of_getElem? (i := 1019) (by decide +kernel), List.mem_of_getElem? (i := 58) (by decide +kernel), ⟨by decide, by decide, by decide +kernel⟩, by decide +kernel, by decide⟩
theorem in_Mo_find : Cond.instanceMethod m_Mo_find.1 ∈ lw_tbl := List.mem_of_getElem? (i := 1018) (by decide +kernel)
theorem se_Mo_find : Cond.selects m_Mo_find.1.cls m_Mo_find.1 m_Mo_find.1 ∈ lw_tbl := List.mem_of_getElem? (i := 37) (by decide +kernel)
theorem mt_Mo_count : q_mt m_Mo_count 2 := ⟨List.mem_of_getElem? (i := 1012) (by decide +kernel), List.mem_of_getElem? (i := 58) (by decide +kernel), ⟨by decide, by decide, by decide +kernel⟩, by decide +kernel, by decide⟩
theorem in_Mo_count : Cond.instanceMethod m_Mo_count.1 ∈ lw_tbl := List.mem_of_getElem? (i := 1010) (by decide +kernel)
theorem se_Mo_count : Cond.selects m_Mo_count.1.cls m_Mo_count.1 m_Mo_count.1 ∈ lw_tbl := List.mem_of_getElem? (i := 1011) (by decide +kernel)
theorem mt_Mo_signed : q_mt m_Mo_signed 2 := ⟨List.mem_of_getElem? (i := 1056) (by decide +kernel), List.mem_of_getElem? (i := 58) (by decide +kernel), ⟨by decide, by decide, by decide +kernel⟩, by decide +kernel, by decide⟩
theorem in_Mo_signed : Cond.instanceMethod m_Mo_signed.1 ∈ lw_tbl := List.mem_of_getElem? (i := 1054) (by decide +kernel)
theorem se_Mo_signed : Cond.selects m_Mo_signed.1.cls m_Mo_signed.1 m_Mo_signed.1 ∈ lw_tbl := List.mem_of_getElem? (i := 1055) (by decide +kernel)
theorem mt_Mo_spreadAll : q_mt m_Mo_spreadAll 3 := ⟨List.mem_of_getElem? (i := 1060) (by decide +kernel), List.mem_of_getElem? (i := 58) (by decide +kernel), ⟨by decide, by decide, by decide +kernel⟩, by decide +kernel, by decide⟩
theorem in_Mo_spreadAll : Cond.instanceMethod m_Mo_spreadAll.1 ∈ lw_tbl := List.mem_of_getElem? (i := 1058) (by decide +kernel)
theorem se_Mo_spreadAll : Cond.selects m_Mo_spreadAll.1.cls m_Mo_spreadAll.1 m_Mo_spreadAll.1 ∈ lw_tbl := List.mem_of_getElem? (i := 1059) (by decide +kernel)
theorem mt_Mo_listed : q_mt m_Mo_listed 2 := ⟨List.mem_of_getElem? (i := 1064) (by decide +kernel), List.mem_of_getElem? (i := 58) (by decide +kernel), ⟨by decide, by decide, by decide +kernel⟩, by decide +kernel, by decide⟩
theorem in_Mo_listed : Cond.instanceMethod m_Mo_listed.1 ∈ lw_tbl := List.mem_of_getElem? (i := 1062) (by decide +kernel)
theorem se_Mo_listed : Cond.selects m_Mo_listed.1.cls m_Mo_listed.1 m_Mo_listed.1 ∈ lw_tbl := List.mem_of_getElem? (i := 1063) (by decide +kernel)
theorem mt_Mo_take : q_mt m_Mo_take 3 := ⟨List.mem_of_getElem? (i := 1068) (by decide +kernel), List.mem_of_getElem? (i := 58) (by decide +kernel), ⟨by decide, by decide, by decide +kernel⟩, by decide +kernel, by decide⟩
theorem in_Mo_take : Cond.instanceMethod m_Mo_take.1 ∈ lw_tbl := List.mem_of_getElem? (i := 1066) (by decide +kernel)
theorem se_Mo_take : Cond.selects m_Mo_take.1.cls m_Mo_take.1 m_Mo_take.1 ∈ lw_tbl := List.mem_of_getElem? (i := 1067) (by decide +kernel)
theorem mt_Mo_place : q_mt m_Mo_place 1 := ⟨List.mem_of_getElem? (i := 1072) (by decide +kernel), List.mem_of_getElem? (i := 58) (by decide +kernel), ⟨by decide, by decide, by decide +kernel⟩, by decide +kernel, by decide⟩
theorem in_Mo_place : Cond.instanceMethod m_Mo_place.1 ∈ lw_tbl := List.mem_of_getElem? (i := 1070) (by decide +kernel)
theorem se_Mo_place : Cond.selects m_Mo_place.1.cls m_Mo_place.1 m_Mo_place.1 ∈ lw_tbl := List.mem_of_getElem? (i := 1071) (by decide +kernel)
theorem mt_Mo_feed : q_mt m_Mo_feed 1 := ⟨List.mem_of_getElem? (i := 1076) (by decide +kernel), List.mem_of_getElem? (i := 58) (by decide +kernel), ⟨by decide, by decide, by decide +kernel⟩, by decide +kernel, by decide⟩
theorem in_Mo_feed : Cond.instanceMethod m_Mo_feed.1 ∈ lw_tbl := List.mem_of_getElem? (i := 1074) (by decide +kernel)
theorem se_Mo_feed : Cond.selects m_Mo_feed.1.cls m_Mo_feed.1 m_Mo_feed.1 ∈ lw_tbl := List.mem_of_getElem? (i := 1075) (by decide +kernel)
theorem mt_Mo_end : q_mt m_Mo_end 1 := ⟨List.mem_of_getElem? (i := 1080) (by decide +kernel), List.mem_of_getElem? (i := 58) (by decide +kernel), ⟨by decide, by decide, by decide +kernel⟩, by decide +kernel, by decide⟩
theorem in_Mo_end : Cond.instanceMethod m_Mo_end.1 ∈ lw_tbl := List.mem_of_getElem? (i := 1078) (by decide +kernel)
theorem se_Mo_end : Cond.selects m_Mo_end.1.cls m_Mo_end.1 m_Mo_end.1 ∈ lw_tbl := List.mem_of_getElem? (i := 1079) (by decide +kernel)
theorem mt_Mo_next : q_mt m_Mo_next 0 := ⟨List.mem_of_getElem? (i := 1088) (by decide +kernel), List.mem_of_getElem? (i := 58) (by decide +kernel), ⟨by decide, by decide, by decide +kernel⟩, by decide +kernel, by decide⟩
theorem in_Mo_next : Cond.instanceMethod m_Mo_next.1 ∈ lw_tbl := List.mem_of_getElem? (i := 1087) (by decide +kernel)
theorem se_Mo_next : Cond.selects m_Mo_next.1.cls m_Mo_next.1 m_Mo_next.1 ∈ lw_tbl := List.mem_of_getElem? (i := 44) (by decide +kernel)
theorem mt_Mo_isLetter : q_mt m_Mo_isLetter 1 := ⟨List.mem_of_getElem? (i := 1094) (by decide +kernel), List.mem_of_getElem? (i := 58) (by decide +kernel), ⟨by decide, by decide, by decide +kernel⟩, by decide +kernel, by decide⟩
theorem st_Mo_isLetter : Cond.static m_Mo_isLetter.1 ∈ lw_tbl := List.mem_of_getElem? (i := 1093) (by decide +kernel)
theorem mt_Mo_isToken : q_mt m_Mo_isToken 1 := ⟨List.mem_of_getElem? (i := 1091) (by decide +kernel), List.mem_of_getElem? (i := 58) (by decide +kernel), ⟨by decide, by decide, by decide +kernel⟩, by decide +kernel, by decide⟩
theorem st_Mo_isToken : Cond.static m_Mo_isToken.1 ∈ lw_tbl := List.mem_of_getElem? (i := 1090) (by decide +kernel)
theorem mt_Mo_text : q_mt m_Mo_text 0 := ⟨List.mem_of_getElem? (i := 1084) (by decide +kernel), List.mem_of_getElem? (i := 58) (by decide +kernel), ⟨by decide, by decide, by decide +kernel⟩, by decide +kernel, by decide⟩
theorem in_Mo_text : Cond.instanceMethod m_Mo_text.1 ∈ lw_tbl := List.mem_of_getElem? (i := 1082) (by decide +kernel)
theorem se_Mo_text : Cond.selects m_Mo_text.1.cls m_Mo_text.1 m_Mo_text.1 ∈ lw_tbl := List.mem_of_getElem? (i := 1083) (by decide +kernel)
theorem mt_Mo_fault : q_mt m_Mo_fault 0 := ⟨List.mem_of_getElem? (i := 1100) (by decide +kernel), List.mem_of_getElem? (i := 58) (by decide +kernel), ⟨by decide, by decide, by decide +kernel⟩, by decide +kernel, by decide⟩
theorem in_Mo_fault : Cond.instanceMethod m_Mo_fault.1 ∈ lw_tbl := List.mem_of_getElem? (i := 1098) (by decide +kernel)
theorem se_Mo_fault : Cond.selects m_Mo_fault.1.cls m_Mo_fault.1 m_Mo_fault.1 ∈ lw_tbl := List.mem_of_getElem? (i := 1099) (by decide +kernel)
theorem mt_Mo_sumOf : q_mt m_Mo_sumOf 2 := ⟨List.mem_of_getElem? (i := 1116) (by decide +kernel), List.mem_of_getElem? (i := 58) (by decide +kernel), ⟨by decide, by decide, by decide +kernel⟩, by decide +kernel, by decide⟩
theorem st_Mo_sumOf : Cond.static m_Mo_sumOf.1 ∈ lw_tbl := List.mem_of_getElem? (i := 1115) (by decide +kernel)
theorem mt_Mo_indexOf : q_mt m_Mo_indexOf 2 := ⟨List.mem_of_getElem? (i := 1124) (by decide +kernel), List.mem_of_getElem? (i := 58) (by decide +kernel), ⟨by decide, by decide, by decide +kernel⟩, by decide +kernel, by decide⟩
theorem in_Mo_indexOf : Cond.instanceMethod m_Mo_indexOf.1 ∈ lw_tbl := List.mem_of_getElem? (i := 1123) (by decide +kernel)
theorem se_Mo_indexOf : Cond.selects m_Mo_indexOf.1.cls m_Mo_indexOf.1 m_Mo_indexOf.1 ∈ lw_tbl := List.mem_of_getElem? (i := 48) (by decide +kernel)
theorem mt_Mo_layRows : q_mt m_Mo_layRows 0 := ⟨List.mem_of_getElem? (i := 1113) (by decide +kernel), List.mem_of_getElem? (i := 58) (by decide +kernel), ⟨by decide, by decide, by decide +kernel⟩, by decide +kernel, by decide⟩
theorem in_Mo_layRows : Cond.instanceMethod m_Mo_layRows.1 ∈ lw_tbl := List.mem_of_getElem? (i := 1112) (by decide +kernel)
theorem se_Mo_layRows : Cond.selects m_Mo_layRows.1.cls m_Mo_layRows.1 m_Mo_layRows.1 ∈ lw_tbl := List.mem_of_getElem? (i := 46) (by decide +kernel)
theorem mt_Mo_choose : q_mt m_Mo_choose 2 := ⟨List.mem_of_getElem? (i := 1134) (by decide +kernel), List.mem_of_getElem? (i := 58) (by decide +kernel), ⟨by decide, by decide, by decide +kernel⟩, by decide +kernel, by decide⟩
theorem st_Mo_choose : Cond.static m_Mo_choose.1 ∈ lw_tbl := List.mem_of_getElem? (i := 1133) (by decide +kernel)
theorem mt_Mo_power : q_mt m_Mo_power 2 := ⟨List.mem_of_getElem? (i := 1131) (by decide +kernel), List.mem_of_getElem? (i := 58) (by decide +kernel), ⟨by decide, by decide, by decide +kernel⟩, by decide +kernel, by decide⟩
theorem st_Mo_power : Cond.static m_Mo_power.1 ∈ lw_tbl := List.mem_of_getElem? (i := 1130) (by decide +kernel)
theorem mt_Mo_reckon : q_mt m_Mo_reckon 1 := ⟨List.mem_of_getElem? (i := 1120) (by decide +kernel), List.mem_of_getElem? (i := 58) (by decide +kernel), ⟨by decide, by decide, by decide +kernel⟩, by decide +kernel, by decide⟩
theorem in_Mo_reckon : Cond.instanceMethod m_Mo_reckon.1 ∈ lw_tbl := List.mem_of_getElem? (i := 1119) (by decide +kernel)
theorem se_Mo_reckon : Cond.selects m_Mo_reckon.1.cls m_Mo_reckon.1 m_Mo_reckon.1 ∈ lw_tbl := List.mem_of_getElem? (i := 47) (by decide +kernel)
theorem mt_Mo_goes : q_mt m_Mo_goes 4 := ⟨List.mem_of_getElem? (i := 1128) (by decide +kernel), List.mem_of_getElem? (i := 58) (by decide +kernel), ⟨by decide, by decide, by decide +kernel⟩, by decide +kernel, by decide⟩
theorem in_Mo_goes : Cond.instanceMethod m_Mo_goes.1 ∈ lw_tbl := List.mem_of_getElem? (i := 1127) (by decide +kernel)
theorem se_Mo_goes : Cond.selects m_Mo_goes.1.cls m_Mo_goes.1 m_Mo_goes.1 ∈ lw_tbl := List.mem_of_getElem? (i := 49) (by decide +kernel)
theorem mt_Mo_layWorths : q_mt m_Mo_layWorths 0 := ⟨List.mem_of_getElem? (i := 1109) (by decide +kernel), List.mem_of_getElem? (i := 58) (by decide +kernel), ⟨by decide, by decide, by decide +kernel⟩, by decide +kernel, by decide⟩
theorem in_Mo_layWorths : Cond.instanceMethod m_Mo_layWorths.1 ∈ lw_tbl := List.mem_of_getElem? (i := 1108) (by decide +kernel)
theorem se_Mo_layWorths : Cond.selects m_Mo_layWorths.1.cls m_Mo_layWorths.1 m_Mo_layWorths.1 ∈ lw_tbl := List.mem_of_getElem? (i := 45) (by decide +kernel)
theorem mt_Mo_tangent : q_mt m_Mo_tangent 1 := ⟨List.mem_of_getElem? (i := 1104) (by decide +kernel), List.mem_of_getElem? (i := 58) (by decide +kernel), ⟨by decide, by decide, by decide +kernel⟩, by decide +kernel, by decide⟩
theorem in_Mo_tangent : Cond.instanceMethod m_Mo_tangent.1 ∈ lw_tbl := List.mem_of_getElem? (i := 1102) (by decide +kernel)
theorem se_Mo_tangent : Cond.selects m_Mo_tangent.1.cls m_Mo_tangent.1 m_Mo_tangent.1 ∈ lw_tbl := List.mem_of_getElem? (i := 1103) (by decide +kernel)
theorem mt_Mo_has : q_mt m_Mo_has 2 := ⟨List.mem_of_getElem? (i := 1138) (by decide +kernel), List.mem_of_getElem? (i := 58) (by decide +kernel), ⟨by decide, by decide, by decide +kernel⟩, by decide +kernel, by decide⟩
theorem in_Mo_has : Cond.instanceMethod m_Mo_has.1 ∈ lw_tbl := List.mem_of_getElem? (i := 1136) (by decide +kernel)
theorem se_Mo_has : Cond.selects m_Mo_has.1.cls m_Mo_has.1 m_Mo_has.1 ∈ lw_tbl := List.mem_of_getElem? (i := 1137) (by decide +kernel)
theorem mt_Mo_rational : q_mt m_Mo_rational 1 := ⟨List.mem_of_getElem? (i := 1143) (by decide +kernel), List.mem_of_getElem? (i := 58) (by decide +kernel), ⟨by decide, by decide, by decide +kernel⟩, by decide +kernel, by decide⟩
theorem in_Mo_rational : Cond.instanceMethod m_Mo_rational.1 ∈ lw_tbl := List.mem_of_getElem? (i := 1141) (by decide +kernel)
theorem se_Mo_rational : Cond.selects m_Mo_rational.1.cls m_Mo_rational.1 m_Mo_rational.1 ∈ lw_tbl := List.mem_of_getElem? (i := 1142) (by decide +kernel)
theorem mt_Mo_sheet : q_mt m_Mo_sheet 3 := ⟨List.mem_of_getElem? (i := 1148) (by decide +kernel), List.mem_of_getElem? (i := 58) (by decide +kernel), ⟨by decide, by decide, by decide +kernel⟩, by decide +kernel, by decide⟩
theorem in_Mo_sheet : Cond.instanceMethod m_Mo_sheet.1 ∈ lw_tbl := List.mem_of_getElem? (i := 1146) (by decide +kernel)
theorem se_Mo_sheet : Cond.selects m_Mo_sheet.1.cls m_Mo_sheet.1 m_Mo_sheet.1 ∈ lw_tbl := List.mem_of_getElem? (i := 1147) (by decide +kernel)
theorem mt_Mo_lay : q_mt m_Mo_lay 3 := ⟨List.mem_of_getElem? (i := 1153) (by decide +kernel), List.mem_of_getElem? (i := 58) (by decide +kernel), ⟨by decide, by decide, by decide +kernel⟩, by decide +kernel, by decide⟩
theorem in_Mo_lay : Cond.instanceMethod m_Mo_lay.1 ∈ lw_tbl := List.mem_of_getElem? (i := 1151) (by decide +kernel)
theorem se_Mo_lay : Cond.selects m_Mo_lay.1.cls m_Mo_lay.1 m_Mo_lay.1 ∈ lw_tbl := List.mem_of_getElem? (i := 1152) (by decide +kernel)
theorem mt_Mo_draw : q_mt m_Mo_draw 5 := ⟨List.mem_of_getElem? (i := 1157) (by decide +kernel), List.mem_of_getElem? (i := 58) (by decide +kernel), ⟨by decide, by decide, by decide +kernel⟩, by decide +kernel, by decide⟩
theorem in_Mo_draw : Cond.instanceMethod m_Mo_draw.1 ∈ lw_tbl := List.mem_of_getElem? (i := 1155) (by decide +kernel)
theorem se_Mo_draw : Cond.selects m_Mo_draw.1.cls m_Mo_draw.1 m_Mo_draw.1 ∈ lw_tbl := List.mem_of_getElem? (i := 1156) (by decide +kernel)
theorem mt_Mo_many : q_mt m_Mo_many 1 := ⟨List.mem_of_getElem? (i := 1161) (by decide +kernel), List.mem_of_getElem? (i := 58) (by decide +kernel), ⟨by decide, by decide, by decide +kernel⟩, by decide +kernel, by decide⟩
theorem in_Mo_many : Cond.instanceMethod m_Mo_many.1 ∈ lw_tbl := List.mem_of_getElem? (i := 1159) (by decide +kernel)
theorem se_Mo_many : Cond.selects m_Mo_many.1.cls m_Mo_many.1 m_Mo_many.1 ∈ lw_tbl := List.mem_of_getElem? (i := 1160) (by decide +kernel)
theorem st_Mth_abs : Cond.static m_Mth_abs.1 ∈ lw_tbl := List.mem_of_getElem? (i := 387) (by decide +kernel)
theorem st_Mth_min : Cond.static m_Mth_min.1 ∈ lw_tbl := List.mem_of_getElem? (i := 430) (by decide +kernel)
theorem mt_Arr_fillL : q_mt m_Arr_fillL 2 := ⟨List.mem_of_getElem? (i := 379) (by decide +kernel), List.mem_of_getElem? (i := 59) (by decide +kernel), ⟨by decide, by decide, by decide +kernel⟩, by decide +kernel, by decide⟩
theorem st_Arr_fillL : Cond.static m_Arr_fillL.1 ∈ lw_tbl := List.mem_of_getElem? (i := 378) (by decide +kernel)
theorem mt_Arr_fillI : q_mt m_Arr_fillI 2 := ⟨List.mem_of_getElem? (i := 244) (by decide +kernel), List.mem_of_getElem? (i := 59) (by decide +kernel), ⟨by decide, by decide, by decide +kernel⟩, by decide +kernel, by decide⟩
theorem st_Arr_fillI : Cond.static m_Arr_fillI.1 ∈ lw_tbl := List.mem_of_getElem? (i := 243) (by decide +kernel)
theorem ln_Law_7 : q_ln "FloorCurvesLaw" 7 7 10 := ⟨_, rfl, rfl, List.mem_of_getElem? (i := 64) (by decide +kernel), List.mem_of_getElem? (i := 65) (by decide +kernel), List.mem_of_getElem? (i := 51) (by decide +kernel)⟩
theorem lc_Law_7 : Cond.classLink "FloorCurvesLaw" 7 "FloorCurves" ∈ lw_tbl := List.mem_of_getElem? (i := 64) (by decide +kernel)
theorem lk_Law_9 : Cond.methodLink "FloorCurvesLaw" 9 m_FC_init.1 ∈ lw_tbl := List.mem_of_getElem? (i := 66) (by decide +kernel)
theorem lk_FC_3 : Cond.methodLink "FloorCurves" 3 objectInit ∈ lw_tbl := List.mem_of_getElem? (i := 69) (by decide +kernel)
theorem ln_FC_9 : q_ln "FloorCurves" 9 2 4 := ⟨_, rfl, rfl, List.mem_of_getElem? (i := 72) (by decide +kernel), List.mem_of_getElem? (i := 74) (by decide +kernel), List.mem_of_getElem? (i := 52) (by decide +kernel)⟩
theorem lc_FC_9 : Cond.classLink "FloorCurves" 9 "FloorCurves$Picture" ∈ lw_tbl := List.mem_of_getElem? (i := 72) (by decide +kernel)
theorem ao_Pic : Cond.arrayOver (.object "FloorCurves$Picture") ∈ lw_tbl := List.mem_of_getElem? (i := 73) (by decide +kernel)
theorem lk_FC_15 : Cond.methodLinkNest "FloorCurves" 15 m_Pic_init.1 "FloorCurves" ∈ lw_tbl := List.mem_of_getElem? (i := 75) (by decide +kernel)
theorem lk_Pic_3 : Cond.methodLink "FloorCurves$Picture" 3 objectInit ∈ lw_tbl := List.mem_of_getElem? (i := 78) (by decide +kernel)
theorem lf_Pic_9 : q_lf "FloorCurves$Picture" 9 2 0 := ⟨_, rfl, by decide, List.mem_of_getElem? (i := 79) (by decide +kernel)⟩
theorem lf_Pic_26 : q_lf "FloorCurves$Picture" 26 2 1 := ⟨_, rfl, by decide, List.mem_of_getElem? (i := 80) (by decide +kernel)⟩
theorem lf_Pic_15 : q_lf "FloorCurves$Picture" 15 2 2 := ⟨_, rfl, by decide, List.mem_of_getElem? (i := 81) (by decide +kernel)⟩
theorem lf_Pic_19 : q_lf "FloorCurves$Picture" 19 2 3 := ⟨_, rfl, by decide, List.mem_of_getElem? (i := 82) (by decide +kernel)⟩
theorem ln_FC_20 : q_ln "FloorCurves" 20 1 7 := ⟨_, rfl, rfl, List.mem_of_getElem? (i := 93) (by decide +kernel), List.mem_of_getElem? (i := 94) (by decide +kernel), List.mem_of_getElem? (i := 53) (by decide +kernel)⟩
theorem lc_FC_20 : Cond.classLink "FloorCurves" 20 "FloorCurves$Marker" ∈ lw_tbl := List.mem_of_getElem? (i := 93) (by decide +kernel)
theorem lk_FC_22 : Cond.methodLinkNest "FloorCurves" 22 m_Mk_init.1 "FloorCurves" ∈ lw_tbl := List.mem_of_getElem? (i := 95) (by decide +kernel)
theorem lk_Mk_3 : Cond.methodLink "FloorCurves$Marker" 3 objectInit ∈ lw_tbl := List.mem_of_getElem? (i := 98) (by decide +kernel)
theorem lf_Mk_11 : q_lf "FloorCurves$Marker" 11 1 0 := ⟨_, rfl, by decide, List.mem_of_getElem? (i := 99) (by decide +kernel)⟩
theorem lf_Mk_15 : q_lf "FloorCurves$Marker" 15 1 1 := ⟨_, rfl, by decide, List.mem_of_getElem? (i := 100) (by decide +kernel)⟩
theorem lf_Mk_18 : q_lf "FloorCurves$Marker" 18 1 2 := ⟨_, rfl, by decide, List.mem_of_getElem? (i := 101) (by decide +kernel)⟩
theorem lf_Mk_21 : q_lf "FloorCurves$Marker" 21 1 3 := ⟨_, rfl, by decide, List.mem_of_getElem? (i := 102) (by decide +kernel)⟩
theorem lf_Mk_30 : q_lf "FloorCurves$Marker" 30 1 4 := ⟨_, rfl, by decide, List.mem_of_getElem? (i := 103) (by decide +kernel)⟩
theorem lf_Mk_34 : q_lf "FloorCurves$Marker" 34 1 5 := ⟨_, rfl, by decide, List.mem_of_getElem? (i := 104) (by decide +kernel)⟩
theorem lf_Mk_37 : q_lf "FloorCurves$Marker" 37 1 6 := ⟨_, rfl, by decide, List.mem_of_getElem? (i := 105) (by decide +kernel)⟩
theorem ln_FC_27 : q_ln "FloorCurves" 27 3 3 := ⟨_, rfl, rfl, List.mem_of_getElem? (i := 121) (by decide +kernel), List.mem_of_getElem? (i := 122) (by decide +kernel), List.mem_of_getElem? (i := 54) (by decide +kernel)⟩
theorem lc_FC_27 : Cond.classLink "FloorCurves" 27 "FloorCurves$Powers" ∈ lw_tbl := List.mem_of_getElem? (i := 121) (by decide +kernel)
theorem lk_FC_29 : Cond.methodLinkNest "FloorCurves" 29 m_Pow_init.1 "FloorCurves" ∈ lw_tbl := List.mem_of_getElem? (i := 123) (by decide +kernel)
theorem lk_Pow_5 : Cond.methodLink "FloorCurves$Powers" 5 objectInit ∈ lw_tbl := List.mem_of_getElem? (i := 126) (by decide +kernel)
theorem lf_Pow_11 : q_lf "FloorCurves$Powers" 11 3 0 := ⟨_, rfl, by decide, List.mem_of_getElem? (i := 127) (by decide +kernel)⟩
theorem lf_Pow_15 : q_lf "FloorCurves$Powers" 15 3 1 := ⟨_, rfl, by decide, List.mem_of_getElem? (i := 128) (by decide +kernel)⟩
theorem lf_Pow_24 : q_lf "FloorCurves$Powers" 24 3 2 := ⟨_, rfl, by decide, List.mem_of_getElem? (i := 129) (by decide +kernel)⟩
theorem ln_FC_34 : q_ln "FloorCurves" 34 0 11 := ⟨_, rfl, rfl, List.mem_of_getElem? (i := 138) (by decide +kernel), List.mem_of_getElem? (i := 448) (by decide +kernel), List.mem_of_getElem? (i := 62) (by decide +kernel)⟩
theorem lc_FC_34 : Cond.classLink "FloorCurves" 34 "FloorCurves$Catalogue" ∈ lw_tbl := List.mem_of_getElem? (i := 138) (by decide +kernel)
theorem ao_Cat : Cond.arrayOver (.object "FloorCurves$Catalogue") ∈ lw_tbl := List.mem_of_getElem? (i := 139) (by decide +kernel)
theorem ln_FC_40 : q_ln "FloorCurves" 40 6 4 := ⟨_, rfl, rfl, List.mem_of_getElem? (i := 140) (by decide +kernel), List.mem_of_getElem? (i := 141) (by decide +kernel), List.mem_of_getElem? (i := 55) (by decide +kernel)⟩
theorem lc_FC_40 : Cond.classLink "FloorCurves" 40 "FloorCurves$Tape" ∈ lw_tbl := List.mem_of_getElem? (i := 140) (by decide +kernel)
theorem lk_FC_42 : Cond.methodLinkNest "FloorCurves" 42 m_Tp_init.1 "FloorCurves" ∈ lw_tbl := List.mem_of_getElem? (i := 142) (by decide +kernel)
theorem lk_Tp_3 : Cond.methodLink "FloorCurves$Tape" 3 objectInit ∈ lw_tbl := List.mem_of_getElem? (i := 145) (by decide +kernel)
theorem lf_Tp_11 : q_lf "FloorCurves$Tape" 11 6 0 := ⟨_, rfl, by decide, List.mem_of_getElem? (i := 146) (by decide +kernel)⟩
theorem lf_Tp_21 : q_lf "FloorCurves$Tape" 21 6 1 := ⟨_, rfl, by decide, List.mem_of_getElem? (i := 147) (by decide +kernel)⟩
theorem lf_Tp_17 : q_lf "FloorCurves$Tape" 17 6 2 := ⟨_, rfl, by decide, List.mem_of_getElem? (i := 148) (by decide +kernel)⟩
theorem lf_Tp_24 : q_lf "FloorCurves$Tape" 24 6 3 := ⟨_, rfl, by decide, List.mem_of_getElem? (i := 149) (by decide +kernel)⟩
theorem ln_FC_47 : q_ln "FloorCurves" 47 5 5 := ⟨_, rfl, rfl, List.mem_of_getElem? (i := 160) (by decide +kernel), List.mem_of_getElem? (i := 161) (by decide +kernel), List.mem_of_getElem? (i := 56) (by decide +kernel)⟩
theorem lc_FC_47 : Cond.classLink "FloorCurves" 47 "FloorCurves$Tangents" ∈ lw_tbl := List.mem_of_getElem? (i := 160) (by decide +kernel)
theorem lk_FC_49 : Cond.methodLinkNest "FloorCurves" 49 m_Tg_init.1 "FloorCurves" ∈ lw_tbl := List.mem_of_getElem? (i := 162) (by decide +kernel)
theorem lk_Tg_3 : Cond.methodLink "FloorCurves$Tangents" 3 objectInit ∈ lw_tbl := List.mem_of_getElem? (i := 165) (by decide +kernel)
theorem lf_Tg_11 : q_lf "FloorCurves$Tangents" 11 5 0 := ⟨_, rfl, by decide, List.mem_of_getElem? (i := 166) (by decide +kernel)⟩
theorem lf_Tg_15 : q_lf "FloorCurves$Tangents" 15 5 1 := ⟨_, rfl, by decide, List.mem_of_getElem? (i := 167) (by decide +kernel)⟩
theorem lf_Tg_19 : q_lf "FloorCurves$Tangents" 19 5 2 := ⟨_, rfl, by decide, List.mem_of_getElem? (i := 168) (by decide +kernel)⟩
theorem lf_Tg_40 : q_lf "FloorCurves$Tangents" 40 5 3 := ⟨_, rfl, by decide, List.mem_of_getElem? (i := 169) (by decide +kernel)⟩
theorem lf_Tg_28 : q_lf "FloorCurves$Tangents" 28 5 4 := ⟨_, rfl, by decide, List.mem_of_getElem? (i := 170) (by decide +kernel)⟩
theorem ln_FC_58 : q_ln "FloorCurves" 58 4 3 := ⟨_, rfl, rfl, List.mem_of_getElem? (i := 182) (by decide +kernel), List.mem_of_getElem? (i := 184) (by decide +kernel), List.mem_of_getElem? (i := 57) (by decide +kernel)⟩
theorem lc_FC_58 : Cond.classLink "FloorCurves" 58 "FloorCurves$Sheet" ∈ lw_tbl := List.mem_of_getElem? (i := 182) (by decide +kernel)
theorem ao_Sh : Cond.arrayOver (.object "FloorCurves$Sheet") ∈ lw_tbl := List.mem_of_getElem? (i := 183) (by decide +kernel)
theorem lk_FC_64 : Cond.methodLinkNest "FloorCurves" 64 m_Sh_init.1 "FloorCurves" ∈ lw_tbl := List.mem_of_getElem? (i := 185) (by decide +kernel)
theorem lk_Sh_1 : Cond.methodLink "FloorCurves$Sheet" 1 objectInit ∈ lw_tbl := List.mem_of_getElem? (i := 188) (by decide +kernel)
theorem lf_Sh_9 : q_lf "FloorCurves$Sheet" 9 4 0 := ⟨_, rfl, by decide, List.mem_of_getElem? (i := 189) (by decide +kernel)⟩
theorem lf_Sh_13 : q_lf "FloorCurves$Sheet" 13 4 1 := ⟨_, rfl, by decide, List.mem_of_getElem? (i := 190) (by decide +kernel)⟩
theorem lf_Sh_21 : q_lf "FloorCurves$Sheet" 21 4 2 := ⟨_, rfl, by decide, List.mem_of_getElem? (i := 191) (by decide +kernel)⟩
theorem lf_FC_11 : q_lf "FloorCurves" 11 7 0 := ⟨_, rfl, by decide, List.mem_of_getElem? (i := 199) (by decide +kernel)⟩
theorem lf_FC_16 : q_lf "FloorCurves" 16 7 1 := ⟨_, rfl, by decide, List.mem_of_getElem? (i := 200) (by decide +kernel)⟩
theorem lf_FC_23 : q_lf "FloorCurves" 23 7 2 := ⟨_, rfl, by decide, List.mem_of_getElem? (i := 201) (by decide +kernel)⟩
theorem lf_FC_30 : q_lf "FloorCurves" 30 7 3 := ⟨_, rfl, by decide, List.mem_of_getElem? (i := 202) (by decide +kernel)⟩
theorem lf_FC_36 : q_lf "FloorCurves" 36 7 4 := ⟨_, rfl, by decide, List.mem_of_getElem? (i := 203) (by decide +kernel)⟩
theorem lf_FC_43 : q_lf "FloorCurves" 43 7 5 := ⟨_, rfl, by decide, List.mem_of_getElem? (i := 204) (by decide +kernel)⟩
theorem lf_FC_50 : q_lf "FloorCurves" 50 7 6 := ⟨_, rfl, by decide, List.mem_of_getElem? (i := 205) (by decide +kernel)⟩
theorem lf_FC_54 : q_lf "FloorCurves" 54 7 7 := ⟨_, rfl, by decide, List.mem_of_getElem? (i := 206) (by decide +kernel)⟩
theorem lf_FC_60 : q_lf "FloorCurves" 60 7 8 := ⟨_, rfl, by decide, List.mem_of_getElem? (i := 207) (by decide +kernel)⟩
theorem lf_FC_98 : q_lf "FloorCurves" 98 7 9 := ⟨_, rfl, by decide, List.mem_of_getElem? (i := 208) (by decide +kernel)⟩
theorem lk_Law_13 : Cond.methodLink "FloorCurvesLaw" 13 m_FC_picture.1 ∈ lw_tbl := List.mem_of_getElem? (i := 230) (by decide +kernel)
theorem lk_FC_65 : Cond.methodLink "FloorCurves" 65 m_FC_isDegree.1 ∈ lw_tbl := List.mem_of_getElem? (i := 234) (by decide +kernel)
theorem lk_FC_69 : Cond.methodLink "FloorCurves" 69 m_Pic_clear.1 ∈ lw_tbl := List.mem_of_getElem? (i := 237) (by decide +kernel)
theorem lk_Pic_22 : Cond.methodLinkNest "FloorCurves$Picture" 22 m_FC_isDegree.1 "FloorCurves" ∈ lw_tbl := List.mem_of_getElem? (i := 241) (by decide +kernel)
theorem lk_Pic_29 : Cond.methodLink "FloorCurves$Picture" 29 m_Arr_fillI.1 ∈ lw_tbl := List.mem_of_getElem? (i := 242) (by decide +kernel)
theorem lk_FC_73 : Cond.methodLink "FloorCurves" 73 m_FC_keepDraft.1 ∈ lw_tbl := List.mem_of_getElem? (i := 245) (by decide +kernel)
theorem lk_FC_263 : Cond.methodLink "FloorCurves" 263 m_Pic_copyOf.1 ∈ lw_tbl := List.mem_of_getElem? (i := 249) (by decide +kernel)
theorem lk_Pic_35 : Cond.methodLink "FloorCurves$Picture" 35 arraycopyName ∈ lw_tbl := List.mem_of_getElem? (i := 253) (by decide +kernel)
theorem lk_Law_18 : Cond.methodLink "FloorCurvesLaw" 18 m_FC_stair.1 ∈ lw_tbl := List.mem_of_getElem? (i := 256) (by decide +kernel)
theorem lk_FC_77 : Cond.methodLink "FloorCurves" 77 m_FC_pictureAt.1 ∈ lw_tbl := List.mem_of_getElem? (i := 260) (by decide +kernel)
theorem lk_FC_81 : Cond.methodLink "FloorCurves" 81 m_Pic_spotOf.1 ∈ lw_tbl := List.mem_of_getElem? (i := 264) (by decide +kernel)
theorem lk_Pic_41 : Cond.methodLink "FloorCurves$Picture" 41 m_Pic_hasFloor.1 ∈ lw_tbl := List.mem_of_getElem? (i := 268) (by decide +kernel)
theorem lf_Pic_44 : Cond.fieldLinkNest "FloorCurves$Picture" 44 "FloorCurves" "PAIR_FROM" "[I" "FloorCurves" ∈ lw_tbl := List.mem_of_getElem? (i := 272) (by decide +kernel)
theorem lf_Pic_47 : Cond.fieldLinkNest "FloorCurves$Picture" 47 "FloorCurves" "PAIR_TO" "[I" "FloorCurves" ∈ lw_tbl := List.mem_of_getElem? (i := 274) (by decide +kernel)
theorem lk_FC_85 : Cond.methodLink "FloorCurves" 85 m_Pic_stairCount.1 ∈ lw_tbl := List.mem_of_getElem? (i := 276) (by decide +kernel)
theorem lk_FC_88 : Cond.methodLink "FloorCurves" 88 m_Pic_add.1 ∈ lw_tbl := List.mem_of_getElem? (i := 280) (by decide +kernel)
theorem lk_Pic_50 : Cond.methodLink "FloorCurves$Picture" 50 m_Pic_change.1 ∈ lw_tbl := List.mem_of_getElem? (i := 284) (by decide +kernel)
theorem lk_Pic_54 : Cond.methodLinkNest "FloorCurves$Picture" 54 m_FC_fromOf.1 "FloorCurves" ∈ lw_tbl := List.mem_of_getElem? (i := 288) (by decide +kernel)
theorem lf_FC_272 : Cond.fieldLink "FloorCurves" 272 "FloorCurves" "PAIR_FROM" "[I" ∈ lw_tbl := List.mem_of_getElem? (i := 291) (by decide +kernel)
theorem lk_Pic_58 : Cond.methodLinkNest "FloorCurves$Picture" 58 m_FC_weightOf.1 "FloorCurves" ∈ lw_tbl := List.mem_of_getElem? (i := 292) (by decide +kernel)
theorem lk_Pic_61 : Cond.methodLinkNest "FloorCurves$Picture" 61 m_FC_toOf.1 "FloorCurves" ∈ lw_tbl := List.mem_of_getElem? (i := 295) (by decide +kernel)
theorem lf_FC_276 : Cond.fieldLink "FloorCurves" 276 "FloorCurves" "PAIR_TO" "[I" ∈ lw_tbl := List.mem_of_getElem? (i := 298) (by decide +kernel)
theorem lk_Law_23 : Cond.methodLink "FloorCurvesLaw" 23 m_FC_cut.1 ∈ lw_tbl := List.mem_of_getElem? (i := 299) (by decide +kernel)
theorem lk_FC_91 : Cond.methodLink "FloorCurves" 91 m_Pic_amountAt.1 ∈ lw_tbl := List.mem_of_getElem? (i := 303) (by decide +kernel)
theorem lk_FC_95 : Cond.methodLink "FloorCurves" 95 m_Pic_remove.1 ∈ lw_tbl := List.mem_of_getElem? (i := 307) (by decide +kernel)
theorem lk_Law_27 : Cond.methodLink "FloorCurvesLaw" 27 m_FC_drop.1 ∈ lw_tbl := List.mem_of_getElem? (i := 311) (by decide +kernel)
theorem lk_Law_32 : Cond.methodLink "FloorCurvesLaw" 32 m_FC_about.1 ∈ lw_tbl := List.mem_of_getElem? (i := 315) (by decide +kernel)
theorem lk_FC_102 : Cond.methodLink "FloorCurves" 102 m_Pic_degree.1 ∈ lw_tbl := List.mem_of_getElem? (i := 319) (by decide +kernel)
theorem lk_FC_105 : Cond.methodLink "FloorCurves" 105 m_Pic_isRight.1 ∈ lw_tbl := List.mem_of_getElem? (i := 323) (by decide +kernel)
theorem lk_Pic_64 : Cond.methodLink "FloorCurves$Picture" 64 m_Pic_outOf.1 ∈ lw_tbl := List.mem_of_getElem? (i := 327) (by decide +kernel)
theorem lk_FC_109 : Cond.methodLink "FloorCurves" 109 m_Pic_knots.1 ∈ lw_tbl := List.mem_of_getElem? (i := 331) (by decide +kernel)
theorem lk_FC_112 : Cond.methodLink "FloorCurves" 112 m_Pic_parts.1 ∈ lw_tbl := List.mem_of_getElem? (i := 335) (by decide +kernel)
theorem lk_Pic_67 : Cond.methodLink "FloorCurves$Picture" 67 m_Pic_hangingTogetherWith.1 ∈ lw_tbl := List.mem_of_getElem? (i := 339) (by decide +kernel)
theorem lk_FC_115 : Cond.methodLink "FloorCurves" 115 m_Pic_mult.1 ∈ lw_tbl := List.mem_of_getElem? (i := 343) (by decide +kernel)
theorem lk_FC_118 : Cond.methodLink "FloorCurves" 118 m_Pic_sign.1 ∈ lw_tbl := List.mem_of_getElem? (i := 347) (by decide +kernel)
theorem lk_Law_37 : Cond.methodLink "FloorCurvesLaw" 37 m_FC_told.1 ∈ lw_tbl := List.mem_of_getElem? (i := 351) (by decide +kernel)
theorem lk_FC_121 : Cond.methodLink "FloorCurves" 121 m_Pic_spotOfStair.1 ∈ lw_tbl := List.mem_of_getElem? (i := 355) (by decide +kernel)
theorem lk_FC_124 : Cond.methodLink "FloorCurves" 124 m_FC_fromOf.1 ∈ lw_tbl := List.mem_of_getElem? (i := 359) (by decide +kernel)
theorem lk_FC_127 : Cond.methodLink "FloorCurves" 127 m_FC_toOf.1 ∈ lw_tbl := List.mem_of_getElem? (i := 360) (by decide +kernel)
theorem lk_FC_130 : Cond.methodLink "FloorCurves" 130 m_FC_weightOf.1 ∈ lw_tbl := List.mem_of_getElem? (i := 361) (by decide +kernel)
theorem lk_Law_42 : Cond.methodLink "FloorCurvesLaw" 42 m_FC_out.1 ∈ lw_tbl := List.mem_of_getElem? (i := 362) (by decide +kernel)
theorem lk_FC_133 : Cond.methodLink "FloorCurves" 133 m_Pic_hasFloor.1 ∈ lw_tbl := List.mem_of_getElem? (i := 366) (by decide +kernel)
theorem lk_FC_136 : Cond.methodLink "FloorCurves" 136 m_Pic_outOf.1 ∈ lw_tbl := List.mem_of_getElem? (i := 367) (by decide +kernel)
theorem lk_Law_46 : Cond.methodLink "FloorCurvesLaw" 46 m_FC_spread.1 ∈ lw_tbl := List.mem_of_getElem? (i := 368) (by decide +kernel)
theorem kl_FC_139 : Cond.constantLong "FloorCurves" 139 (Int64.ofInt (-1)) ∈ lw_tbl := List.mem_of_getElem? (i := 372) (by decide +kernel)
theorem lk_FC_141 : Cond.methodLink "FloorCurves" 141 m_Pow_expand.1 ∈ lw_tbl := List.mem_of_getElem? (i := 373) (by decide +kernel)
theorem lk_Pow_18 : Cond.methodLink "FloorCurves$Powers" 18 m_Arr_fillL.1 ∈ lw_tbl := List.mem_of_getElem? (i := 377) (by decide +kernel)
theorem lk_Pow_28 : Cond.methodLink "FloorCurves$Powers" 28 m_Pic_amountAt.1 ∈ lw_tbl := List.mem_of_getElem? (i := 380) (by decide +kernel)
theorem lk_Pow_34 : Cond.methodLinkNest "FloorCurves$Powers" 34 m_FC_weightOf.1 "FloorCurves" ∈ lw_tbl := List.mem_of_getElem? (i := 381) (by decide +kernel)
theorem lk_Pow_37 : Cond.methodLink "FloorCurves$Powers" 37 m_Pow_multiply.1 ∈ lw_tbl := List.mem_of_getElem? (i := 382) (by decide +kernel)
theorem lk_Pow_41 : Cond.methodLink "FloorCurves$Powers" 41 m_Mth_abs.1 ∈ lw_tbl := List.mem_of_getElem? (i := 386) (by decide +kernel)
theorem lk_Pow_46 : Cond.methodLink "FloorCurves$Powers" 46 arraycopyName ∈ lw_tbl := List.mem_of_getElem? (i := 389) (by decide +kernel)
theorem lk_FC_145 : Cond.methodLink "FloorCurves" 145 m_Pow_at.1 ∈ lw_tbl := List.mem_of_getElem? (i := 390) (by decide +kernel)
theorem lk_Law_51 : Cond.methodLink "FloorCurvesLaw" 51 m_FC_markings.1 ∈ lw_tbl := List.mem_of_getElem? (i := 394) (by decide +kernel)
theorem kl_FC_149 : Cond.constantLong "FloorCurves" 149 (Int64.ofInt (-2)) ∈ lw_tbl := List.mem_of_getElem? (i := 398) (by decide +kernel)
theorem lk_FC_151 : Cond.methodLink "FloorCurves" 151 m_Mk_ways.1 ∈ lw_tbl := List.mem_of_getElem? (i := 399) (by decide +kernel)
theorem lk_Mk_24 : Cond.methodLink "FloorCurves$Marker" 24 m_Arr_fillI.1 ∈ lw_tbl := List.mem_of_getElem? (i := 403) (by decide +kernel)
theorem lk_Mk_40 : Cond.methodLinkNest "FloorCurves$Marker" 40 m_FC_fromOf.1 "FloorCurves" ∈ lw_tbl := List.mem_of_getElem? (i := 404) (by decide +kernel)
theorem lk_Mk_44 : Cond.methodLinkNest "FloorCurves$Marker" 44 m_FC_toOf.1 "FloorCurves" ∈ lw_tbl := List.mem_of_getElem? (i := 405) (by decide +kernel)
theorem lk_Mk_47 : Cond.methodLink "FloorCurves$Marker" 47 m_Pic_amountAt.1 ∈ lw_tbl := List.mem_of_getElem? (i := 406) (by decide +kernel)
theorem lk_Mk_52 : Cond.methodLink "FloorCurves$Marker" 52 m_Mk_addKind.1 ∈ lw_tbl := List.mem_of_getElem? (i := 407) (by decide +kernel)
theorem lk_Mk_56 : Cond.methodLink "FloorCurves$Marker" 56 m_Pic_degree.1 ∈ lw_tbl := List.mem_of_getElem? (i := 411) (by decide +kernel)
theorem lk_Mk_60 : Cond.methodLink "FloorCurves$Marker" 60 m_Pic_outOf.1 ∈ lw_tbl := List.mem_of_getElem? (i := 412) (by decide +kernel)
theorem lk_Mk_63 : Cond.methodLink "FloorCurves$Marker" 63 m_Mk_dealNext.1 ∈ lw_tbl := List.mem_of_getElem? (i := 413) (by decide +kernel)
theorem lk_Mk_67 : Cond.methodLink "FloorCurves$Marker" 67 m_Mk_deal.1 ∈ lw_tbl := List.mem_of_getElem? (i := 417) (by decide +kernel)
theorem lk_Law_56 : Cond.methodLink "FloorCurvesLaw" 56 m_FC_between.1 ∈ lw_tbl := List.mem_of_getElem? (i := 421) (by decide +kernel)
theorem lk_Law_61 : Cond.methodLink "FloorCurvesLaw" 61 m_FC_unlike.1 ∈ lw_tbl := List.mem_of_getElem? (i := 425) (by decide +kernel)
theorem lk_FC_155 : Cond.methodLink "FloorCurves" 155 m_Mth_min.1 ∈ lw_tbl := List.mem_of_getElem? (i := 429) (by decide +kernel)
theorem lk_Law_65 : Cond.methodLink "FloorCurvesLaw" 65 m_FC_turned.1 ∈ lw_tbl := List.mem_of_getElem? (i := 432) (by decide +kernel)
theorem lk_FC_161 : Cond.methodLink "FloorCurves" 161 m_Pic_isRightTurned.1 ∈ lw_tbl := List.mem_of_getElem? (i := 436) (by decide +kernel)
theorem lk_Law_69 : Cond.methodLink "FloorCurvesLaw" 69 m_FC_count.1 ∈ lw_tbl := List.mem_of_getElem? (i := 440) (by decide +kernel)
theorem lk_FC_164 : Cond.methodLink "FloorCurves" 164 m_FC_catalogueOf.1 ∈ lw_tbl := List.mem_of_getElem? (i := 444) (by decide +kernel)
theorem lk_FC_266 : Cond.methodLink "FloorCurves" 266 m_Cat_init.1 ∈ lw_tbl := List.mem_of_getElem? (i := 449) (by decide +kernel)
theorem lk_Cat_3 : Cond.methodLink "FloorCurves$Catalogue" 3 objectInit ∈ lw_tbl := List.mem_of_getElem? (i := 452) (by decide +kernel)
theorem ln_Cat_9 : q_ln "FloorCurves$Catalogue" 9 2 4 := ⟨_, rfl, rfl, List.mem_of_getElem? (i := 453) (by decide +kernel), List.mem_of_getElem? (i := 74) (by decide +kernel), List.mem_of_getElem? (i := 52) (by decide +kernel)⟩
theorem lc_Cat_9 : Cond.classLink "FloorCurves$Catalogue" 9 "FloorCurves$Picture" ∈ lw_tbl := List.mem_of_getElem? (i := 453) (by decide +kernel)
theorem lk_Cat_11 : Cond.methodLinkNest "FloorCurves$Catalogue" 11 m_Pic_init.1 "FloorCurves" ∈ lw_tbl := List.mem_of_getElem? (i := 454) (by decide +kernel)
theorem ln_Cat_18 : q_ln "FloorCurves$Catalogue" 18 1 7 := ⟨_, rfl, rfl, List.mem_of_getElem? (i := 455) (by decide +kernel), List.mem_of_getElem? (i := 94) (by decide +kernel), List.mem_of_getElem? (i := 53) (by decide +kernel)⟩
theorem lc_Cat_18 : Cond.classLink "FloorCurves$Catalogue" 18 "FloorCurves$Marker" ∈ lw_tbl := List.mem_of_getElem? (i := 455) (by decide +kernel)
theorem lk_Cat_20 : Cond.methodLinkNest "FloorCurves$Catalogue" 20 m_Mk_init.1 "FloorCurves" ∈ lw_tbl := List.mem_of_getElem? (i := 456) (by decide +kernel)
theorem ln_Cat_25 : q_ln "FloorCurves$Catalogue" 25 3 3 := ⟨_, rfl, rfl, List.mem_of_getElem? (i := 457) (by decide +kernel), List.mem_of_getElem? (i := 122) (by decide +kernel), List.mem_of_getElem? (i := 54) (by decide +kernel)⟩
theorem lc_Cat_25 : Cond.classLink "FloorCurves$Catalogue" 25 "FloorCurves$Powers" ∈ lw_tbl := List.mem_of_getElem? (i := 457) (by decide +kernel)
theorem lk_Cat_27 : Cond.methodLinkNest "FloorCurves$Catalogue" 27 m_Pow_init.1 "FloorCurves" ∈ lw_tbl := List.mem_of_getElem? (i := 458) (by decide +kernel)
theorem lk_Cat_56 : Cond.methodLink "FloorCurves$Catalogue" 56 m_Pic_clear.1 ∈ lw_tbl := List.mem_of_getElem? (i := 459) (by decide +kernel)
theorem lk_Cat_60 : Cond.methodLink "FloorCurves$Catalogue" 60 m_Cat_fillFrom.1 ∈ lw_tbl := List.mem_of_getElem? (i := 460) (by decide +kernel)
theorem lk_Cat_63 : Cond.methodLink "FloorCurves$Catalogue" 63 m_Cat_enter.1 ∈ lw_tbl := List.mem_of_getElem? (i := 464) (by decide +kernel)
theorem lk_Cat_85 : Cond.methodLink "FloorCurves$Catalogue" 85 m_Pic_knots.1 ∈ lw_tbl := List.mem_of_getElem? (i := 468) (by decide +kernel)
theorem lk_Cat_89 : Cond.methodLink "FloorCurves$Catalogue" 89 m_Cat_isKnots.1 ∈ lw_tbl := List.mem_of_getElem? (i := 469) (by decide +kernel)
theorem lk_Cat_96 : Cond.methodLink "FloorCurves$Catalogue" 96 m_Pic_pack.1 ∈ lw_tbl := List.mem_of_getElem? (i := 472) (by decide +kernel)
theorem kl_Pic_70 : Cond.constantLong "FloorCurves$Picture" 70 (Int64.ofInt (3)) ∈ lw_tbl := List.mem_of_getElem? (i := 476) (by decide +kernel)
theorem lk_Cat_100 : Cond.methodLink "FloorCurves$Catalogue" 100 m_Mk_ways.1 ∈ lw_tbl := List.mem_of_getElem? (i := 477) (by decide +kernel)
theorem lk_Cat_104 : Cond.methodLink "FloorCurves$Catalogue" 104 m_Pic_mult.1 ∈ lw_tbl := List.mem_of_getElem? (i := 478) (by decide +kernel)
theorem lk_Cat_107 : Cond.methodLink "FloorCurves$Catalogue" 107 m_Pic_sign.1 ∈ lw_tbl := List.mem_of_getElem? (i := 479) (by decide +kernel)
theorem lk_Cat_110 : Cond.methodLink "FloorCurves$Catalogue" 110 m_Pow_expand.1 ∈ lw_tbl := List.mem_of_getElem? (i := 480) (by decide +kernel)
theorem lk_Cat_114 : Cond.methodLink "FloorCurves$Catalogue" 114 m_Pow_at.1 ∈ lw_tbl := List.mem_of_getElem? (i := 481) (by decide +kernel)
theorem lk_Cat_66 : Cond.methodLinkNest "FloorCurves$Catalogue" 66 m_FC_toOf.1 "FloorCurves" ∈ lw_tbl := List.mem_of_getElem? (i := 482) (by decide +kernel)
theorem lk_Cat_70 : Cond.methodLinkNest "FloorCurves$Catalogue" 70 m_FC_fromOf.1 "FloorCurves" ∈ lw_tbl := List.mem_of_getElem? (i := 483) (by decide +kernel)
theorem lk_Cat_73 : Cond.methodLink "FloorCurves$Catalogue" 73 m_Pic_outOf.1 ∈ lw_tbl := List.mem_of_getElem? (i := 484) (by decide +kernel)
theorem lk_Cat_76 : Cond.methodLinkNest "FloorCurves$Catalogue" 76 m_FC_weightOf.1 "FloorCurves" ∈ lw_tbl := List.mem_of_getElem? (i := 485) (by decide +kernel)
theorem lk_Cat_79 : Cond.methodLink "FloorCurves$Catalogue" 79 m_Pic_add.1 ∈ lw_tbl := List.mem_of_getElem? (i := 486) (by decide +kernel)
theorem lk_Cat_82 : Cond.methodLink "FloorCurves$Catalogue" 82 m_Pic_remove.1 ∈ lw_tbl := List.mem_of_getElem? (i := 487) (by decide +kernel)
theorem lf_Cat_52 : q_lf "FloorCurves$Catalogue" 52 0 0 := ⟨_, rfl, by decide, List.mem_of_getElem? (i := 488) (by decide +kernel)⟩
theorem lf_Cat_12 : q_lf "FloorCurves$Catalogue" 12 0 1 := ⟨_, rfl, by decide, List.mem_of_getElem? (i := 489) (by decide +kernel)⟩
theorem lf_Cat_21 : q_lf "FloorCurves$Catalogue" 21 0 2 := ⟨_, rfl, by decide, List.mem_of_getElem? (i := 490) (by decide +kernel)⟩
theorem lf_Cat_28 : q_lf "FloorCurves$Catalogue" 28 0 3 := ⟨_, rfl, by decide, List.mem_of_getElem? (i := 491) (by decide +kernel)⟩
theorem lf_Cat_32 : q_lf "FloorCurves$Catalogue" 32 0 4 := ⟨_, rfl, by decide, List.mem_of_getElem? (i := 492) (by decide +kernel)⟩
theorem lf_Cat_36 : q_lf "FloorCurves$Catalogue" 36 0 5 := ⟨_, rfl, by decide, List.mem_of_getElem? (i := 493) (by decide +kernel)⟩
theorem lf_Cat_40 : q_lf "FloorCurves$Catalogue" 40 0 6 := ⟨_, rfl, by decide, List.mem_of_getElem? (i := 494) (by decide +kernel)⟩
theorem lf_Cat_43 : q_lf "FloorCurves$Catalogue" 43 0 7 := ⟨_, rfl, by decide, List.mem_of_getElem? (i := 495) (by decide +kernel)⟩
theorem lf_Cat_46 : q_lf "FloorCurves$Catalogue" 46 0 8 := ⟨_, rfl, by decide, List.mem_of_getElem? (i := 496) (by decide +kernel)⟩
theorem lf_Cat_49 : q_lf "FloorCurves$Catalogue" 49 0 9 := ⟨_, rfl, by decide, List.mem_of_getElem? (i := 497) (by decide +kernel)⟩
theorem lf_Cat_93 : q_lf "FloorCurves$Catalogue" 93 0 10 := ⟨_, rfl, by decide, List.mem_of_getElem? (i := 498) (by decide +kernel)⟩
theorem lk_FC_168 : Cond.methodLink "FloorCurves" 168 m_Cat_counted.1 ∈ lw_tbl := List.mem_of_getElem? (i := 522) (by decide +kernel)
theorem lk_Law_73 : Cond.methodLink "FloorCurvesLaw" 73 m_FC_signed.1 ∈ lw_tbl := List.mem_of_getElem? (i := 526) (by decide +kernel)
theorem lk_FC_171 : Cond.methodLink "FloorCurves" 171 m_Cat_countedBySign.1 ∈ lw_tbl := List.mem_of_getElem? (i := 530) (by decide +kernel)
theorem lk_Law_77 : Cond.methodLink "FloorCurvesLaw" 77 m_FC_spreadAll.1 ∈ lw_tbl := List.mem_of_getElem? (i := 534) (by decide +kernel)
theorem lk_FC_174 : Cond.methodLink "FloorCurves" 174 m_Cat_countedByPower.1 ∈ lw_tbl := List.mem_of_getElem? (i := 538) (by decide +kernel)
theorem lk_Law_81 : Cond.methodLink "FloorCurvesLaw" 81 m_FC_listed.1 ∈ lw_tbl := List.mem_of_getElem? (i := 542) (by decide +kernel)
theorem lk_FC_178 : Cond.methodLink "FloorCurves" 178 m_Cat_howMany.1 ∈ lw_tbl := List.mem_of_getElem? (i := 546) (by decide +kernel)
theorem lk_Law_85 : Cond.methodLink "FloorCurvesLaw" 85 m_FC_take.1 ∈ lw_tbl := List.mem_of_getElem? (i := 550) (by decide +kernel)
theorem lk_FC_181 : Cond.methodLink "FloorCurves" 181 m_Cat_rowAt.1 ∈ lw_tbl := List.mem_of_getElem? (i := 554) (by decide +kernel)
theorem lk_FC_184 : Cond.methodLink "FloorCurves" 184 m_Pic_unpack.1 ∈ lw_tbl := List.mem_of_getElem? (i := 558) (by decide +kernel)
theorem lk_Pic_72 : Cond.methodLink "FloorCurves$Picture" 72 m_Pic_clear.1 ∈ lw_tbl := List.mem_of_getElem? (i := 562) (by decide +kernel)
theorem lk_Pic_76 : Cond.methodLink "FloorCurves$Picture" 76 m_Pic_add.1 ∈ lw_tbl := List.mem_of_getElem? (i := 563) (by decide +kernel)
theorem lk_Law_89 : Cond.methodLink "FloorCurvesLaw" 89 m_FC_place.1 ∈ lw_tbl := List.mem_of_getElem? (i := 564) (by decide +kernel)
theorem lk_FC_188 : Cond.methodLink "FloorCurves" 188 m_Pic_pack.1 ∈ lw_tbl := List.mem_of_getElem? (i := 568) (by decide +kernel)
theorem lk_FC_192 : Cond.methodLink "FloorCurves" 192 m_Cat_howManyBefore.1 ∈ lw_tbl := List.mem_of_getElem? (i := 569) (by decide +kernel)
theorem lk_Law_95 : Cond.methodLink "FloorCurvesLaw" 95 m_FC_feed.1 ∈ lw_tbl := List.mem_of_getElem? (i := 573) (by decide +kernel)
theorem lk_FC_196 : Cond.methodLink "FloorCurves" 196 m_Tp_appendEight.1 ∈ lw_tbl := List.mem_of_getElem? (i := 577) (by decide +kernel)
theorem lk_FC_200 : Cond.methodLink "FloorCurves" 200 m_Tp_length.1 ∈ lw_tbl := List.mem_of_getElem? (i := 581) (by decide +kernel)
theorem lk_Law_100 : Cond.methodLink "FloorCurvesLaw" 100 m_FC_end.1 ∈ lw_tbl := List.mem_of_getElem? (i := 585) (by decide +kernel)
theorem lk_FC_203 : Cond.methodLink "FloorCurves" 203 m_Tp_keepFirst.1 ∈ lw_tbl := List.mem_of_getElem? (i := 589) (by decide +kernel)
theorem lk_Law_104 : Cond.methodLink "FloorCurvesLaw" 104 m_FC_text.1 ∈ lw_tbl := List.mem_of_getElem? (i := 593) (by decide +kernel)
theorem lk_FC_206 : Cond.methodLink "FloorCurves" 206 m_Tp_read.1 ∈ lw_tbl := List.mem_of_getElem? (i := 597) (by decide +kernel)
theorem lk_Tp_27 : Cond.methodLink "FloorCurves$Tape" 27 m_Tp_failAt.1 ∈ lw_tbl := List.mem_of_getElem? (i := 601) (by decide +kernel)
theorem lk_Tp_31 : Cond.methodLink "FloorCurves$Tape" 31 m_Rows_one.1 ∈ lw_tbl := List.mem_of_getElem? (i := 605) (by decide +kernel)
theorem lk_FC_209 : Cond.methodLink "FloorCurves" 209 m_Tp_toldRows.1 ∈ lw_tbl := List.mem_of_getElem? (i := 608) (by decide +kernel)
theorem lk_FC_212 : Cond.methodLink "FloorCurves" 212 m_Rows_degreeOf.1 ∈ lw_tbl := List.mem_of_getElem? (i := 612) (by decide +kernel)
theorem lk_Rows_19 : Cond.methodLink "FloorCurves$Rows" 19 m_Rows_amount.1 ∈ lw_tbl := List.mem_of_getElem? (i := 615) (by decide +kernel)
theorem lk_Law_108 : Cond.methodLink "FloorCurvesLaw" 108 m_FC_fault.1 ∈ lw_tbl := List.mem_of_getElem? (i := 618) (by decide +kernel)
theorem lk_FC_217 : Cond.methodLink "FloorCurves" 217 m_Tp_latestFault.1 ∈ lw_tbl := List.mem_of_getElem? (i := 622) (by decide +kernel)
theorem lk_Law_112 : Cond.methodLink "FloorCurvesLaw" 112 m_FC_tangent.1 ∈ lw_tbl := List.mem_of_getElem? (i := 626) (by decide +kernel)
theorem lk_FC_220 : Cond.methodLink "FloorCurves" 220 m_Tg_valueOf.1 ∈ lw_tbl := List.mem_of_getElem? (i := 630) (by decide +kernel)
theorem lk_Tg_22 : Cond.methodLink "FloorCurves$Tangents" 22 m_Rows_degreeOf.1 ∈ lw_tbl := List.mem_of_getElem? (i := 634) (by decide +kernel)
theorem lk_Tg_32 : Cond.methodLink "FloorCurves$Tangents" 32 m_Tg_learn.1 ∈ lw_tbl := List.mem_of_getElem? (i := 635) (by decide +kernel)
theorem lk_Tg_43 : Cond.methodLink "FloorCurves$Tangents" 43 m_Tg_enterRows.1 ∈ lw_tbl := List.mem_of_getElem? (i := 639) (by decide +kernel)
theorem lk_Tg_54 : Cond.methodLink "FloorCurves$Tangents" 54 m_Rows_figureOfField.1 ∈ lw_tbl := List.mem_of_getElem? (i := 643) (by decide +kernel)
theorem lk_Tg_57 : Cond.methodLink "FloorCurves$Tangents" 57 m_Rows_oneOfField.1 ∈ lw_tbl := List.mem_of_getElem? (i := 646) (by decide +kernel)
theorem lk_Rows_11 : Cond.methodLink "FloorCurves$Rows" 11 m_Rows_figureOfField.1 ∈ lw_tbl := List.mem_of_getElem? (i := 649) (by decide +kernel)
theorem lk_Rows_15 : Cond.methodLink "FloorCurves$Rows" 15 m_Rows_one.1 ∈ lw_tbl := List.mem_of_getElem? (i := 650) (by decide +kernel)
theorem lk_Tg_47 : Cond.methodLink "FloorCurves$Tangents" 47 m_Tg_addMoves.1 ∈ lw_tbl := List.mem_of_getElem? (i := 651) (by decide +kernel)
theorem lk_Tg_60 : Cond.methodLink "FloorCurves$Tangents" 60 m_Rows_amount.1 ∈ lw_tbl := List.mem_of_getElem? (i := 655) (by decide +kernel)
theorem lk_Tg_64 : Cond.methodLink "FloorCurves$Tangents" 64 m_Rows_one.1 ∈ lw_tbl := List.mem_of_getElem? (i := 656) (by decide +kernel)
theorem lk_Tg_36 : Cond.methodLink "FloorCurves$Tangents" 36 m_Tg_indexOf.1 ∈ lw_tbl := List.mem_of_getElem? (i := 657) (by decide +kernel)
theorem lk_Tg_67 : Cond.methodLink "FloorCurves$Tangents" 67 m_Tg_addTo.1 ∈ lw_tbl := List.mem_of_getElem? (i := 661) (by decide +kernel)
theorem lk_Tg_51 : Cond.methodLink "FloorCurves$Tangents" 51 m_Tg_addSplits.1 ∈ lw_tbl := List.mem_of_getElem? (i := 665) (by decide +kernel)
theorem lk_Tg_71 : Cond.methodLink "FloorCurves$Tangents" 71 m_Rows_timesOfPart.1 ∈ lw_tbl := List.mem_of_getElem? (i := 669) (by decide +kernel)
theorem lk_Rows_23 : Cond.methodLinkNest "FloorCurves$Rows" 23 m_FC_choose.1 "FloorCurves" ∈ lw_tbl := List.mem_of_getElem? (i := 672) (by decide +kernel)
theorem lk_Tg_75 : Cond.methodLink "FloorCurves$Tangents" 75 m_Rows_moreB.1 ∈ lw_tbl := List.mem_of_getElem? (i := 675) (by decide +kernel)
theorem lk_Law_116 : Cond.methodLink "FloorCurvesLaw" 116 m_FC_has.1 ∈ lw_tbl := List.mem_of_getElem? (i := 678) (by decide +kernel)
theorem lk_FC_223 : Cond.methodLink "FloorCurves" 223 m_Rows_amount.1 ∈ lw_tbl := List.mem_of_getElem? (i := 682) (by decide +kernel)
theorem lk_Law_120 : Cond.methodLink "FloorCurvesLaw" 120 m_FC_rational.1 ∈ lw_tbl := List.mem_of_getElem? (i := 683) (by decide +kernel)
theorem lk_FC_226 : Cond.methodLink "FloorCurves" 226 m_FC_splitsOf.1 ∈ lw_tbl := List.mem_of_getElem? (i := 687) (by decide +kernel)
theorem lk_FC_269 : Cond.methodLink "FloorCurves" 269 m_FC_choose.1 ∈ lw_tbl := List.mem_of_getElem? (i := 690) (by decide +kernel)
theorem lk_Law_124 : Cond.methodLink "FloorCurvesLaw" 124 m_FC_sheet.1 ∈ lw_tbl := List.mem_of_getElem? (i := 691) (by decide +kernel)
theorem lk_FC_229 : Cond.methodLink "FloorCurves" 229 m_FC_sheetAt.1 ∈ lw_tbl := List.mem_of_getElem? (i := 695) (by decide +kernel)
theorem lk_FC_233 : Cond.methodLink "FloorCurves" 233 m_Sh_isLane.1 ∈ lw_tbl := List.mem_of_getElem? (i := 699) (by decide +kernel)
theorem lk_FC_236 : Cond.methodLink "FloorCurves" 236 m_Sh_renew.1 ∈ lw_tbl := List.mem_of_getElem? (i := 702) (by decide +kernel)
theorem lk_Sh_17 : Cond.methodLink "FloorCurves$Sheet" 17 m_Sh_isLane.1 ∈ lw_tbl := List.mem_of_getElem? (i := 706) (by decide +kernel)
theorem lk_Sh_24 : Cond.methodLink "FloorCurves$Sheet" 24 m_Arr_fillI.1 ∈ lw_tbl := List.mem_of_getElem? (i := 707) (by decide +kernel)
theorem lk_Law_128 : Cond.methodLink "FloorCurvesLaw" 128 m_FC_lay.1 ∈ lw_tbl := List.mem_of_getElem? (i := 708) (by decide +kernel)
theorem lk_FC_240 : Cond.methodLink "FloorCurves" 240 m_Sh_isNothing.1 ∈ lw_tbl := List.mem_of_getElem? (i := 712) (by decide +kernel)
theorem lk_FC_243 : Cond.methodLink "FloorCurves" 243 m_Sh_hasCell.1 ∈ lw_tbl := List.mem_of_getElem? (i := 716) (by decide +kernel)
theorem lk_FC_246 : Cond.methodLink "FloorCurves" 246 m_Sh_write.1 ∈ lw_tbl := List.mem_of_getElem? (i := 720) (by decide +kernel)
theorem lk_Sh_30 : Cond.methodLink "FloorCurves$Sheet" 30 m_Sh_hasCell.1 ∈ lw_tbl := List.mem_of_getElem? (i := 724) (by decide +kernel)
theorem lk_Law_132 : Cond.methodLink "FloorCurvesLaw" 132 m_FC_draw.1 ∈ lw_tbl := List.mem_of_getElem? (i := 725) (by decide +kernel)
theorem lk_FC_249 : Cond.methodLink "FloorCurves" 249 m_Sh_isOfLane.1 ∈ lw_tbl := List.mem_of_getElem? (i := 729) (by decide +kernel)
theorem lk_FC_252 : Cond.methodLink "FloorCurves" 252 m_Sh_hasThreeFrom.1 ∈ lw_tbl := List.mem_of_getElem? (i := 733) (by decide +kernel)
theorem lk_FC_255 : Cond.methodLink "FloorCurves" 255 m_Sh_read.1 ∈ lw_tbl := List.mem_of_getElem? (i := 737) (by decide +kernel)
theorem lk_Law_137 : Cond.methodLink "FloorCurvesLaw" 137 m_FC_many.1 ∈ lw_tbl := List.mem_of_getElem? (i := 741) (by decide +kernel)
theorem lk_FC_257 : Cond.methodLink "FloorCurves" 257 m_FC_cellsOfFirstSheet.1 ∈ lw_tbl := List.mem_of_getElem? (i := 745) (by decide +kernel)
theorem lk_FC_268 : Cond.methodLink "FloorCurves" 268 m_Sh_length.1 ∈ lw_tbl := List.mem_of_getElem? (i := 749) (by decide +kernel)
theorem lk_FC_260 : Cond.methodLink "FloorCurves" 260 m_FC_stairsOfAll.1 ∈ lw_tbl := List.mem_of_getElem? (i := 753) (by decide +kernel)
theorem ln_Law_10 : q_ln "FloorCurvesLaw" 10 8 39 := ⟨_, rfl, rfl, List.mem_of_getElem? (i := 757) (by decide +kernel), List.mem_of_getElem? (i := 758) (by decide +kernel), List.mem_of_getElem? (i := 58) (by decide +kernel)⟩
theorem lc_Law_10 : Cond.classLink "FloorCurvesLaw" 10 "FloorCurvesModel" ∈ lw_tbl := List.mem_of_getElem? (i := 757) (by decide +kernel)
theorem lk_Law_12 : Cond.methodLink "FloorCurvesLaw" 12 m_Mo_init.1 ∈ lw_tbl := List.mem_of_getElem? (i := 759) (by decide +kernel)
theorem lk_Mo_1 : Cond.methodLink "FloorCurvesModel" 1 objectInit ∈ lw_tbl := List.mem_of_getElem? (i := 762) (by decide +kernel)
theorem ki_Mo_44 : Cond.constant "FloorCurvesModel" 44 (Int32.ofInt (60000)) ∈ lw_tbl := List.mem_of_getElem? (i := 763) (by decide +kernel)
theorem lf_Mo_103 : q_lf "FloorCurvesModel" 103 8 0 := ⟨_, rfl, by decide, List.mem_of_getElem? (i := 764) (by decide +kernel)⟩
theorem lf_Mo_7 : q_lf "FloorCurvesModel" 7 8 1 := ⟨_, rfl, by decide, List.mem_of_getElem? (i := 765) (by decide +kernel)⟩
theorem lf_Mo_13 : q_lf "FloorCurvesModel" 13 8 2 := ⟨_, rfl, by decide, List.mem_of_getElem? (i := 766) (by decide +kernel)⟩
theorem lf_Mo_16 : q_lf "FloorCurvesModel" 16 8 3 := ⟨_, rfl, by decide, List.mem_of_getElem? (i := 767) (by decide +kernel)⟩
theorem lf_Mo_19 : q_lf "FloorCurvesModel" 19 8 4 := ⟨_, rfl, by decide, List.mem_of_getElem? (i := 768) (by decide +kernel)⟩
theorem lf_Mo_22 : q_lf "FloorCurvesModel" 22 8 5 := ⟨_, rfl, by decide, List.mem_of_getElem? (i := 769) (by decide +kernel)⟩
theorem lf_Mo_25 : q_lf "FloorCurvesModel" 25 8 6 := ⟨_, rfl, by decide, List.mem_of_getElem? (i := 770) (by decide +kernel)⟩
theorem lf_Mo_29 : q_lf "FloorCurvesModel" 29 8 7 := ⟨_, rfl, by decide, List.mem_of_getElem? (i := 771) (by decide +kernel)⟩
theorem lf_Mo_164 : q_lf "FloorCurvesModel" 164 8 8 := ⟨_, rfl, by decide, List.mem_of_getElem? (i := 772) (by decide +kernel)⟩
theorem lf_Mo_32 : q_lf "FloorCurvesModel" 32 8 9 := ⟨_, rfl, by decide, List.mem_of_getElem? (i := 773) (by decide +kernel)⟩
theorem lf_Mo_35 : q_lf "FloorCurvesModel" 35 8 10 := ⟨_, rfl, by decide, List.mem_of_getElem? (i := 774) (by decide +kernel)⟩
theorem lf_Mo_38 : q_lf "FloorCurvesModel" 38 8 11 := ⟨_, rfl, by decide, List.mem_of_getElem? (i := 775) (by decide +kernel)⟩
theorem lf_Mo_41 : q_lf "FloorCurvesModel" 41 8 12 := ⟨_, rfl, by decide, List.mem_of_getElem? (i := 776) (by decide +kernel)⟩
theorem lf_Mo_167 : q_lf "FloorCurvesModel" 167 8 13 := ⟨_, rfl, by decide, List.mem_of_getElem? (i := 777) (by decide +kernel)⟩
theorem lf_Mo_45 : q_lf "FloorCurvesModel" 45 8 14 := ⟨_, rfl, by decide, List.mem_of_getElem? (i := 778) (by decide +kernel)⟩
theorem lf_Mo_48 : q_lf "FloorCurvesModel" 48 8 15 := ⟨_, rfl, by decide, List.mem_of_getElem? (i := 779) (by decide +kernel)⟩
theorem lf_Mo_51 : q_lf "FloorCurvesModel" 51 8 16 := ⟨_, rfl, by decide, List.mem_of_getElem? (i := 780) (by decide +kernel)⟩
theorem lf_Mo_55 : q_lf "FloorCurvesModel" 55 8 17 := ⟨_, rfl, by decide, List.mem_of_getElem? (i := 781) (by decide +kernel)⟩
theorem lf_Mo_58 : q_lf "FloorCurvesModel" 58 8 18 := ⟨_, rfl, by decide, List.mem_of_getElem? (i := 782) (by decide +kernel)⟩
theorem lf_Mo_61 : q_lf "FloorCurvesModel" 61 8 19 := ⟨_, rfl, by decide, List.mem_of_getElem? (i := 783) (by decide +kernel)⟩
theorem lf_Mo_64 : q_lf "FloorCurvesModel" 64 8 20 := ⟨_, rfl, by decide, List.mem_of_getElem? (i := 784) (by decide +kernel)⟩
theorem lf_Mo_67 : q_lf "FloorCurvesModel" 67 8 21 := ⟨_, rfl, by decide, List.mem_of_getElem? (i := 785) (by decide +kernel)⟩
theorem lf_Mo_230 : q_lf "FloorCurvesModel" 230 8 22 := ⟨_, rfl, by decide, List.mem_of_getElem? (i := 786) (by decide +kernel)⟩
theorem lf_Mo_249 : q_lf "FloorCurvesModel" 249 8 23 := ⟨_, rfl, by decide, List.mem_of_getElem? (i := 787) (by decide +kernel)⟩
theorem lf_Mo_252 : q_lf "FloorCurvesModel" 252 8 24 := ⟨_, rfl, by decide, List.mem_of_getElem? (i := 788) (by decide +kernel)⟩
theorem lf_Mo_70 : q_lf "FloorCurvesModel" 70 8 25 := ⟨_, rfl, by decide, List.mem_of_getElem? (i := 789) (by decide +kernel)⟩
theorem lf_Mo_73 : q_lf "FloorCurvesModel" 73 8 26 := ⟨_, rfl, by decide, List.mem_of_getElem? (i := 790) (by decide +kernel)⟩
theorem lf_Mo_256 : q_lf "FloorCurvesModel" 256 8 27 := ⟨_, rfl, by decide, List.mem_of_getElem? (i := 791) (by decide +kernel)⟩
theorem lf_Mo_76 : q_lf "FloorCurvesModel" 76 8 28 := ⟨_, rfl, by decide, List.mem_of_getElem? (i := 792) (by decide +kernel)⟩
theorem lf_Mo_79 : q_lf "FloorCurvesModel" 79 8 29 := ⟨_, rfl, by decide, List.mem_of_getElem? (i := 793) (by decide +kernel)⟩
theorem lf_Mo_82 : q_lf "FloorCurvesModel" 82 8 30 := ⟨_, rfl, by decide, List.mem_of_getElem? (i := 794) (by decide +kernel)⟩
theorem lf_Mo_85 : q_lf "FloorCurvesModel" 85 8 31 := ⟨_, rfl, by decide, List.mem_of_getElem? (i := 795) (by decide +kernel)⟩
theorem lf_Mo_279 : q_lf "FloorCurvesModel" 279 8 32 := ⟨_, rfl, by decide, List.mem_of_getElem? (i := 796) (by decide +kernel)⟩
theorem lf_Mo_233 : q_lf "FloorCurvesModel" 233 8 33 := ⟨_, rfl, by decide, List.mem_of_getElem? (i := 797) (by decide +kernel)⟩
theorem lf_Mo_88 : q_lf "FloorCurvesModel" 88 8 34 := ⟨_, rfl, by decide, List.mem_of_getElem? (i := 798) (by decide +kernel)⟩
theorem lf_Mo_91 : q_lf "FloorCurvesModel" 91 8 35 := ⟨_, rfl, by decide, List.mem_of_getElem? (i := 799) (by decide +kernel)⟩
theorem lf_Mo_94 : q_lf "FloorCurvesModel" 94 8 36 := ⟨_, rfl, by decide, List.mem_of_getElem? (i := 800) (by decide +kernel)⟩
theorem lf_Mo_97 : q_lf "FloorCurvesModel" 97 8 37 := ⟨_, rfl, by decide, List.mem_of_getElem? (i := 801) (by decide +kernel)⟩
theorem lf_Mo_100 : q_lf "FloorCurvesModel" 100 8 38 := ⟨_, rfl, by decide, List.mem_of_getElem? (i := 802) (by decide +kernel)⟩
theorem lk_Law_17 : Cond.methodLink "FloorCurvesLaw" 17 m_Mo_picture.1 ∈ lw_tbl := List.mem_of_getElem? (i := 883) (by decide +kernel)
theorem kl_Mo_111 : Cond.constantLong "FloorCurvesModel" 111 (Int64.ofInt (4)) ∈ lw_tbl := List.mem_of_getElem? (i := 887) (by decide +kernel)
theorem lk_Mo_107 : Cond.methodLink "FloorCurvesModel" 107 m_Mo_in.1 ∈ lw_tbl := List.mem_of_getElem? (i := 888) (by decide +kernel)
theorem lk_Law_22 : Cond.methodLink "FloorCurvesLaw" 22 m_Mo_stair.1 ∈ lw_tbl := List.mem_of_getElem? (i := 891) (by decide +kernel)
theorem lk_Mo_117 : Cond.methodLink "FloorCurvesModel" 117 m_Mo_is.1 ∈ lw_tbl := List.mem_of_getElem? (i := 895) (by decide +kernel)
theorem lk_Mo_121 : Cond.methodLink "FloorCurvesModel" 121 m_Mo_isStair.1 ∈ lw_tbl := List.mem_of_getElem? (i := 899) (by decide +kernel)
theorem lk_Mo_124 : Cond.methodLink "FloorCurvesModel" 124 m_Mo_put.1 ∈ lw_tbl := List.mem_of_getElem? (i := 902) (by decide +kernel)
theorem lk_Mo_113 : Cond.methodLink "FloorCurvesModel" 113 m_Mo_isAhead.1 ∈ lw_tbl := List.mem_of_getElem? (i := 906) (by decide +kernel)
theorem lk_Law_26 : Cond.methodLink "FloorCurvesLaw" 26 m_Mo_cut.1 ∈ lw_tbl := List.mem_of_getElem? (i := 910) (by decide +kernel)
theorem lk_Law_31 : Cond.methodLink "FloorCurvesLaw" 31 m_Mo_drop.1 ∈ lw_tbl := List.mem_of_getElem? (i := 914) (by decide +kernel)
theorem lk_Law_36 : Cond.methodLink "FloorCurvesLaw" 36 m_Mo_about.1 ∈ lw_tbl := List.mem_of_getElem? (i := 918) (by decide +kernel)
theorem kl_Mo_132 : Cond.constantLong "FloorCurvesModel" 132 (Int64.ofInt (6)) ∈ lw_tbl := List.mem_of_getElem? (i := 922) (by decide +kernel)
theorem lk_Mo_134 : Cond.methodLink "FloorCurvesModel" 134 m_Mo_isRight.1 ∈ lw_tbl := List.mem_of_getElem? (i := 923) (by decide +kernel)
theorem lk_Mo_128 : Cond.methodLink "FloorCurvesModel" 128 m_Mo_outOf.1 ∈ lw_tbl := List.mem_of_getElem? (i := 927) (by decide +kernel)
theorem lk_Mo_137 : Cond.methodLink "FloorCurvesModel" 137 m_Mo_knots.1 ∈ lw_tbl := List.mem_of_getElem? (i := 931) (by decide +kernel)
theorem lk_Mo_141 : Cond.methodLink "FloorCurvesModel" 141 m_Mo_partsOf.1 ∈ lw_tbl := List.mem_of_getElem? (i := 935) (by decide +kernel)
theorem lk_Mo_144 : Cond.methodLink "FloorCurvesModel" 144 m_Mo_multOf.1 ∈ lw_tbl := List.mem_of_getElem? (i := 939) (by decide +kernel)
theorem lk_Mo_147 : Cond.methodLink "FloorCurvesModel" 147 m_Mo_signOf.1 ∈ lw_tbl := List.mem_of_getElem? (i := 943) (by decide +kernel)
theorem lk_Law_41 : Cond.methodLink "FloorCurvesLaw" 41 m_Mo_told.1 ∈ lw_tbl := List.mem_of_getElem? (i := 947) (by decide +kernel)
theorem kl_Mo_150 : Cond.constantLong "FloorCurvesModel" 150 (Int64.ofInt (2)) ∈ lw_tbl := List.mem_of_getElem? (i := 951) (by decide +kernel)
theorem lk_Law_45 : Cond.methodLink "FloorCurvesLaw" 45 m_Mo_out.1 ∈ lw_tbl := List.mem_of_getElem? (i := 952) (by decide +kernel)
theorem lk_Law_50 : Cond.methodLink "FloorCurvesLaw" 50 m_Mo_spread.1 ∈ lw_tbl := List.mem_of_getElem? (i := 956) (by decide +kernel)
theorem kl_Mo_154 : Cond.constantLong "FloorCurvesModel" 154 (Int64.ofInt (-1)) ∈ lw_tbl := List.mem_of_getElem? (i := 960) (by decide +kernel)
theorem lk_Mo_156 : Cond.methodLink "FloorCurvesModel" 156 m_Mo_layPowers.1 ∈ lw_tbl := List.mem_of_getElem? (i := 961) (by decide +kernel)
theorem kl_Mo_152 : Cond.constantLong "FloorCurvesModel" 152 (Int64.ofInt (36)) ∈ lw_tbl := List.mem_of_getElem? (i := 965) (by decide +kernel)
theorem kl_Mo_160 : Cond.constantLong "FloorCurvesModel" 160 (Int64.ofInt (-18)) ∈ lw_tbl := List.mem_of_getElem? (i := 966) (by decide +kernel)
theorem kl_Mo_162 : Cond.constantLong "FloorCurvesModel" 162 (Int64.ofInt (18)) ∈ lw_tbl := List.mem_of_getElem? (i := 967) (by decide +kernel)
theorem lk_Law_55 : Cond.methodLink "FloorCurvesLaw" 55 m_Mo_markings.1 ∈ lw_tbl := List.mem_of_getElem? (i := 968) (by decide +kernel)
theorem lk_Mo_184 : Cond.methodLink "FloorCurvesModel" 184 m_Mo_marked.1 ∈ lw_tbl := List.mem_of_getElem? (i := 972) (by decide +kernel)
theorem lk_Mo_174 : Cond.methodLink "FloorCurvesModel" 174 m_Mo_layKinds.1 ∈ lw_tbl := List.mem_of_getElem? (i := 976) (by decide +kernel)
theorem lk_Mo_170 : Cond.methodLink "FloorCurvesModel" 170 m_Mo_kind.1 ∈ lw_tbl := List.mem_of_getElem? (i := 980) (by decide +kernel)
theorem lk_Mo_177 : Cond.methodLink "FloorCurvesModel" 177 m_Mo_goOn.1 ∈ lw_tbl := List.mem_of_getElem? (i := 984) (by decide +kernel)
theorem lk_Mo_181 : Cond.methodLink "FloorCurvesModel" 181 m_Mo_usedOf.1 ∈ lw_tbl := List.mem_of_getElem? (i := 988) (by decide +kernel)
theorem kl_Mo_188 : Cond.constantLong "FloorCurvesModel" 188 (Int64.ofInt (-2)) ∈ lw_tbl := List.mem_of_getElem? (i := 992) (by decide +kernel)
theorem lk_Law_60 : Cond.methodLink "FloorCurvesLaw" 60 m_Mo_between.1 ∈ lw_tbl := List.mem_of_getElem? (i := 993) (by decide +kernel)
theorem lk_Law_64 : Cond.methodLink "FloorCurvesLaw" 64 m_Mo_unlike.1 ∈ lw_tbl := List.mem_of_getElem? (i := 997) (by decide +kernel)
theorem lk_Mo_190 : Cond.methodLink "FloorCurvesModel" 190 m_Mo_unlikeAt.1 ∈ lw_tbl := List.mem_of_getElem? (i := 1001) (by decide +kernel)
theorem lk_Law_68 : Cond.methodLink "FloorCurvesLaw" 68 m_Mo_turned.1 ∈ lw_tbl := List.mem_of_getElem? (i := 1005) (by decide +kernel)
theorem lk_Law_72 : Cond.methodLink "FloorCurvesLaw" 72 m_Mo_count.1 ∈ lw_tbl := List.mem_of_getElem? (i := 1009) (by decide +kernel)
theorem lk_Mo_223 : Cond.methodLink "FloorCurvesModel" 223 m_Mo_areKnots.1 ∈ lw_tbl := List.mem_of_getElem? (i := 1013) (by decide +kernel)
theorem lk_Mo_227 : Cond.methodLink "FloorCurvesModel" 227 m_Mo_find.1 ∈ lw_tbl := List.mem_of_getElem? (i := 1016) (by decide +kernel)
theorem lk_Mo_209 : Cond.methodLink "FloorCurvesModel" 209 m_Mo_clearRow.1 ∈ lw_tbl := List.mem_of_getElem? (i := 1020) (by decide +kernel)
theorem lk_Mo_212 : Cond.methodLink "FloorCurvesModel" 212 m_Mo_rowMany.1 ∈ lw_tbl := List.mem_of_getElem? (i := 1024) (by decide +kernel)
theorem lk_Mo_216 : Cond.methodLink "FloorCurvesModel" 216 m_Mo_layRow.1 ∈ lw_tbl := List.mem_of_getElem? (i := 1028) (by decide +kernel)
theorem lk_Mo_200 : Cond.methodLink "FloorCurvesModel" 200 m_Mo_fromOf.1 ∈ lw_tbl := List.mem_of_getElem? (i := 1032) (by decide +kernel)
theorem lk_Mo_197 : Cond.methodLink "FloorCurvesModel" 197 m_Mo_toOf.1 ∈ lw_tbl := List.mem_of_getElem? (i := 1035) (by decide +kernel)
theorem lk_Mo_220 : Cond.methodLink "FloorCurvesModel" 220 m_Mo_nextRow.1 ∈ lw_tbl := List.mem_of_getElem? (i := 1038) (by decide +kernel)
theorem lk_Mo_203 : Cond.methodLink "FloorCurvesModel" 203 m_Mo_weighedFrom.1 ∈ lw_tbl := List.mem_of_getElem? (i := 1042) (by decide +kernel)
theorem lk_Mo_194 : Cond.methodLink "FloorCurvesModel" 194 m_Mo_pairOf.1 ∈ lw_tbl := List.mem_of_getElem? (i := 1046) (by decide +kernel)
theorem lk_Mo_206 : Cond.methodLink "FloorCurvesModel" 206 m_Mo_weighedTo.1 ∈ lw_tbl := List.mem_of_getElem? (i := 1049) (by decide +kernel)
theorem lk_Law_76 : Cond.methodLink "FloorCurvesLaw" 76 m_Mo_signed.1 ∈ lw_tbl := List.mem_of_getElem? (i := 1053) (by decide +kernel)
theorem lk_Law_80 : Cond.methodLink "FloorCurvesLaw" 80 m_Mo_spreadAll.1 ∈ lw_tbl := List.mem_of_getElem? (i := 1057) (by decide +kernel)
theorem lk_Law_84 : Cond.methodLink "FloorCurvesLaw" 84 m_Mo_listed.1 ∈ lw_tbl := List.mem_of_getElem? (i := 1061) (by decide +kernel)
theorem lk_Law_88 : Cond.methodLink "FloorCurvesLaw" 88 m_Mo_take.1 ∈ lw_tbl := List.mem_of_getElem? (i := 1065) (by decide +kernel)
theorem lk_Law_92 : Cond.methodLink "FloorCurvesLaw" 92 m_Mo_place.1 ∈ lw_tbl := List.mem_of_getElem? (i := 1069) (by decide +kernel)
theorem lk_Law_99 : Cond.methodLink "FloorCurvesLaw" 99 m_Mo_feed.1 ∈ lw_tbl := List.mem_of_getElem? (i := 1073) (by decide +kernel)
theorem lk_Law_103 : Cond.methodLink "FloorCurvesLaw" 103 m_Mo_end.1 ∈ lw_tbl := List.mem_of_getElem? (i := 1077) (by decide +kernel)
theorem lk_Law_107 : Cond.methodLink "FloorCurvesLaw" 107 m_Mo_text.1 ∈ lw_tbl := List.mem_of_getElem? (i := 1081) (by decide +kernel)
theorem lk_Mo_243 : Cond.methodLink "FloorCurvesModel" 243 m_Mo_next.1 ∈ lw_tbl := List.mem_of_getElem? (i := 1085) (by decide +kernel)
theorem lk_Mo_246 : Cond.methodLink "FloorCurvesModel" 246 m_Mo_isToken.1 ∈ lw_tbl := List.mem_of_getElem? (i := 1089) (by decide +kernel)
theorem lk_Mo_236 : Cond.methodLink "FloorCurvesModel" 236 m_Mo_isLetter.1 ∈ lw_tbl := List.mem_of_getElem? (i := 1092) (by decide +kernel)
theorem kl_Mo_239 : Cond.constantLong "FloorCurvesModel" 239 (Int64.ofInt (49)) ∈ lw_tbl := List.mem_of_getElem? (i := 1095) (by decide +kernel)
theorem kl_Mo_241 : Cond.constantLong "FloorCurvesModel" 241 (Int64.ofInt (57)) ∈ lw_tbl := List.mem_of_getElem? (i := 1096) (by decide +kernel)
theorem lk_Law_111 : Cond.methodLink "FloorCurvesLaw" 111 m_Mo_fault.1 ∈ lw_tbl := List.mem_of_getElem? (i := 1097) (by decide +kernel)
theorem lk_Law_115 : Cond.methodLink "FloorCurvesLaw" 115 m_Mo_tangent.1 ∈ lw_tbl := List.mem_of_getElem? (i := 1101) (by decide +kernel)
theorem kl_Mo_277 : Cond.constantLong "FloorCurvesModel" 277 (Int64.ofInt (10)) ∈ lw_tbl := List.mem_of_getElem? (i := 1105) (by decide +kernel)
theorem lk_Mo_288 : Cond.methodLink "FloorCurvesModel" 288 m_Mo_layWorths.1 ∈ lw_tbl := List.mem_of_getElem? (i := 1106) (by decide +kernel)
theorem lk_Mo_282 : Cond.methodLink "FloorCurvesModel" 282 m_Mo_layRows.1 ∈ lw_tbl := List.mem_of_getElem? (i := 1110) (by decide +kernel)
theorem lk_Mo_259 : Cond.methodLink "FloorCurvesModel" 259 m_Mo_sumOf.1 ∈ lw_tbl := List.mem_of_getElem? (i := 1114) (by decide +kernel)
theorem lk_Mo_285 : Cond.methodLink "FloorCurvesModel" 285 m_Mo_reckon.1 ∈ lw_tbl := List.mem_of_getElem? (i := 1117) (by decide +kernel)
theorem lk_Mo_263 : Cond.methodLink "FloorCurvesModel" 263 m_Mo_indexOf.1 ∈ lw_tbl := List.mem_of_getElem? (i := 1121) (by decide +kernel)
theorem lk_Mo_266 : Cond.methodLink "FloorCurvesModel" 266 m_Mo_goes.1 ∈ lw_tbl := List.mem_of_getElem? (i := 1125) (by decide +kernel)
theorem lk_Mo_270 : Cond.methodLink "FloorCurvesModel" 270 m_Mo_power.1 ∈ lw_tbl := List.mem_of_getElem? (i := 1129) (by decide +kernel)
theorem lk_Mo_274 : Cond.methodLink "FloorCurvesModel" 274 m_Mo_choose.1 ∈ lw_tbl := List.mem_of_getElem? (i := 1132) (by decide +kernel)
theorem lk_Law_119 : Cond.methodLink "FloorCurvesLaw" 119 m_Mo_has.1 ∈ lw_tbl := List.mem_of_getElem? (i := 1135) (by decide +kernel)
theorem kl_Mo_291 : Cond.constantLong "FloorCurvesModel" 291 (Int64.ofInt (5)) ∈ lw_tbl := List.mem_of_getElem? (i := 1139) (by decide +kernel)
theorem lk_Law_123 : Cond.methodLink "FloorCurvesLaw" 123 m_Mo_rational.1 ∈ lw_tbl := List.mem_of_getElem? (i := 1140) (by decide +kernel)
theorem kl_Mo_293 : Cond.constantLong "FloorCurvesModel" 293 (Int64.ofInt (7)) ∈ lw_tbl := List.mem_of_getElem? (i := 1144) (by decide +kernel)
theorem lk_Law_127 : Cond.methodLink "FloorCurvesLaw" 127 m_Mo_sheet.1 ∈ lw_tbl := List.mem_of_getElem? (i := 1145) (by decide +kernel)
theorem kl_Mo_295 : Cond.constantLong "FloorCurvesModel" 295 (Int64.ofInt (3)) ∈ lw_tbl := List.mem_of_getElem? (i := 1149) (by decide +kernel)
theorem lk_Law_131 : Cond.methodLink "FloorCurvesLaw" 131 m_Mo_lay.1 ∈ lw_tbl := List.mem_of_getElem? (i := 1150) (by decide +kernel)
theorem lk_Law_136 : Cond.methodLink "FloorCurvesLaw" 136 m_Mo_draw.1 ∈ lw_tbl := List.mem_of_getElem? (i := 1154) (by decide +kernel)
theorem lk_Law_140 : Cond.methodLink "FloorCurvesLaw" 140 m_Mo_many.1 ∈ lw_tbl := List.mem_of_getElem? (i := 1158) (by decide +kernel)
theorem kl_Law_93 : Cond.constantLong "FloorCurvesLaw" 93 (Int64.ofInt (4294967295)) ∈ lw_tbl := List.mem_of_getElem? (i := 1162) (by decide +kernel)
theorem ac_100 : Cond.arrayClass (q_aty 100) ∈ lw_tbl := List.mem_of_getElem? (i := 92) (by decide +kernel)
theorem ac_101 : Cond.arrayClass (q_aty 101) ∈ lw_tbl := List.mem_of_getElem? (i := 137) (by decide +kernel)
theorem ac_102 : Cond.arrayClass (q_aty 102) ∈ lw_tbl := List.mem_of_getElem? (i := 159) (by decide +kernel)
theorem ac_103 : Cond.arrayClass (q_aty 103) ∈ lw_tbl := List.mem_of_getElem? (i := 882) (by decide +kernel)
theorem in_obj : Cond.instanceMethod objectInit ∈ lw_tbl := List.mem_of_getElem? (i := 70) (by decide +kernel)
theorem cd_obj : Cond.code objectInit ⟨#[0xb1]⟩ 1 none ∈ lw_tbl := List.mem_of_getElem? (i := 71) (by decide +kernel)
theorem nt_copy : Cond.native arraycopyName ∈ lw_tbl := List.mem_of_getElem? (i := 255) (by decide +kernel)
theorem st_copy : Cond.static arraycopyName ∈ lw_tbl := List.mem_of_getElem? (i := 254) (by decide +kernel)
theorem ini_sys : Cond.initialized "java/lang/System" ∈ lw_tbl := List.mem_of_getElem? (i := 60) (by decide +kernel)
