theorem kx_0 : 0 < wkX.2.1 := by decide
theorem kx_1 : 1 < wkX.2.1 := by decide
theorem kx_2 : 2 < wkX.2.1 := by decide
theorem kx_3 : 3 < wkX.2.1 := by decide
theorem kx_4 : 4 < wkX.2.1 := by decide
theorem kx_5 : 5 < wkX.2.1 := by decide
theorem kx_6 : 6 < wkX.2.1 := by decide
theorem kx_7 : 7 < wkX.2.1 := by decide
theorem kx_8 : 8 < wkX.2.1 := by decide
theorem kx_9 : 9 < wkX.2.1 := by decide
theorem kx_10 : 10 < wkX.2.1 := by decide
theorem kx_11 : 11 < wkX.2.1 := by decide
theorem kx_12 : 12 < wkX.2.1 := by decide
theorem kx_13 : 13 < wkX.2.1 := by decide
theorem kx_14 : 14 < wkX.2.1 := by decide
theorem kx_15 : 15 < wkX.2.1 := by decide
theorem kx_16 : 16 < wkX.2.1 := by decide
theorem kx_17 : 17 < wkX.2.1 := by decide
theorem kx_18 : 18 < wkX.2.1 := by decide
theorem kx_19 : 19 < wkX.2.1 := by decide
theorem kx_20 : 20 < wkX.2.1 := by decide
theorem kx_21 : 21 < wkX.2.1 := by decide
theorem kx_22 : 22 < wkX.2.1 := by decide
theorem kx_23 : 23 < wkX.2.1 := by decide
theorem kx_24 : 24 < wkX.2.1 := by decide
theorem kx_25 : 25 < wkX.2.1 := by decide
theorem kx_26 : 26 < wkX.2.1 := by decide
theorem kx_27 : 27 < wkX.2.1 := by decide
theorem sx_0 : wkX.1 0 = .inr (.inl (9, [some 1, some 5, some 36, some 7, some 9, some 10, some 14, some 21, some 26, none])) := rfl
theorem sx_1 : wkX.1 1 = .inr (.inl (4, [some 2, some 3, some 4])) := rfl
theorem sx_2 : wkX.1 2 = .inr (.inr (3, 8, itV)) := rfl
theorem sx_3 : wkX.1 3 = .inl (0, 8) := rfl
theorem sx_4 : wkX.1 4 = .inl (0, 8) := rfl
theorem sx_5 : wkX.1 5 = .inr (.inl (6, [some 44, none, none, none, some 6, none])) := rfl
theorem sx_6 : wkX.1 6 = .inl (0, 90) := rfl
theorem sx_7 : wkX.1 7 = .inr (.inl (3, [none, none, some 8])) := rfl
theorem sx_8 : wkX.1 8 = .inr (.inr (2, 24, rgV)) := rfl
theorem sx_9 : wkX.1 9 = .inr (.inr (2, 2, imV)) := rfl
theorem sx_10 : wkX.1 10 = .inr (.inl (5, [some 260, some 11, some 13, none])) := rfl
theorem sx_11 : wkX.1 11 = .inr (.inl (2, [none, some 12])) := rfl
theorem sx_12 : wkX.1 12 = .inl (0, 610) := rfl
theorem sx_13 : wkX.1 13 = .inl (0, 12) := rfl
theorem sx_14 : wkX.1 14 = .inr (.inl (1, [none, some 15, some 17, some 18, some 19, some 20, none, none])) := rfl
theorem sx_15 : wkX.1 15 = .inr (.inl (2, [none, some 16])) := rfl
theorem sx_16 : wkX.1 16 = .inl (0, 250) := rfl
theorem sx_17 : wkX.1 17 = .inl (1, 96) := rfl
theorem sx_18 : wkX.1 18 = .inl (0, 4) := rfl
theorem sx_19 : wkX.1 19 = .inl (0, 4) := rfl
theorem sx_20 : wkX.1 20 = .inl (0, 6) := rfl
theorem sx_21 : wkX.1 21 = .inr (.inl (7, [some 268, some 22, some 24, some 25, none, none])) := rfl
theorem sx_22 : wkX.1 22 = .inr (.inl (2, [none, some 23])) := rfl
theorem sx_23 : wkX.1 23 = .inl (0, 210) := rfl
theorem sx_24 : wkX.1 24 = .inl (1, 54) := rfl
theorem sx_25 : wkX.1 25 = .inl (0, 6) := rfl
theorem sx_26 : wkX.1 26 = .inr (.inl (0, [none, some 27])) := rfl
theorem sx_27 : wkX.1 27 = .inl (0, 16) := rfl
theorem sm_0 : wkM.1 0 = .inr (.inl (10, [some 1, some 2, some 3, none, some 4, some 5, some 6, some 7, none, some 8, some 9, some 10, none, none, some 11, none, none, none, none, none, none, some 12, some 13, some 14])) := rfl
theorem sm_1 : wkM.1 1 = .inl (0, 8) := rfl
theorem sm_2 : wkM.1 2 = .inl (0, 8) := rfl
theorem sm_3 : wkM.1 3 = .inl (0, 320) := rfl
theorem sm_4 : wkM.1 4 = .inl (0, 59) := rfl
theorem sm_5 : wkM.1 5 = .inl (0, 59) := rfl
theorem sm_6 : wkM.1 6 = .inl (0, 59) := rfl
theorem sm_7 : wkM.1 7 = .inl (0, 1416) := rfl
theorem sm_8 : wkM.1 8 = .inl (0, 118) := rfl
theorem sm_9 : wkM.1 9 = .inl (1, 2) := rfl
theorem sm_10 : wkM.1 10 = .inl (0, 90) := rfl
theorem sm_11 : wkM.1 11 = .inl (0, 16) := rfl
theorem sm_12 : wkM.1 12 = .inl (0, 295) := rfl
theorem sm_13 : wkM.1 13 = .inl (0, 5) := rfl
theorem sm_14 : wkM.1 14 = .inl (0, 5) := rfl
theorem km_0 : 0 < wkM.2.1 := by decide
theorem km_1 : 1 < wkM.2.1 := by decide
theorem km_2 : 2 < wkM.2.1 := by decide
theorem km_3 : 3 < wkM.2.1 := by decide
theorem km_4 : 4 < wkM.2.1 := by decide
theorem km_5 : 5 < wkM.2.1 := by decide
theorem km_6 : 6 < wkM.2.1 := by decide
theorem km_7 : 7 < wkM.2.1 := by decide
theorem km_8 : 8 < wkM.2.1 := by decide
theorem km_9 : 9 < wkM.2.1 := by decide
theorem km_10 : 10 < wkM.2.1 := by decide
theorem km_11 : 11 < wkM.2.1 := by decide
theorem km_12 : 12 < wkM.2.1 := by decide
theorem km_13 : 13 < wkM.2.1 := by decide
theorem km_14 : 14 < wkM.2.1 := by decide
theorem if_11 : isF 11 := by unfold isF; decide
theorem if_15 : isF 15 := by unfold isF; decide
theorem if_22 : isF 22 := by unfold isF; decide
theorem isA_of {a n : Nat} (h : wkX.1 a = .inl (0, n)) (hk : a < wkX.2.1) : isA a := by
  have q : aLX a = n := by
    unfold aLX
    rw [show shX a = _ from h]
  refine ⟨?_, hk⟩
  rw [q]
  exact h
theorem isT_of {a n : Nat} (h : wkM.1 a = .inl (0, n)) (hk : a < wkM.2.1) : isT a := by
  have q : aLM a = n := by
    unfold aLM
    rw [show shM a = _ from h]
  refine ⟨?_, hk⟩
  rw [q]
  exact h
def isU (a : Nat) : Prop := wkM.1 a = .inl (0, 59) ∧ a < wkM.2.1
def tbl_0 : List Int32 := [-1, 0, 1, 1, 0, 4]
def tbl_1 : List Int32 := [10, 11, 12, 0, 13, 14]
def tbl_2 : List Int32 := [20, 21, 24, 22, 23, 0]
theorem ca_X0_bodyFor : CaS yX0_bodyFor cX0_bodyFor 5 (some .int) 2 := ⟨tw_1116, tw_43, tw_1117, by decide, by decide, by decide +kernel⟩
theorem ca_X0_begin : CaV yX0_begin cX0_begin 2 none 1 := ⟨tw_1127, tw_1128, tw_43, tw_1129, by decide, by decide, by decide +kernel⟩
theorem ca_X0_anew : CaV yX0_anew cX0_anew 5 (some .int) 4 := ⟨tw_1131, tw_1132, tw_43, tw_1133, by decide, by decide, by decide +kernel⟩
theorem ca_X0_give : CaV yX0_give cX0_give 5 (some .int) 4 := ⟨tw_1121, tw_1122, tw_43, tw_1123, by decide, by decide, by decide +kernel⟩
theorem ca_X0_answer : CaV yX0_answer cX0_answer 4 (some .int) 3 := ⟨tw_1111, tw_1112, tw_43, tw_1113, by decide, by decide, by decide +kernel⟩
theorem ca_X8_flow : CaV yX8_flow cX8_flow 9 none 3 := ⟨tw_456, tw_457, tw_22, tw_458, by decide, by decide, by decide +kernel⟩
theorem ca_X2_tell : CaV yX2_tell cX2_tell 5 none 2 := ⟨tw_627, tw_628, tw_95, tw_629, by decide, by decide, by decide +kernel⟩
theorem ca_X8_goneOn : CaV yX8_goneOn cX8_goneOn 3 (some .int) 2 := ⟨tw_470, tw_471, tw_22, tw_472, by decide, by decide, by decide +kernel⟩
theorem ca_X8_carried : CaV yX8_carried cX8_carried 2 (some .int) 1 := ⟨tw_543, tw_544, tw_22, tw_545, by decide, by decide, by decide +kernel⟩
theorem ca_X8_pace : CaS yX8_pace cX8_pace 9 (some .int) 5 := ⟨tw_467, tw_22, tw_468, by decide, by decide, by decide +kernel⟩
theorem ca_X8_placeAfter : CaV yX8_placeAfter cX8_placeAfter 8 (some .int) 6 := ⟨tw_463, tw_464, tw_22, tw_465, by decide, by decide, by decide +kernel⟩
theorem ca_X2_placeAfter : CaV yX2_placeAfter cX2_placeAfter 5 (some .int) 4 := ⟨tw_639, tw_640, tw_95, tw_641, by decide, by decide, by decide +kernel⟩
theorem ca_X1_placeBehind : CaV yX1_placeBehind cX1_placeBehind 7 (some .int) 4 := ⟨tw_753, tw_754, tw_35, tw_755, by decide, by decide, by decide +kernel⟩
theorem ca_X1_followAll : CaV yX1_followAll cX1_followAll 5 none 2 := ⟨tw_749, tw_750, tw_35, tw_751, by decide, by decide, by decide +kernel⟩
theorem ca_X1_weigh : CaV yX1_weigh cX1_weigh 3 none 0 := ⟨tw_764, tw_765, tw_35, tw_766, by decide, by decide, by decide +kernel⟩
theorem ca_X1_tryFrom : CaV yX1_tryFrom cX1_tryFrom 3 none 1 := ⟨tw_760, tw_761, tw_35, tw_762, by decide, by decide, by decide +kernel⟩
theorem ca_X1_search : CaV yX1_search cX1_search 4 none 3 := ⟨tw_742, tw_743, tw_35, tw_744, by decide, by decide, by decide +kernel⟩
theorem ca_X1_choiceAt : CaV yX1_choiceAt cX1_choiceAt 2 (some .int) 1 := ⟨tw_769, tw_770, tw_35, tw_771, by decide, by decide, by decide +kernel⟩
theorem ca_X2_lavaIn : CaV yX2_lavaIn cX2_lavaIn 3 (some .int) 2 := ⟨tw_666, tw_667, tw_95, tw_668, by decide, by decide, by decide +kernel⟩
theorem ca_X2_placeBehind : CaV yX2_placeBehind cX2_placeBehind 7 (some .int) 4 := ⟨tw_635, tw_636, tw_95, tw_637, by decide, by decide, by decide +kernel⟩
theorem ca_X8_become : CaV yX8_become cX8_become 2 none 1 := ⟨tw_354, tw_355, tw_22, tw_356, by decide, by decide, by decide +kernel⟩
theorem ca_X3_keep : CaV yX3_keep cX3_keep 2 none 1 := ⟨tw_448, tw_449, tw_26, tw_450, by decide, by decide, by decide +kernel⟩
theorem ca_X3_goBack : CaV yX3_goBack cX3_goBack 2 (some .boolean) 1 := ⟨tw_428, tw_429, tw_26, tw_430, by decide, by decide, by decide +kernel⟩
theorem ca_X3_forget : CaV yX3_forget cX3_forget 1 none 0 := ⟨tw_359, tw_360, tw_26, tw_361, by decide, by decide, by decide +kernel⟩
theorem ca_X4_isNumber : CaV yX4_isNumber cX4_isNumber 2 (some .boolean) 1 := ⟨tw_164, tw_165, tw_14, tw_166, by decide, by decide, by decide +kernel⟩
theorem ca_X4_isMissing : CaV yX4_isMissing cX4_isMissing 2 (some .boolean) 1 := ⟨tw_215, tw_216, tw_14, tw_217, by decide, by decide, by decide +kernel⟩
theorem ca_X4_present : CaV yX4_present cX4_present 3 (some .int) 0 := ⟨tw_1175, tw_1176, tw_14, tw_1177, by decide, by decide, by decide +kernel⟩
theorem ca_X4_make : CaV yX4_make cX4_make 5 none 3 := ⟨tw_176, tw_177, tw_14, tw_178, by decide, by decide, by decide +kernel⟩
theorem ca_X4_lose : CaV yX4_lose cX4_lose 2 (some .int) 1 := ⟨tw_259, tw_260, tw_14, tw_261, by decide, by decide, by decide +kernel⟩
theorem ca_X4_cut : CaS yX4_cut cX4_cut 2 (some .int) 2 := ⟨tw_227, tw_14, tw_228, by decide, by decide, by decide +kernel⟩
theorem ca_X4_put : CaV yX4_put cX4_put 4 (some .int) 3 := ⟨tw_223, tw_224, tw_14, tw_225, by decide, by decide, by decide +kernel⟩
theorem ca_X4_item : CaV yX4_item cX4_item 3 (some .int) 2 := ⟨tw_943, tw_944, tw_14, tw_945, by decide, by decide, by decide +kernel⟩
theorem ca_X4_move : CaV yX4_move cX4_move 6 none 5 := ⟨tw_242, tw_243, tw_14, tw_244, by decide, by decide, by decide +kernel⟩
theorem ca_X4_hasPlaces : CaV yX4_hasPlaces cX4_hasPlaces 4 (some .boolean) 3 := ⟨tw_219, tw_220, tw_14, tw_221, by decide, by decide, by decide +kernel⟩
theorem ca_X4_findingAt : CaV yX4_findingAt cX4_findingAt 4 (some .int) 3 := ⟨tw_211, tw_212, tw_14, tw_213, by decide, by decide, by decide +kernel⟩
theorem ca_X4_findingBetween : CaV yX4_findingBetween cX4_findingBetween 6 (some .int) 5 := ⟨tw_238, tw_239, tw_14, tw_240, by decide, by decide, by decide +kernel⟩
theorem ca_X5_placeBehind : CaV yX5_placeBehind cX5_placeBehind 4 (some .int) 3 := ⟨tw_622, tw_623, tw_31, tw_624, by decide, by decide, by decide +kernel⟩
theorem ca_X5_lavaBehind : CaV yX5_lavaBehind cX5_lavaBehind 4 (some .int) 3 := ⟨tw_662, tw_663, tw_31, tw_664, by decide, by decide, by decide +kernel⟩
theorem ca_X8_place : CaV yX8_place cX8_place 3 none 2 := ⟨tw_350, tw_351, tw_22, tw_352, by decide, by decide, by decide +kernel⟩
theorem ca_X8_pass : CaV yX8_pass cX8_pass 2 none 0 := ⟨tw_452, tw_453, tw_22, tw_454, by decide, by decide, by decide +kernel⟩
theorem ca_X5_passTrial : CaV yX5_passTrial cX5_passTrial 3 none 1 := ⟨tw_683, tw_684, tw_31, tw_685, by decide, by decide, by decide +kernel⟩
theorem ca_X8_stones : CaV yX8_stones cX8_stones 3 (some .int) 0 := ⟨tw_474, tw_475, tw_22, tw_476, by decide, by decide, by decide +kernel⟩
theorem ca_X5_stonesBehind : CaV yX5_stonesBehind cX5_stonesBehind 3 (some .int) 2 := ⟨tw_678, tw_679, tw_31, tw_680, by decide, by decide, by decide +kernel⟩
theorem ca_X8_allAt : CaV yX8_allAt cX8_allAt 4 (some .int) 1 := ⟨tw_593, tw_594, tw_22, tw_595, by decide, by decide, by decide +kernel⟩
theorem ca_X5_outsBehind : CaV yX5_outsBehind cX5_outsBehind 3 (some .int) 2 := ⟨tw_689, tw_690, tw_31, tw_691, by decide, by decide, by decide +kernel⟩
theorem ca_X5_frontBehind : CaV yX5_frontBehind cX5_frontBehind 4 (some .int) 2 := ⟨tw_728, tw_729, tw_31, tw_730, by decide, by decide, by decide +kernel⟩
theorem ca_X5_isCome : CaV yX5_isCome cX5_isCome 4 (some .boolean) 3 := ⟨tw_710, tw_711, tw_31, tw_712, by decide, by decide, by decide +kernel⟩
theorem ca_X5_firstDay : CaV yX5_firstDay cX5_firstDay 6 (some .int) 3 := ⟨tw_705, tw_706, tw_31, tw_707, by decide, by decide, by decide +kernel⟩
theorem ca_J6_bitCount_0f7a4 : CaS yJ6_bitCount_0f7a4 cJ6_bitCount_0f7a4 1 (some .int) 1 := ⟨tw_805, tw_806, tw_807, by decide, by decide, by decide +kernel⟩
theorem ca_X5_stonesWithDam : CaV yX5_stonesWithDam cX5_stonesWithDam 5 (some .int) 4 := ⟨tw_800, tw_801, tw_31, tw_802, by decide, by decide, by decide +kernel⟩
theorem ca_X5_bestDam : CaV yX5_bestDam cX5_bestDam 8 (some .int) 3 := ⟨tw_796, tw_797, tw_31, tw_798, by decide, by decide, by decide +kernel⟩
theorem ca_X5_leastWall : CaV yX5_leastWall cX5_leastWall 6 (some .int) 4 := ⟨tw_822, tw_823, tw_31, tw_824, by decide, by decide, by decide +kernel⟩
theorem ca_X5_mostFeed : CaV yX5_mostFeed cX5_mostFeed 4 (some .int) 2 := ⟨tw_834, tw_835, tw_31, tw_836, by decide, by decide, by decide +kernel⟩
theorem ca_X8_standing : CaV yX8_standing cX8_standing 3 (some .int) 0 := ⟨tw_610, tw_611, tw_22, tw_612, by decide, by decide, by decide +kernel⟩
theorem ca_X5_highOfAll : CaS yX5_highOfAll cX5_highOfAll 4 (some .int) 2 := ⟨tw_853, tw_31, tw_854, by decide, by decide, by decide +kernel⟩
theorem ca_X5_setsSoHigh : CaV yX5_setsSoHigh cX5_setsSoHigh 9 (some .int) 3 := ⟨tw_847, tw_848, tw_31, tw_849, by decide, by decide, by decide +kernel⟩
theorem ca_X5_partOf : CaV yX5_partOf cX5_partOf 9 (some .int) 3 := ⟨tw_873, tw_874, tw_31, tw_875, by decide, by decide, by decide +kernel⟩
theorem ca_X5_hear : CaV yX5_hear cX5_hear 6 none 4 := ⟨tw_938, tw_939, tw_31, tw_940, by decide, by decide, by decide +kernel⟩
theorem ca_X5_goesAsHeard : CaV yX5_goesAsHeard cX5_goesAsHeard 5 (some .boolean) 2 := ⟨tw_952, tw_953, tw_31, tw_954, by decide, by decide, by decide +kernel⟩
theorem ca_X5_kindsThatFit : CaV yX5_kindsThatFit cX5_kindsThatFit 5 (some .int) 2 := ⟨tw_947, tw_948, tw_31, tw_949, by decide, by decide, by decide +kernel⟩
theorem ca_X5_highsThatFit : CaV yX5_highsThatFit cX5_highsThatFit 5 (some .int) 2 := ⟨tw_956, tw_957, tw_31, tw_958, by decide, by decide, by decide +kernel⟩
theorem ca_X5_roomsThatFit : CaV yX5_roomsThatFit cX5_roomsThatFit 5 (some .int) 2 := ⟨tw_960, tw_961, tw_31, tw_962, by decide, by decide, by decide +kernel⟩
theorem ca_X5_liesAsHeard : CaV yX5_liesAsHeard cX5_liesAsHeard 3 (some .boolean) 1 := ⟨tw_987, tw_988, tw_31, tw_989, by decide, by decide, by decide +kernel⟩
theorem ca_X5_floorsThatFit : CaV yX5_floorsThatFit cX5_floorsThatFit 5 (some .int) 2 := ⟨tw_982, tw_983, tw_31, tw_984, by decide, by decide, by decide +kernel⟩
theorem ca_X5_feedsThatFit : CaV yX5_feedsThatFit cX5_feedsThatFit 5 (some .int) 2 := ⟨tw_991, tw_992, tw_31, tw_993, by decide, by decide, by decide +kernel⟩
theorem ca_X5_wallsThatStand : CaS yX5_wallsThatStand cX5_wallsThatStand 3 (some .int) 1 := ⟨tw_1014, tw_31, tw_1015, by decide, by decide, by decide +kernel⟩
theorem ca_X5_casesOf : CaS yX5_casesOf cX5_casesOf 6 (some .long) 3 := ⟨tw_1017, tw_31, tw_1018, by decide, by decide, by decide +kernel⟩
theorem ca_X5_isSpared : CaV yX5_isSpared cX5_isSpared 7 (some .boolean) 4 := ⟨tw_1020, tw_1021, tw_31, tw_1022, by decide, by decide, by decide +kernel⟩
theorem ca_X5_greatestDivisor : CaS yX5_greatestDivisor cX5_greatestDivisor 11 (some .long) 2 := ⟨tw_1028, tw_31, tw_1029, by decide, by decide, by decide +kernel⟩
theorem ca_X5_likelySpared : CaV yX5_likelySpared cX5_likelySpared 14 (some .long) 5 := ⟨tw_1009, tw_1010, tw_31, tw_1011, by decide, by decide, by decide +kernel⟩
theorem ca_X8_stands : CaV yX8_stands cX8_stands 2 (some .boolean) 1 := ⟨tw_539, tw_540, tw_22, tw_541, by decide, by decide, by decide +kernel⟩
theorem ca_X5_draw : CaV yX5_draw cX5_draw 4 none 1 := ⟨tw_1051, tw_1052, tw_31, tw_1053, by decide, by decide, by decide +kernel⟩
theorem ca_X5_becameInYears : CaV yX5_becameInYears cX5_becameInYears 10 (some .int) 4 := ⟨tw_1045, tw_1046, tw_31, tw_1047, by decide, by decide, by decide +kernel⟩
theorem ca_X6_takeByte : CaV yX6_takeByte cX6_takeByte 2 (some .boolean) 1 := ⟨tw_273, tw_274, tw_18, tw_275, by decide, by decide, by decide +kernel⟩
theorem ca_X8_clear : CaV yX8_clear cX8_clear 1 none 0 := ⟨tw_296, tw_297, tw_22, tw_298, by decide, by decide, by decide +kernel⟩
theorem ca_X6_next : CaV yX6_next cX6_next 1 (some .int) 0 := ⟨tw_310, tw_311, tw_18, tw_312, by decide, by decide, by decide +kernel⟩
theorem ca_X6_fails : CaV yX6_fails cX6_fails 2 (some .boolean) 1 := ⟨tw_314, tw_315, tw_18, tw_316, by decide, by decide, by decide +kernel⟩
theorem ca_X6_readSign : CaV yX6_readSign cX6_readSign 2 (some .boolean) 1 := ⟨tw_306, tw_307, tw_18, tw_308, by decide, by decide, by decide +kernel⟩
theorem ca_X6_readNumber : CaV yX6_readNumber cX6_readNumber 6 (some .int) 2 := ⟨tw_318, tw_319, tw_18, tw_320, by decide, by decide, by decide +kernel⟩
theorem ca_X6_readLaw : CaV yX6_readLaw cX6_readLaw 1 (some .boolean) 0 := ⟨tw_300, tw_301, tw_18, tw_302, by decide, by decide, by decide +kernel⟩
theorem ca_X8_addRoom : CaV yX8_addRoom cX8_addRoom 2 none 1 := ⟨tw_331, tw_332, tw_22, tw_333, by decide, by decide, by decide +kernel⟩
theorem ca_X6_readRoom : CaV yX6_readRoom cX6_readRoom 2 (some .boolean) 0 := ⟨tw_327, tw_328, tw_18, tw_329, by decide, by decide, by decide +kernel⟩
theorem ca_X6_readRooms : CaV yX6_readRooms cX6_readRooms 2 (some .boolean) 0 := ⟨tw_322, tw_323, tw_18, tw_324, by decide, by decide, by decide +kernel⟩
theorem ca_X6_sortOf : CaS yX6_sortOf cX6_sortOf 1 (some .int) 1 := ⟨tw_343, tw_18, tw_344, by decide, by decide, by decide +kernel⟩
theorem ca_X8_addThing : CaV yX8_addThing cX8_addThing 4 none 3 := ⟨tw_346, tw_347, tw_22, tw_348, by decide, by decide, by decide +kernel⟩
theorem ca_X6_readThing : CaV yX6_readThing cX6_readThing 4 (some .boolean) 0 := ⟨tw_339, tw_340, tw_18, tw_341, by decide, by decide, by decide +kernel⟩
theorem ca_X6_readThings : CaV yX6_readThings cX6_readThings 2 (some .boolean) 0 := ⟨tw_335, tw_336, tw_18, tw_337, by decide, by decide, by decide +kernel⟩
theorem ca_X6_read : CaV yX6_read cX6_read 2 (some .boolean) 0 := ⟨tw_292, tw_293, tw_18, tw_294, by decide, by decide, by decide +kernel⟩
theorem ca_X7_cell : CaS yX7_cell cX7_cell 3 (some .int) 3 := ⟨tw_900, tw_39, tw_901, by decide, by decide, by decide +kernel⟩
theorem ca_X7_followAll : CaV yX7_followAll cX7_followAll 6 none 2 := ⟨tw_895, tw_896, tw_39, tw_897, by decide, by decide, by decide +kernel⟩
theorem ca_X7_stonesNow : CaV yX7_stonesNow cX7_stonesNow 3 (some .int) 0 := ⟨tw_909, tw_910, tw_39, tw_911, by decide, by decide, by decide +kernel⟩
theorem ca_X7_auntTurn : CaV yX7_auntTurn cX7_auntTurn 5 (some .int) 2 := ⟨tw_913, tw_914, tw_39, tw_918, by decide, by decide, by decide +kernel⟩
theorem ca_X7_dresserTurn : CaV yX7_dresserTurn cX7_dresserTurn 5 (some .int) 2 := ⟨tw_916, tw_917, tw_39, tw_919, by decide, by decide, by decide +kernel⟩
theorem ca_X7_outcome : CaV yX7_outcome cX7_outcome 3 (some .int) 2 := ⟨tw_905, tw_906, tw_39, tw_907, by decide, by decide, by decide +kernel⟩
theorem ca_X7_play : CaV yX7_play cX7_play 5 (some .int) 3 := ⟨tw_886, tw_887, tw_39, tw_888, by decide, by decide, by decide +kernel⟩
theorem ca_X8_allLava : CaV yX8_allLava cX8_allLava 3 (some .int) 0 := ⟨tw_1179, tw_1180, tw_22, tw_1181, by decide, by decide, by decide +kernel⟩
theorem ca_X9_within : CaS yX9_within cX9_within 3 (some .boolean) 3 := ⟨tw_168, tw_2, tw_169, by decide, by decide, by decide +kernel⟩
theorem ca_X9_found : CaV yX9_found cX9_found 2 (some .int) 1 := ⟨tw_171, tw_172, tw_2, tw_173, by decide, by decide, by decide +kernel⟩
theorem ca_X9_unfound : CaV yX9_unfound cX9_unfound 2 (some .int) 1 := ⟨tw_180, tw_181, tw_2, tw_182, by decide, by decide, by decide +kernel⟩
theorem ca_X9_row : CaV yX9_row cX9_row 4 (some .int) 3 := ⟨tw_159, tw_160, tw_2, tw_161, by decide, by decide, by decide +kernel⟩
theorem ca_X9_set : CaV yX9_set cX9_set 5 (some .int) 3 := ⟨tw_207, tw_208, tw_2, tw_209, by decide, by decide, by decide +kernel⟩
theorem ca_X9_copy : CaV yX9_copy cX9_copy 7 (some .int) 5 := ⟨tw_234, tw_235, tw_2, tw_236, by decide, by decide, by decide +kernel⟩
theorem ca_X9_drop : CaV yX9_drop cX9_drop 2 (some .int) 1 := ⟨tw_254, tw_255, tw_2, tw_256, by decide, by decide, by decide +kernel⟩
theorem ca_X9_feed : CaV yX9_feed cX9_feed 2 (some .int) 1 := ⟨tw_267, tw_268, tw_2, tw_269, by decide, by decide, by decide +kernel⟩
theorem ca_X9_street : CaV yX9_street cX9_street 1 (some .int) 0 := ⟨tw_284, tw_285, tw_2, tw_286, by decide, by decide, by decide +kernel⟩
theorem ca_X9_fault : CaV yX9_fault cX9_fault 1 (some .int) 0 := ⟨tw_413, tw_414, tw_2, tw_415, by decide, by decide, by decide +kernel⟩
theorem ca_X9_undo : CaV yX9_undo cX9_undo 1 (some .int) 0 := ⟨tw_422, tw_423, tw_2, tw_424, by decide, by decide, by decide +kernel⟩
theorem ca_X9_isStreet : CaV yX9_isStreet cX9_isStreet 1 (some .boolean) 0 := ⟨tw_443, tw_444, tw_2, tw_445, by decide, by decide, by decide +kernel⟩
theorem ca_X9_days : CaV yX9_days cX9_days 3 (some .int) 1 := ⟨tw_438, tw_439, tw_2, tw_440, by decide, by decide, by decide +kernel⟩
theorem ca_X9_isRoom : CaV yX9_isRoom cX9_isRoom 2 (some .boolean) 1 := ⟨tw_517, tw_518, tw_2, tw_519, by decide, by decide, by decide +kernel⟩
theorem ca_X9_wall : CaV yX9_wall cX9_wall 4 (some .int) 2 := ⟨tw_512, tw_513, tw_2, tw_514, by decide, by decide, by decide +kernel⟩
theorem ca_X9_isThing : CaV yX9_isThing cX9_isThing 2 (some .boolean) 1 := ⟨tw_535, tw_536, tw_2, tw_537, by decide, by decide, by decide +kernel⟩
theorem ca_X9_carry : CaV yX9_carry cX9_carry 2 (some .int) 1 := ⟨tw_530, tw_531, tw_2, tw_532, by decide, by decide, by decide +kernel⟩
theorem ca_X9_feeding : CaV yX9_feeding cX9_feeding 3 (some .int) 1 := ⟨tw_559, tw_560, tw_2, tw_561, by decide, by decide, by decide +kernel⟩
theorem ca_X9_dig : CaV yX9_dig cX9_dig 2 (some .int) 1 := ⟨tw_569, tw_570, tw_2, tw_571, by decide, by decide, by decide +kernel⟩
theorem ca_X9_thing : CaV yX9_thing cX9_thing 3 (some .int) 2 := ⟨tw_577, tw_578, tw_2, tw_579, by decide, by decide, by decide +kernel⟩
theorem ca_X9_roomOf : CaV yX9_roomOf cX9_roomOf 3 (some .int) 2 := ⟨tw_588, tw_589, tw_2, tw_590, by decide, by decide, by decide +kernel⟩
theorem ca_X9_stand : CaV yX9_stand cX9_stand 2 (some .int) 1 := ⟨tw_605, tw_606, tw_2, tw_607, by decide, by decide, by decide +kernel⟩
theorem ca_X9_ahead : CaV yX9_ahead cX9_ahead 3 (some .int) 2 := ⟨tw_618, tw_619, tw_2, tw_620, by decide, by decide, by decide +kernel⟩
theorem ca_X9_lava : CaV yX9_lava cX9_lava 3 (some .int) 2 := ⟨tw_658, tw_659, tw_2, tw_660, by decide, by decide, by decide +kernel⟩
theorem ca_X9_kept : CaV yX9_kept cX9_kept 3 (some .int) 2 := ⟨tw_674, tw_675, tw_2, tw_676, by decide, by decide, by decide +kernel⟩
theorem ca_X9_when : CaV yX9_when cX9_when 3 (some .int) 2 := ⟨tw_701, tw_702, tw_2, tw_703, by decide, by decide, by decide +kernel⟩
theorem ca_X9_front : CaV yX9_front cX9_front 2 (some .int) 1 := ⟨tw_724, tw_725, tw_2, tw_726, by decide, by decide, by decide +kernel⟩
theorem ca_X9_carries : CaV yX9_carries cX9_carries 4 (some .int) 3 := ⟨tw_737, tw_738, tw_2, tw_739, by decide, by decide, by decide +kernel⟩
theorem ca_X9_dam : CaV yX9_dam cX9_dam 5 (some .int) 3 := ⟨tw_792, tw_793, tw_2, tw_794, by decide, by decide, by decide +kernel⟩
theorem ca_X9_hold : CaV yX9_hold cX9_hold 4 (some .int) 3 := ⟨tw_818, tw_819, tw_2, tw_820, by decide, by decide, by decide +kernel⟩
theorem ca_X9_spare : CaV yX9_spare cX9_spare 2 (some .int) 1 := ⟨tw_830, tw_831, tw_2, tw_832, by decide, by decide, by decide +kernel⟩
theorem ca_X9_sets : CaV yX9_sets cX9_sets 3 (some .int) 2 := ⟨tw_843, tw_844, tw_2, tw_845, by decide, by decide, by decide +kernel⟩
theorem ca_X9_share : CaV yX9_share cX9_share 3 (some .int) 2 := ⟨tw_869, tw_870, tw_2, tw_871, by decide, by decide, by decide +kernel⟩
theorem ca_X9_byTurns : CaV yX9_byTurns cX9_byTurns 3 (some .int) 2 := ⟨tw_882, tw_883, tw_2, tw_884, by decide, by decide, by decide +kernel⟩
theorem ca_X9_who : CaV yX9_who cX9_who 7 (some .int) 5 := ⟨tw_934, tw_935, tw_2, tw_936, by decide, by decide, by decide +kernel⟩
theorem ca_J6_numberOfTrailingZeros_0f7a4 : CaS yJ6_numberOfTrailingZeros_0f7a4 cJ6_numberOfTrailingZeros_0f7a4 2 (some .int) 1 := ⟨tw_996, tw_806, tw_997, by decide, by decide, by decide +kernel⟩
theorem ca_X9_feeds : CaV yX9_feeds cX9_feeds 8 (some .int) 5 := ⟨tw_977, tw_978, tw_2, tw_979, by decide, by decide, by decide +kernel⟩
theorem ca_X9_gives : CaV yX9_gives cX9_gives 5 (some .long) 4 := ⟨tw_1004, tw_1005, tw_2, tw_1006, by decide, by decide, by decide +kernel⟩
theorem ca_X9_drawn : CaV yX9_drawn cX9_drawn 4 (some .int) 3 := ⟨tw_1040, tw_1041, tw_2, tw_1042, by decide, by decide, by decide +kernel⟩
theorem ca_X9_image : CaV yX9_image cX9_image 2 (some .int) 1 := ⟨tw_1066, tw_1067, tw_2, tw_1068, by decide, by decide, by decide +kernel⟩
theorem ca_X9_restore : CaV yX9_restore cX9_restore 2 (some .int) 1 := ⟨tw_1074, tw_1075, tw_2, tw_1076, by decide, by decide, by decide +kernel⟩
theorem ca_X9_kind : CaV yX9_kind cX9_kind 2 (some .int) 1 := ⟨tw_1082, tw_1083, tw_2, tw_1084, by decide, by decide, by decide +kernel⟩
theorem ca_X9_isOfKind : CaS yX9_isOfKind cX9_isOfKind 4 (some .boolean) 2 := ⟨tw_1095, tw_2, tw_1096, by decide, by decide, by decide +kernel⟩
theorem ca_X9_as : CaV yX9_as cX9_as 3 (some .int) 2 := ⟨tw_1091, tw_1092, tw_2, tw_1093, by decide, by decide, by decide +kernel⟩
theorem ca_X9_ask : CaV yX9_ask cX9_ask 3 (some .int) 2 := ⟨tw_1107, tw_1108, tw_2, tw_1109, by decide, by decide, by decide +kernel⟩
theorem ca_X9_trace : CaV yX9_trace cX9_trace 2 (some .int) 1 := ⟨tw_1161, tw_1162, tw_2, tw_1163, by decide, by decide, by decide +kernel⟩
theorem ca_X9_count : CaV yX9_count cX9_count 2 (some .int) 1 := ⟨tw_1171, tw_1172, tw_2, tw_1173, by decide, by decide, by decide +kernel⟩
theorem ca_X9_status : CaV yX9_status cX9_status 1 (some .int) 0 := ⟨tw_1187, tw_1188, tw_2, tw_1189, by decide, by decide, by decide +kernel⟩
theorem ca_X10_in : CaS yX10_in cX10_in 6 (some .boolean) 3 := ⟨tw_194, tw_5, tw_195, by decide, by decide, by decide +kernel⟩
theorem ca_X10_isTwo : CaS yX10_isTwo cX10_isTwo 1 (some .boolean) 1 := ⟨tw_698, tw_5, tw_699, by decide, by decide, by decide +kernel⟩
theorem ca_X10_has : CaS yX10_has cX10_has 2 (some .boolean) 2 := ⟨tw_866, tw_5, tw_867, by decide, by decide, by decide +kernel⟩
theorem ca_X10_less : CaS yX10_less cX10_less 2 (some .int) 2 := ⟨tw_497, tw_5, tw_498, by decide, by decide, by decide +kernel⟩
theorem ca_X10_bits : CaS yX10_bits cX10_bits 3 (some .int) 1 := ⟨tw_789, tw_5, tw_790, by decide, by decide, by decide +kernel⟩
theorem ca_X10_copies : CaS yX10_copies cX10_copies 5 none 4 := ⟨tw_410, tw_5, tw_411, by decide, by decide, by decide +kernel⟩
theorem ca_X10_found : CaV yX10_found cX10_found 2 (some .int) 1 := ⟨tw_197, tw_198, tw_5, tw_199, by decide, by decide, by decide +kernel⟩
theorem ca_X10_well : CaV yX10_well cX10_well 2 (some .int) 1 := ⟨tw_203, tw_204, tw_5, tw_205, by decide, by decide, by decide +kernel⟩
theorem ca_X10_isRow : CaS yX10_isRow cX10_isRow 1 (some .boolean) 1 := ⟨tw_190, tw_5, tw_191, by decide, by decide, by decide +kernel⟩
theorem ca_X10_row : CaV yX10_row cX10_row 5 (some .int) 3 := ⟨tw_184, tw_185, tw_5, tw_186, by decide, by decide, by decide +kernel⟩
theorem ca_X10_set : CaV yX10_set cX10_set 4 (some .int) 3 := ⟨tw_230, tw_231, tw_5, tw_232, by decide, by decide, by decide +kernel⟩
theorem ca_X10_copy : CaV yX10_copy cX10_copy 8 (some .int) 5 := ⟨tw_250, tw_251, tw_5, tw_252, by decide, by decide, by decide +kernel⟩
theorem ca_X10_drop : CaV yX10_drop cX10_drop 3 (some .int) 1 := ⟨tw_263, tw_264, tw_5, tw_265, by decide, by decide, by decide +kernel⟩
theorem ca_X10_feed : CaV yX10_feed cX10_feed 2 (some .int) 1 := ⟨tw_277, tw_278, tw_5, tw_279, by decide, by decide, by decide +kernel⟩
theorem ca_X10_here : CaV yX10_here cX10_here 1 (some .int) 0 := ⟨tw_387, tw_388, tw_5, tw_389, by decide, by decide, by decide +kernel⟩
theorem ca_X10_step : CaV yX10_step cX10_step 1 none 0 := ⟨tw_379, tw_380, tw_5, tw_381, by decide, by decide, by decide +kernel⟩
theorem ca_X10_fails : CaV yX10_fails cX10_fails 2 (some .boolean) 1 := ⟨tw_391, tw_392, tw_5, tw_393, by decide, by decide, by decide +kernel⟩
theorem ca_X10_number : CaV yX10_number cX10_number 5 (some .boolean) 4 := ⟨tw_395, tw_396, tw_5, tw_397, by decide, by decide, by decide +kernel⟩
theorem ca_X10_sortOf : CaS yX10_sortOf cX10_sortOf 1 (some .int) 1 := ⟨tw_407, tw_5, tw_408, by decide, by decide, by decide +kernel⟩
theorem ca_X10_readsRoom : CaV yX10_readsRoom cX10_readsRoom 2 (some .boolean) 0 := ⟨tw_399, tw_400, tw_5, tw_401, by decide, by decide, by decide +kernel⟩
theorem ca_X10_readsThing : CaV yX10_readsThing cX10_readsThing 3 (some .boolean) 0 := ⟨tw_403, tw_404, tw_5, tw_405, by decide, by decide, by decide +kernel⟩
theorem ca_X10_reads : CaV yX10_reads cX10_reads 2 (some .boolean) 0 := ⟨tw_372, tw_373, tw_5, tw_374, by decide, by decide, by decide +kernel⟩
theorem ca_X10_street : CaV yX10_street cX10_street 2 (some .int) 0 := ⟨tw_363, tw_364, tw_5, tw_365, by decide, by decide, by decide +kernel⟩
theorem ca_X10_fault : CaV yX10_fault cX10_fault 1 (some .int) 0 := ⟨tw_418, tw_419, tw_5, tw_420, by decide, by decide, by decide +kernel⟩
theorem ca_X10_flows : CaS yX10_flows cX10_flows 6 none 1 := ⟨tw_494, tw_5, tw_495, by decide, by decide, by decide +kernel⟩
theorem ca_X10_lies : CaS yX10_lies cX10_lies 2 (some .boolean) 2 := ⟨tw_503, tw_5, tw_504, by decide, by decide, by decide +kernel⟩
theorem ca_X10_stepsOf : CaS yX10_stepsOf cX10_stepsOf 6 (some .int) 2 := ⟨tw_500, tw_5, tw_501, by decide, by decide, by decide +kernel⟩
theorem ca_X10_goes : CaS yX10_goes cX10_goes 3 none 3 := ⟨tw_506, tw_5, tw_507, by decide, by decide, by decide +kernel⟩
theorem ca_X10_passes : CaS yX10_passes cX10_passes 2 none 1 := ⟨tw_491, tw_5, tw_492, by decide, by decide, by decide +kernel⟩
theorem ca_X10_goesBy : CaS yX10_goesBy cX10_goesBy 3 none 2 := ⟨tw_655, tw_5, tw_656, by decide, by decide, by decide +kernel⟩
theorem ca_X10_whereOf : CaS yX10_whereOf cX10_whereOf 2 (some .int) 2 := ⟨tw_556, tw_5, tw_557, by decide, by decide, by decide +kernel⟩
theorem ca_X10_those : CaS yX10_those cX10_those 4 (some .int) 2 := ⟨tw_509, tw_5, tw_510, by decide, by decide, by decide +kernel⟩
theorem ca_X10_stones : CaS yX10_stones cX10_stones 1 (some .int) 1 := ⟨tw_786, tw_5, tw_787, by decide, by decide, by decide +kernel⟩
theorem ca_X10_isThing : CaV yX10_isThing cX10_isThing 2 (some .boolean) 1 := ⟨tw_552, tw_553, tw_5, tw_554, by decide, by decide, by decide +kernel⟩
theorem ca_X10_isRoom : CaV yX10_isRoom cX10_isRoom 2 (some .boolean) 1 := ⟨tw_526, tw_527, tw_5, tw_528, by decide, by decide, by decide +kernel⟩
theorem ca_X10_isThere : CaV yX10_isThere cX10_isThere 1 (some .boolean) 0 := ⟨tw_483, tw_484, tw_5, tw_485, by decide, by decide, by decide +kernel⟩
theorem ca_X10_notes : CaV yX10_notes cX10_notes 2 none 0 := ⟨tw_487, tw_488, tw_5, tw_489, by decide, by decide, by decide +kernel⟩
theorem ca_X10_undo : CaV yX10_undo cX10_undo 1 (some .int) 0 := ⟨tw_433, tw_434, tw_5, tw_435, by decide, by decide, by decide +kernel⟩
theorem ca_X10_days : CaV yX10_days cX10_days 3 (some .int) 1 := ⟨tw_478, tw_479, tw_5, tw_480, by decide, by decide, by decide +kernel⟩
theorem ca_X10_wall : CaV yX10_wall cX10_wall 4 (some .int) 2 := ⟨tw_521, tw_522, tw_5, tw_523, by decide, by decide, by decide +kernel⟩
theorem ca_X10_carry : CaV yX10_carry cX10_carry 2 (some .int) 1 := ⟨tw_548, tw_549, tw_5, tw_550, by decide, by decide, by decide +kernel⟩
theorem ca_X10_feeding : CaV yX10_feeding cX10_feeding 3 (some .int) 1 := ⟨tw_564, tw_565, tw_5, tw_566, by decide, by decide, by decide +kernel⟩
theorem ca_X10_dig : CaV yX10_dig cX10_dig 2 (some .int) 1 := ⟨tw_573, tw_574, tw_5, tw_575, by decide, by decide, by decide +kernel⟩
theorem ca_X10_thing : CaV yX10_thing cX10_thing 3 (some .int) 2 := ⟨tw_584, tw_585, tw_5, tw_586, by decide, by decide, by decide +kernel⟩
theorem ca_X10_thoseIn : CaV yX10_thoseIn cX10_thoseIn 5 (some .int) 2 := ⟨tw_601, tw_602, tw_5, tw_603, by decide, by decide, by decide +kernel⟩
theorem ca_X10_roomOf : CaV yX10_roomOf cX10_roomOf 3 (some .int) 2 := ⟨tw_597, tw_598, tw_5, tw_599, by decide, by decide, by decide +kernel⟩
theorem ca_X10_stand : CaV yX10_stand cX10_stand 2 (some .int) 1 := ⟨tw_614, tw_615, tw_5, tw_616, by decide, by decide, by decide +kernel⟩
theorem ca_X10_laysAside : CaV yX10_laysAside cX10_laysAside 2 none 1 := ⟨tw_651, tw_652, tw_5, tw_653, by decide, by decide, by decide +kernel⟩
theorem ca_X10_ahead : CaV yX10_ahead cX10_ahead 3 (some .int) 2 := ⟨tw_646, tw_647, tw_5, tw_648, by decide, by decide, by decide +kernel⟩
theorem ca_X10_lava : CaV yX10_lava cX10_lava 3 (some .int) 2 := ⟨tw_670, tw_671, tw_5, tw_672, by decide, by decide, by decide +kernel⟩
theorem ca_X10_kept : CaV yX10_kept cX10_kept 3 (some .int) 2 := ⟨tw_694, tw_695, tw_5, tw_696, by decide, by decide, by decide +kernel⟩
theorem ca_X10_isSo : CaV yX10_isSo cX10_isSo 4 (some .boolean) 2 := ⟨tw_720, tw_721, tw_5, tw_722, by decide, by decide, by decide +kernel⟩
theorem ca_X10_when : CaV yX10_when cX10_when 4 (some .int) 2 := ⟨tw_715, tw_716, tw_5, tw_717, by decide, by decide, by decide +kernel⟩
theorem ca_X10_front : CaV yX10_front cX10_front 4 (some .int) 1 := ⟨tw_733, tw_734, tw_5, tw_735, by decide, by decide, by decide +kernel⟩
theorem ca_X10_power : CaS yX10_power cX10_power 4 (some .int) 2 := ⟨tw_779, tw_5, tw_780, by decide, by decide, by decide +kernel⟩
theorem ca_X10_keeps : CaV yX10_keeps cX10_keeps 7 (some .int) 3 := ⟨tw_782, tw_783, tw_5, tw_784, by decide, by decide, by decide +kernel⟩
theorem ca_X10_carries : CaV yX10_carries cX10_carries 9 (some .int) 3 := ⟨tw_774, tw_775, tw_5, tw_776, by decide, by decide, by decide +kernel⟩
theorem ca_X10_dam : CaV yX10_dam cX10_dam 8 (some .int) 3 := ⟨tw_813, tw_814, tw_5, tw_815, by decide, by decide, by decide +kernel⟩
theorem ca_X10_hold : CaV yX10_hold cX10_hold 5 (some .int) 3 := ⟨tw_826, tw_827, tw_5, tw_828, by decide, by decide, by decide +kernel⟩
theorem ca_X10_spare : CaV yX10_spare cX10_spare 3 (some .int) 1 := ⟨tw_839, tw_840, tw_5, tw_841, by decide, by decide, by decide +kernel⟩
theorem ca_X10_highOf : CaV yX10_highOf cX10_highOf 4 (some .int) 1 := ⟨tw_862, tw_863, tw_5, tw_864, by decide, by decide, by decide +kernel⟩
theorem ca_X10_sets : CaV yX10_sets cX10_sets 8 (some .int) 2 := ⟨tw_857, tw_858, tw_5, tw_859, by decide, by decide, by decide +kernel⟩
theorem ca_X10_share : CaV yX10_share cX10_share 8 (some .int) 2 := ⟨tw_877, tw_878, tw_5, tw_879, by decide, by decide, by decide +kernel⟩
theorem ca_X10_chooses : CaV yX10_chooses cX10_chooses 5 (some .boolean) 2 := ⟨tw_930, tw_931, tw_5, tw_932, by decide, by decide, by decide +kernel⟩
theorem ca_X10_endsIn : CaV yX10_endsIn cX10_endsIn 3 (some .int) 2 := ⟨tw_926, tw_927, tw_5, tw_928, by decide, by decide, by decide +kernel⟩
theorem ca_X10_byTurns : CaV yX10_byTurns cX10_byTurns 6 (some .int) 2 := ⟨tw_922, tw_923, tw_5, tw_924, by decide, by decide, by decide +kernel⟩
theorem ca_X10_fits : CaV yX10_fits cX10_fits 8 (some .boolean) 5 := ⟨tw_973, tw_974, tw_5, tw_975, by decide, by decide, by decide +kernel⟩
theorem ca_X10_lacks : CaV yX10_lacks cX10_lacks 4 (some .int) 3 := ⟨tw_969, tw_970, tw_5, tw_971, by decide, by decide, by decide +kernel⟩
theorem ca_X10_who : CaV yX10_who cX10_who 11 (some .int) 5 := ⟨tw_964, tw_965, tw_5, tw_966, by decide, by decide, by decide +kernel⟩
theorem ca_X10_feeds : CaV yX10_feeds cX10_feeds 9 (some .int) 5 := ⟨tw_1000, tw_1001, tw_5, tw_1002, by decide, by decide, by decide +kernel⟩
theorem ca_X10_divisor : CaS yX10_divisor cX10_divisor 10 (some .long) 2 := ⟨tw_1037, tw_5, tw_1038, by decide, by decide, by decide +kernel⟩
theorem ca_X10_gives : CaV yX10_gives cX10_gives 14 (some .long) 4 := ⟨tw_1031, tw_1032, tw_5, tw_1033, by decide, by decide, by decide +kernel⟩
theorem ca_X10_drawn : CaV yX10_drawn cX10_drawn 11 (some .int) 3 := ⟨tw_1058, tw_1059, tw_5, tw_1060, by decide, by decide, by decide +kernel⟩
theorem ca_X10_image : CaV yX10_image cX10_image 2 (some .int) 1 := ⟨tw_1070, tw_1071, tw_5, tw_1072, by decide, by decide, by decide +kernel⟩
theorem ca_X10_restore : CaV yX10_restore cX10_restore 2 (some .int) 1 := ⟨tw_1078, tw_1079, tw_5, tw_1080, by decide, by decide, by decide +kernel⟩
theorem ca_X10_kind : CaV yX10_kind cX10_kind 2 (some .int) 1 := ⟨tw_1087, tw_1088, tw_5, tw_1089, by decide, by decide, by decide +kernel⟩
theorem ca_X10_isOf : CaS yX10_isOf cX10_isOf 2 (some .boolean) 2 := ⟨tw_1104, tw_5, tw_1105, by decide, by decide, by decide +kernel⟩
theorem ca_X10_as : CaV yX10_as cX10_as 3 (some .int) 2 := ⟨tw_1099, tw_1100, tw_5, tw_1101, by decide, by decide, by decide +kernel⟩
theorem ca_X10_leave : CaV yX10_leave cX10_leave 7 none 1 := ⟨tw_1150, tw_1151, tw_5, tw_1152, by decide, by decide, by decide +kernel⟩
theorem ca_X10_mark : CaV yX10_mark cX10_mark 4 (some .int) 1 := ⟨tw_1143, tw_1144, tw_5, tw_1145, by decide, by decide, by decide +kernel⟩
theorem ca_X10_sizeOf : CaV yX10_sizeOf cX10_sizeOf 4 (some .int) 1 := ⟨tw_1155, tw_1156, tw_5, tw_1157, by decide, by decide, by decide +kernel⟩
theorem ca_X10_ask : CaV yX10_ask cX10_ask 5 (some .int) 2 := ⟨tw_1135, tw_1136, tw_5, tw_1137, by decide, by decide, by decide +kernel⟩
theorem ca_X10_trace : CaV yX10_trace cX10_trace 2 (some .int) 1 := ⟨tw_1167, tw_1168, tw_5, tw_1169, by decide, by decide, by decide +kernel⟩
theorem ca_X10_count : CaV yX10_count cX10_count 5 (some .int) 1 := ⟨tw_1183, tw_1184, tw_5, tw_1185, by decide, by decide, by decide +kernel⟩
theorem ca_X10_status : CaV yX10_status cX10_status 1 (some .int) 0 := ⟨tw_1191, tw_1192, tw_5, tw_1193, by decide, by decide, by decide +kernel⟩
