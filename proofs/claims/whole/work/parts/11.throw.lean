theorem cw_RX0_J7_fill_53178 : SW RX0 65 yJ7_fill_53178 cJ7_fill_53178 4 none 2 := ⟨⟨w_30, w_31, w_32, w_25⟩, by decide +kernel⟩
theorem cw_RX0_X0_isThing : VW RX0 183 yX0_isThing cX0_isThing 2 (some .boolean) 1 := ⟨⟨w_37, w_38, w_39, w_40, w_33⟩, by decide +kernel⟩
theorem cw_RX0_X0_needThing : VW RX0 71 yX0_needThing cX0_needThing 2 none 1 := ⟨⟨w_44, w_45, w_46, w_40, w_34⟩, by decide +kernel⟩
theorem cw_RX0_X0_isOfKind : VW RX0 171 yX0_isOfKind cX0_isOfKind 3 (some .boolean) 2 := ⟨⟨w_53, w_54, w_55, w_40, w_50⟩, by decide +kernel⟩
theorem cw_RX0_X0_bit : SW RX0 206 yX0_bit cX0_bit 1 (some .long) 1 := ⟨⟨w_56, w_57, w_40, w_51⟩, by decide +kernel⟩
theorem cw_RX0_X0_needKindOrNone : VW RX0 89 yX0_needKindOrNone cX0_needKindOrNone 2 none 1 := ⟨⟨w_58, w_59, w_60, w_40, w_47⟩, by decide +kernel⟩
theorem cw_RX0_X0_needRoomForRelation : VW RX0 94 yX0_needRoomForRelation cX0_needRoomForRelation 1 none 0 := ⟨⟨w_61, w_62, w_63, w_40, w_48⟩, by decide +kernel⟩
theorem cw_RX0_X0_addRelation : VW RX0 97 yX0_addRelation cX0_addRelation 5 (some .int) 3 := ⟨⟨w_64, w_65, w_66, w_40, w_49⟩, by decide +kernel⟩
theorem cw_RX0_X0_startRows : VW RX0 101 yX0_startRows cX0_startRows 4 none 1 := ⟨⟨w_67, w_68, w_69, w_40, w_52⟩, by decide +kernel⟩
theorem cw_RX0_X0_needRelation : VW RX0 106 yX0_needRelation cX0_needRelation 2 none 1 := ⟨⟨w_74, w_75, w_76, w_40, w_71⟩, by decide +kernel⟩
theorem cw_RX0_X0_takesTwo : SW RX0 109 yX0_takesTwo cX0_takesTwo 1 (some .boolean) 1 := ⟨⟨w_77, w_78, w_40, w_72⟩, by decide +kernel⟩
theorem cw_RX0_X0_isByCondition : VW RX0 197 yX0_isByCondition cX0_isByCondition 2 (some .boolean) 1 := ⟨⟨w_81, w_82, w_83, w_40, w_79⟩, by decide +kernel⟩
theorem cw_RX0_X0_needForm : VW RX0 135 yX0_needForm cX0_needForm 2 none 1 := ⟨⟨w_84, w_85, w_86, w_40, w_80⟩, by decide +kernel⟩
theorem cw_RX0_X0_makeClass : VW RX0 224 yX0_makeClass cX0_makeClass 5 none 2 := ⟨⟨w_93, w_94, w_95, w_40, w_89⟩, by decide +kernel⟩
theorem cw_RX0_X0_goesBothWays : VW RX0 228 yX0_goesBothWays cX0_goesBothWays 2 (some .boolean) 1 := ⟨⟨w_96, w_97, w_98, w_40, w_90⟩, by decide +kernel⟩
theorem cw_RX0_X0_part : VW RX0 132 yX0_part cX0_part 4 none 3 := ⟨⟨w_100, w_101, w_102, w_40, w_91⟩, by decide +kernel⟩
theorem cw_RX0_X0_holds : VW RX0 119 yX0_holds cX0_holds 4 (some .boolean) 3 := ⟨⟨w_103, w_104, w_105, w_40, w_88⟩, by decide +kernel⟩
theorem cw_RX0_X0_pushPair : VW RX0 221 yX0_pushPair cX0_pushPair 4 none 3 := ⟨⟨w_106, w_107, w_108, w_40, w_99⟩, by decide +kernel⟩
theorem cw_RX0_X0_pushRow : VW RX0 215 yX0_pushRow cX0_pushRow 4 none 2 := ⟨⟨w_111, w_112, w_113, w_40, w_109⟩, by decide +kernel⟩
theorem cw_RX0_X0_pushColumn : VW RX0 218 yX0_pushColumn cX0_pushColumn 4 none 2 := ⟨⟨w_114, w_115, w_116, w_40, w_110⟩, by decide +kernel⟩
theorem cw_RX0_X0_needSettable : VW RX0 115 yX0_needSettable cX0_needSettable 4 none 3 := ⟨⟨w_120, w_121, w_122, w_40, w_87⟩, by decide +kernel⟩
theorem cw_RX0_X0_pushOut : VW RX0 123 yX0_pushOut cX0_pushOut 4 none 3 := ⟨⟨w_123, w_124, w_125, w_40, w_117⟩, by decide +kernel⟩
theorem cw_RX0_X0_join : VW RX0 126 yX0_join cX0_join 4 none 3 := ⟨⟨w_126, w_127, w_128, w_40, w_118⟩, by decide +kernel⟩
theorem cw_RX0_X0_makeStale : VW RX0 129 yX0_makeStale cX0_makeStale 2 none 1 := ⟨⟨w_129, w_130, w_131, w_40, w_119⟩, by decide +kernel⟩
theorem cw_RX0_J13_bitCount_95d88 : SW RX0 210 yJ13_bitCount_95d88 cJ13_bitCount_95d88 2 (some .int) 1 := ⟨⟨w_139, w_140, w_141, w_134⟩, by decide +kernel⟩
theorem cw_RX0_X0_pairsOf : VW RX0 138 yX0_pairsOf cX0_pairsOf 4 (some .int) 1 := ⟨⟨w_142, w_143, w_144, w_40, w_138⟩, by decide +kernel⟩
theorem cw_RX0_X0_column : VW RX0 156 yX0_column cX0_column 6 (some .long) 2 := ⟨⟨w_157, w_158, w_159, w_40, w_154⟩, by decide +kernel⟩
theorem cw_RX0_X0_rowThrough : VW RX0 243 yX0_rowThrough cX0_rowThrough 7 (some .long) 3 := ⟨⟨w_160, w_161, w_162, w_40, w_155⟩, by decide +kernel⟩
theorem cw_RX0_X0_workOutFar : VW RX0 236 yX0_workOutFar cX0_workOutFar 4 none 1 := ⟨⟨w_163, w_164, w_165, w_40, w_149⟩, by decide +kernel⟩
theorem cw_RX0_X0_rowBy : VW RX0 239 yX0_rowBy cX0_rowBy 5 (some .long) 4 := ⟨⟨w_166, w_167, w_168, w_40, w_156⟩, by decide +kernel⟩
theorem cw_RX0_X0_workOut : VW RX0 233 yX0_workOut cX0_workOut 4 none 1 := ⟨⟨w_170, w_171, w_172, w_40, w_169⟩, by decide +kernel⟩
theorem cw_RX0_X0_settle : VW RX0 149 yX0_settle cX0_settle 3 none 1 := ⟨⟨w_174, w_175, w_176, w_40, w_173⟩, by decide +kernel⟩
theorem cw_RJ13_J6_numberOfTrailingZeros_0f7a4 : SW RJ13 311 yJ6_numberOfTrailingZeros_0f7a4 cJ6_numberOfTrailingZeros_0f7a4 2 (some .int) 1 := ⟨⟨w_181, w_182, w_183, w_178⟩, by decide +kernel⟩
theorem cw_RX0_J13_numberOfTrailingZeros_95d88 : SW RX0 177 yJ13_numberOfTrailingZeros_95d88 cJ13_numberOfTrailingZeros_95d88 3 (some .int) 1 := ⟨⟨w_185, w_186, w_141, w_180⟩, by decide +kernel⟩
theorem cw_RX0_X0_pick : VW RX0 152 yX0_pick cX0_pick 7 (some .int) 2 := ⟨⟨w_187, w_188, w_189, w_40, w_184⟩, by decide +kernel⟩
theorem cw_RX0_X0_measureSteps : VW RX0 160 yX0_measureSteps cX0_measureSteps 9 none 2 := ⟨⟨w_194, w_195, w_196, w_40, w_193⟩, by decide +kernel⟩
theorem cw_RX0_X0_stepNearer : VW RX0 166 yX0_stepNearer cX0_stepNearer 4 (some .int) 2 := ⟨⟨w_199, w_200, w_201, w_40, w_198⟩, by decide +kernel⟩
theorem cw_RX1_X1_begin : VW RX1 45 yX1_begin cX1_begin 2 none 0 := ⟨⟨w_228, w_229, w_230, w_231, w_211⟩, by decide +kernel⟩
theorem cw_RX1_X1_isIn : SW RX1 57 yX1_isIn cX1_isIn 3 (some .boolean) 3 := ⟨⟨w_238, w_239, w_231, w_236⟩, by decide +kernel⟩
theorem cw_RX1_X1_isThing : VW RX1 61 yX1_isThing cX1_isThing 2 (some .boolean) 1 := ⟨⟨w_242, w_243, w_244, w_231, w_237⟩, by decide +kernel⟩
theorem cw_RX1_X1_isGood : VW RX1 65 yX1_isGood cX1_isGood 2 (some .boolean) 1 := ⟨⟨w_245, w_246, w_247, w_231, w_235⟩, by decide +kernel⟩
theorem cw_RX1_X1_at : SW RX1 68 yX1_at cX1_at 3 (some .int) 3 := ⟨⟨w_250, w_251, w_231, w_248⟩, by decide +kernel⟩
theorem cw_RX1_X1_make : VW RX1 72 yX1_make cX1_make 6 (some .int) 3 := ⟨⟨w_253, w_254, w_255, w_231, w_249⟩, by decide +kernel⟩
theorem cw_RX1_X1_isRelation : VW RX1 75 yX1_isRelation cX1_isRelation 2 (some .boolean) 1 := ⟨⟨w_256, w_257, w_258, w_231, w_240⟩, by decide +kernel⟩
theorem cw_RX1_X1_far : VW RX1 78 yX1_far cX1_far 5 none 1 := ⟨⟨w_262, w_263, w_264, w_231, w_260⟩, by decide +kernel⟩
theorem cw_RX1_X1_work : VW RX1 82 yX1_work cX1_work 8 none 1 := ⟨⟨w_266, w_267, w_268, w_231, w_261⟩, by decide +kernel⟩
theorem cw_RX1_X1_isOf : SW RX1 85 yX1_isOf cX1_isOf 2 (some .boolean) 2 := ⟨⟨w_271, w_272, w_231, w_269⟩, by decide +kernel⟩
theorem cw_RX1_X1_put : VW RX1 89 yX1_put cX1_put 5 none 4 := ⟨⟨w_275, w_276, w_277, w_231, w_273⟩, by decide +kernel⟩
theorem cw_RX1_X1_push : VW RX1 93 yX1_push cX1_push 4 none 3 := ⟨⟨w_279, w_280, w_281, w_231, w_274⟩, by decide +kernel⟩
theorem cw_RX1_X1_whyNot : VW RX1 97 yX1_whyNot cX1_whyNot 5 (some .int) 3 := ⟨⟨w_284, w_285, w_286, w_231, w_270⟩, by decide +kernel⟩
theorem cw_RX1_X1_pushFrom : VW RX1 100 yX1_pushFrom cX1_pushFrom 4 none 2 := ⟨⟨w_287, w_288, w_289, w_231, w_278⟩, by decide +kernel⟩
theorem cw_RX1_X1_pushTo : VW RX1 104 yX1_pushTo cX1_pushTo 4 none 2 := ⟨⟨w_290, w_291, w_292, w_231, w_282⟩, by decide +kernel⟩
theorem cw_RX1_X1_join : VW RX1 107 yX1_join cX1_join 6 none 3 := ⟨⟨w_293, w_294, w_295, w_231, w_283⟩, by decide +kernel⟩
theorem cw_RX1_X1_part : VW RX1 110 yX1_part cX1_part 4 none 2 := ⟨⟨w_298, w_299, w_300, w_231, w_297⟩, by decide +kernel⟩
theorem cw_RX1_X1_countOf : VW RX1 113 yX1_countOf cX1_countOf 4 (some .int) 1 := ⟨⟨w_304, w_305, w_306, w_231, w_302⟩, by decide +kernel⟩
theorem cw_RX1_X1_learn : VW RX1 117 yX1_learn cX1_learn 3 none 1 := ⟨⟨w_308, w_309, w_310, w_231, w_265⟩, by decide +kernel⟩
theorem cw_RX1_X1_beside : VW RX1 120 yX1_beside cX1_beside 7 (some .int) 4 := ⟨⟨w_313, w_314, w_315, w_231, w_312⟩, by decide +kernel⟩
theorem cw_RX1_X1_besideOr : VW RX1 124 yX1_besideOr cX1_besideOr 6 (some .int) 4 := ⟨⟨w_317, w_318, w_319, w_231, w_316⟩, by decide +kernel⟩
theorem cw_RX1_X1_measure : VW RX1 127 yX1_measure cX1_measure 6 none 2 := ⟨⟨w_324, w_325, w_326, w_231, w_323⟩, by decide +kernel⟩
theorem cw_RL_X0_kind : VW RL 7 yX0_kind cX0_kind 4 (some .int) 2 := ⟨⟨w_341, w_342, w_343, w_40, w_41⟩, by decide +kernel⟩
theorem cw_RL_X0_relation : VW RL 17 yX0_relation cX0_relation 5 (some .int) 3 := ⟨⟨w_344, w_345, w_346, w_40, w_70⟩, by decide +kernel⟩
theorem cw_RL_X0_condition : VW RL 21 yX0_condition cX0_condition 4 (some .int) 3 := ⟨⟨w_348, w_349, w_350, w_40, w_73⟩, by decide +kernel⟩
theorem cw_RL_X0_set : VW RL 24 yX0_set cX0_set 4 (some .int) 3 := ⟨⟨w_352, w_353, w_354, w_40, w_132⟩, by decide +kernel⟩
theorem cw_RL_X0_drop : VW RL 27 yX0_drop cX0_drop 4 (some .boolean) 3 := ⟨⟨w_356, w_357, w_358, w_40, w_133⟩, by decide +kernel⟩
theorem cw_RL_X0_empty : VW RL 31 yX0_empty cX0_empty 3 (some .int) 1 := ⟨⟨w_360, w_361, w_362, w_40, w_145⟩, by decide +kernel⟩
theorem cw_RL_X0_pushed : VW RL 35 yX0_pushed cX0_pushed 3 (some .int) 2 := ⟨⟨w_366, w_367, w_368, w_40, w_146⟩, by decide +kernel⟩
theorem cw_RL_X0_has : VW RL 40 yX0_has cX0_has 4 (some .boolean) 3 := ⟨⟨w_369, w_370, w_371, w_40, w_177⟩, by decide +kernel⟩
theorem cw_RL_X0_next : VW RL 43 yX0_next cX0_next 4 (some .int) 3 := ⟨⟨w_373, w_374, w_375, w_40, w_190⟩, by decide +kernel⟩
theorem cw_RL_X0_back : VW RL 46 yX0_back cX0_back 4 (some .int) 3 := ⟨⟨w_377, w_378, w_379, w_40, w_191⟩, by decide +kernel⟩
theorem cw_RL_X0_count : VW RL 49 yX0_count cX0_count 2 (some .int) 1 := ⟨⟨w_381, w_382, w_383, w_40, w_192⟩, by decide +kernel⟩
theorem cw_RL_X0_length : VW RL 52 yX0_length cX0_length 4 (some .int) 3 := ⟨⟨w_385, w_386, w_387, w_40, w_197⟩, by decide +kernel⟩
theorem cw_RL_X0_route : VW RL 55 yX0_route cX0_route 7 (some .int) 4 := ⟨⟨w_389, w_390, w_391, w_40, w_202⟩, by decide +kernel⟩
theorem cw_RL_X0_leader : VW RL 59 yX0_leader cX0_leader 3 (some .int) 2 := ⟨⟨w_393, w_394, w_395, w_40, w_203⟩, by decide +kernel⟩
theorem cw_RL_X0_differ : VW RL 62 yX0_differ cX0_differ 6 (some .int) 2 := ⟨⟨w_397, w_398, w_399, w_40, w_204⟩, by decide +kernel⟩
theorem cw_RL_X0_tally : VW RL 65 yX0_tally cX0_tally 3 (some .int) 2 := ⟨⟨w_403, w_404, w_405, w_40, w_205⟩, by decide +kernel⟩
theorem cw_RL_X0_of : VW RL 70 yX0_of cX0_of 2 (some .int) 1 := ⟨⟨w_407, w_408, w_409, w_40, w_209⟩, by decide +kernel⟩
theorem cw_RL_X0_told : VW RL 73 yX0_told cX0_told 3 (some .int) 2 := ⟨⟨w_411, w_412, w_413, w_40, w_210⟩, by decide +kernel⟩
theorem cw_RL_L_cell : SW RL 76 yL_cell cL_cell 2 (some .int) 2 := ⟨⟨w_418, w_419, w_420, w_337⟩, by decide +kernel⟩
theorem cw_RL_X0_clear : VW RL 88 yX0_clear cX0_clear 2 (some .int) 0 := ⟨⟨w_425, w_426, w_427, w_40, w_26⟩, by decide +kernel⟩
theorem cw_RL_X1_clear : VW RL 92 yX1_clear cX1_clear 2 (some .int) 0 := ⟨⟨w_428, w_429, w_430, w_231, w_234⟩, by decide +kernel⟩
theorem cw_RL_X1_kind : VW RL 96 yX1_kind cX1_kind 4 (some .int) 2 := ⟨⟨w_433, w_434, w_435, w_231, w_241⟩, by decide +kernel⟩
theorem cw_RL_X1_thrown : VW RL 97 yX1_thrown cX1_thrown 1 (some .int) 0 := ⟨⟨w_436, w_437, w_438, w_231, w_232⟩, by decide +kernel⟩
theorem cw_RL_X1_relation : VW RL 103 yX1_relation cX1_relation 5 (some .int) 3 := ⟨⟨w_441, w_442, w_443, w_231, w_252⟩, by decide +kernel⟩
theorem cw_RL_X1_condition : VW RL 106 yX1_condition cX1_condition 6 (some .int) 3 := ⟨⟨w_446, w_447, w_448, w_231, w_259⟩, by decide +kernel⟩
theorem cw_RL_X1_set : VW RL 109 yX1_set cX1_set 5 (some .int) 3 := ⟨⟨w_451, w_452, w_453, w_231, w_296⟩, by decide +kernel⟩
theorem cw_RL_X1_drop : VW RL 112 yX1_drop cX1_drop 5 (some .boolean) 3 := ⟨⟨w_456, w_457, w_458, w_231, w_301⟩, by decide +kernel⟩
theorem cw_RL_X1_empty : VW RL 116 yX1_empty cX1_empty 5 (some .int) 1 := ⟨⟨w_461, w_462, w_463, w_231, w_303⟩, by decide +kernel⟩
theorem cw_RL_X1_pushed : VW RL 119 yX1_pushed cX1_pushed 3 (some .int) 2 := ⟨⟨w_466, w_467, w_468, w_231, w_307⟩, by decide +kernel⟩
theorem cw_RL_X1_has : VW RL 122 yX1_has cX1_has 4 (some .boolean) 3 := ⟨⟨w_471, w_472, w_473, w_231, w_311⟩, by decide +kernel⟩
theorem cw_RL_X1_next : VW RL 125 yX1_next cX1_next 4 (some .int) 3 := ⟨⟨w_476, w_477, w_478, w_231, w_320⟩, by decide +kernel⟩
theorem cw_RL_X1_back : VW RL 128 yX1_back cX1_back 4 (some .int) 3 := ⟨⟨w_481, w_482, w_483, w_231, w_321⟩, by decide +kernel⟩
theorem cw_RL_X1_count : VW RL 131 yX1_count cX1_count 2 (some .int) 1 := ⟨⟨w_486, w_487, w_488, w_231, w_322⟩, by decide +kernel⟩
theorem cw_RL_X1_length : VW RL 134 yX1_length cX1_length 4 (some .int) 3 := ⟨⟨w_491, w_492, w_493, w_231, w_327⟩, by decide +kernel⟩
theorem cw_RL_X1_route : VW RL 138 yX1_route cX1_route 8 (some .int) 4 := ⟨⟨w_496, w_497, w_498, w_231, w_328⟩, by decide +kernel⟩
theorem cw_RL_X1_leader : VW RL 141 yX1_leader cX1_leader 4 (some .int) 2 := ⟨⟨w_501, w_502, w_503, w_231, w_329⟩, by decide +kernel⟩
theorem cw_RL_X1_differ : VW RL 144 yX1_differ cX1_differ 4 (some .int) 2 := ⟨⟨w_506, w_507, w_508, w_231, w_330⟩, by decide +kernel⟩
theorem cw_RL_X1_tally : VW RL 147 yX1_tally cX1_tally 3 (some .int) 2 := ⟨⟨w_511, w_512, w_513, w_231, w_331⟩, by decide +kernel⟩
theorem cw_RL_X1_of : VW RL 150 yX1_of cX1_of 2 (some .int) 1 := ⟨⟨w_516, w_517, w_518, w_231, w_332⟩, by decide +kernel⟩
theorem cw_RL_X1_told : VW RL 153 yX1_told cX1_told 3 (some .int) 2 := ⟨⟨w_521, w_522, w_523, w_231, w_333⟩, by decide +kernel⟩
section XT
variable {p : Program} {l : Launch} {e : Env} {R : Room} {s : State} {m : MethodId} {args : Array Value} {below : List Frame} {meth : Method} {c : Code} {H : Heap} {locs : List Loc} {cells slots : Nat} {Q : State → Prop}
variable {cc : ByteArray} {pc nL : Nat} {ls : Array Slot} {rest : List Value} {loc : Nat → Nat} {n : Nat} {g : Gc} {S0 : RS} {Qc : Array Value → State → Outcome → State → Prop} {X : String → Prop} {mc ms is : Nat} {tx : String}
theorem x_throw_iae (hl : l.stackTraces = false) (S : CallFix p m c cc nL s args WA RX0) (hC : CX loc n g S0 s H locs) (hs : (is, tx) ∈ strsX) (hnt : ∀ x ∈ c.exceptionTable.toList, False) (hlocks : meth.locks = false) (hsz : ls.size = nL) (hX : X "java/lang/IllegalArgumentException")
    (d0 : decode cc pc = .ok (.new 75, 3)) (d3 : decode cc (pc + 3) = .ok (.dup, 1)) (d4 : decode cc (pc + 4) = .ok (.ldc is, 2)) (d6 : decode cc (pc + 6) = .ok (.invokespecial 79, 3)) (d9 : decode cc (pc + 9) = .ok (.athrow, 1))
    (hR : 5 < R.frames ∧ (rest.map fun v => v.category).sum + 82 ≤ R.locals ∧ cells + 1 ≤ R.cells ∧ slots + 6 ≤ R.slots) (hm : cells + 1 ≤ mc ∧ slots + 6 ≤ ms) : W p l e R s m args below meth c H locs cells slots (vx_MQ below Qc (Xc (HX loc n g) S0 (ZA loc 21) X) args s mc ms (ZA loc 21)) (F0 m pc ls rest) := by
  obtain ⟨⟨hK, ⟨h4, hU, hN, hst⟩, hJ⟩, hH, hS⟩ := hC
  obtain ⟨sa, hsa⟩ := hst _ hs
  exact vx_throwS (cls := "java/lang/IllegalArgumentException") (names := ["java/lang/RuntimeException", "java/lang/Exception"]) (ik := 75) (ic := 79) S.1 S.2.1 hl S.2.2.2.1 (by decide) (by decide) (S.2.2.2.2 _ w_35) (S.2.2.2.2 _ w_36) hsa (vx_hat (fun w hw => S.2.2.2.2 w (xw_iae w hw)) (B := xwN) (by decide +kernel) (fun w hw => va_Nw.use (nw_tab hw) (h4 w hw))) (by decide +kernel) hU hN hS (hsz.trans S.2.2.1.symm) d0 d3 d4 d6 d9 (fun x hx => (hnt x hx).elim) hR.1 hR.2.1 hR.2.2.1 hR.2.2.2 hlocks
    (fun t hvm hz hk => ⟨(), trivial, ⟨hX, hH.kept (fun i hi => by
      have hi2 : loc i < H.size := by
        rcases Nat.eq_zero_or_pos i with h0 | h0
        · subst h0
          obtain ⟨cell, q1, -⟩ := hH.1
          exact (Array.getElem?_eq_some_iff.mp q1).1
        · have q1 := hH.2 (i - 1) (by omega)
          rw [show i - 1 + 1 = i by omega] at q1
          exact (Array.getElem?_eq_some_iff.mp q1).1
      exact hk _ hi2)⟩, ⟨Nat.le_trans hS.1 hz, fun q h1 h2 => by rw [hk q (Nat.lt_of_lt_of_le h1 hS.1)]; exact hS.2.1 q h1 h2⟩⟩) hS.2.2 hm.1 hm.2
theorem x_throw_ise (hl : l.stackTraces = false) (S : CallFix p m c cc nL s args WA RX0) (hC : CX loc n g S0 s H locs) (hs : (is, tx) ∈ strsX) (hnt : ∀ x ∈ c.exceptionTable.toList, False) (hlocks : meth.locks = false) (hsz : ls.size = nL) (hX : X "java/lang/IllegalStateException")
    (d0 : decode cc pc = .ok (.new 82, 3)) (d3 : decode cc (pc + 3) = .ok (.dup, 1)) (d4 : decode cc (pc + 4) = .ok (.ldc is, 2)) (d6 : decode cc (pc + 6) = .ok (.invokespecial 86, 3)) (d9 : decode cc (pc + 9) = .ok (.athrow, 1))
    (hR : 5 < R.frames ∧ (rest.map fun v => v.category).sum + 82 ≤ R.locals ∧ cells + 1 ≤ R.cells ∧ slots + 6 ≤ R.slots) (hm : cells + 1 ≤ mc ∧ slots + 6 ≤ ms) : W p l e R s m args below meth c H locs cells slots (vx_MQ below Qc (Xc (HX loc n g) S0 (ZA loc 21) X) args s mc ms (ZA loc 21)) (F0 m pc ls rest) := by
  obtain ⟨⟨hK, ⟨h4, hU, hN, hst⟩, hJ⟩, hH, hS⟩ := hC
  obtain ⟨sa, hsa⟩ := hst _ hs
  exact vx_throwS (cls := "java/lang/IllegalStateException") (names := ["java/lang/RuntimeException", "java/lang/Exception"]) (ik := 82) (ic := 86) S.1 S.2.1 hl S.2.2.2.1 (by decide) (by decide) (S.2.2.2.2 _ w_42) (S.2.2.2.2 _ w_43) hsa (vx_hat (fun w hw => S.2.2.2.2 w (xw_ise w hw)) (B := xwN) (by decide +kernel) (fun w hw => va_Nw.use (nw_tab hw) (h4 w hw))) (by decide +kernel) hU hN hS (hsz.trans S.2.2.1.symm) d0 d3 d4 d6 d9 (fun x hx => (hnt x hx).elim) hR.1 hR.2.1 hR.2.2.1 hR.2.2.2 hlocks
    (fun t hvm hz hk => ⟨(), trivial, ⟨hX, hH.kept (fun i hi => by
      have hi2 : loc i < H.size := by
        rcases Nat.eq_zero_or_pos i with h0 | h0
        · subst h0
          obtain ⟨cell, q1, -⟩ := hH.1
          exact (Array.getElem?_eq_some_iff.mp q1).1
        · have q1 := hH.2 (i - 1) (by omega)
          rw [show i - 1 + 1 = i by omega] at q1
          exact (Array.getElem?_eq_some_iff.mp q1).1
      exact hk _ hi2)⟩, ⟨Nat.le_trans hS.1 hz, fun q h1 h2 => by rw [hk q (Nat.lt_of_lt_of_le h1 hS.1)]; exact hS.2.1 q h1 h2⟩⟩) hS.2.2 hm.1 hm.2
end XT
