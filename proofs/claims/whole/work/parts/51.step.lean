theorem lc_shelf : C_2 152 25 28 786 := ⟨dL_law_152, dL_law_153, dL_law_154, dL_law_156, dL_law_157, dL_law_158, dL_law_159, dL_law_160, dL_law_162, dL_law_163, dL_law_164, dL_law_165, dL_law_168, dL_law_169, dL_law_170, dL_law_172, dL_law_173, dL_law_174, dL_law_175, dL_law_176, dL_law_178, dL_law_179, dL_law_180, dL_law_181, dL_law_184, by decide⟩
theorem ln_290 : Cond.methodLink RL 25 yX6_shelf ∈ TB := tb_of 290 (by decide +kernel) (by decide +kernel)
theorem ln_291 : Cond.instanceMethod yX6_shelf ∈ TB := tb_of 291 (by decide +kernel) (by decide +kernel)
theorem ln_292 : Cond.selects RX6 yX6_shelf yX6_shelf ∈ TB := tb_of 292 (by decide +kernel) (by decide +kernel)
theorem si_RL_25 : Site RL 25 mX6_shelf 6 2 := ⟨ln_290, ln_291, ln_292, cw_X6_shelf, ⟨_, rfl⟩, ⟨_, rfl, rfl⟩, by decide⟩
theorem ln_984 : Cond.methodLink RL 28 yX7_shelf ∈ TB := tb_of 984 (by decide +kernel) (by decide +kernel)
theorem ln_985 : Cond.instanceMethod yX7_shelf ∈ TB := tb_of 985 (by decide +kernel) (by decide +kernel)
theorem ln_986 : Cond.selects RX7 yX7_shelf yX7_shelf ∈ TB := tb_of 986 (by decide +kernel) (by decide +kernel)
theorem si_RL_28 : Site RL 28 mX7_shelf 7 2 := ⟨ln_984, ln_985, ln_986, cw_X7_shelf, ⟨_, rfl⟩, ⟨_, rfl, rfl⟩, by decide⟩
theorem lc_turn : C_2 189 29 33 749 := ⟨dL_law_189, dL_law_190, dL_law_191, dL_law_193, dL_law_194, dL_law_195, dL_law_196, dL_law_197, dL_law_199, dL_law_200, dL_law_201, dL_law_202, dL_law_205, dL_law_206, dL_law_207, dL_law_209, dL_law_210, dL_law_211, dL_law_212, dL_law_213, dL_law_215, dL_law_216, dL_law_217, dL_law_218, dL_law_221, by decide⟩
theorem ln_305 : Cond.methodLink RL 29 yX6_turn ∈ TB := tb_of 305 (by decide +kernel) (by decide +kernel)
theorem ln_306 : Cond.instanceMethod yX6_turn ∈ TB := tb_of 306 (by decide +kernel) (by decide +kernel)
theorem ln_307 : Cond.selects RX6 yX6_turn yX6_turn ∈ TB := tb_of 307 (by decide +kernel) (by decide +kernel)
theorem si_RL_29 : Site RL 29 mX6_turn 6 2 := ⟨ln_305, ln_306, ln_307, cw_X6_turn, ⟨_, rfl⟩, ⟨_, rfl, rfl⟩, by decide⟩
theorem ln_988 : Cond.methodLink RL 33 yX7_turn ∈ TB := tb_of 988 (by decide +kernel) (by decide +kernel)
theorem ln_989 : Cond.instanceMethod yX7_turn ∈ TB := tb_of 989 (by decide +kernel) (by decide +kernel)
theorem ln_990 : Cond.selects RX7 yX7_turn yX7_turn ∈ TB := tb_of 990 (by decide +kernel) (by decide +kernel)
theorem si_RL_33 : Site RL 33 mX7_turn 7 2 := ⟨ln_988, ln_989, ln_990, cw_X7_turn, ⟨_, rfl⟩, ⟨_, rfl, rfl⟩, by decide⟩
theorem lc_group : C_1 226 34 38 724 := ⟨dL_law_226, dL_law_227, dL_law_228, dL_law_230, dL_law_231, dL_law_232, dL_law_233, dL_law_236, dL_law_237, dL_law_238, dL_law_240, dL_law_241, dL_law_242, dL_law_243, dL_law_246, by decide⟩
theorem ln_313 : Cond.methodLink RL 34 yX6_group ∈ TB := tb_of 313 (by decide +kernel) (by decide +kernel)
theorem ln_314 : Cond.instanceMethod yX6_group ∈ TB := tb_of 314 (by decide +kernel) (by decide +kernel)
theorem ln_315 : Cond.selects RX6 yX6_group yX6_group ∈ TB := tb_of 315 (by decide +kernel) (by decide +kernel)
theorem si_RL_34 : Site RL 34 mX6_group 6 1 := ⟨ln_313, ln_314, ln_315, cw_X6_group, ⟨_, rfl⟩, ⟨_, rfl, rfl⟩, by decide⟩
theorem ln_992 : Cond.methodLink RL 38 yX7_group ∈ TB := tb_of 992 (by decide +kernel) (by decide +kernel)
theorem ln_993 : Cond.instanceMethod yX7_group ∈ TB := tb_of 993 (by decide +kernel) (by decide +kernel)
theorem ln_994 : Cond.selects RX7 yX7_group yX7_group ∈ TB := tb_of 994 (by decide +kernel) (by decide +kernel)
theorem si_RL_38 : Site RL 38 mX7_group 7 1 := ⟨ln_992, ln_993, ln_994, cw_X7_group, ⟨_, rfl⟩, ⟨_, rfl, rfl⟩, by decide⟩
theorem lc_grow : C_2 251 39 42 687 := ⟨dL_law_251, dL_law_252, dL_law_253, dL_law_255, dL_law_256, dL_law_257, dL_law_258, dL_law_259, dL_law_261, dL_law_262, dL_law_263, dL_law_264, dL_law_267, dL_law_268, dL_law_269, dL_law_271, dL_law_272, dL_law_273, dL_law_274, dL_law_275, dL_law_277, dL_law_278, dL_law_279, dL_law_280, dL_law_283, by decide⟩
theorem ln_321 : Cond.methodLink RL 39 yX6_grow ∈ TB := tb_of 321 (by decide +kernel) (by decide +kernel)
theorem ln_322 : Cond.instanceMethod yX6_grow ∈ TB := tb_of 322 (by decide +kernel) (by decide +kernel)
theorem ln_323 : Cond.selects RX6 yX6_grow yX6_grow ∈ TB := tb_of 323 (by decide +kernel) (by decide +kernel)
theorem si_RL_39 : Site RL 39 mX6_grow 6 2 := ⟨ln_321, ln_322, ln_323, cw_X6_grow, ⟨_, rfl⟩, ⟨_, rfl, rfl⟩, by decide⟩
theorem ln_996 : Cond.methodLink RL 42 yX7_grow ∈ TB := tb_of 996 (by decide +kernel) (by decide +kernel)
theorem ln_997 : Cond.instanceMethod yX7_grow ∈ TB := tb_of 997 (by decide +kernel) (by decide +kernel)
theorem ln_998 : Cond.selects RX7 yX7_grow yX7_grow ∈ TB := tb_of 998 (by decide +kernel) (by decide +kernel)
theorem si_RL_42 : Site RL 42 mX7_grow 7 2 := ⟨ln_996, ln_997, ln_998, cw_X7_grow, ⟨_, rfl⟩, ⟨_, rfl, rfl⟩, by decide⟩
theorem lc_book : C_2 288 43 46 650 := ⟨dL_law_288, dL_law_289, dL_law_290, dL_law_292, dL_law_293, dL_law_294, dL_law_295, dL_law_296, dL_law_298, dL_law_299, dL_law_300, dL_law_301, dL_law_304, dL_law_305, dL_law_306, dL_law_308, dL_law_309, dL_law_310, dL_law_311, dL_law_312, dL_law_314, dL_law_315, dL_law_316, dL_law_317, dL_law_320, by decide⟩
theorem ln_345 : Cond.methodLink RL 43 yX6_book ∈ TB := tb_of 345 (by decide +kernel) (by decide +kernel)
theorem ln_346 : Cond.instanceMethod yX6_book ∈ TB := tb_of 346 (by decide +kernel) (by decide +kernel)
theorem ln_347 : Cond.selects RX6 yX6_book yX6_book ∈ TB := tb_of 347 (by decide +kernel) (by decide +kernel)
theorem si_RL_43 : Site RL 43 mX6_book 6 2 := ⟨ln_345, ln_346, ln_347, cw_X6_book, ⟨_, rfl⟩, ⟨_, rfl, rfl⟩, by decide⟩
theorem ln_876 : Cond.methodLink RL 46 yX7_book ∈ TB := tb_of 876 (by decide +kernel) (by decide +kernel)
theorem ln_877 : Cond.instanceMethod yX7_book ∈ TB := tb_of 877 (by decide +kernel) (by decide +kernel)
theorem ln_878 : Cond.selects RX7 yX7_book yX7_book ∈ TB := tb_of 878 (by decide +kernel) (by decide +kernel)
theorem si_RL_46 : Site RL 46 mX7_book 7 2 := ⟨ln_876, ln_877, ln_878, cw_X7_book, ⟨_, rfl⟩, ⟨_, rfl, rfl⟩, by decide⟩
theorem lc_gone : C_1 325 47 50 625 := ⟨dL_law_325, dL_law_326, dL_law_327, dL_law_329, dL_law_330, dL_law_331, dL_law_332, dL_law_335, dL_law_336, dL_law_337, dL_law_339, dL_law_340, dL_law_341, dL_law_342, dL_law_345, by decide⟩
theorem ln_432 : Cond.methodLink RL 47 yX6_gone ∈ TB := tb_of 432 (by decide +kernel) (by decide +kernel)
theorem ln_433 : Cond.instanceMethod yX6_gone ∈ TB := tb_of 433 (by decide +kernel) (by decide +kernel)
theorem ln_434 : Cond.selects RX6 yX6_gone yX6_gone ∈ TB := tb_of 434 (by decide +kernel) (by decide +kernel)
theorem si_RL_47 : Site RL 47 mX6_gone 6 1 := ⟨ln_432, ln_433, ln_434, cw_X6_gone, ⟨_, rfl⟩, ⟨_, rfl, rfl⟩, by decide⟩
theorem ln_916 : Cond.methodLink RL 50 yX7_gone ∈ TB := tb_of 916 (by decide +kernel) (by decide +kernel)
theorem ln_917 : Cond.instanceMethod yX7_gone ∈ TB := tb_of 917 (by decide +kernel) (by decide +kernel)
theorem ln_918 : Cond.selects RX7 yX7_gone yX7_gone ∈ TB := tb_of 918 (by decide +kernel) (by decide +kernel)
theorem si_RL_50 : Site RL 50 mX7_gone 7 1 := ⟨ln_916, ln_917, ln_918, cw_X7_gone, ⟨_, rfl⟩, ⟨_, rfl, rfl⟩, by decide⟩
theorem lc_limit : C_1 350 51 55 600 := ⟨dL_law_350, dL_law_351, dL_law_352, dL_law_354, dL_law_355, dL_law_356, dL_law_357, dL_law_360, dL_law_361, dL_law_362, dL_law_364, dL_law_365, dL_law_366, dL_law_367, dL_law_370, by decide⟩
theorem ln_448 : Cond.methodLink RL 51 yX6_limit ∈ TB := tb_of 448 (by decide +kernel) (by decide +kernel)
theorem ln_449 : Cond.instanceMethod yX6_limit ∈ TB := tb_of 449 (by decide +kernel) (by decide +kernel)
theorem ln_450 : Cond.selects RX6 yX6_limit yX6_limit ∈ TB := tb_of 450 (by decide +kernel) (by decide +kernel)
theorem si_RL_51 : Site RL 51 mX6_limit 6 1 := ⟨ln_448, ln_449, ln_450, cw_X6_limit, ⟨_, rfl⟩, ⟨_, rfl, rfl⟩, by decide⟩
theorem ln_1000 : Cond.methodLink RL 55 yX7_limit ∈ TB := tb_of 1000 (by decide +kernel) (by decide +kernel)
theorem ln_1001 : Cond.instanceMethod yX7_limit ∈ TB := tb_of 1001 (by decide +kernel) (by decide +kernel)
theorem ln_1002 : Cond.selects RX7 yX7_limit yX7_limit ∈ TB := tb_of 1002 (by decide +kernel) (by decide +kernel)
theorem si_RL_55 : Site RL 55 mX7_limit 7 1 := ⟨ln_1000, ln_1001, ln_1002, cw_X7_limit, ⟨_, rfl⟩, ⟨_, rfl, rfl⟩, by decide⟩
theorem lc_count : C_1 375 56 59 575 := ⟨dL_law_375, dL_law_376, dL_law_377, dL_law_379, dL_law_380, dL_law_381, dL_law_382, dL_law_385, dL_law_386, dL_law_387, dL_law_389, dL_law_390, dL_law_391, dL_law_392, dL_law_395, by decide⟩
theorem ln_452 : Cond.methodLink RL 56 yX6_count ∈ TB := tb_of 452 (by decide +kernel) (by decide +kernel)
theorem ln_453 : Cond.instanceMethod yX6_count ∈ TB := tb_of 453 (by decide +kernel) (by decide +kernel)
theorem ln_454 : Cond.selects RX6 yX6_count yX6_count ∈ TB := tb_of 454 (by decide +kernel) (by decide +kernel)
theorem si_RL_56 : Site RL 56 mX6_count 6 1 := ⟨ln_452, ln_453, ln_454, cw_X6_count, ⟨_, rfl⟩, ⟨_, rfl, rfl⟩, by decide⟩
theorem ln_1004 : Cond.methodLink RL 59 yX7_count ∈ TB := tb_of 1004 (by decide +kernel) (by decide +kernel)
theorem ln_1005 : Cond.instanceMethod yX7_count ∈ TB := tb_of 1005 (by decide +kernel) (by decide +kernel)
theorem ln_1006 : Cond.selects RX7 yX7_count yX7_count ∈ TB := tb_of 1006 (by decide +kernel) (by decide +kernel)
theorem si_RL_59 : Site RL 59 mX7_count 7 1 := ⟨ln_1004, ln_1005, ln_1006, cw_X7_count, ⟨_, rfl⟩, ⟨_, rfl, rfl⟩, by decide⟩
theorem lc_on : C_t 400 60 65 505 := ⟨dL_law_400, dL_law_401, dL_law_402, dL_law_404, dL_law_405, dL_law_406, dL_law_407, dL_law_408, dL_law_410, dL_law_411, dL_law_412, dL_law_413, dL_law_414, dL_law_417, dL_law_419, dL_law_420, dL_law_421, dL_law_423, dL_law_424, dL_law_425, dL_law_426, dL_law_427, dL_law_429, dL_law_430, dL_law_431, dL_law_432, dL_law_435, dL_law_437, dL_law_438, dL_law_441, dL_law_443, dL_law_448, dL_law_450, dL_law_453, dL_law_454, dL_law_455, dL_law_456, dL_law_458, dL_law_459, dL_law_460, dL_law_465, by decide⟩
theorem ln_598 : Cond.methodLink RL 60 yL_on ∈ TB := tb_of 598 (by decide +kernel) (by decide +kernel)
theorem ln_599 : Cond.static yL_on ∈ TB := tb_of 599 (by decide +kernel) (by decide +kernel)
theorem ln_600 : Cond.codeWith yL_on cL_on 5 (some .int) [(0, 10, 13, 13)] ∈ TB := tb_of 600 (by decide +kernel) (by decide +kernel)
theorem ln_1016 : Cond.methodLink RL 65 yX7_on ∈ TB := tb_of 1016 (by decide +kernel) (by decide +kernel)
theorem ln_1017 : Cond.instanceMethod yX7_on ∈ TB := tb_of 1017 (by decide +kernel) (by decide +kernel)
theorem ln_1018 : Cond.selects RX7 yX7_on yX7_on ∈ TB := tb_of 1018 (by decide +kernel) (by decide +kernel)
theorem si_RL_65 : Site RL 65 mX7_on 7 2 := ⟨ln_1016, ln_1017, ln_1018, cw_X7_on, ⟨_, rfl⟩, ⟨_, rfl, rfl⟩, by decide⟩
theorem lc_in : C_t 468 70 72 437 := ⟨dL_law_468, dL_law_469, dL_law_470, dL_law_472, dL_law_473, dL_law_474, dL_law_475, dL_law_476, dL_law_478, dL_law_479, dL_law_480, dL_law_481, dL_law_482, dL_law_485, dL_law_487, dL_law_488, dL_law_489, dL_law_491, dL_law_492, dL_law_493, dL_law_494, dL_law_495, dL_law_497, dL_law_498, dL_law_499, dL_law_500, dL_law_503, dL_law_505, dL_law_506, dL_law_509, dL_law_511, dL_law_516, dL_law_518, dL_law_521, dL_law_522, dL_law_523, dL_law_524, dL_law_526, dL_law_527, dL_law_528, dL_law_533, by decide⟩
theorem ln_681 : Cond.methodLink RL 70 yL_in ∈ TB := tb_of 681 (by decide +kernel) (by decide +kernel)
theorem ln_682 : Cond.static yL_in ∈ TB := tb_of 682 (by decide +kernel) (by decide +kernel)
theorem ln_683 : Cond.codeWith yL_in cL_in 5 (some .int) [(0, 10, 13, 13)] ∈ TB := tb_of 683 (by decide +kernel) (by decide +kernel)
theorem ln_1040 : Cond.methodLink RL 72 yX7_in ∈ TB := tb_of 1040 (by decide +kernel) (by decide +kernel)
theorem ln_1041 : Cond.instanceMethod yX7_in ∈ TB := tb_of 1041 (by decide +kernel) (by decide +kernel)
theorem ln_1042 : Cond.selects RX7 yX7_in yX7_in ∈ TB := tb_of 1042 (by decide +kernel) (by decide +kernel)
theorem si_RL_72 : Site RL 72 mX7_in 7 2 := ⟨ln_1040, ln_1041, ln_1042, cw_X7_in, ⟨_, rfl⟩, ⟨_, rfl, rfl⟩, by decide⟩
theorem lc_of : C_t 536 73 75 369 := ⟨dL_law_536, dL_law_537, dL_law_538, dL_law_540, dL_law_541, dL_law_542, dL_law_543, dL_law_544, dL_law_546, dL_law_547, dL_law_548, dL_law_549, dL_law_550, dL_law_553, dL_law_555, dL_law_556, dL_law_557, dL_law_559, dL_law_560, dL_law_561, dL_law_562, dL_law_563, dL_law_565, dL_law_566, dL_law_567, dL_law_568, dL_law_571, dL_law_573, dL_law_574, dL_law_577, dL_law_579, dL_law_584, dL_law_586, dL_law_589, dL_law_590, dL_law_591, dL_law_592, dL_law_594, dL_law_595, dL_law_596, dL_law_601, by decide⟩
theorem ln_702 : Cond.methodLink RL 73 yL_of ∈ TB := tb_of 702 (by decide +kernel) (by decide +kernel)
theorem ln_703 : Cond.static yL_of ∈ TB := tb_of 703 (by decide +kernel) (by decide +kernel)
theorem ln_704 : Cond.codeWith yL_of cL_of 5 (some .int) [(0, 10, 13, 13)] ∈ TB := tb_of 704 (by decide +kernel) (by decide +kernel)
theorem ln_1056 : Cond.methodLink RL 75 yX7_of ∈ TB := tb_of 1056 (by decide +kernel) (by decide +kernel)
theorem ln_1057 : Cond.instanceMethod yX7_of ∈ TB := tb_of 1057 (by decide +kernel) (by decide +kernel)
theorem ln_1058 : Cond.selects RX7 yX7_of yX7_of ∈ TB := tb_of 1058 (by decide +kernel) (by decide +kernel)
theorem si_RL_75 : Site RL 75 mX7_of 7 2 := ⟨ln_1056, ln_1057, ln_1058, cw_X7_of, ⟨_, rfl⟩, ⟨_, rfl, rfl⟩, by decide⟩
theorem lc_lasts : C_0 604 76 79 358 := ⟨dL_law_604, dL_law_605, dL_law_608, dL_law_609, dL_law_612, by decide⟩
theorem ln_468 : Cond.methodLink RL 76 yX6_lasts ∈ TB := tb_of 468 (by decide +kernel) (by decide +kernel)
theorem ln_469 : Cond.instanceMethod yX6_lasts ∈ TB := tb_of 469 (by decide +kernel) (by decide +kernel)
theorem ln_470 : Cond.selects RX6 yX6_lasts yX6_lasts ∈ TB := tb_of 470 (by decide +kernel) (by decide +kernel)
theorem si_RL_76 : Site RL 76 mX6_lasts 6 0 := ⟨ln_468, ln_469, ln_470, cw_X6_lasts, ⟨_, rfl⟩, ⟨_, rfl, rfl⟩, by decide⟩
theorem ln_1068 : Cond.methodLink RL 79 yX7_lasts ∈ TB := tb_of 1068 (by decide +kernel) (by decide +kernel)
theorem ln_1069 : Cond.instanceMethod yX7_lasts ∈ TB := tb_of 1069 (by decide +kernel) (by decide +kernel)
theorem ln_1070 : Cond.selects RX7 yX7_lasts yX7_lasts ∈ TB := tb_of 1070 (by decide +kernel) (by decide +kernel)
theorem si_RL_79 : Site RL 79 mX7_lasts 7 0 := ⟨ln_1068, ln_1069, ln_1070, cw_X7_lasts, ⟨_, rfl⟩, ⟨_, rfl, rfl⟩, by decide⟩
theorem lc_cut : C_2 617 80 83 321 := ⟨dL_law_617, dL_law_618, dL_law_619, dL_law_621, dL_law_622, dL_law_623, dL_law_624, dL_law_625, dL_law_627, dL_law_628, dL_law_629, dL_law_630, dL_law_633, dL_law_634, dL_law_635, dL_law_637, dL_law_638, dL_law_639, dL_law_640, dL_law_641, dL_law_643, dL_law_644, dL_law_645, dL_law_646, dL_law_649, by decide⟩
theorem ln_497 : Cond.methodLink RL 80 yX6_cut ∈ TB := tb_of 497 (by decide +kernel) (by decide +kernel)
theorem ln_498 : Cond.instanceMethod yX6_cut ∈ TB := tb_of 498 (by decide +kernel) (by decide +kernel)
theorem ln_499 : Cond.selects RX6 yX6_cut yX6_cut ∈ TB := tb_of 499 (by decide +kernel) (by decide +kernel)
theorem si_RL_80 : Site RL 80 mX6_cut 6 2 := ⟨ln_497, ln_498, ln_499, cw_X6_cut, ⟨_, rfl⟩, ⟨_, rfl, rfl⟩, by decide⟩
theorem ln_819 : Cond.methodLink RL 83 yX7_cut ∈ TB := tb_of 819 (by decide +kernel) (by decide +kernel)
theorem ln_820 : Cond.instanceMethod yX7_cut ∈ TB := tb_of 820 (by decide +kernel) (by decide +kernel)
theorem ln_821 : Cond.selects RX7 yX7_cut yX7_cut ∈ TB := tb_of 821 (by decide +kernel) (by decide +kernel)
theorem si_RL_83 : Site RL 83 mX7_cut 7 2 := ⟨ln_819, ln_820, ln_821, cw_X7_cut, ⟨_, rfl⟩, ⟨_, rfl, rfl⟩, by decide⟩
theorem lc_price : C_2 654 84 87 284 := ⟨dL_law_654, dL_law_655, dL_law_656, dL_law_658, dL_law_659, dL_law_660, dL_law_661, dL_law_662, dL_law_664, dL_law_665, dL_law_666, dL_law_667, dL_law_670, dL_law_671, dL_law_672, dL_law_674, dL_law_675, dL_law_676, dL_law_677, dL_law_678, dL_law_680, dL_law_681, dL_law_682, dL_law_683, dL_law_686, by decide⟩
theorem ln_505 : Cond.methodLink RL 84 yX6_price ∈ TB := tb_of 505 (by decide +kernel) (by decide +kernel)
theorem ln_506 : Cond.instanceMethod yX6_price ∈ TB := tb_of 506 (by decide +kernel) (by decide +kernel)
theorem ln_507 : Cond.selects RX6 yX6_price yX6_price ∈ TB := tb_of 507 (by decide +kernel) (by decide +kernel)
theorem si_RL_84 : Site RL 84 mX6_price 6 2 := ⟨ln_505, ln_506, ln_507, cw_X6_price, ⟨_, rfl⟩, ⟨_, rfl, rfl⟩, by decide⟩
theorem ln_860 : Cond.methodLink RL 87 yX7_price ∈ TB := tb_of 860 (by decide +kernel) (by decide +kernel)
theorem ln_861 : Cond.instanceMethod yX7_price ∈ TB := tb_of 861 (by decide +kernel) (by decide +kernel)
theorem ln_862 : Cond.selects RX7 yX7_price yX7_price ∈ TB := tb_of 862 (by decide +kernel) (by decide +kernel)
theorem si_RL_87 : Site RL 87 mX7_price 7 2 := ⟨ln_860, ln_861, ln_862, cw_X7_price, ⟨_, rfl⟩, ⟨_, rfl, rfl⟩, by decide⟩
theorem lc_best : C_b 691 88 92 243 := ⟨dL_law_691, dL_law_692, dL_law_693, dL_law_695, dL_law_696, dL_law_697, dL_law_698, dL_law_701, dL_law_702, dL_law_705, dL_law_706, dL_law_709, dL_law_710, dL_law_711, dL_law_713, dL_law_714, dL_law_715, dL_law_716, dL_law_719, dL_law_720, dL_law_723, dL_law_724, dL_law_727, by decide⟩
theorem ln_513 : Cond.methodLink RL 88 yX6_best ∈ TB := tb_of 513 (by decide +kernel) (by decide +kernel)
theorem ln_514 : Cond.instanceMethod yX6_best ∈ TB := tb_of 514 (by decide +kernel) (by decide +kernel)
theorem ln_515 : Cond.selects RX6 yX6_best yX6_best ∈ TB := tb_of 515 (by decide +kernel) (by decide +kernel)
theorem si_RL_88 : Site RL 88 mX6_best 6 1 := ⟨ln_513, ln_514, ln_515, cw_X6_best, ⟨_, rfl⟩, ⟨_, rfl, rfl⟩, by decide⟩
theorem ln_864 : Cond.methodLink RL 92 yX7_best ∈ TB := tb_of 864 (by decide +kernel) (by decide +kernel)
theorem ln_865 : Cond.instanceMethod yX7_best ∈ TB := tb_of 865 (by decide +kernel) (by decide +kernel)
theorem ln_866 : Cond.selects RX7 yX7_best yX7_best ∈ TB := tb_of 866 (by decide +kernel) (by decide +kernel)
theorem si_RL_92 : Site RL 92 mX7_best 7 1 := ⟨ln_864, ln_865, ln_866, cw_X7_best, ⟨_, rfl⟩, ⟨_, rfl, rfl⟩, by decide⟩
theorem lc_tight : C_0 732 93 96 230 := ⟨dL_law_732, dL_law_733, dL_law_736, dL_law_737, dL_law_740, by decide⟩
theorem ln_529 : Cond.methodLink RL 93 yX6_tight ∈ TB := tb_of 529 (by decide +kernel) (by decide +kernel)
theorem ln_530 : Cond.instanceMethod yX6_tight ∈ TB := tb_of 530 (by decide +kernel) (by decide +kernel)
theorem ln_531 : Cond.selects RX6 yX6_tight yX6_tight ∈ TB := tb_of 531 (by decide +kernel) (by decide +kernel)
theorem si_RL_93 : Site RL 93 mX6_tight 6 0 := ⟨ln_529, ln_530, ln_531, cw_X6_tight, ⟨_, rfl⟩, ⟨_, rfl, rfl⟩, by decide⟩
theorem ln_872 : Cond.methodLink RL 96 yX7_tight ∈ TB := tb_of 872 (by decide +kernel) (by decide +kernel)
theorem ln_873 : Cond.instanceMethod yX7_tight ∈ TB := tb_of 873 (by decide +kernel) (by decide +kernel)
theorem ln_874 : Cond.selects RX7 yX7_tight yX7_tight ∈ TB := tb_of 874 (by decide +kernel) (by decide +kernel)
theorem si_RL_96 : Site RL 96 mX7_tight 7 0 := ⟨ln_872, ln_873, ln_874, cw_X7_tight, ⟨_, rfl⟩, ⟨_, rfl, rfl⟩, by decide⟩
theorem lc_more : C_2 745 97 100 193 := ⟨dL_law_745, dL_law_746, dL_law_747, dL_law_749, dL_law_750, dL_law_751, dL_law_752, dL_law_753, dL_law_755, dL_law_756, dL_law_757, dL_law_758, dL_law_761, dL_law_762, dL_law_763, dL_law_765, dL_law_766, dL_law_767, dL_law_768, dL_law_769, dL_law_771, dL_law_772, dL_law_773, dL_law_774, dL_law_777, by decide⟩
theorem ln_533 : Cond.methodLink RL 97 yX6_more ∈ TB := tb_of 533 (by decide +kernel) (by decide +kernel)
theorem ln_534 : Cond.instanceMethod yX6_more ∈ TB := tb_of 534 (by decide +kernel) (by decide +kernel)
theorem ln_535 : Cond.selects RX6 yX6_more yX6_more ∈ TB := tb_of 535 (by decide +kernel) (by decide +kernel)
theorem si_RL_97 : Site RL 97 mX6_more 6 2 := ⟨ln_533, ln_534, ln_535, cw_X6_more, ⟨_, rfl⟩, ⟨_, rfl, rfl⟩, by decide⟩
theorem ln_924 : Cond.methodLink RL 100 yX7_more ∈ TB := tb_of 924 (by decide +kernel) (by decide +kernel)
theorem ln_925 : Cond.instanceMethod yX7_more ∈ TB := tb_of 925 (by decide +kernel) (by decide +kernel)
theorem ln_926 : Cond.selects RX7 yX7_more yX7_more ∈ TB := tb_of 926 (by decide +kernel) (by decide +kernel)
theorem si_RL_100 : Site RL 100 mX7_more 7 2 := ⟨ln_924, ln_925, ln_926, cw_X7_more, ⟨_, rfl⟩, ⟨_, rfl, rfl⟩, by decide⟩
theorem lc_plan : C_1 782 101 104 168 := ⟨dL_law_782, dL_law_783, dL_law_784, dL_law_786, dL_law_787, dL_law_788, dL_law_789, dL_law_792, dL_law_793, dL_law_794, dL_law_796, dL_law_797, dL_law_798, dL_law_799, dL_law_802, by decide⟩
theorem ln_537 : Cond.methodLink RL 101 yX6_plan ∈ TB := tb_of 537 (by decide +kernel) (by decide +kernel)
theorem ln_538 : Cond.instanceMethod yX6_plan ∈ TB := tb_of 538 (by decide +kernel) (by decide +kernel)
theorem ln_539 : Cond.selects RX6 yX6_plan yX6_plan ∈ TB := tb_of 539 (by decide +kernel) (by decide +kernel)
theorem si_RL_101 : Site RL 101 mX6_plan 6 1 := ⟨ln_537, ln_538, ln_539, cw_X6_plan, ⟨_, rfl⟩, ⟨_, rfl, rfl⟩, by decide⟩
theorem ln_928 : Cond.methodLink RL 104 yX7_plan ∈ TB := tb_of 928 (by decide +kernel) (by decide +kernel)
theorem ln_929 : Cond.instanceMethod yX7_plan ∈ TB := tb_of 929 (by decide +kernel) (by decide +kernel)
theorem ln_930 : Cond.selects RX7 yX7_plan yX7_plan ∈ TB := tb_of 930 (by decide +kernel) (by decide +kernel)
theorem si_RL_104 : Site RL 104 mX7_plan 7 1 := ⟨ln_928, ln_929, ln_930, cw_X7_plan, ⟨_, rfl⟩, ⟨_, rfl, rfl⟩, by decide⟩
theorem lc_drop : C_0 807 105 108 155 := ⟨dL_law_807, dL_law_808, dL_law_811, dL_law_812, dL_law_815, by decide⟩
theorem ln_541 : Cond.methodLink RL 105 yX6_drop ∈ TB := tb_of 541 (by decide +kernel) (by decide +kernel)
theorem ln_542 : Cond.instanceMethod yX6_drop ∈ TB := tb_of 542 (by decide +kernel) (by decide +kernel)
theorem ln_543 : Cond.selects RX6 yX6_drop yX6_drop ∈ TB := tb_of 543 (by decide +kernel) (by decide +kernel)
theorem si_RL_105 : Site RL 105 mX6_drop 6 0 := ⟨ln_541, ln_542, ln_543, cw_X6_drop, ⟨_, rfl⟩, ⟨_, rfl, rfl⟩, by decide⟩
theorem ln_936 : Cond.methodLink RL 108 yX7_drop ∈ TB := tb_of 936 (by decide +kernel) (by decide +kernel)
theorem ln_937 : Cond.instanceMethod yX7_drop ∈ TB := tb_of 937 (by decide +kernel) (by decide +kernel)
theorem ln_938 : Cond.selects RX7 yX7_drop yX7_drop ∈ TB := tb_of 938 (by decide +kernel) (by decide +kernel)
theorem si_RL_108 : Site RL 108 mX7_drop 7 0 := ⟨ln_936, ln_937, ln_938, cw_X7_drop, ⟨_, rfl⟩, ⟨_, rfl, rfl⟩, by decide⟩
theorem lc_move : C_0 820 109 112 142 := ⟨dL_law_820, dL_law_821, dL_law_824, dL_law_825, dL_law_828, by decide⟩
theorem ln_545 : Cond.methodLink RL 109 yX6_move ∈ TB := tb_of 545 (by decide +kernel) (by decide +kernel)
theorem ln_546 : Cond.instanceMethod yX6_move ∈ TB := tb_of 546 (by decide +kernel) (by decide +kernel)
theorem ln_547 : Cond.selects RX6 yX6_move yX6_move ∈ TB := tb_of 547 (by decide +kernel) (by decide +kernel)
theorem si_RL_109 : Site RL 109 mX6_move 6 0 := ⟨ln_545, ln_546, ln_547, cw_X6_move, ⟨_, rfl⟩, ⟨_, rfl, rfl⟩, by decide⟩
theorem ln_940 : Cond.methodLink RL 112 yX7_move ∈ TB := tb_of 940 (by decide +kernel) (by decide +kernel)
theorem ln_941 : Cond.instanceMethod yX7_move ∈ TB := tb_of 941 (by decide +kernel) (by decide +kernel)
theorem ln_942 : Cond.selects RX7 yX7_move yX7_move ∈ TB := tb_of 942 (by decide +kernel) (by decide +kernel)
theorem si_RL_112 : Site RL 112 mX7_move 7 0 := ⟨ln_940, ln_941, ln_942, cw_X7_move, ⟨_, rfl⟩, ⟨_, rfl, rfl⟩, by decide⟩
theorem lc_day : C_0 833 113 116 129 := ⟨dL_law_833, dL_law_834, dL_law_837, dL_law_838, dL_law_841, by decide⟩
theorem ln_549 : Cond.methodLink RL 113 yX6_day ∈ TB := tb_of 549 (by decide +kernel) (by decide +kernel)
theorem ln_550 : Cond.instanceMethod yX6_day ∈ TB := tb_of 550 (by decide +kernel) (by decide +kernel)
theorem ln_551 : Cond.selects RX6 yX6_day yX6_day ∈ TB := tb_of 551 (by decide +kernel) (by decide +kernel)
theorem si_RL_113 : Site RL 113 mX6_day 6 0 := ⟨ln_549, ln_550, ln_551, cw_X6_day, ⟨_, rfl⟩, ⟨_, rfl, rfl⟩, by decide⟩
theorem ln_948 : Cond.methodLink RL 116 yX7_day ∈ TB := tb_of 948 (by decide +kernel) (by decide +kernel)
theorem ln_949 : Cond.instanceMethod yX7_day ∈ TB := tb_of 949 (by decide +kernel) (by decide +kernel)
theorem ln_950 : Cond.selects RX7 yX7_day yX7_day ∈ TB := tb_of 950 (by decide +kernel) (by decide +kernel)
theorem si_RL_116 : Site RL 116 mX7_day 7 0 := ⟨ln_948, ln_949, ln_950, cw_X7_day, ⟨_, rfl⟩, ⟨_, rfl, rfl⟩, by decide⟩
theorem lc_planned : C_2 846 117 120 92 := ⟨dL_law_846, dL_law_847, dL_law_848, dL_law_850, dL_law_851, dL_law_852, dL_law_853, dL_law_854, dL_law_856, dL_law_857, dL_law_858, dL_law_859, dL_law_862, dL_law_863, dL_law_864, dL_law_866, dL_law_867, dL_law_868, dL_law_869, dL_law_870, dL_law_872, dL_law_873, dL_law_874, dL_law_875, dL_law_878, by decide⟩
theorem ln_557 : Cond.methodLink RL 117 yX6_planned ∈ TB := tb_of 557 (by decide +kernel) (by decide +kernel)
theorem ln_558 : Cond.instanceMethod yX6_planned ∈ TB := tb_of 558 (by decide +kernel) (by decide +kernel)
theorem ln_559 : Cond.selects RX6 yX6_planned yX6_planned ∈ TB := tb_of 559 (by decide +kernel) (by decide +kernel)
theorem si_RL_117 : Site RL 117 mX6_planned 6 2 := ⟨ln_557, ln_558, ln_559, cw_X6_planned, ⟨_, rfl⟩, ⟨_, rfl, rfl⟩, by decide⟩
theorem ln_952 : Cond.methodLink RL 120 yX7_planned ∈ TB := tb_of 952 (by decide +kernel) (by decide +kernel)
theorem ln_953 : Cond.instanceMethod yX7_planned ∈ TB := tb_of 953 (by decide +kernel) (by decide +kernel)
theorem ln_954 : Cond.selects RX7 yX7_planned yX7_planned ∈ TB := tb_of 954 (by decide +kernel) (by decide +kernel)
theorem si_RL_120 : Site RL 120 mX7_planned 7 2 := ⟨ln_952, ln_953, ln_954, cw_X7_planned, ⟨_, rfl⟩, ⟨_, rfl, rfl⟩, by decide⟩
theorem lc_left : C_1 883 121 124 67 := ⟨dL_law_883, dL_law_884, dL_law_885, dL_law_887, dL_law_888, dL_law_889, dL_law_890, dL_law_893, dL_law_894, dL_law_895, dL_law_897, dL_law_898, dL_law_899, dL_law_900, dL_law_903, by decide⟩
theorem ln_573 : Cond.methodLink RL 121 yX6_left ∈ TB := tb_of 573 (by decide +kernel) (by decide +kernel)
theorem ln_574 : Cond.instanceMethod yX6_left ∈ TB := tb_of 574 (by decide +kernel) (by decide +kernel)
theorem ln_575 : Cond.selects RX6 yX6_left yX6_left ∈ TB := tb_of 575 (by decide +kernel) (by decide +kernel)
theorem si_RL_121 : Site RL 121 mX6_left 6 1 := ⟨ln_573, ln_574, ln_575, cw_X6_left, ⟨_, rfl⟩, ⟨_, rfl, rfl⟩, by decide⟩
theorem ln_968 : Cond.methodLink RL 124 yX7_left ∈ TB := tb_of 968 (by decide +kernel) (by decide +kernel)
theorem ln_969 : Cond.instanceMethod yX7_left ∈ TB := tb_of 969 (by decide +kernel) (by decide +kernel)
theorem ln_970 : Cond.selects RX7 yX7_left yX7_left ∈ TB := tb_of 970 (by decide +kernel) (by decide +kernel)
theorem si_RL_124 : Site RL 124 mX7_left 7 1 := ⟨ln_968, ln_969, ln_970, cw_X7_left, ⟨_, rfl⟩, ⟨_, rfl, rfl⟩, by decide⟩
theorem lc_enough : C_1 908 125 128 42 := ⟨dL_law_908, dL_law_909, dL_law_910, dL_law_912, dL_law_913, dL_law_914, dL_law_915, dL_law_918, dL_law_919, dL_law_920, dL_law_922, dL_law_923, dL_law_924, dL_law_925, dL_law_928, by decide⟩
theorem ln_586 : Cond.methodLink RL 125 yX6_enough ∈ TB := tb_of 586 (by decide +kernel) (by decide +kernel)
theorem ln_587 : Cond.instanceMethod yX6_enough ∈ TB := tb_of 587 (by decide +kernel) (by decide +kernel)
theorem ln_588 : Cond.selects RX6 yX6_enough yX6_enough ∈ TB := tb_of 588 (by decide +kernel) (by decide +kernel)
theorem si_RL_125 : Site RL 125 mX6_enough 6 1 := ⟨ln_586, ln_587, ln_588, cw_X6_enough, ⟨_, rfl⟩, ⟨_, rfl, rfl⟩, by decide⟩
theorem ln_980 : Cond.methodLink RL 128 yX7_enough ∈ TB := tb_of 980 (by decide +kernel) (by decide +kernel)
theorem ln_981 : Cond.instanceMethod yX7_enough ∈ TB := tb_of 981 (by decide +kernel) (by decide +kernel)
theorem ln_982 : Cond.selects RX7 yX7_enough yX7_enough ∈ TB := tb_of 982 (by decide +kernel) (by decide +kernel)
theorem si_RL_128 : Site RL 128 mX7_enough 7 1 := ⟨ln_980, ln_981, ln_982, cw_X7_enough, ⟨_, rfl⟩, ⟨_, rfl, rfl⟩, by decide⟩
theorem lc_log : C_2 933 129 132 5 := ⟨dL_law_933, dL_law_934, dL_law_935, dL_law_937, dL_law_938, dL_law_939, dL_law_940, dL_law_941, dL_law_943, dL_law_944, dL_law_945, dL_law_946, dL_law_949, dL_law_950, dL_law_951, dL_law_953, dL_law_954, dL_law_955, dL_law_956, dL_law_957, dL_law_959, dL_law_960, dL_law_961, dL_law_962, dL_law_965, by decide⟩
theorem ln_590 : Cond.methodLink RL 129 yX6_log ∈ TB := tb_of 590 (by decide +kernel) (by decide +kernel)
theorem ln_591 : Cond.instanceMethod yX6_log ∈ TB := tb_of 591 (by decide +kernel) (by decide +kernel)
theorem ln_592 : Cond.selects RX6 yX6_log yX6_log ∈ TB := tb_of 592 (by decide +kernel) (by decide +kernel)
theorem si_RL_129 : Site RL 129 mX6_log 6 2 := ⟨ln_590, ln_591, ln_592, cw_X6_log, ⟨_, rfl⟩, ⟨_, rfl, rfl⟩, by decide⟩
theorem ln_812 : Cond.methodLink RL 132 yX7_log ∈ TB := tb_of 812 (by decide +kernel) (by decide +kernel)
theorem ln_813 : Cond.instanceMethod yX7_log ∈ TB := tb_of 813 (by decide +kernel) (by decide +kernel)
theorem ln_814 : Cond.selects RX7 yX7_log yX7_log ∈ TB := tb_of 814 (by decide +kernel) (by decide +kernel)
theorem si_RL_132 : Site RL 132 mX7_log 7 2 := ⟨ln_812, ln_813, ln_814, cw_X7_log, ⟨_, rfl⟩, ⟨_, rfl, rfl⟩, by decide⟩
theorem nI3 {L : Nat} (hL : L ≤ 1536) : (Int32.ofNat L - 3).toInt = (L : Int) - 3 := by
  have h1 : (Int32.ofNat L).toInt = (L : Int) := nI_toInt (n := L) (by omega)
  rw [Int32.toInt_sub, h1]
  show ((L : Int) - 3).bmod (2 ^ 32) = _
  exact Int.bmod_eq_of_le (by omega) (by omega)
section LAWL
variable {p : Program} {l : Launch} {e : Env} {R : Room} {s : State} {m : MethodId} {args : Array Value} {below : List Frame} {meth : Method} {c : Code} {cells slots : Nat} {Q : State → Prop}
variable {cI cA cL : ClassId} {D : va_G} {ad : Nat → Nat} {A : Nat → Prop} {qo b L : Nat} {xs : Nat → Int32} {x4 : Int32} {σ : St} {v : Nat → Int64} {H : Heap} {locs : List Loc} {ls : Array Slot}
set_option maxHeartbeats 4000000 in
/-- one call of the script, compared -/
theorem L_step (hl0 : l.stackTraces = false) (hF : LF p R s m args c cI cA cL D ad A qo b L xs cells slots) (hG : LG s cI cA cL D ad A qo b x4 σ v H locs ls) (hi0 : vp_in x4 L) (hi1 : vp_in (x4 + 1) L) (hi2 : vp_in (x4 + 2) L)
    (kk : ∀ (τ : St) (w : Nat → Int64) (H1 : Heap) (locs1 : List Loc) (ls1 : Array Slot), LG s cI cA cL D ad A qo b x4 τ w H1 locs1 ls1 → W p l e R s m args below meth c H1 locs1 (cells + 1) (slots + 6) Q (F0 m 970 ls1 [])) : W p l e R s m args below meth c H locs cells slots Q (F0 m 32 ls []) := by
  obtain ⟨hc, hX, hbl, hbA, hqo, hAq, hKL, hT, hR, hcs⟩ := id hF
  obtain ⟨hx, hb, hml, hown, hts, hK, hA, hap⟩ := id hc
  obtain ⟨hrg, hrel, hP, hPo, hS, hl⟩ := id hG
  refine lv_aload_n hx hb dL_law_32 rfl (lv_at hl 0 rfl) ?_
  refine lv_iload hx hb dL_law_33 (lv_at hl 4 rfl) ?_
  refine va_sld hx hb hX hbl hbA hS hi0 dL_law_35 ?_
  refine lv_bipush (v := 31) hx hb dL_law_36 (by decide) ?_
  refine lv_iand hx hb dL_law_38 ?_
  refine lv_topi (fun y _ => ?_)
  by_cases y0 : y.toInt < 0
  · refine lv_tableOut (tgt := 970) hx hb dL_law_39 (Or.inl y0) (by decide) ?_
    exact W.widen (k := cells + 1) (n := slots + 6) (by omega) (by omega) (kk σ v H locs ls hG)
  by_cases y1 : 24 < y.toInt
  · refine lv_tableOut (tgt := 970) hx hb dL_law_39 (Or.inr y1) (by decide) ?_
    exact W.widen (k := cells + 1) (n := slots + 6) (by omega) (by omega) (kk σ v H locs ls hG)
  rcases (show y.toInt = 0 ∨ y.toInt = 1 ∨ y.toInt = 2 ∨ y.toInt = 3 ∨ y.toInt = 4 ∨ y.toInt = 5 ∨ y.toInt = 6 ∨ y.toInt = 7 ∨ y.toInt = 8 ∨ y.toInt = 9 ∨ y.toInt = 10 ∨ y.toInt = 11 ∨ y.toInt = 12 ∨ y.toInt = 13 ∨ y.toInt = 14 ∨ y.toInt = 15 ∨ y.toInt = 16 ∨ y.toInt = 17 ∨ y.toInt = 18 ∨ y.toInt = 19 ∨ y.toInt = 20 ∨ y.toInt = 21 ∨ y.toInt = 22 ∨ y.toInt = 23 ∨ y.toInt = 24 by omega) with y9 | y9 | y9 | y9 | y9 | y9 | y9 | y9 | y9 | y9 | y9 | y9 | y9 | y9 | y9 | y9 | y9 | y9 | y9 | y9 | y9 | y9 | y9 | y9 | y9
  · refine lv_tableIn (off := 113) (tgt := 152) hx hb dL_law_39 y0 y1 (by rw [y9]; rfl) (by decide) ?_
    exact L_case2 (n1 := 1) (n2 := 1) hF hG lc_shelf si_RL_25 si_RL_28 rfl rfl (by decide) (by decide) (by decide) (by decide) hi1 hi2 bo_shelf kk
  · refine lv_tableIn (off := 150) (tgt := 189) hx hb dL_law_39 y0 y1 (by rw [y9]; rfl) (by decide) ?_
    exact L_case2 (n1 := 1) (n2 := 2) hF hG lc_turn si_RL_29 si_RL_33 rfl rfl (by decide) (by decide) (by decide) (by decide) hi1 hi2 bo_turn kk
  · refine lv_tableIn (off := 187) (tgt := 226) hx hb dL_law_39 y0 y1 (by rw [y9]; rfl) (by decide) ?_
    exact L_case1 (n1 := 1) (n2 := 1) hF hG lc_group si_RL_34 si_RL_38 rfl rfl (by decide) (by decide) (by decide) (by decide) hi1 bo_group kk
  · refine lv_tableIn (off := 212) (tgt := 251) hx hb dL_law_39 y0 y1 (by rw [y9]; rfl) (by decide) ?_
    exact L_case2 (n1 := 3) (n2 := 2) hF hG lc_grow si_RL_39 si_RL_42 rfl rfl (by decide) (by decide) (by decide) (by decide) hi1 hi2 bo_grow kk
  · refine lv_tableIn (off := 249) (tgt := 288) hx hb dL_law_39 y0 y1 (by rw [y9]; rfl) (by decide) ?_
    exact L_case2 (n1 := 4) (n2 := 3) hF hG lc_book si_RL_43 si_RL_46 rfl rfl (by decide) (by decide) (by decide) (by decide) hi1 hi2 bo_book kk
  · refine lv_tableIn (off := 286) (tgt := 325) hx hb dL_law_39 y0 y1 (by rw [y9]; rfl) (by decide) ?_
    exact L_case1 (n1 := 3) (n2 := 2) hF hG lc_gone si_RL_47 si_RL_50 rfl rfl (by decide) (by decide) (by decide) (by decide) hi1 bo_gone kk
  · refine lv_tableIn (off := 311) (tgt := 350) hx hb dL_law_39 y0 y1 (by rw [y9]; rfl) (by decide) ?_
    exact L_case1 (n1 := 1) (n2 := 1) hF hG lc_limit si_RL_51 si_RL_55 rfl rfl (by decide) (by decide) (by decide) (by decide) hi1 bo_limit kk
  · refine lv_tableIn (off := 336) (tgt := 375) hx hb dL_law_39 y0 y1 (by rw [y9]; rfl) (by decide) ?_
    exact L_case1 (n1 := 1) (n2 := 1) hF hG lc_count si_RL_56 si_RL_59 rfl rfl (by decide) (by decide) (by decide) (by decide) hi1 bo_count kk
  · refine lv_tableIn (off := 361) (tgt := 400) hx hb dL_law_39 y0 y1 (by rw [y9]; rfl) (by decide) ?_
    exact L_caseT (n2 := 4) (ok := fun σ u w => 0 ≤ u ∧ u < σ 5 2 ∧ 0 ≤ w ∧ w ≤ 7) hl0 hF hG lc_on (by decide +kernel) rfl (by decide +kernel) wc_on si_RL_7 ln_598 ln_599 ln_600 si_RL_65 rfl (by decide) (by decide) hi1 hi2 (fun x y sz => mt_on l hl0 cI cA D hF.1.2.2.2.2.2.2.2 σ hG.1 hG.2.1 x y sz) (fun u w hu hw hno => bx_on σ u w hu hw hG.2.1 hno) kk
  · refine lv_tableIn (off := 429) (tgt := 468) hx hb dL_law_39 y0 y1 (by rw [y9]; rfl) (by decide) ?_
    exact L_caseT (n2 := 2) (ok := fun σ u w => 0 ≤ u ∧ u < σ 2 1 ∧ 0 ≤ w ∧ w ≤ 4) hl0 hF hG lc_in (by decide +kernel) rfl (by decide +kernel) wc_in si_RL_15 ln_681 ln_682 ln_683 si_RL_72 rfl (by decide) (by decide) hi1 hi2 (fun x y sz => mt_in l hl0 cI cA D hF.1.2.2.2.2.2.2.2 σ hG.1 hG.2.1 x y sz) (fun u w hu hw hno => bx_in σ u w hu hw hG.2.1 hno) kk
  · refine lv_tableIn (off := 497) (tgt := 536) hx hb dL_law_39 y0 y1 (by rw [y9]; rfl) (by decide) ?_
    exact L_caseT (n2 := 3) (ok := fun σ u w => 0 ≤ u ∧ u < σ 0 6 ∧ 0 ≤ w ∧ w ≤ 6) hl0 hF hG lc_of (by decide +kernel) rfl (by decide +kernel) wc_of si_RL_18 ln_702 ln_703 ln_704 si_RL_75 rfl (by decide) (by decide) hi1 hi2 (fun x y sz => mt_of l hl0 cI cA D hF.1.2.2.2.2.2.2.2 σ hG.1 hG.2.1 x y sz) (fun u w hu hw hno => bx_of σ u w hu hw hG.2.1 hno) kk
  · refine lv_tableIn (off := 565) (tgt := 604) hx hb dL_law_39 y0 y1 (by rw [y9]; rfl) (by decide) ?_
    exact L_case0 (n1 := 4) (n2 := 4) hF hG lc_lasts si_RL_76 si_RL_79 rfl rfl (by decide) (by decide) (by decide) (by decide) bo_lasts kk
  · refine lv_tableIn (off := 578) (tgt := 617) hx hb dL_law_39 y0 y1 (by rw [y9]; rfl) (by decide) ?_
    exact L_case2 (n1 := 4) (n2 := 3) hF hG lc_cut si_RL_80 si_RL_83 rfl rfl (by decide) (by decide) (by decide) (by decide) hi1 hi2 bo_cut kk
  · refine lv_tableIn (off := 615) (tgt := 654) hx hb dL_law_39 y0 y1 (by rw [y9]; rfl) (by decide) ?_
    exact L_case2 (n1 := 4) (n2 := 3) hF hG lc_price si_RL_84 si_RL_87 rfl rfl (by decide) (by decide) (by decide) (by decide) hi1 hi2 bo_price kk
  · refine lv_tableIn (off := 652) (tgt := 691) hx hb dL_law_39 y0 y1 (by rw [y9]; rfl) (by decide) ?_
    exact L_caseB (n1 := 3) (n2 := 3) hF hG lc_best si_RL_88 si_RL_92 rfl rfl (by decide) (by decide) (by decide) (by decide) hi1 bo_best kk
  · refine lv_tableIn (off := 693) (tgt := 732) hx hb dL_law_39 y0 y1 (by rw [y9]; rfl) (by decide) ?_
    exact L_case0 (n1 := 2) (n2 := 0) hF hG lc_tight si_RL_93 si_RL_96 rfl rfl (by decide) (by decide) (by decide) (by decide) bo_tight kk
  · refine lv_tableIn (off := 706) (tgt := 745) hx hb dL_law_39 y0 y1 (by rw [y9]; rfl) (by decide) ?_
    exact L_case2 (n1 := 2) (n2 := 3) hF hG lc_more si_RL_97 si_RL_100 rfl rfl (by decide) (by decide) (by decide) (by decide) hi1 hi2 bo_more kk
  · refine lv_tableIn (off := 743) (tgt := 782) hx hb dL_law_39 y0 y1 (by rw [y9]; rfl) (by decide) ?_
    exact L_case1 (n1 := 4) (n2 := 3) hF hG lc_plan si_RL_101 si_RL_104 rfl rfl (by decide) (by decide) (by decide) (by decide) hi1 bo_plan kk
  · refine lv_tableIn (off := 768) (tgt := 807) hx hb dL_law_39 y0 y1 (by rw [y9]; rfl) (by decide) ?_
    exact L_case0 (n1 := 1) (n2 := 1) hF hG lc_drop si_RL_105 si_RL_108 rfl rfl (by decide) (by decide) (by decide) (by decide) bo_drop kk
  · refine lv_tableIn (off := 781) (tgt := 820) hx hb dL_law_39 y0 y1 (by rw [y9]; rfl) (by decide) ?_
    exact L_case0 (n1 := 3) (n2 := 3) hF hG lc_move si_RL_109 si_RL_112 rfl rfl (by decide) (by decide) (by decide) (by decide) bo_move kk
  · refine lv_tableIn (off := 794) (tgt := 833) hx hb dL_law_39 y0 y1 (by rw [y9]; rfl) (by decide) ?_
    exact L_case0 (n1 := 3) (n2 := 3) hF hG lc_day si_RL_113 si_RL_116 rfl rfl (by decide) (by decide) (by decide) (by decide) bo_day kk
  · refine lv_tableIn (off := 807) (tgt := 846) hx hb dL_law_39 y0 y1 (by rw [y9]; rfl) (by decide) ?_
    exact L_case2 (n1 := 1) (n2 := 1) hF hG lc_planned si_RL_117 si_RL_120 rfl rfl (by decide) (by decide) (by decide) (by decide) hi1 hi2 bo_planned kk
  · refine lv_tableIn (off := 844) (tgt := 883) hx hb dL_law_39 y0 y1 (by rw [y9]; rfl) (by decide) ?_
    exact L_case1 (n1 := 2) (n2 := 1) hF hG lc_left si_RL_121 si_RL_124 rfl rfl (by decide) (by decide) (by decide) (by decide) hi1 bo_left kk
  · refine lv_tableIn (off := 869) (tgt := 908) hx hb dL_law_39 y0 y1 (by rw [y9]; rfl) (by decide) ?_
    exact L_case1 (n1 := 1) (n2 := 1) hF hG lc_enough si_RL_125 si_RL_128 rfl rfl (by decide) (by decide) (by decide) (by decide) hi1 bo_enough kk
  · refine lv_tableIn (off := 894) (tgt := 933) hx hb dL_law_39 y0 y1 (by rw [y9]; rfl) (by decide) ?_
    exact L_case2 (n1 := 1) (n2 := 1) hF hG lc_log si_RL_129 si_RL_132 rfl rfl (by decide) (by decide) (by decide) (by decide) hi1 hi2 bo_log kk
end LAWL
