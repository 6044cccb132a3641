/-! the cases of the law -/
theorem lw_0 {t i L : Nat} {xs : Nat → Int32} {s : ST} {m : MM} (ht : t + 1001 < 2 ^ 30) (hL : L ≤ 2560) (hi : i + 5 ≤ L) (S : SCR xs L m) (h : BO s m) (hI : INV t s) : OUTC t i 164 m := by
  obtain ⟨⟨m1, m2, c1, c2, c3, c4, c5⟩, c6⟩ := bt_peer (a := xs (i + 1)) (b := xs (i + 2)) ht h hI
  refine ⟨m2, _, ?_, c3, c6, c5⟩
  have S1 := scr_fb S c4
  obtain ⟨p1, q1⟩ := scr_ix (i := i) (j := 1) S hL (by omega)
  obtain ⟨u1, w1⟩ := scr_ix (i := i) (j := 1) S1 hL (by omega)
  obtain ⟨p2, q2⟩ := scr_ix (i := i) (j := 2) S hL (by omega)
  obtain ⟨u2, w2⟩ := scr_ix (i := i) (j := 2) S1 hL (by omega)
  simp only [s169_164, s169_165, s169_166, s169_167, s169_168, s169_169, s169_170, s169_171, s169_172, s169_173, s169_174, s169_175, s169_178, s169_179, s169_180, s169_181, s169_182, s169_183, s169_184, s169_185, s169_186, s169_187, s169_188, s169_189, s169_192, s169_195, s169_196b0, s169_196b1, eq_self, ixk_some, bd_some, nl_n, nl_i, nl_r, Option.toList_some, Option.toList_none, List.cons_append, List.nil_append, c1, c2, p1, q1, u1, w1, p2, q2, u2, w2, iN1, iN2, if_true]
theorem lw_1 {t i L : Nat} {xs : Nat → Int32} {s : ST} {m : MM} (ht : t + 1001 < 2 ^ 30) (hL : L ≤ 2560) (hi : i + 5 ≤ L) (S : SCR xs L m) (h : BO s m) (hI : INV t s) : OUTC t i 197 m := by
  obtain ⟨⟨m1, m2, c1, c2, c3, c4, c5⟩, c6⟩ := bt_drawn (a := xs (i + 1)) ht h hI
  refine ⟨m2, _, ?_, c3, c6, c5⟩
  have S1 := scr_fb S c4
  obtain ⟨p1, q1⟩ := scr_ix (i := i) (j := 1) S hL (by omega)
  obtain ⟨u1, w1⟩ := scr_ix (i := i) (j := 1) S1 hL (by omega)
  simp only [s169_197, s169_198, s169_199, s169_200, s169_201, s169_202, s169_203, s169_206, s169_207, s169_208, s169_209, s169_210, s169_211, s169_212, s169_215, s169_218, s169_219b0, s169_219b1, eq_self, ixk_some, bd_some, nl_n, nl_i, nl_r, Option.toList_some, Option.toList_none, List.cons_append, List.nil_append, c1, c2, p1, q1, u1, w1, iN1, if_true]
theorem lw_2 {t i L : Nat} {xs : Nat → Int32} {s : ST} {m : MM} (ht : t + 1001 < 2 ^ 30) (hL : L ≤ 2560) (hi : i + 5 ≤ L) (S : SCR xs L m) (h : BO s m) (hI : INV t s) : OUTC t i 220 m := by
  obtain ⟨⟨m1, m2, c1, c2, c3, c4, c5⟩, c6⟩ := bt_seed (a := xs (i + 1)) ht h hI
  refine ⟨m2, _, ?_, c3, c6, c5⟩
  have S1 := scr_fb S c4
  obtain ⟨p1, q1⟩ := scr_ix (i := i) (j := 1) S hL (by omega)
  obtain ⟨u1, w1⟩ := scr_ix (i := i) (j := 1) S1 hL (by omega)
  simp only [s169_220, s169_221, s169_222, s169_223, s169_224, s169_225, s169_226, s169_229, s169_230, s169_231, s169_232, s169_233, s169_234, s169_235, s169_238, s169_241, s169_242b0, s169_242b1, eq_self, ixk_some, bd_some, nl_n, nl_i, nl_r, Option.toList_some, Option.toList_none, List.cons_append, List.nil_append, c1, c2, p1, q1, u1, w1, iN1, if_true]
theorem lw_3 {t i L : Nat} {xs : Nat → Int32} {s : ST} {m : MM} (ht : t + 1001 < 2 ^ 30) (hL : L ≤ 2560) (hi : i + 5 ≤ L) (S : SCR xs L m) (h : BO s m) (hI : INV t s) : OUTC t i 243 m := by
  obtain ⟨⟨m1, m2, c1, c2, c3, c4, c5⟩, c6⟩ := bt_join (a := xs (i + 1)) (b := xs (i + 2)) ht h hI
  refine ⟨m2, _, ?_, c3, c6, c5⟩
  have S1 := scr_fb S c4
  obtain ⟨p1, q1⟩ := scr_ix (i := i) (j := 1) S hL (by omega)
  obtain ⟨u1, w1⟩ := scr_ix (i := i) (j := 1) S1 hL (by omega)
  obtain ⟨p2, q2⟩ := scr_ix (i := i) (j := 2) S hL (by omega)
  obtain ⟨u2, w2⟩ := scr_ix (i := i) (j := 2) S1 hL (by omega)
  simp only [s169_243, s169_244, s169_245, s169_246, s169_247, s169_248, s169_249, s169_250, s169_251, s169_252, s169_253, s169_254, s169_257, s169_258, s169_259, s169_260, s169_261, s169_262, s169_263, s169_264, s169_265, s169_266, s169_267, s169_268, s169_271, s169_274, s169_275b0, s169_275b1, eq_self, ixk_some, bd_some, nl_n, nl_i, nl_r, Option.toList_some, Option.toList_none, List.cons_append, List.nil_append, c1, c2, p1, q1, u1, w1, p2, q2, u2, w2, iN1, iN2, if_true]
theorem lw_4 {t i L : Nat} {xs : Nat → Int32} {s : ST} {m : MM} (ht : t + 1001 < 2 ^ 30) (hL : L ≤ 2560) (hi : i + 5 ≤ L) (S : SCR xs L m) (h : BO s m) (hI : INV t s) : OUTC t i 276 m := by
  obtain ⟨⟨m1, m2, c1, c2, c3, c4, c5⟩, c6⟩ := bt_leave (a := xs (i + 1)) ht h hI
  refine ⟨m2, _, ?_, c3, c6, c5⟩
  have S1 := scr_fb S c4
  obtain ⟨p1, q1⟩ := scr_ix (i := i) (j := 1) S hL (by omega)
  obtain ⟨u1, w1⟩ := scr_ix (i := i) (j := 1) S1 hL (by omega)
  simp only [s169_276, s169_277, s169_278, s169_279, s169_280, s169_281, s169_282, s169_285, s169_286, s169_287, s169_288, s169_289, s169_290, s169_291, s169_294, s169_297, s169_298b0, s169_298b1, eq_self, ixk_some, bd_some, nl_n, nl_i, nl_r, Option.toList_some, Option.toList_none, List.cons_append, List.nil_append, c1, c2, p1, q1, u1, w1, iN1, if_true]
theorem lw_5 {t i L : Nat} {xs : Nat → Int32} {s : ST} {m : MM} (ht : t + 1001 < 2 ^ 30) (hL : L ≤ 2560) (hi : i + 5 ≤ L) (S : SCR xs L m) (h : BO s m) (hI : INV t s) : OUTC t i 299 m := by
  obtain ⟨⟨m1, m2, c1, c2, c3, c4, c5⟩, c6⟩ := bt_again (a := xs (i + 1)) (b := xs (i + 2)) ht h hI
  refine ⟨m2, _, ?_, c3, c6, c5⟩
  have S1 := scr_fb S c4
  obtain ⟨p1, q1⟩ := scr_ix (i := i) (j := 1) S hL (by omega)
  obtain ⟨u1, w1⟩ := scr_ix (i := i) (j := 1) S1 hL (by omega)
  obtain ⟨p2, q2⟩ := scr_ix (i := i) (j := 2) S hL (by omega)
  obtain ⟨u2, w2⟩ := scr_ix (i := i) (j := 2) S1 hL (by omega)
  simp only [s169_299, s169_300, s169_301, s169_302, s169_303, s169_304, s169_305, s169_306, s169_307, s169_308, s169_309, s169_310, s169_313, s169_314, s169_315, s169_316, s169_317, s169_318, s169_319, s169_320, s169_321, s169_322, s169_323, s169_324, s169_327, s169_330, s169_331b0, s169_331b1, eq_self, ixk_some, bd_some, nl_n, nl_i, nl_r, Option.toList_some, Option.toList_none, List.cons_append, List.nil_append, c1, c2, p1, q1, u1, w1, p2, q2, u2, w2, iN1, iN2, if_true]
theorem lw_6 {t i L : Nat} {xs : Nat → Int32} {s : ST} {m : MM} (ht : t + 1001 < 2 ^ 30) (hL : L ≤ 2560) (hi : i + 5 ≤ L) (S : SCR xs L m) (h : BO s m) (hI : INV t s) : OUTC t i 332 m := by
  obtain ⟨⟨m1, m2, c1, c2, c3, c4, c5⟩, c6⟩ := bt_find (a := xs (i + 1)) (b := xs (i + 2)) ht h hI
  refine ⟨m2, _, ?_, c3, c6, c5⟩
  have S1 := scr_fb S c4
  obtain ⟨p1, q1⟩ := scr_ix (i := i) (j := 1) S hL (by omega)
  obtain ⟨u1, w1⟩ := scr_ix (i := i) (j := 1) S1 hL (by omega)
  obtain ⟨p2, q2⟩ := scr_ix (i := i) (j := 2) S hL (by omega)
  obtain ⟨u2, w2⟩ := scr_ix (i := i) (j := 2) S1 hL (by omega)
  simp only [s169_332, s169_333, s169_334, s169_335, s169_336, s169_337, s169_338, s169_339, s169_340, s169_341, s169_342, s169_343, s169_346, s169_347, s169_348, s169_349, s169_350, s169_351, s169_352, s169_353, s169_354, s169_355, s169_356, s169_357, s169_360, s169_363, s169_364b0, s169_364b1, eq_self, ixk_some, bd_some, nl_n, nl_i, nl_r, Option.toList_some, Option.toList_none, List.cons_append, List.nil_append, c1, c2, p1, q1, u1, w1, p2, q2, u2, w2, iN1, iN2, if_true]
theorem lw_7 {t i L : Nat} {xs : Nat → Int32} {s : ST} {m : MM} (ht : t + 1001 < 2 ^ 30) (hL : L ≤ 2560) (hi : i + 5 ≤ L) (S : SCR xs L m) (h : BO s m) (hI : INV t s) : OUTC t i 365 m := by
  obtain ⟨⟨m1, m2, c1, c2, c3, c4, c5⟩, c6⟩ := bt_span (a := xs (i + 1)) (b := xs (i + 2)) (c := xs (i + 3)) ht h hI
  refine ⟨m2, _, ?_, c3, c6, c5⟩
  have S1 := scr_fb S c4
  obtain ⟨p1, q1⟩ := scr_ix (i := i) (j := 1) S hL (by omega)
  obtain ⟨u1, w1⟩ := scr_ix (i := i) (j := 1) S1 hL (by omega)
  obtain ⟨p2, q2⟩ := scr_ix (i := i) (j := 2) S hL (by omega)
  obtain ⟨u2, w2⟩ := scr_ix (i := i) (j := 2) S1 hL (by omega)
  obtain ⟨p3, q3⟩ := scr_ix (i := i) (j := 3) S hL (by omega)
  obtain ⟨u3, w3⟩ := scr_ix (i := i) (j := 3) S1 hL (by omega)
  simp only [s169_365, s169_366, s169_367, s169_368, s169_369, s169_370, s169_371, s169_372, s169_373, s169_374, s169_375, s169_376, s169_377, s169_378, s169_379, s169_380, s169_381, s169_384, s169_385, s169_386, s169_387, s169_388, s169_389, s169_390, s169_391, s169_392, s169_393, s169_394, s169_395, s169_396, s169_397, s169_398, s169_399, s169_400, s169_403, s169_406, s169_407b0, s169_407b1, eq_self, ixk_some, bd_some, nl_n, nl_i, nl_r, Option.toList_some, Option.toList_none, List.cons_append, List.nil_append, c1, c2, p1, q1, u1, w1, p2, q2, u2, w2, p3, q3, u3, w3, iN1, iN2, iN3, if_true]
theorem lw_8 {t i L : Nat} {xs : Nat → Int32} {s : ST} {m : MM} (ht : t + 1001 < 2 ^ 30) (hL : L ≤ 2560) (hi : i + 5 ≤ L) (S : SCR xs L m) (h : BO s m) (hI : INV t s) : OUTC t i 408 m := by
  obtain ⟨⟨m1, m2, c1, c2, c3, c4, c5⟩, c6⟩ := bt_tally (a := xs (i + 1)) (b := xs (i + 2)) (c := xs (i + 3)) ht h hI
  refine ⟨m2, _, ?_, c3, c6, c5⟩
  have S1 := scr_fb S c4
  obtain ⟨p1, q1⟩ := scr_ix (i := i) (j := 1) S hL (by omega)
  obtain ⟨u1, w1⟩ := scr_ix (i := i) (j := 1) S1 hL (by omega)
  obtain ⟨p2, q2⟩ := scr_ix (i := i) (j := 2) S hL (by omega)
  obtain ⟨u2, w2⟩ := scr_ix (i := i) (j := 2) S1 hL (by omega)
  obtain ⟨p3, q3⟩ := scr_ix (i := i) (j := 3) S hL (by omega)
  obtain ⟨u3, w3⟩ := scr_ix (i := i) (j := 3) S1 hL (by omega)
  simp only [s169_408, s169_409, s169_410, s169_411, s169_412, s169_413, s169_414, s169_415, s169_416, s169_417, s169_418, s169_419, s169_420, s169_421, s169_422, s169_423, s169_424, s169_427, s169_428, s169_429, s169_430, s169_431, s169_432, s169_433, s169_434, s169_435, s169_436, s169_437, s169_438, s169_439, s169_440, s169_441, s169_442, s169_443, s169_446, s169_449, s169_450b0, s169_450b1, eq_self, ixk_some, bd_some, nl_n, nl_i, nl_r, Option.toList_some, Option.toList_none, List.cons_append, List.nil_append, c1, c2, p1, q1, u1, w1, p2, q2, u2, w2, p3, q3, u3, w3, iN1, iN2, iN3, if_true]
theorem lw_9 {t i L : Nat} {xs : Nat → Int32} {s : ST} {m : MM} (ht : t + 1001 < 2 ^ 30) (hL : L ≤ 2560) (hi : i + 5 ≤ L) (S : SCR xs L m) (h : BO s m) (hI : INV t s) : OUTC t i 451 m := by
  obtain ⟨⟨m1, m2, c1, c2, c3, c4, c5⟩, c6⟩ := bt_put (a := xs (i + 1)) (b := xs (i + 2)) (v := (xs (i + 3)).toInt64 <<< ((32 : Int32).toInt64 &&& 63) ||| ((xs (i + 4)).toInt64 &&& 4294967295)) ht h hI
  refine ⟨m2, _, ?_, c3, c6, c5⟩
  have S1 := scr_fb S c4
  obtain ⟨p1, q1⟩ := scr_ix (i := i) (j := 1) S hL (by omega)
  obtain ⟨u1, w1⟩ := scr_ix (i := i) (j := 1) S1 hL (by omega)
  obtain ⟨p2, q2⟩ := scr_ix (i := i) (j := 2) S hL (by omega)
  obtain ⟨u2, w2⟩ := scr_ix (i := i) (j := 2) S1 hL (by omega)
  obtain ⟨p3, q3⟩ := scr_ix (i := i) (j := 3) S hL (by omega)
  obtain ⟨u3, w3⟩ := scr_ix (i := i) (j := 3) S1 hL (by omega)
  obtain ⟨p4, q4⟩ := scr_ix (i := i) (j := 4) S hL (by omega)
  obtain ⟨u4, w4⟩ := scr_ix (i := i) (j := 4) S1 hL (by omega)
  simp only [s169_451, s169_452, s169_453, s169_454, s169_455, s169_456, s169_457, s169_458, s169_459, s169_460, s169_461, s169_462, s169_463, s169_464, s169_465, s169_466, s169_467, s169_468, s169_470, s169_471, s169_472, s169_473, s169_474, s169_475, s169_476, s169_477, s169_480, s169_481, s169_482, s169_485, s169_486, s169_487, s169_488, s169_489, s169_490, s169_491, s169_492, s169_493, s169_494, s169_495, s169_496, s169_497, s169_498, s169_499, s169_500, s169_501, s169_502, s169_504, s169_505, s169_506, s169_507, s169_508, s169_509, s169_510, s169_511, s169_514, s169_515, s169_516, s169_519, s169_522, s169_523b0, s169_523b1, eq_self, ixk_some, bd_some, nl_n, nl_i, nl_r, Option.toList_some, Option.toList_none, List.cons_append, List.nil_append, c1, c2, p1, q1, u1, w1, p2, q2, u2, w2, p3, q3, u3, w3, p4, q4, u4, w4, iN1, iN2, iN3, iN4, if_true]
theorem lw_10 {t i L : Nat} {xs : Nat → Int32} {s : ST} {m : MM} (ht : t + 1001 < 2 ^ 30) (hL : L ≤ 2560) (hi : i + 5 ≤ L) (S : SCR xs L m) (h : BO s m) (hI : INV t s) : OUTC t i 524 m := by
  obtain ⟨⟨m1, m2, c1, c2, c3, c4, c5⟩, c6⟩ := bt_get (a := xs (i + 1)) (b := xs (i + 2)) ht h hI
  refine ⟨m2, _, ?_, c3, c6, c5⟩
  have S1 := scr_fb S c4
  obtain ⟨p1, q1⟩ := scr_ix (i := i) (j := 1) S hL (by omega)
  obtain ⟨u1, w1⟩ := scr_ix (i := i) (j := 1) S1 hL (by omega)
  obtain ⟨p2, q2⟩ := scr_ix (i := i) (j := 2) S hL (by omega)
  obtain ⟨u2, w2⟩ := scr_ix (i := i) (j := 2) S1 hL (by omega)
  simp only [s169_524, s169_525, s169_526, s169_527, s169_528, s169_529, s169_530, s169_531, s169_532, s169_533, s169_534, s169_535, s169_538, s169_539, s169_540, s169_541, s169_542, s169_543, s169_544, s169_545, s169_546, s169_547, s169_548, s169_549, s169_552, s169_555, s169_556b0, s169_556b1, eq_self, ixk_some, bd_some, nl_n, nl_i, nl_r, Option.toList_some, Option.toList_none, List.cons_append, List.nil_append, c1, c2, p1, q1, u1, w1, p2, q2, u2, w2, iN1, iN2, if_true]
theorem lw_11 {t i L : Nat} {xs : Nat → Int32} {s : ST} {m : MM} (ht : t + 1001 < 2 ^ 30) (hL : L ≤ 2560) (hi : i + 5 ≤ L) (S : SCR xs L m) (h : BO s m) (hI : INV t s) : OUTC t i 557 m := by
  obtain ⟨⟨m1, m2, c1, c2, c3, c4, c5⟩, c6⟩ := bt_ask (a := xs (i + 1)) (b := xs (i + 2)) ht h hI
  refine ⟨m2, _, ?_, c3, c6, c5⟩
  have S1 := scr_fb S c4
  obtain ⟨p1, q1⟩ := scr_ix (i := i) (j := 1) S hL (by omega)
  obtain ⟨u1, w1⟩ := scr_ix (i := i) (j := 1) S1 hL (by omega)
  obtain ⟨p2, q2⟩ := scr_ix (i := i) (j := 2) S hL (by omega)
  obtain ⟨u2, w2⟩ := scr_ix (i := i) (j := 2) S1 hL (by omega)
  simp only [s169_557, s169_558, s169_559, s169_560, s169_561, s169_562, s169_563, s169_564, s169_565, s169_566, s169_567, s169_568, s169_571, s169_572, s169_573, s169_574, s169_575, s169_576, s169_577, s169_578, s169_579, s169_580, s169_581, s169_582, s169_585, s169_588, s169_589b0, s169_589b1, eq_self, ixk_some, bd_some, nl_n, nl_i, nl_r, Option.toList_some, Option.toList_none, List.cons_append, List.nil_append, c1, c2, p1, q1, u1, w1, p2, q2, u2, w2, iN1, iN2, if_true]
theorem lw_12 {t i L : Nat} {xs : Nat → Int32} {s : ST} {m : MM} (ht : t + 1001 < 2 ^ 30) (hL : L ≤ 2560) (hi : i + 5 ≤ L) (S : SCR xs L m) (h : BO s m) (hI : INV t s) : OUTC t i 590 m := by
  obtain ⟨⟨m1, m2, c1, c2, c3, c4, c5⟩, c6⟩ := bt_passed (a := xs (i + 1)) (b := xs (i + 2)) ht h hI
  refine ⟨m2, _, ?_, c3, c6, c5⟩
  have S1 := scr_fb S c4
  obtain ⟨p1, q1⟩ := scr_ix (i := i) (j := 1) S hL (by omega)
  obtain ⟨u1, w1⟩ := scr_ix (i := i) (j := 1) S1 hL (by omega)
  obtain ⟨p2, q2⟩ := scr_ix (i := i) (j := 2) S hL (by omega)
  obtain ⟨u2, w2⟩ := scr_ix (i := i) (j := 2) S1 hL (by omega)
  simp only [s169_590, s169_591, s169_592, s169_593, s169_594, s169_595, s169_596, s169_597, s169_598, s169_599, s169_600, s169_601, s169_604, s169_605, s169_606, s169_607, s169_608, s169_609, s169_610, s169_611, s169_612, s169_613, s169_614, s169_615, s169_618, s169_621, s169_622b0, s169_622b1, eq_self, ixk_some, bd_some, nl_n, nl_i, nl_r, Option.toList_some, Option.toList_none, List.cons_append, List.nil_append, c1, c2, p1, q1, u1, w1, p2, q2, u2, w2, iN1, iN2, if_true]
theorem lw_13 {t i L : Nat} {xs : Nat → Int32} {s : ST} {m : MM} (ht : t + 1001 < 2 ^ 30) (hL : L ≤ 2560) (hi : i + 5 ≤ L) (S : SCR xs L m) (h : BO s m) (hI : INV t s) : OUTC t i 623 m := by
  obtain ⟨⟨m1, m2, c1, c2, c3, c4, c5⟩, c6⟩ := bt_noted (a := xs (i + 1)) (b := xs (i + 2)) ht h hI
  refine ⟨m2, _, ?_, c3, c6, c5⟩
  have S1 := scr_fb S c4
  obtain ⟨p1, q1⟩ := scr_ix (i := i) (j := 1) S hL (by omega)
  obtain ⟨u1, w1⟩ := scr_ix (i := i) (j := 1) S1 hL (by omega)
  obtain ⟨p2, q2⟩ := scr_ix (i := i) (j := 2) S hL (by omega)
  obtain ⟨u2, w2⟩ := scr_ix (i := i) (j := 2) S1 hL (by omega)
  simp only [s169_623, s169_624, s169_625, s169_626, s169_627, s169_628, s169_629, s169_630, s169_631, s169_632, s169_633, s169_634, s169_637, s169_638, s169_639, s169_640, s169_641, s169_642, s169_643, s169_644, s169_645, s169_646, s169_647, s169_648, s169_651, s169_654, s169_655b0, s169_655b1, eq_self, ixk_some, bd_some, nl_n, nl_i, nl_r, Option.toList_some, Option.toList_none, List.cons_append, List.nil_append, c1, c2, p1, q1, u1, w1, p2, q2, u2, w2, iN1, iN2, if_true]
theorem lw_14 {t i L : Nat} {xs : Nat → Int32} {s : ST} {m : MM} (ht : t + 1001 < 2 ^ 30) (hL : L ≤ 2560) (hi : i + 5 ≤ L) (S : SCR xs L m) (h : BO s m) (hI : INV t s) : OUTC t i 656 m := by
  obtain ⟨⟨m1, m2, c1, c2, c3, c4, c5⟩, c6⟩ := bt_value (a := xs (i + 1)) ht h hI
  refine ⟨m2, _, ?_, c3, c6, c5⟩
  have S1 := scr_fb S c4
  obtain ⟨p1, q1⟩ := scr_ix (i := i) (j := 1) S hL (by omega)
  obtain ⟨u1, w1⟩ := scr_ix (i := i) (j := 1) S1 hL (by omega)
  simp only [s169_656, s169_657, s169_658, s169_659, s169_660, s169_661, s169_662, s169_665, s169_666, s169_667, s169_668, s169_669, s169_670, s169_671, s169_674, s169_675, s169_678, s169_679b0, s169_679b1, eq_self, ixk_some, bd_some, nl_n, nl_i, nl_r, Option.toList_some, Option.toList_none, List.cons_append, List.nil_append, c1, c2, p1, q1, u1, w1, iN1, lgc, if_true]
theorem lw_15 {t i L : Nat} {xs : Nat → Int32} {s : ST} {m : MM} (ht : t + 1001 < 2 ^ 30) (hL : L ≤ 2560) (hi : i + 5 ≤ L) (S : SCR xs L m) (h : BO s m) (hI : INV t s) : OUTC t i 680 m := by
  obtain ⟨⟨m1, m2, c1, c2, c3, c4, c5⟩, c6⟩ := bt_deliver (a := xs (i + 1)) ht h hI
  refine ⟨m2, _, ?_, c3, c6, c5⟩
  have S1 := scr_fb S c4
  obtain ⟨p1, q1⟩ := scr_ix (i := i) (j := 1) S hL (by omega)
  obtain ⟨u1, w1⟩ := scr_ix (i := i) (j := 1) S1 hL (by omega)
  simp only [s169_680, s169_681, s169_682, s169_683, s169_684, s169_685, s169_686, s169_689, s169_690, s169_691, s169_692, s169_693, s169_694, s169_695, s169_698, s169_701, s169_702b0, s169_702b1, eq_self, ixk_some, bd_some, nl_n, nl_i, nl_r, Option.toList_some, Option.toList_none, List.cons_append, List.nil_append, c1, c2, p1, q1, u1, w1, iN1, if_true]
theorem lw_16 {t i L : Nat} {xs : Nat → Int32} {s : ST} {m : MM} (ht : t + 1001 < 2 ^ 30) (hL : L ≤ 2560) (hi : i + 5 ≤ L) (S : SCR xs L m) (h : BO s m) (hI : INV t s) : OUTC t i 703 m := by
  obtain ⟨⟨m1, m2, c1, c2, c3, c4, c5⟩, c6⟩ := bt_all (a := xs (i + 1)) ht h hI
  refine ⟨m2, _, ?_, c3, c6, c5⟩
  have S1 := scr_fb S c4
  obtain ⟨p1, q1⟩ := scr_ix (i := i) (j := 1) S hL (by omega)
  obtain ⟨u1, w1⟩ := scr_ix (i := i) (j := 1) S1 hL (by omega)
  simp only [s169_703, s169_704, s169_705, s169_706, s169_707, s169_708, s169_709, s169_712, s169_713, s169_714, s169_715, s169_716, s169_717, s169_718, s169_721, s169_724, s169_725b0, s169_725b1, eq_self, ixk_some, bd_some, nl_n, nl_i, nl_r, Option.toList_some, Option.toList_none, List.cons_append, List.nil_append, c1, c2, p1, q1, u1, w1, iN1, if_true]
theorem lw_17 {t i L : Nat} {xs : Nat → Int32} {s : ST} {m : MM} (ht : t + 1001 < 2 ^ 30) (hL : L ≤ 2560) (hi : i + 5 ≤ L) (S : SCR xs L m) (h : BO s m) (hI : INV t s) : OUTC t i 726 m := by
  obtain ⟨⟨m1, m2, c1, c2, c3, c4, c5⟩, c6⟩ := bt_message (a := xs (i + 1)) (b := xs (i + 2)) ht h hI
  refine ⟨m2, _, ?_, c3, c6, c5⟩
  have S1 := scr_fb S c4
  obtain ⟨p1, q1⟩ := scr_ix (i := i) (j := 1) S hL (by omega)
  obtain ⟨u1, w1⟩ := scr_ix (i := i) (j := 1) S1 hL (by omega)
  obtain ⟨p2, q2⟩ := scr_ix (i := i) (j := 2) S hL (by omega)
  obtain ⟨u2, w2⟩ := scr_ix (i := i) (j := 2) S1 hL (by omega)
  simp only [s169_726, s169_727, s169_728, s169_729, s169_730, s169_731, s169_732, s169_733, s169_734, s169_735, s169_736, s169_737, s169_740, s169_741, s169_742, s169_743, s169_744, s169_745, s169_746, s169_747, s169_748, s169_749, s169_750, s169_751, s169_754, s169_757, s169_758b0, s169_758b1, eq_self, ixk_some, bd_some, nl_n, nl_i, nl_r, Option.toList_some, Option.toList_none, List.cons_append, List.nil_append, c1, c2, p1, q1, u1, w1, p2, q2, u2, w2, iN1, iN2, if_true]
theorem lw_18 {t i L : Nat} {xs : Nat → Int32} {s : ST} {m : MM} (ht : t + 1001 < 2 ^ 30) (hL : L ≤ 2560) (hi : i + 5 ≤ L) (S : SCR xs L m) (h : BO s m) (hI : INV t s) : OUTC t i 759 m := by
  obtain ⟨⟨m1, m2, c1, c2, c3, c4, c5⟩, c6⟩ := bt_told (a := xs (i + 1)) (b := xs (i + 2)) ht h hI
  refine ⟨m2, _, ?_, c3, c6, c5⟩
  have S1 := scr_fb S c4
  obtain ⟨p1, q1⟩ := scr_ix (i := i) (j := 1) S hL (by omega)
  obtain ⟨u1, w1⟩ := scr_ix (i := i) (j := 1) S1 hL (by omega)
  obtain ⟨p2, q2⟩ := scr_ix (i := i) (j := 2) S hL (by omega)
  obtain ⟨u2, w2⟩ := scr_ix (i := i) (j := 2) S1 hL (by omega)
  simp only [s169_759, s169_760, s169_761, s169_762, s169_763, s169_764, s169_765, s169_766, s169_767, s169_768, s169_769, s169_770, s169_773, s169_774, s169_775, s169_776, s169_777, s169_778, s169_779, s169_780, s169_781, s169_782, s169_783, s169_784, s169_787, s169_790, s169_791b0, s169_791b1, eq_self, ixk_some, bd_some, nl_n, nl_i, nl_r, Option.toList_some, Option.toList_none, List.cons_append, List.nil_append, c1, c2, p1, q1, u1, w1, p2, q2, u2, w2, iN1, iN2, if_true]
theorem lw_19 {t i L : Nat} {xs : Nat → Int32} {s : ST} {m : MM} (ht : t + 1001 < 2 ^ 30) (hL : L ≤ 2560) (hi : i + 5 ≤ L) (S : SCR xs L m) (h : BO s m) (hI : INV t s) : OUTC t i 792 m := by
  obtain ⟨⟨m1, m2, c1, c2, c3, c4, c5⟩, c6⟩ := bt_name (a := xs (i + 1)) ht h hI
  refine ⟨m2, _, ?_, c3, c6, c5⟩
  have S1 := scr_fb S c4
  obtain ⟨p1, q1⟩ := scr_ix (i := i) (j := 1) S hL (by omega)
  obtain ⟨u1, w1⟩ := scr_ix (i := i) (j := 1) S1 hL (by omega)
  simp only [s169_792, s169_793, s169_794, s169_795, s169_796, s169_797, s169_798, s169_801, s169_802, s169_803, s169_804, s169_805, s169_806, s169_807, s169_810, s169_813, s169_814b0, s169_814b1, eq_self, ixk_some, bd_some, nl_n, nl_i, nl_r, Option.toList_some, Option.toList_none, List.cons_append, List.nil_append, c1, c2, p1, q1, u1, w1, iN1, if_true]
theorem lw_20 {t i L : Nat} {xs : Nat → Int32} {s : ST} {m : MM} (ht : t + 1001 < 2 ^ 30) (hL : L ≤ 2560) (hi : i + 5 ≤ L) (S : SCR xs L m) (h : BO s m) (hI : INV t s) : OUTC t i 815 m := by
  obtain ⟨⟨m1, m2, c1, c2, c3, c4, c5⟩, c6⟩ := bt_beside (a := xs (i + 1)) (b := xs (i + 2)) (c := xs (i + 3)) ht h hI
  refine ⟨m2, _, ?_, c3, c6, c5⟩
  have S1 := scr_fb S c4
  obtain ⟨p1, q1⟩ := scr_ix (i := i) (j := 1) S hL (by omega)
  obtain ⟨u1, w1⟩ := scr_ix (i := i) (j := 1) S1 hL (by omega)
  obtain ⟨p2, q2⟩ := scr_ix (i := i) (j := 2) S hL (by omega)
  obtain ⟨u2, w2⟩ := scr_ix (i := i) (j := 2) S1 hL (by omega)
  obtain ⟨p3, q3⟩ := scr_ix (i := i) (j := 3) S hL (by omega)
  obtain ⟨u3, w3⟩ := scr_ix (i := i) (j := 3) S1 hL (by omega)
  simp only [s169_815, s169_816, s169_817, s169_818, s169_819, s169_820, s169_821, s169_822, s169_823, s169_824, s169_825, s169_826, s169_827, s169_828, s169_829, s169_830, s169_831, s169_834, s169_835, s169_836, s169_837, s169_838, s169_839, s169_840, s169_841, s169_842, s169_843, s169_844, s169_845, s169_846, s169_847, s169_848, s169_849, s169_850, s169_853, s169_856, s169_857b0, s169_857b1, eq_self, ixk_some, bd_some, nl_n, nl_i, nl_r, Option.toList_some, Option.toList_none, List.cons_append, List.nil_append, c1, c2, p1, q1, u1, w1, p2, q2, u2, w2, p3, q3, u3, w3, iN1, iN2, iN3, if_true]
theorem lw_21 {t i L : Nat} {xs : Nat → Int32} {s : ST} {m : MM} (ht : t + 1001 < 2 ^ 30) (hL : L ≤ 2560) (hi : i + 5 ≤ L) (S : SCR xs L m) (h : BO s m) (hI : INV t s) : OUTC t i 858 m := by
  obtain ⟨⟨m1, m2, c1, c2, c3, c4, c5⟩, c6⟩ := bt_key (a := xs (i + 1)) (b := xs (i + 2)) ht h hI
  refine ⟨m2, _, ?_, c3, c6, c5⟩
  have S1 := scr_fb S c4
  obtain ⟨p1, q1⟩ := scr_ix (i := i) (j := 1) S hL (by omega)
  obtain ⟨u1, w1⟩ := scr_ix (i := i) (j := 1) S1 hL (by omega)
  obtain ⟨p2, q2⟩ := scr_ix (i := i) (j := 2) S hL (by omega)
  obtain ⟨u2, w2⟩ := scr_ix (i := i) (j := 2) S1 hL (by omega)
  simp only [s169_858, s169_859, s169_860, s169_861, s169_862, s169_863, s169_864, s169_865, s169_866, s169_867, s169_868, s169_869, s169_872, s169_873, s169_874, s169_875, s169_876, s169_877, s169_878, s169_879, s169_880, s169_881, s169_882, s169_883, s169_886, s169_889, s169_890b0, s169_890b1, eq_self, ixk_some, bd_some, nl_n, nl_i, nl_r, Option.toList_some, Option.toList_none, List.cons_append, List.nil_append, c1, c2, p1, q1, u1, w1, p2, q2, u2, w2, iN1, iN2, if_true]
theorem lw_22 {t i L : Nat} {xs : Nat → Int32} {s : ST} {m : MM} (ht : t + 1001 < 2 ^ 30) (hL : L ≤ 2560) (hi : i + 5 ≤ L) (S : SCR xs L m) (h : BO s m) (hI : INV t s) : OUTC t i 891 m := by
  obtain ⟨⟨m1, m2, c1, c2, c3, c4, c5⟩, c6⟩ := bt_kept (a := xs (i + 1)) (b := xs (i + 2)) ht h hI
  refine ⟨m2, _, ?_, c3, c6, c5⟩
  have S1 := scr_fb S c4
  obtain ⟨p1, q1⟩ := scr_ix (i := i) (j := 1) S hL (by omega)
  obtain ⟨u1, w1⟩ := scr_ix (i := i) (j := 1) S1 hL (by omega)
  obtain ⟨p2, q2⟩ := scr_ix (i := i) (j := 2) S hL (by omega)
  obtain ⟨u2, w2⟩ := scr_ix (i := i) (j := 2) S1 hL (by omega)
  simp only [s169_891, s169_892, s169_893, s169_894, s169_895, s169_896, s169_897, s169_898, s169_899, s169_900, s169_901, s169_902, s169_905, s169_906, s169_907, s169_908, s169_909, s169_910, s169_911, s169_912, s169_913, s169_914, s169_915, s169_916, s169_919, s169_920, s169_923, s169_924b0, s169_924b1, eq_self, ixk_some, bd_some, nl_n, nl_i, nl_r, Option.toList_some, Option.toList_none, List.cons_append, List.nil_append, c1, c2, p1, q1, u1, w1, p2, q2, u2, w2, iN1, iN2, lgc, if_true]
theorem lw_23 {t i L : Nat} {xs : Nat → Int32} {s : ST} {m : MM} (ht : t + 1001 < 2 ^ 30) (hL : L ≤ 2560) (hi : i + 5 ≤ L) (S : SCR xs L m) (h : BO s m) (hI : INV t s) : OUTC t i 925 m := by
  obtain ⟨⟨m1, m2, c1, c2, c3, c4, c5⟩, c6⟩ := bt_keeper (a := xs (i + 1)) ht h hI
  refine ⟨m2, _, ?_, c3, c6, c5⟩
  have S1 := scr_fb S c4
  obtain ⟨p1, q1⟩ := scr_ix (i := i) (j := 1) S hL (by omega)
  obtain ⟨u1, w1⟩ := scr_ix (i := i) (j := 1) S1 hL (by omega)
  simp only [s169_925, s169_926, s169_927, s169_928, s169_929, s169_930, s169_931, s169_934, s169_935, s169_936, s169_937, s169_938, s169_939, s169_940, s169_943, s169_946, s169_947b0, s169_947b1, eq_self, ixk_some, bd_some, nl_n, nl_i, nl_r, Option.toList_some, Option.toList_none, List.cons_append, List.nil_append, c1, c2, p1, q1, u1, w1, iN1, if_true]
theorem lw_24 {t i L : Nat} {xs : Nat → Int32} {s : ST} {m : MM} (ht : t + 1001 < 2 ^ 30) (hL : L ≤ 2560) (hi : i + 5 ≤ L) (S : SCR xs L m) (h : BO s m) (hI : INV t s) : OUTC t i 948 m := by
  obtain ⟨⟨m1, m2, c1, c2, c3, c4, c5⟩, c6⟩ := bt_row (a := xs (i + 1)) (b := xs (i + 2)) (c := xs (i + 3)) ht h hI
  refine ⟨m2, _, ?_, c3, c6, c5⟩
  have S1 := scr_fb S c4
  obtain ⟨p1, q1⟩ := scr_ix (i := i) (j := 1) S hL (by omega)
  obtain ⟨u1, w1⟩ := scr_ix (i := i) (j := 1) S1 hL (by omega)
  obtain ⟨p2, q2⟩ := scr_ix (i := i) (j := 2) S hL (by omega)
  obtain ⟨u2, w2⟩ := scr_ix (i := i) (j := 2) S1 hL (by omega)
  obtain ⟨p3, q3⟩ := scr_ix (i := i) (j := 3) S hL (by omega)
  obtain ⟨u3, w3⟩ := scr_ix (i := i) (j := 3) S1 hL (by omega)
  simp only [s169_948, s169_949, s169_950, s169_951, s169_952, s169_953, s169_954, s169_955, s169_956, s169_957, s169_958, s169_959, s169_960, s169_961, s169_962, s169_963, s169_964, s169_967, s169_968, s169_969, s169_970, s169_971, s169_972, s169_973, s169_974, s169_975, s169_976, s169_977, s169_978, s169_979, s169_980, s169_981, s169_982, s169_983, s169_986, s169_989, s169_990b0, s169_990b1, eq_self, ixk_some, bd_some, nl_n, nl_i, nl_r, Option.toList_some, Option.toList_none, List.cons_append, List.nil_append, c1, c2, p1, q1, u1, w1, p2, q2, u2, w2, p3, q3, u3, w3, iN1, iN2, iN3, if_true]
theorem lw_25 {t i L : Nat} {xs : Nat → Int32} {s : ST} {m : MM} (ht : t + 1001 < 2 ^ 30) (hL : L ≤ 2560) (hi : i + 5 ≤ L) (S : SCR xs L m) (h : BO s m) (hI : INV t s) : OUTC t i 991 m := by
  obtain ⟨⟨m1, m2, c1, c2, c3, c4, c5⟩, c6⟩ := bt_sound  ht h hI
  refine ⟨m2, _, ?_, c3, c6, c5⟩
  have S1 := scr_fb S c4
  simp only [s169_991, s169_992, s169_995, s169_996, s169_999, s169_1002, s169_1003b0, s169_1003b1, eq_self, ixk_some, bd_some, nl_n, nl_i, nl_r, Option.toList_some, Option.toList_none, List.cons_append, List.nil_append, c1, c2, if_true]
theorem lw_26 {t i L : Nat} {xs : Nat → Int32} {s : ST} {m : MM} (ht : t + 1001 < 2 ^ 30) (hL : L ≤ 2560) (hi : i + 5 ≤ L) (S : SCR xs L m) (h : BO s m) (hI : INV t s) : OUTC t i 1004 m := by
  obtain ⟨⟨m1, m2, c1, c2, c3, c4, c5⟩, c6⟩ := bt_why (a := xs (i + 1)) ht h hI
  refine ⟨m2, _, ?_, c3, c6, c5⟩
  have S1 := scr_fb S c4
  obtain ⟨p1, q1⟩ := scr_ix (i := i) (j := 1) S hL (by omega)
  obtain ⟨u1, w1⟩ := scr_ix (i := i) (j := 1) S1 hL (by omega)
  simp only [s169_1004, s169_1005, s169_1006, s169_1007, s169_1008, s169_1009, s169_1010, s169_1013, s169_1014, s169_1015, s169_1016, s169_1017, s169_1018, s169_1019, s169_1022, s169_1025, s169_1026b0, s169_1026b1, eq_self, ixk_some, bd_some, nl_n, nl_i, nl_r, Option.toList_some, Option.toList_none, List.cons_append, List.nil_append, c1, c2, p1, q1, u1, w1, iN1, if_true]
theorem lw_27 {t i L : Nat} {xs : Nat → Int32} {s : ST} {m : MM} (ht : t + 1001 < 2 ^ 30) (hL : L ≤ 2560) (hi : i + 5 ≤ L) (S : SCR xs L m) (h : BO s m) (hI : INV t s) : OUTC t i 1027 m := by
  obtain ⟨⟨m1, m2, c1, c2, c3, c4, c5⟩, c6⟩ := bt_worst  ht h hI
  refine ⟨m2, _, ?_, c3, c6, c5⟩
  have S1 := scr_fb S c4
  simp only [s169_1027, s169_1028, s169_1031, s169_1032, s169_1035, s169_1038, s169_1039b0, s169_1039b1, eq_self, ixk_some, bd_some, nl_n, nl_i, nl_r, Option.toList_some, Option.toList_none, List.cons_append, List.nil_append, c1, c2, if_true]
theorem lw_28 {t i L : Nat} {xs : Nat → Int32} {s : ST} {m : MM} (ht : t + 1001 < 2 ^ 30) (hL : L ≤ 2560) (hi : i + 5 ≤ L) (S : SCR xs L m) (h : BO s m) (hI : INV t s) : OUTC t i 1040 m := by
  obtain ⟨⟨m1, m2, c1, c2, c3, c4, c5⟩, c6⟩ := bt_count (a := xs (i + 1)) ht h hI
  refine ⟨m2, _, ?_, c3, c6, c5⟩
  have S1 := scr_fb S c4
  obtain ⟨p1, q1⟩ := scr_ix (i := i) (j := 1) S hL (by omega)
  obtain ⟨u1, w1⟩ := scr_ix (i := i) (j := 1) S1 hL (by omega)
  simp only [s169_1040, s169_1041, s169_1042, s169_1043, s169_1044, s169_1045, s169_1046, s169_1049, s169_1050, s169_1051, s169_1052, s169_1053, s169_1054, s169_1055, s169_1058, s169_1061, s169_1062b0, s169_1062b1, eq_self, ixk_some, bd_some, nl_n, nl_i, nl_r, Option.toList_some, Option.toList_none, List.cons_append, List.nil_append, c1, c2, p1, q1, u1, w1, iN1, if_true]
