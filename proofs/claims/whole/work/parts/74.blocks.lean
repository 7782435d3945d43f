/-! the law: each call -/
section
variable {μ : Mi} {ν : Ml} {i L : Nat}
theorem l_rope (R : Rel μ ν) (hL : (μ 98 0).toNatClampNeg = L) (hL2 : L ≤ 3072) (hi : i + 6 ≤ L) : ∃ μ' ν', run 224 200 [.ref 99, .ref 0, .ref 49, .int (nI i)] [] μ ν = run 224 1305 [.ref 99, .ref 0, .ref 49, .int (nI i)] [] μ' ν' ∧ Rel μ' ν' ∧ μ' 98 = μ 98 ∧ μ' 99 = μ 99 := by
  have P : Pr 62 123 [.int (μ 99 (i + 1))] μ ν := p_rope R
  obtain ⟨v, μ1, ν1, μ2, ν2, c1, c2, R2, ⟨e1, e1'⟩, ⟨e2, e2'⟩⟩ := P
  obtain ⟨y, hy⟩ := (call_ty c1).1 rfl
  cases hy
  have q1 : (μ1 98 0).toNatClampNeg = L := by rw [e1]; exact hL
  refine ⟨μ2, ν2, ?_, R2, e2, e2'⟩
  simp (disch := omega) only [e224_200, e224_201, e224_202, e224_203, e224_204, e224_205, e224_206, e224_209, e224_210, e224_211, e224_212, e224_213, e224_214, e224_215, e224_218, e224_221, e224_222_0, e224_222_1, cc_v, cc_n, cc_ite, ite_bI, ite_bI1, nI_add, nI_mul, if_true, if_false, ↓reduceIte, Nat.reduceEqDiff, Nat.reduceAdd, Nat.reduceMul, nI_n10, eq_self, c1, e1', c2]
theorem l_of (R : Rel μ ν) (hL : (μ 98 0).toNatClampNeg = L) (hL2 : L ≤ 3072) (hi : i + 6 ≤ L) : ∃ μ' ν', run 224 223 [.ref 99, .ref 0, .ref 49, .int (nI i)] [] μ ν = run 224 1305 [.ref 99, .ref 0, .ref 49, .int (nI i)] [] μ' ν' ∧ Rel μ' ν' ∧ μ' 98 = μ 98 ∧ μ' 99 = μ 99 := by
  have P : Pr 63 128 [.int (μ 99 (i + 1)), .int (μ 99 (i + 2))] μ ν := p_of R
  obtain ⟨v, μ1, ν1, μ2, ν2, c1, c2, R2, ⟨e1, e1'⟩, ⟨e2, e2'⟩⟩ := P
  obtain ⟨y, hy⟩ := (call_ty c1).1 rfl
  cases hy
  have q1 : (μ1 98 0).toNatClampNeg = L := by rw [e1]; exact hL
  refine ⟨μ2, ν2, ?_, R2, e2, e2'⟩
  simp (disch := omega) only [e224_223, e224_224, e224_225, e224_226, e224_227, e224_228, e224_229, e224_230, e224_231, e224_232, e224_233, e224_234, e224_237, e224_238, e224_239, e224_240, e224_241, e224_242, e224_243, e224_244, e224_245, e224_246, e224_247, e224_248, e224_251, e224_254, e224_255_0, e224_255_1, cc_v, cc_n, cc_ite, ite_bI, ite_bI1, nI_add, nI_mul, if_true, if_false, ↓reduceIte, Nat.reduceEqDiff, Nat.reduceAdd, Nat.reduceMul, nI_n10, eq_self, c1, e1', c2]
theorem l_set (R : Rel μ ν) (hL : (μ 98 0).toNatClampNeg = L) (hL2 : L ≤ 3072) (hi : i + 6 ≤ L) : ∃ μ' ν', run 224 256 [.ref 99, .ref 0, .ref 49, .int (nI i)] [] μ ν = run 224 1305 [.ref 99, .ref 0, .ref 49, .int (nI i)] [] μ' ν' ∧ Rel μ' ν' ∧ μ' 98 = μ 98 ∧ μ' 99 = μ 99 := by
  have P : Pr 64 130 [.int (μ 99 (i + 1)), .int (μ 99 (i + 2)), .int (μ 99 (i + 3))] μ ν := p_set R
  obtain ⟨v, μ1, ν1, μ2, ν2, c1, c2, R2, ⟨e1, e1'⟩, ⟨e2, e2'⟩⟩ := P
  obtain ⟨y, hy⟩ := (call_ty c1).1 rfl
  cases hy
  have q1 : (μ1 98 0).toNatClampNeg = L := by rw [e1]; exact hL
  refine ⟨μ2, ν2, ?_, R2, e2, e2'⟩
  simp (disch := omega) only [e224_256, e224_257, e224_258, e224_259, e224_260, e224_261, e224_262, e224_263, e224_264, e224_265, e224_266, e224_267, e224_268, e224_269, e224_270, e224_271, e224_272, e224_275, e224_276, e224_277, e224_278, e224_279, e224_280, e224_281, e224_282, e224_283, e224_284, e224_285, e224_286, e224_287, e224_288, e224_289, e224_290, e224_291, e224_294, e224_297, e224_298_0, e224_298_1, cc_v, cc_n, cc_ite, ite_bI, ite_bI1, nI_add, nI_mul, if_true, if_false, ↓reduceIte, Nat.reduceEqDiff, Nat.reduceAdd, Nat.reduceMul, nI_n10, eq_self, c1, e1', c2]
theorem l_turn (R : Rel μ ν) (hL : (μ 98 0).toNatClampNeg = L) (hL2 : L ≤ 3072) (hi : i + 6 ≤ L) : ∃ μ' ν', run 224 299 [.ref 99, .ref 0, .ref 49, .int (nI i)] [] μ ν = run 224 1305 [.ref 99, .ref 0, .ref 49, .int (nI i)] [] μ' ν' ∧ Rel μ' ν' ∧ μ' 98 = μ 98 ∧ μ' 99 = μ 99 := by
  have P : Pr 65 131 [.int (μ 99 (i + 1)), .int (μ 99 (i + 2))] μ ν := p_turn R
  obtain ⟨v, μ1, ν1, μ2, ν2, c1, c2, R2, ⟨e1, e1'⟩, ⟨e2, e2'⟩⟩ := P
  obtain ⟨y, hy⟩ := (call_ty c1).1 rfl
  cases hy
  have q1 : (μ1 98 0).toNatClampNeg = L := by rw [e1]; exact hL
  refine ⟨μ2, ν2, ?_, R2, e2, e2'⟩
  simp (disch := omega) only [e224_299, e224_300, e224_301, e224_302, e224_303, e224_304, e224_305, e224_306, e224_307, e224_308, e224_309, e224_310, e224_313, e224_314, e224_315, e224_316, e224_317, e224_318, e224_319, e224_320, e224_321, e224_322, e224_323, e224_324, e224_327, e224_330, e224_331_0, e224_331_1, cc_v, cc_n, cc_ite, ite_bI, ite_bI1, nI_add, nI_mul, if_true, if_false, ↓reduceIte, Nat.reduceEqDiff, Nat.reduceAdd, Nat.reduceMul, nI_n10, eq_self, c1, e1', c2]
theorem l_as (R : Rel μ ν) (hL : (μ 98 0).toNatClampNeg = L) (hL2 : L ≤ 3072) (hi : i + 6 ≤ L) : ∃ μ' ν', run 224 332 [.ref 99, .ref 0, .ref 49, .int (nI i)] [] μ ν = run 224 1305 [.ref 99, .ref 0, .ref 49, .int (nI i)] [] μ' ν' ∧ Rel μ' ν' ∧ μ' 98 = μ 98 ∧ μ' 99 = μ 99 := by
  have P : Pr 66 133 [.int (μ 99 (i + 1)), .int (μ 99 (i + 2))] μ ν := p_as R
  obtain ⟨v, μ1, ν1, μ2, ν2, c1, c2, R2, ⟨e1, e1'⟩, ⟨e2, e2'⟩⟩ := P
  obtain ⟨y, hy⟩ := (call_ty c1).1 rfl
  cases hy
  have q1 : (μ1 98 0).toNatClampNeg = L := by rw [e1]; exact hL
  refine ⟨μ2, ν2, ?_, R2, e2, e2'⟩
  simp (disch := omega) only [e224_332, e224_333, e224_334, e224_335, e224_336, e224_337, e224_338, e224_339, e224_340, e224_341, e224_342, e224_343, e224_346, e224_347, e224_348, e224_349, e224_350, e224_351, e224_352, e224_353, e224_354, e224_355, e224_356, e224_357, e224_360, e224_363, e224_364_0, e224_364_1, cc_v, cc_n, cc_ite, ite_bI, ite_bI1, nI_add, nI_mul, if_true, if_false, ↓reduceIte, Nat.reduceEqDiff, Nat.reduceAdd, Nat.reduceMul, nI_n10, eq_self, c1, e1', c2]
theorem l_meets (R : Rel μ ν) (hL : (μ 98 0).toNatClampNeg = L) (hL2 : L ≤ 3072) (hi : i + 6 ≤ L) : ∃ μ' ν', run 224 365 [.ref 99, .ref 0, .ref 49, .int (nI i)] [] μ ν = run 224 1305 [.ref 99, .ref 0, .ref 49, .int (nI i)] [] μ' ν' ∧ Rel μ' ν' ∧ μ' 98 = μ 98 ∧ μ' 99 = μ 99 := by
  have P : Pr 67 135 [.int (μ 99 (i + 1)), .int (μ 99 (i + 2))] μ ν := p_meets R
  obtain ⟨v, μ1, ν1, μ2, ν2, c1, c2, R2, ⟨e1, e1'⟩, ⟨e2, e2'⟩⟩ := P
  obtain ⟨y, hy⟩ := (call_ty c1).1 rfl
  cases hy
  have q1 : (μ1 98 0).toNatClampNeg = L := by rw [e1]; exact hL
  refine ⟨μ2, ν2, ?_, R2, e2, e2'⟩
  simp (disch := omega) only [e224_365, e224_366, e224_367, e224_368, e224_369, e224_370, e224_371, e224_372, e224_373, e224_374, e224_375, e224_376, e224_379, e224_380, e224_381, e224_382, e224_383, e224_384, e224_385, e224_386, e224_387, e224_388, e224_389, e224_390, e224_393, e224_396, e224_397_0, e224_397_1, cc_v, cc_n, cc_ite, ite_bI, ite_bI1, nI_add, nI_mul, if_true, if_false, ↓reduceIte, Nat.reduceEqDiff, Nat.reduceAdd, Nat.reduceMul, nI_n10, eq_self, c1, e1', c2]
theorem l_call (R : Rel μ ν) (hL : (μ 98 0).toNatClampNeg = L) (hL2 : L ≤ 3072) (hi : i + 6 ≤ L) : ∃ μ' ν', run 224 398 [.ref 99, .ref 0, .ref 49, .int (nI i)] [] μ ν = run 224 1305 [.ref 99, .ref 0, .ref 49, .int (nI i)] [] μ' ν' ∧ Rel μ' ν' ∧ μ' 98 = μ 98 ∧ μ' 99 = μ 99 := by
  have P : Pr 68 138 [.int (μ 99 (i + 1)), .int (μ 99 (i + 2))] μ ν := p_call R
  obtain ⟨v, μ1, ν1, μ2, ν2, c1, c2, R2, ⟨e1, e1'⟩, ⟨e2, e2'⟩⟩ := P
  obtain ⟨y, hy⟩ := (call_ty c1).1 rfl
  cases hy
  have q1 : (μ1 98 0).toNatClampNeg = L := by rw [e1]; exact hL
  refine ⟨μ2, ν2, ?_, R2, e2, e2'⟩
  simp (disch := omega) only [e224_398, e224_399, e224_400, e224_401, e224_402, e224_403, e224_404, e224_405, e224_406, e224_407, e224_408, e224_409, e224_412, e224_413, e224_414, e224_415, e224_416, e224_417, e224_418, e224_419, e224_420, e224_421, e224_422, e224_423, e224_426, e224_429, e224_430_0, e224_430_1, cc_v, cc_n, cc_ite, ite_bI, ite_bI1, nI_add, nI_mul, if_true, if_false, ↓reduceIte, Nat.reduceEqDiff, Nat.reduceAdd, Nat.reduceMul, nI_n10, eq_self, c1, e1', c2]
theorem l_present (R : Rel μ ν) (hL : (μ 98 0).toNatClampNeg = L) (hL2 : L ≤ 3072) (hi : i + 6 ≤ L) : ∃ μ' ν', run 224 431 [.ref 99, .ref 0, .ref 49, .int (nI i)] [] μ ν = run 224 1305 [.ref 99, .ref 0, .ref 49, .int (nI i)] [] μ' ν' ∧ Rel μ' ν' ∧ μ' 98 = μ 98 ∧ μ' 99 = μ 99 := by
  have P : Pr 69 141 [.int (μ 99 (i + 1)), .int (μ 99 (i + 2)), .int (μ 99 (i + 3))] μ ν := p_present R
  obtain ⟨v, μ1, ν1, μ2, ν2, c1, c2, R2, ⟨e1, e1'⟩, ⟨e2, e2'⟩⟩ := P
  obtain ⟨y, hy⟩ := (call_ty c1).1 rfl
  cases hy
  have q1 : (μ1 98 0).toNatClampNeg = L := by rw [e1]; exact hL
  refine ⟨μ2, ν2, ?_, R2, e2, e2'⟩
  simp (disch := omega) only [e224_431, e224_432, e224_433, e224_434, e224_435, e224_436, e224_437, e224_438, e224_439, e224_440, e224_441, e224_442, e224_443, e224_444, e224_445, e224_446, e224_447, e224_450, e224_451, e224_452, e224_453, e224_454, e224_455, e224_456, e224_457, e224_458, e224_459, e224_460, e224_461, e224_462, e224_463, e224_464, e224_465, e224_466, e224_469, e224_472, e224_473_0, e224_473_1, cc_v, cc_n, cc_ite, ite_bI, ite_bI1, nI_add, nI_mul, if_true, if_false, ↓reduceIte, Nat.reduceEqDiff, Nat.reduceAdd, Nat.reduceMul, nI_n10, eq_self, c1, e1', c2]
theorem l_forget (R : Rel μ ν) (hL : (μ 98 0).toNatClampNeg = L) (hL2 : L ≤ 3072) (hi : i + 6 ≤ L) : ∃ μ' ν', run 224 474 [.ref 99, .ref 0, .ref 49, .int (nI i)] [] μ ν = run 224 1305 [.ref 99, .ref 0, .ref 49, .int (nI i)] [] μ' ν' ∧ Rel μ' ν' ∧ μ' 98 = μ 98 ∧ μ' 99 = μ 99 := by
  have P : Pr 70 142 [.int (μ 99 (i + 1)), .int (μ 99 (i + 2))] μ ν := p_forget R
  obtain ⟨v, μ1, ν1, μ2, ν2, c1, c2, R2, ⟨e1, e1'⟩, ⟨e2, e2'⟩⟩ := P
  obtain ⟨y, hy⟩ := (call_ty c1).1 rfl
  cases hy
  have q1 : (μ1 98 0).toNatClampNeg = L := by rw [e1]; exact hL
  refine ⟨μ2, ν2, ?_, R2, e2, e2'⟩
  simp (disch := omega) only [e224_474, e224_475, e224_476, e224_477, e224_478, e224_479, e224_480, e224_481, e224_482, e224_483, e224_484, e224_485, e224_488, e224_489, e224_490, e224_491, e224_492, e224_493, e224_494, e224_495, e224_496, e224_497, e224_498, e224_499, e224_502, e224_505, e224_506_0, e224_506_1, cc_v, cc_n, cc_ite, ite_bI, ite_bI1, nI_add, nI_mul, if_true, if_false, ↓reduceIte, Nat.reduceEqDiff, Nat.reduceAdd, Nat.reduceMul, nI_n10, eq_self, c1, e1', c2]
theorem l_cut (R : Rel μ ν) (hL : (μ 98 0).toNatClampNeg = L) (hL2 : L ≤ 3072) (hi : i + 6 ≤ L) : ∃ μ' ν', run 224 507 [.ref 99, .ref 0, .ref 49, .int (nI i)] [] μ ν = run 224 1305 [.ref 99, .ref 0, .ref 49, .int (nI i)] [] μ' ν' ∧ Rel μ' ν' ∧ μ' 98 = μ 98 ∧ μ' 99 = μ 99 := by
  have P : Pr 71 144 [.int (μ 99 (i + 1)), .int (μ 99 (i + 2))] μ ν := p_cut R
  obtain ⟨v, μ1, ν1, μ2, ν2, c1, c2, R2, ⟨e1, e1'⟩, ⟨e2, e2'⟩⟩ := P
  obtain ⟨y, hy⟩ := (call_ty c1).1 rfl
  cases hy
  have q1 : (μ1 98 0).toNatClampNeg = L := by rw [e1]; exact hL
  refine ⟨μ2, ν2, ?_, R2, e2, e2'⟩
  simp (disch := omega) only [e224_507, e224_508, e224_509, e224_510, e224_511, e224_512, e224_513, e224_514, e224_515, e224_516, e224_517, e224_518, e224_521, e224_522, e224_523, e224_524, e224_525, e224_526, e224_527, e224_528, e224_529, e224_530, e224_531, e224_532, e224_535, e224_538, e224_539_0, e224_539_1, cc_v, cc_n, cc_ite, ite_bI, ite_bI1, nI_add, nI_mul, if_true, if_false, ↓reduceIte, Nat.reduceEqDiff, Nat.reduceAdd, Nat.reduceMul, nI_n10, eq_self, c1, e1', c2]
theorem l_bends (R : Rel μ ν) (hL : (μ 98 0).toNatClampNeg = L) (hL2 : L ≤ 3072) (hi : i + 6 ≤ L) : ∃ μ' ν', run 224 540 [.ref 99, .ref 0, .ref 49, .int (nI i)] [] μ ν = run 224 1305 [.ref 99, .ref 0, .ref 49, .int (nI i)] [] μ' ν' ∧ Rel μ' ν' ∧ μ' 98 = μ 98 ∧ μ' 99 = μ 99 := by
  have P : Pr 72 148 [.int (μ 99 (i + 1)), .int (μ 99 (i + 2))] μ ν := p_bends R
  obtain ⟨v, μ1, ν1, μ2, ν2, c1, c2, R2, ⟨e1, e1'⟩, ⟨e2, e2'⟩⟩ := P
  obtain ⟨y, hy⟩ := (call_ty c1).1 rfl
  cases hy
  have q1 : (μ1 98 0).toNatClampNeg = L := by rw [e1]; exact hL
  refine ⟨μ2, ν2, ?_, R2, e2, e2'⟩
  simp (disch := omega) only [e224_540, e224_541, e224_542, e224_543, e224_544, e224_545, e224_546, e224_547, e224_548, e224_549, e224_550, e224_551, e224_554, e224_555, e224_556, e224_557, e224_558, e224_559, e224_560, e224_561, e224_562, e224_563, e224_564, e224_565, e224_568, e224_571, e224_572_0, e224_572_1, cc_v, cc_n, cc_ite, ite_bI, ite_bI1, nI_add, nI_mul, if_true, if_false, ↓reduceIte, Nat.reduceEqDiff, Nat.reduceAdd, Nat.reduceMul, nI_n10, eq_self, c1, e1', c2]
theorem l_gale (R : Rel μ ν) (hL : (μ 98 0).toNatClampNeg = L) (hL2 : L ≤ 3072) (hi : i + 6 ≤ L) : ∃ μ' ν', run 224 573 [.ref 99, .ref 0, .ref 49, .int (nI i)] [] μ ν = run 224 1305 [.ref 99, .ref 0, .ref 49, .int (nI i)] [] μ' ν' ∧ Rel μ' ν' ∧ μ' 98 = μ 98 ∧ μ' 99 = μ 99 := by
  have P : Pr 73 149 [.int (μ 99 (i + 1))] μ ν := p_gale R
  obtain ⟨v, μ1, ν1, μ2, ν2, c1, c2, R2, ⟨e1, e1'⟩, ⟨e2, e2'⟩⟩ := P
  obtain ⟨y, hy⟩ := (call_ty c1).1 rfl
  cases hy
  have q1 : (μ1 98 0).toNatClampNeg = L := by rw [e1]; exact hL
  refine ⟨μ2, ν2, ?_, R2, e2, e2'⟩
  simp (disch := omega) only [e224_573, e224_574, e224_575, e224_576, e224_577, e224_578, e224_579, e224_582, e224_583, e224_584, e224_585, e224_586, e224_587, e224_588, e224_591, e224_594, e224_595_0, e224_595_1, cc_v, cc_n, cc_ite, ite_bI, ite_bI1, nI_add, nI_mul, if_true, if_false, ↓reduceIte, Nat.reduceEqDiff, Nat.reduceAdd, Nat.reduceMul, nI_n10, eq_self, c1, e1', c2]
theorem l_hours (R : Rel μ ν) (hL : (μ 98 0).toNatClampNeg = L) (hL2 : L ≤ 3072) (hi : i + 6 ≤ L) : ∃ μ' ν', run 224 596 [.ref 99, .ref 0, .ref 49, .int (nI i)] [] μ ν = run 224 1305 [.ref 99, .ref 0, .ref 49, .int (nI i)] [] μ' ν' ∧ Rel μ' ν' ∧ μ' 98 = μ 98 ∧ μ' 99 = μ 99 := by
  have P : Pr 74 155 [.int (μ 99 (i + 1))] μ ν := p_hours R
  obtain ⟨v, μ1, ν1, μ2, ν2, c1, c2, R2, ⟨e1, e1'⟩, ⟨e2, e2'⟩⟩ := P
  obtain ⟨y, hy⟩ := (call_ty c1).1 rfl
  cases hy
  have q1 : (μ1 98 0).toNatClampNeg = L := by rw [e1]; exact hL
  refine ⟨μ2, ν2, ?_, R2, e2, e2'⟩
  simp (disch := omega) only [e224_596, e224_597, e224_598, e224_599, e224_600, e224_601, e224_602, e224_605, e224_606, e224_607, e224_608, e224_609, e224_610, e224_611, e224_614, e224_617, e224_618_0, e224_618_1, cc_v, cc_n, cc_ite, ite_bI, ite_bI1, nI_add, nI_mul, if_true, if_false, ↓reduceIte, Nat.reduceEqDiff, Nat.reduceAdd, Nat.reduceMul, nI_n10, eq_self, c1, e1', c2]
theorem l_now (R : Rel μ ν) (hL : (μ 98 0).toNatClampNeg = L) (hL2 : L ≤ 3072) (hi : i + 6 ≤ L) : ∃ μ' ν', run 224 619 [.ref 99, .ref 0, .ref 49, .int (nI i)] [] μ ν = run 224 1305 [.ref 99, .ref 0, .ref 49, .int (nI i)] [] μ' ν' ∧ Rel μ' ν' ∧ μ' 98 = μ 98 ∧ μ' 99 = μ 99 := by
  have P : Pr 75 158 [.int (μ 99 (i + 1))] μ ν := p_now R
  obtain ⟨v, μ1, ν1, μ2, ν2, c1, c2, R2, ⟨e1, e1'⟩, ⟨e2, e2'⟩⟩ := P
  obtain ⟨y, hy⟩ := (call_ty c1).1 rfl
  cases hy
  have q1 : (μ1 98 0).toNatClampNeg = L := by rw [e1]; exact hL
  refine ⟨μ2, ν2, ?_, R2, e2, e2'⟩
  simp (disch := omega) only [e224_619, e224_620, e224_621, e224_622, e224_623, e224_624, e224_625, e224_628, e224_629, e224_630, e224_631, e224_632, e224_633, e224_634, e224_637, e224_640, e224_641_0, e224_641_1, cc_v, cc_n, cc_ite, ite_bI, ite_bI1, nI_add, nI_mul, if_true, if_false, ↓reduceIte, Nat.reduceEqDiff, Nat.reduceAdd, Nat.reduceMul, nI_n10, eq_self, c1, e1', c2]
theorem l_on (R : Rel μ ν) (hL : (μ 98 0).toNatClampNeg = L) (hL2 : L ≤ 3072) (hi : i + 6 ≤ L) : ∃ μ' ν', run 224 642 [.ref 99, .ref 0, .ref 49, .int (nI i)] [] μ ν = run 224 1305 [.ref 99, .ref 0, .ref 49, .int (nI i)] [] μ' ν' ∧ Rel μ' ν' ∧ μ' 98 = μ 98 ∧ μ' 99 = μ 99 := by
  have P : Pr 76 159 [.int (μ 99 (i + 1)), .int (μ 99 (i + 2))] μ ν := p_on R
  obtain ⟨v, μ1, ν1, μ2, ν2, c1, c2, R2, ⟨e1, e1'⟩, ⟨e2, e2'⟩⟩ := P
  obtain ⟨y, hy⟩ := (call_ty c1).1 rfl
  cases hy
  have q1 : (μ1 98 0).toNatClampNeg = L := by rw [e1]; exact hL
  refine ⟨μ2, ν2, ?_, R2, e2, e2'⟩
  simp (disch := omega) only [e224_642, e224_643, e224_644, e224_645, e224_646, e224_647, e224_648, e224_649, e224_650, e224_651, e224_652, e224_653, e224_656, e224_657, e224_658, e224_659, e224_660, e224_661, e224_662, e224_663, e224_664, e224_665, e224_666, e224_667, e224_670, e224_673, e224_674_0, e224_674_1, cc_v, cc_n, cc_ite, ite_bI, ite_bI1, nI_add, nI_mul, if_true, if_false, ↓reduceIte, Nat.reduceEqDiff, Nat.reduceAdd, Nat.reduceMul, nI_n10, eq_self, c1, e1', c2]
theorem l_when (R : Rel μ ν) (hL : (μ 98 0).toNatClampNeg = L) (hL2 : L ≤ 3072) (hi : i + 6 ≤ L) : ∃ μ' ν', run 224 675 [.ref 99, .ref 0, .ref 49, .int (nI i)] [] μ ν = run 224 1305 [.ref 99, .ref 0, .ref 49, .int (nI i)] [] μ' ν' ∧ Rel μ' ν' ∧ μ' 98 = μ 98 ∧ μ' 99 = μ 99 := by
  have P : Pr 77 160 [.int (μ 99 (i + 1)), .int (μ 99 (i + 2))] μ ν := p_when R
  obtain ⟨v, μ1, ν1, μ2, ν2, c1, c2, R2, ⟨e1, e1'⟩, ⟨e2, e2'⟩⟩ := P
  obtain ⟨y, hy⟩ := (call_ty c1).1 rfl
  cases hy
  have q1 : (μ1 98 0).toNatClampNeg = L := by rw [e1]; exact hL
  refine ⟨μ2, ν2, ?_, R2, e2, e2'⟩
  simp (disch := omega) only [e224_675, e224_676, e224_677, e224_678, e224_679, e224_680, e224_681, e224_682, e224_683, e224_684, e224_685, e224_686, e224_689, e224_690, e224_691, e224_692, e224_693, e224_694, e224_695, e224_696, e224_697, e224_698, e224_699, e224_700, e224_703, e224_706, e224_707_0, e224_707_1, cc_v, cc_n, cc_ite, ite_bI, ite_bI1, nI_add, nI_mul, if_true, if_false, ↓reduceIte, Nat.reduceEqDiff, Nat.reduceAdd, Nat.reduceMul, nI_n10, eq_self, c1, e1', c2]
theorem l_longest (R : Rel μ ν) (hL : (μ 98 0).toNatClampNeg = L) (hL2 : L ≤ 3072) (hi : i + 6 ≤ L) : ∃ μ' ν', run 224 708 [.ref 99, .ref 0, .ref 49, .int (nI i)] [] μ ν = run 224 1305 [.ref 99, .ref 0, .ref 49, .int (nI i)] [] μ' ν' ∧ Rel μ' ν' ∧ μ' 98 = μ 98 ∧ μ' 99 = μ 99 := by
  have P : Pr 78 165 [] μ ν := p_longest R
  obtain ⟨v, μ1, ν1, μ2, ν2, c1, c2, R2, ⟨e1, e1'⟩, ⟨e2, e2'⟩⟩ := P
  obtain ⟨y, hy⟩ := (call_ty c1).1 rfl
  cases hy
  have q1 : (μ1 98 0).toNatClampNeg = L := by rw [e1]; exact hL
  refine ⟨μ2, ν2, ?_, R2, e2, e2'⟩
  simp (disch := omega) only [e224_708, e224_709, e224_712, e224_713, e224_716, e224_719, e224_720_0, e224_720_1, cc_v, cc_n, cc_ite, ite_bI, ite_bI1, nI_add, nI_mul, if_true, if_false, ↓reduceIte, Nat.reduceEqDiff, Nat.reduceAdd, Nat.reduceMul, nI_n10, eq_self, c1, e1', c2]
theorem l_line (R : Rel μ ν) (hL : (μ 98 0).toNatClampNeg = L) (hL2 : L ≤ 3072) (hi : i + 6 ≤ L) : ∃ μ' ν', run 224 721 [.ref 99, .ref 0, .ref 49, .int (nI i)] [] μ ν = run 224 1305 [.ref 99, .ref 0, .ref 49, .int (nI i)] [] μ' ν' ∧ Rel μ' ν' ∧ μ' 98 = μ 98 ∧ μ' 99 = μ 99 := by
  have P : Pr 79 167 [.int (μ 99 (i + 1)), .int (μ 99 (i + 2))] μ ν := p_line R
  obtain ⟨v, μ1, ν1, μ2, ν2, c1, c2, R2, ⟨e1, e1'⟩, ⟨e2, e2'⟩⟩ := P
  obtain ⟨y, hy⟩ := (call_ty c1).1 rfl
  cases hy
  have q1 : (μ1 98 0).toNatClampNeg = L := by rw [e1]; exact hL
  refine ⟨μ2, ν2, ?_, R2, e2, e2'⟩
  simp (disch := omega) only [e224_721, e224_722, e224_723, e224_724, e224_725, e224_726, e224_727, e224_728, e224_729, e224_730, e224_731, e224_732, e224_735, e224_736, e224_737, e224_738, e224_739, e224_740, e224_741, e224_742, e224_743, e224_744, e224_745, e224_746, e224_749, e224_752, e224_753_0, e224_753_1, cc_v, cc_n, cc_ite, ite_bI, ite_bI1, nI_add, nI_mul, if_true, if_false, ↓reduceIte, Nat.reduceEqDiff, Nat.reduceAdd, Nat.reduceMul, nI_n10, eq_self, c1, e1', c2]
theorem l_bent (R : Rel μ ν) (hL : (μ 98 0).toNatClampNeg = L) (hL2 : L ≤ 3072) (hi : i + 6 ≤ L) : ∃ μ' ν', run 224 754 [.ref 99, .ref 0, .ref 49, .int (nI i)] [] μ ν = run 224 1305 [.ref 99, .ref 0, .ref 49, .int (nI i)] [] μ' ν' ∧ Rel μ' ν' ∧ μ' 98 = μ 98 ∧ μ' 99 = μ 99 := by
  have P : Pr 80 168 [.int (μ 99 (i + 1)), .int (μ 99 (i + 2))] μ ν := p_bent R
  obtain ⟨v, μ1, ν1, μ2, ν2, c1, c2, R2, ⟨e1, e1'⟩, ⟨e2, e2'⟩⟩ := P
  obtain ⟨y, hy⟩ := (call_ty c1).1 rfl
  cases hy
  have q1 : (μ1 98 0).toNatClampNeg = L := by rw [e1]; exact hL
  refine ⟨μ2, ν2, ?_, R2, e2, e2'⟩
  simp (disch := omega) only [e224_754, e224_755, e224_756, e224_757, e224_758, e224_759, e224_760, e224_761, e224_762, e224_763, e224_764, e224_765, e224_768, e224_769, e224_770, e224_771, e224_772, e224_773, e224_774, e224_775, e224_776, e224_777, e224_778, e224_779, e224_782, e224_785, e224_786_0, e224_786_1, cc_v, cc_n, cc_ite, ite_bI, ite_bI1, nI_add, nI_mul, if_true, if_false, ↓reduceIte, Nat.reduceEqDiff, Nat.reduceAdd, Nat.reduceMul, nI_n10, eq_self, c1, e1', c2]
theorem l_rounds (R : Rel μ ν) (hL : (μ 98 0).toNatClampNeg = L) (hL2 : L ≤ 3072) (hi : i + 6 ≤ L) : ∃ μ' ν', run 224 787 [.ref 99, .ref 0, .ref 49, .int (nI i)] [] μ ν = run 224 1305 [.ref 99, .ref 0, .ref 49, .int (nI i)] [] μ' ν' ∧ Rel μ' ν' ∧ μ' 98 = μ 98 ∧ μ' 99 = μ 99 := by
  have P : Pr 81 171 [.int (μ 99 (i + 1)), .int (μ 99 (i + 2))] μ ν := p_rounds R
  obtain ⟨v, μ1, ν1, μ2, ν2, c1, c2, R2, ⟨e1, e1'⟩, ⟨e2, e2'⟩⟩ := P
  obtain ⟨y, hy⟩ := (call_ty c1).1 rfl
  cases hy
  have q1 : (μ1 98 0).toNatClampNeg = L := by rw [e1]; exact hL
  refine ⟨μ2, ν2, ?_, R2, e2, e2'⟩
  simp (disch := omega) only [e224_787, e224_788, e224_789, e224_790, e224_791, e224_792, e224_793, e224_794, e224_795, e224_796, e224_797, e224_798, e224_801, e224_802, e224_803, e224_804, e224_805, e224_806, e224_807, e224_808, e224_809, e224_810, e224_811, e224_812, e224_815, e224_818, e224_819_0, e224_819_1, cc_v, cc_n, cc_ite, ite_bI, ite_bI1, nI_add, nI_mul, if_true, if_false, ↓reduceIte, Nat.reduceEqDiff, Nat.reduceAdd, Nat.reduceMul, nI_n10, eq_self, c1, e1', c2]
theorem l_known (R : Rel μ ν) (hL : (μ 98 0).toNatClampNeg = L) (hL2 : L ≤ 3072) (hi : i + 6 ≤ L) : ∃ μ' ν', run 224 820 [.ref 99, .ref 0, .ref 49, .int (nI i)] [] μ ν = run 224 1305 [.ref 99, .ref 0, .ref 49, .int (nI i)] [] μ' ν' ∧ Rel μ' ν' ∧ μ' 98 = μ 98 ∧ μ' 99 = μ 99 := by
  have P : Pr 82 172 [] μ ν := p_known R
  obtain ⟨v, μ1, ν1, μ2, ν2, c1, c2, R2, ⟨e1, e1'⟩, ⟨e2, e2'⟩⟩ := P
  obtain ⟨y, hy⟩ := (call_ty c1).1 rfl
  cases hy
  have q1 : (μ1 98 0).toNatClampNeg = L := by rw [e1]; exact hL
  refine ⟨μ2, ν2, ?_, R2, e2, e2'⟩
  simp (disch := omega) only [e224_820, e224_821, e224_824, e224_825, e224_828, e224_831, e224_832_0, e224_832_1, cc_v, cc_n, cc_ite, ite_bI, ite_bI1, nI_add, nI_mul, if_true, if_false, ↓reduceIte, Nat.reduceEqDiff, Nat.reduceAdd, Nat.reduceMul, nI_n10, eq_self, c1, e1', c2]
theorem l_kind (R : Rel μ ν) (hL : (μ 98 0).toNatClampNeg = L) (hL2 : L ≤ 3072) (hi : i + 6 ≤ L) : ∃ μ' ν', run 224 833 [.ref 99, .ref 0, .ref 49, .int (nI i)] [] μ ν = run 224 1305 [.ref 99, .ref 0, .ref 49, .int (nI i)] [] μ' ν' ∧ Rel μ' ν' ∧ μ' 98 = μ 98 ∧ μ' 99 = μ 99 := by
  have P : Pr 83 178 [.int (μ 99 (i + 1))] μ ν := p_kind R
  obtain ⟨v, μ1, ν1, μ2, ν2, c1, c2, R2, ⟨e1, e1'⟩, ⟨e2, e2'⟩⟩ := P
  obtain ⟨y, hy⟩ := (call_ty c1).1 rfl
  cases hy
  have q1 : (μ1 98 0).toNatClampNeg = L := by rw [e1]; exact hL
  refine ⟨μ2, ν2, ?_, R2, e2, e2'⟩
  simp (disch := omega) only [e224_833, e224_834, e224_835, e224_836, e224_837, e224_838, e224_839, e224_842, e224_843, e224_844, e224_845, e224_846, e224_847, e224_848, e224_851, e224_854, e224_855_0, e224_855_1, cc_v, cc_n, cc_ite, ite_bI, ite_bI1, nI_add, nI_mul, if_true, if_false, ↓reduceIte, Nat.reduceEqDiff, Nat.reduceAdd, Nat.reduceMul, nI_n10, eq_self, c1, e1', c2]
theorem l_fibre (R : Rel μ ν) (hL : (μ 98 0).toNatClampNeg = L) (hL2 : L ≤ 3072) (hi : i + 6 ≤ L) : ∃ μ' ν', run 224 856 [.ref 99, .ref 0, .ref 49, .int (nI i)] [] μ ν = run 224 1305 [.ref 99, .ref 0, .ref 49, .int (nI i)] [] μ' ν' ∧ Rel μ' ν' ∧ μ' 98 = μ 98 ∧ μ' 99 = μ 99 := by
  have P : Pr 84 179 [.int (μ 99 (i + 1))] μ ν := p_fibre R
  obtain ⟨v, μ1, ν1, μ2, ν2, c1, c2, R2, ⟨e1, e1'⟩, ⟨e2, e2'⟩⟩ := P
  obtain ⟨y, hy⟩ := (call_ty c1).1 rfl
  cases hy
  have q1 : (μ1 98 0).toNatClampNeg = L := by rw [e1]; exact hL
  refine ⟨μ2, ν2, ?_, R2, e2, e2'⟩
  simp (disch := omega) only [e224_856, e224_857, e224_858, e224_859, e224_860, e224_861, e224_862, e224_865, e224_866, e224_867, e224_868, e224_869, e224_870, e224_871, e224_874, e224_877, e224_878_0, e224_878_1, cc_v, cc_n, cc_ite, ite_bI, ite_bI1, nI_add, nI_mul, if_true, if_false, ↓reduceIte, Nat.reduceEqDiff, Nat.reduceAdd, Nat.reduceMul, nI_n10, eq_self, c1, e1', c2]
theorem l_hour (R : Rel μ ν) (hL : (μ 98 0).toNatClampNeg = L) (hL2 : L ≤ 3072) (hi : i + 6 ≤ L) : ∃ μ' ν', run 224 879 [.ref 99, .ref 0, .ref 49, .int (nI i)] [] μ ν = run 224 1305 [.ref 99, .ref 0, .ref 49, .int (nI i)] [] μ' ν' ∧ Rel μ' ν' ∧ μ' 98 = μ 98 ∧ μ' 99 = μ 99 := by
  have P : Pr 85 180 [.int (μ 99 (i + 1))] μ ν := p_hour R
  obtain ⟨v, μ1, ν1, μ2, ν2, c1, c2, R2, ⟨e1, e1'⟩, ⟨e2, e2'⟩⟩ := P
  obtain ⟨y, hy⟩ := (call_ty c1).1 rfl
  cases hy
  have q1 : (μ1 98 0).toNatClampNeg = L := by rw [e1]; exact hL
  refine ⟨μ2, ν2, ?_, R2, e2, e2'⟩
  simp (disch := omega) only [e224_879, e224_880, e224_881, e224_882, e224_883, e224_884, e224_885, e224_888, e224_889, e224_890, e224_891, e224_892, e224_893, e224_894, e224_897, e224_900, e224_901_0, e224_901_1, cc_v, cc_n, cc_ite, ite_bI, ite_bI1, nI_add, nI_mul, if_true, if_false, ↓reduceIte, Nat.reduceEqDiff, Nat.reduceAdd, Nat.reduceMul, nI_n10, eq_self, c1, e1', c2]
theorem l_feed (R : Rel μ ν) (hL : (μ 98 0).toNatClampNeg = L) (hL2 : L ≤ 3072) (hi : i + 6 ≤ L) : ∃ μ' ν', run 224 902 [.ref 99, .ref 0, .ref 49, .int (nI i)] [] μ ν = run 224 1305 [.ref 99, .ref 0, .ref 49, .int (nI i)] [] μ' ν' ∧ Rel μ' ν' ∧ μ' 98 = μ 98 ∧ μ' 99 = μ 99 := by
  have P : Pr 86 181 [.int (μ 99 (i + 1)), .int (μ 99 (i + 2))] μ ν := p_feed R
  obtain ⟨v, μ1, ν1, μ2, ν2, c1, c2, R2, ⟨e1, e1'⟩, ⟨e2, e2'⟩⟩ := P
  obtain ⟨y, hy⟩ := (call_ty c1).1 rfl
  cases hy
  have q1 : (μ1 98 0).toNatClampNeg = L := by rw [e1]; exact hL
  refine ⟨μ2, ν2, ?_, R2, e2, e2'⟩
  simp (disch := omega) only [e224_902, e224_903, e224_904, e224_905, e224_906, e224_907, e224_908, e224_909, e224_910, e224_911, e224_912, e224_913, e224_916, e224_917, e224_918, e224_919, e224_920, e224_921, e224_922, e224_923, e224_924, e224_925, e224_926, e224_927, e224_930, e224_933, e224_934_0, e224_934_1, cc_v, cc_n, cc_ite, ite_bI, ite_bI1, nI_add, nI_mul, if_true, if_false, ↓reduceIte, Nat.reduceEqDiff, Nat.reduceAdd, Nat.reduceMul, nI_n10, eq_self, c1, e1', c2]
theorem l_wipe (R : Rel μ ν) (hL : (μ 98 0).toNatClampNeg = L) (hL2 : L ≤ 3072) (hi : i + 6 ≤ L) : ∃ μ' ν', run 224 935 [.ref 99, .ref 0, .ref 49, .int (nI i)] [] μ ν = run 224 1305 [.ref 99, .ref 0, .ref 49, .int (nI i)] [] μ' ν' ∧ Rel μ' ν' ∧ μ' 98 = μ 98 ∧ μ' 99 = μ 99 := by
  have P : Pr 87 182 [] μ ν := p_wipe R
  obtain ⟨v, μ1, ν1, μ2, ν2, c1, c2, R2, ⟨e1, e1'⟩, ⟨e2, e2'⟩⟩ := P
  obtain ⟨y, hy⟩ := (call_ty c1).1 rfl
  cases hy
  have q1 : (μ1 98 0).toNatClampNeg = L := by rw [e1]; exact hL
  refine ⟨μ2, ν2, ?_, R2, e2, e2'⟩
  simp (disch := omega) only [e224_935, e224_936, e224_939, e224_940, e224_943, e224_946, e224_947_0, e224_947_1, cc_v, cc_n, cc_ite, ite_bI, ite_bI1, nI_add, nI_mul, if_true, if_false, ↓reduceIte, Nat.reduceEqDiff, Nat.reduceAdd, Nat.reduceMul, nI_n10, eq_self, c1, e1', c2]
theorem l_store (R : Rel μ ν) (hL : (μ 98 0).toNatClampNeg = L) (hL2 : L ≤ 3072) (hi : i + 6 ≤ L) : ∃ μ' ν', run 224 948 [.ref 99, .ref 0, .ref 49, .int (nI i)] [] μ ν = run 224 1305 [.ref 99, .ref 0, .ref 49, .int (nI i)] [] μ' ν' ∧ Rel μ' ν' ∧ μ' 98 = μ 98 ∧ μ' 99 = μ 99 := by
  have P : Pr 88 196 [] μ ν := p_store R
  obtain ⟨v, μ1, ν1, μ2, ν2, c1, c2, R2, ⟨e1, e1'⟩, ⟨e2, e2'⟩⟩ := P
  obtain ⟨y, hy⟩ := (call_ty c1).1 rfl
  cases hy
  have q1 : (μ1 98 0).toNatClampNeg = L := by rw [e1]; exact hL
  refine ⟨μ2, ν2, ?_, R2, e2, e2'⟩
  simp (disch := omega) only [e224_948, e224_949, e224_952, e224_953, e224_956, e224_959, e224_960_0, e224_960_1, cc_v, cc_n, cc_ite, ite_bI, ite_bI1, nI_add, nI_mul, if_true, if_false, ↓reduceIte, Nat.reduceEqDiff, Nat.reduceAdd, Nat.reduceMul, nI_n10, eq_self, c1, e1', c2]
theorem l_sheet (R : Rel μ ν) (hL : (μ 98 0).toNatClampNeg = L) (hL2 : L ≤ 3072) (hi : i + 6 ≤ L) : ∃ μ' ν', run 224 961 [.ref 99, .ref 0, .ref 49, .int (nI i)] [] μ ν = run 224 1305 [.ref 99, .ref 0, .ref 49, .int (nI i)] [] μ' ν' ∧ Rel μ' ν' ∧ μ' 98 = μ 98 ∧ μ' 99 = μ 99 := by
  have P : Pr 89 198 [.int (μ 99 (i + 1)), .int (μ 99 (i + 2)), .int (μ 99 (i + 3))] μ ν := p_sheet R
  obtain ⟨v, μ1, ν1, μ2, ν2, c1, c2, R2, ⟨e1, e1'⟩, ⟨e2, e2'⟩⟩ := P
  obtain ⟨y, hy⟩ := (call_ty c1).1 rfl
  cases hy
  have q1 : (μ1 98 0).toNatClampNeg = L := by rw [e1]; exact hL
  refine ⟨μ2, ν2, ?_, R2, e2, e2'⟩
  simp (disch := omega) only [e224_961, e224_962, e224_963, e224_964, e224_965, e224_966, e224_967, e224_968, e224_969, e224_970, e224_971, e224_972, e224_973, e224_974, e224_975, e224_976, e224_977, e224_980, e224_981, e224_982, e224_983, e224_984, e224_985, e224_986, e224_987, e224_988, e224_989, e224_990, e224_991, e224_992, e224_993, e224_994, e224_995, e224_996, e224_999, e224_1002, e224_1003_0, e224_1003_1, cc_v, cc_n, cc_ite, ite_bI, ite_bI1, nI_add, nI_mul, if_true, if_false, ↓reduceIte, Nat.reduceEqDiff, Nat.reduceAdd, Nat.reduceMul, nI_n10, eq_self, c1, e1', c2]
theorem l_write (R : Rel μ ν) (hL : (μ 98 0).toNatClampNeg = L) (hL2 : L ≤ 3072) (hi : i + 6 ≤ L) : ∃ μ' ν', run 224 1004 [.ref 99, .ref 0, .ref 49, .int (nI i)] [] μ ν = run 224 1305 [.ref 99, .ref 0, .ref 49, .int (nI i)] [] μ' ν' ∧ Rel μ' ν' ∧ μ' 98 = μ 98 ∧ μ' 99 = μ 99 := by
  have P : Pr 90 201 [.int (μ 99 (i + 1)), .int (μ 99 (i + 2)), .long ((μ 99 (i + 3)).toInt64 <<< ((nI 32).toInt64 &&& 63) ||| (μ 99 (i + 4)).toInt64 &&& 4294967295)] μ ν := p_write R
  obtain ⟨v, μ1, ν1, μ2, ν2, c1, c2, R2, ⟨e1, e1'⟩, ⟨e2, e2'⟩⟩ := P
  obtain ⟨y, hy⟩ := (call_ty c1).2 rfl
  cases hy
  have q1 : (μ1 98 0).toNatClampNeg = L := by rw [e1]; exact hL
  refine ⟨μ2, ν2, ?_, R2, e2, e2'⟩
  simp (disch := omega) only [e224_1004, e224_1005, e224_1006, e224_1007, e224_1008, e224_1009, e224_1010, e224_1011, e224_1012, e224_1013, e224_1014, e224_1015, e224_1016, e224_1017, e224_1018, e224_1019, e224_1020, e224_1021, e224_1023, e224_1024, e224_1025, e224_1026, e224_1027, e224_1028, e224_1029, e224_1030, e224_1033, e224_1034, e224_1035, e224_1038, e224_1039, e224_1040, e224_1041, e224_1042, e224_1043, e224_1044, e224_1045, e224_1046, e224_1047, e224_1048, e224_1049, e224_1050, e224_1051, e224_1052, e224_1053, e224_1054, e224_1055, e224_1057, e224_1058, e224_1059, e224_1060, e224_1061, e224_1062, e224_1063, e224_1064, e224_1067, e224_1068, e224_1069, e224_1072, e224_1073, e224_1076, e224_1077_0, e224_1077_1, cc_v, cc_n, cc_ite, ite_bI, ite_bI1, nI_add, nI_mul, if_true, if_false, ↓reduceIte, Nat.reduceEqDiff, Nat.reduceAdd, Nat.reduceMul, nI_n10, eq_self, c1, e1', c2, lgc_eq]
theorem l_copy (R : Rel μ ν) (hL : (μ 98 0).toNatClampNeg = L) (hL2 : L ≤ 3072) (hi : i + 6 ≤ L) : ∃ μ' ν', run 224 1078 [.ref 99, .ref 0, .ref 49, .int (nI i)] [] μ ν = run 224 1305 [.ref 99, .ref 0, .ref 49, .int (nI i)] [] μ' ν' ∧ Rel μ' ν' ∧ μ' 98 = μ 98 ∧ μ' 99 = μ 99 := by
  have P : Pr 91 202 [.int (μ 99 (i + 1)), .int (μ 99 (i + 2)), .int (μ 99 (i + 3)), .int (μ 99 (i + 4)), .int (μ 99 (i + 5))] μ ν := p_copy R
  obtain ⟨v, μ1, ν1, μ2, ν2, c1, c2, R2, ⟨e1, e1'⟩, ⟨e2, e2'⟩⟩ := P
  obtain ⟨y, hy⟩ := (call_ty c1).1 rfl
  cases hy
  have q1 : (μ1 98 0).toNatClampNeg = L := by rw [e1]; exact hL
  refine ⟨μ2, ν2, ?_, R2, e2, e2'⟩
  simp (disch := omega) only [e224_1078, e224_1079, e224_1080, e224_1081, e224_1082, e224_1083, e224_1084, e224_1085, e224_1086, e224_1087, e224_1088, e224_1089, e224_1090, e224_1091, e224_1092, e224_1093, e224_1094, e224_1095, e224_1096, e224_1097, e224_1098, e224_1099, e224_1100, e224_1101, e224_1102, e224_1103, e224_1104, e224_1107, e224_1108, e224_1109, e224_1110, e224_1111, e224_1112, e224_1113, e224_1114, e224_1115, e224_1116, e224_1117, e224_1118, e224_1119, e224_1120, e224_1121, e224_1122, e224_1123, e224_1124, e224_1125, e224_1126, e224_1127, e224_1128, e224_1129, e224_1130, e224_1131, e224_1132, e224_1133, e224_1136, e224_1139, e224_1140_0, e224_1140_1, cc_v, cc_n, cc_ite, ite_bI, ite_bI1, nI_add, nI_mul, if_true, if_false, ↓reduceIte, Nat.reduceEqDiff, Nat.reduceAdd, Nat.reduceMul, nI_n10, eq_self, c1, e1', c2]
theorem l_lays (R : Rel μ ν) (hL : (μ 98 0).toNatClampNeg = L) (hL2 : L ≤ 3072) (hi : i + 6 ≤ L) : ∃ μ' ν', run 224 1141 [.ref 99, .ref 0, .ref 49, .int (nI i)] [] μ ν = run 224 1305 [.ref 99, .ref 0, .ref 49, .int (nI i)] [] μ' ν' ∧ Rel μ' ν' ∧ μ' 98 = μ 98 ∧ μ' 99 = μ 99 := by
  have P : Pr 92 203 [.int (μ 99 (i + 1))] μ ν := p_lays R
  obtain ⟨v, μ1, ν1, μ2, ν2, c1, c2, R2, ⟨e1, e1'⟩, ⟨e2, e2'⟩⟩ := P
  obtain ⟨y, hy⟩ := (call_ty c1).1 rfl
  cases hy
  have q1 : (μ1 98 0).toNatClampNeg = L := by rw [e1]; exact hL
  refine ⟨μ2, ν2, ?_, R2, e2, e2'⟩
  simp (disch := omega) only [e224_1141, e224_1142, e224_1143, e224_1144, e224_1145, e224_1146, e224_1147, e224_1150, e224_1151, e224_1152, e224_1153, e224_1154, e224_1155, e224_1156, e224_1159, e224_1162, e224_1163_0, e224_1163_1, cc_v, cc_n, cc_ite, ite_bI, ite_bI1, nI_add, nI_mul, if_true, if_false, ↓reduceIte, Nat.reduceEqDiff, Nat.reduceAdd, Nat.reduceMul, nI_n10, eq_self, c1, e1', c2]
theorem l_book (R : Rel μ ν) (hL : (μ 98 0).toNatClampNeg = L) (hL2 : L ≤ 3072) (hi : i + 6 ≤ L) : ∃ μ' ν', run 224 1164 [.ref 99, .ref 0, .ref 49, .int (nI i)] [] μ ν = run 224 1305 [.ref 99, .ref 0, .ref 49, .int (nI i)] [] μ' ν' ∧ Rel μ' ν' ∧ μ' 98 = μ 98 ∧ μ' 99 = μ 99 := by
  have P : Pr 93 204 [.int (μ 99 (i + 1)), .int (μ 99 (i + 2))] μ ν := p_book R
  obtain ⟨v, μ1, ν1, μ2, ν2, c1, c2, R2, ⟨e1, e1'⟩, ⟨e2, e2'⟩⟩ := P
  obtain ⟨y, hy⟩ := (call_ty c1).1 rfl
  cases hy
  have q1 : (μ1 98 0).toNatClampNeg = L := by rw [e1]; exact hL
  refine ⟨μ2, ν2, ?_, R2, e2, e2'⟩
  simp (disch := omega) only [e224_1164, e224_1165, e224_1166, e224_1167, e224_1168, e224_1169, e224_1170, e224_1171, e224_1172, e224_1173, e224_1174, e224_1175, e224_1178, e224_1179, e224_1180, e224_1181, e224_1182, e224_1183, e224_1184, e224_1185, e224_1186, e224_1187, e224_1188, e224_1189, e224_1192, e224_1195, e224_1196_0, e224_1196_1, cc_v, cc_n, cc_ite, ite_bI, ite_bI1, nI_add, nI_mul, if_true, if_false, ↓reduceIte, Nat.reduceEqDiff, Nat.reduceAdd, Nat.reduceMul, nI_n10, eq_self, c1, e1', c2]
theorem l_read (R : Rel μ ν) (hL : (μ 98 0).toNatClampNeg = L) (hL2 : L ≤ 3072) (hi : i + 6 ≤ L) : ∃ μ' ν', run 224 1197 [.ref 99, .ref 0, .ref 49, .int (nI i)] [] μ ν = run 224 1305 [.ref 99, .ref 0, .ref 49, .int (nI i)] [] μ' ν' ∧ Rel μ' ν' ∧ μ' 98 = μ 98 ∧ μ' 99 = μ 99 := by
  have P : Pr 94 205 [.int (μ 99 (i + 1))] μ ν := p_read R
  obtain ⟨v, μ1, ν1, μ2, ν2, c1, c2, R2, ⟨e1, e1'⟩, ⟨e2, e2'⟩⟩ := P
  obtain ⟨y, hy⟩ := (call_ty c1).1 rfl
  cases hy
  have q1 : (μ1 98 0).toNatClampNeg = L := by rw [e1]; exact hL
  refine ⟨μ2, ν2, ?_, R2, e2, e2'⟩
  simp (disch := omega) only [e224_1197, e224_1198, e224_1199, e224_1200, e224_1201, e224_1202, e224_1203, e224_1206, e224_1207, e224_1208, e224_1209, e224_1210, e224_1211, e224_1212, e224_1215, e224_1218, e224_1219_0, e224_1219_1, cc_v, cc_n, cc_ite, ite_bI, ite_bI1, nI_add, nI_mul, if_true, if_false, ↓reduceIte, Nat.reduceEqDiff, Nat.reduceAdd, Nat.reduceMul, nI_n10, eq_self, c1, e1', c2]
theorem l_image (R : Rel μ ν) (hL : (μ 98 0).toNatClampNeg = L) (hL2 : L ≤ 3072) (hi : i + 6 ≤ L) : ∃ μ' ν', run 224 1220 [.ref 99, .ref 0, .ref 49, .int (nI i)] [] μ ν = run 224 1305 [.ref 99, .ref 0, .ref 49, .int (nI i)] [] μ' ν' ∧ Rel μ' ν' ∧ μ' 98 = μ 98 ∧ μ' 99 = μ 99 := by
  have P : Pr 95 206 [] μ ν := p_image R
  obtain ⟨v, μ1, ν1, μ2, ν2, c1, c2, R2, ⟨e1, e1'⟩, ⟨e2, e2'⟩⟩ := P
  obtain ⟨y, hy⟩ := (call_ty c1).1 rfl
  cases hy
  have q1 : (μ1 98 0).toNatClampNeg = L := by rw [e1]; exact hL
  refine ⟨μ2, ν2, ?_, R2, e2, e2'⟩
  simp (disch := omega) only [e224_1220, e224_1221, e224_1224, e224_1225, e224_1228, e224_1231, e224_1232_0, e224_1232_1, cc_v, cc_n, cc_ite, ite_bI, ite_bI1, nI_add, nI_mul, if_true, if_false, ↓reduceIte, Nat.reduceEqDiff, Nat.reduceAdd, Nat.reduceMul, nI_n10, eq_self, c1, e1', c2]
theorem l_undo (R : Rel μ ν) (hL : (μ 98 0).toNatClampNeg = L) (hL2 : L ≤ 3072) (hi : i + 6 ≤ L) : ∃ μ' ν', run 224 1233 [.ref 99, .ref 0, .ref 49, .int (nI i)] [] μ ν = run 224 1305 [.ref 99, .ref 0, .ref 49, .int (nI i)] [] μ' ν' ∧ Rel μ' ν' ∧ μ' 98 = μ 98 ∧ μ' 99 = μ 99 := by
  have P : Pr 96 207 [] μ ν := p_undo R
  obtain ⟨v, μ1, ν1, μ2, ν2, c1, c2, R2, ⟨e1, e1'⟩, ⟨e2, e2'⟩⟩ := P
  obtain ⟨y, hy⟩ := (call_ty c1).1 rfl
  cases hy
  have q1 : (μ1 98 0).toNatClampNeg = L := by rw [e1]; exact hL
  refine ⟨μ2, ν2, ?_, R2, e2, e2'⟩
  simp (disch := omega) only [e224_1233, e224_1234, e224_1237, e224_1238, e224_1241, e224_1244, e224_1245_0, e224_1245_1, cc_v, cc_n, cc_ite, ite_bI, ite_bI1, nI_add, nI_mul, if_true, if_false, ↓reduceIte, Nat.reduceEqDiff, Nat.reduceAdd, Nat.reduceMul, nI_n10, eq_self, c1, e1', c2]
theorem l_tear (R : Rel μ ν) (hL : (μ 98 0).toNatClampNeg = L) (hL2 : L ≤ 3072) (hi : i + 6 ≤ L) : ∃ μ' ν', run 224 1246 [.ref 99, .ref 0, .ref 49, .int (nI i)] [] μ ν = run 224 1305 [.ref 99, .ref 0, .ref 49, .int (nI i)] [] μ' ν' ∧ Rel μ' ν' ∧ μ' 98 = μ 98 ∧ μ' 99 = μ 99 := by
  have P : Pr 97 208 [] μ ν := p_tear R
  obtain ⟨v, μ1, ν1, μ2, ν2, c1, c2, R2, ⟨e1, e1'⟩, ⟨e2, e2'⟩⟩ := P
  obtain ⟨y, hy⟩ := (call_ty c1).1 rfl
  cases hy
  have q1 : (μ1 98 0).toNatClampNeg = L := by rw [e1]; exact hL
  refine ⟨μ2, ν2, ?_, R2, e2, e2'⟩
  simp (disch := omega) only [e224_1246, e224_1247, e224_1250, e224_1251, e224_1254, e224_1257, e224_1258_0, e224_1258_1, cc_v, cc_n, cc_ite, ite_bI, ite_bI1, nI_add, nI_mul, if_true, if_false, ↓reduceIte, Nat.reduceEqDiff, Nat.reduceAdd, Nat.reduceMul, nI_n10, eq_self, c1, e1', c2]
theorem l_count (R : Rel μ ν) (hL : (μ 98 0).toNatClampNeg = L) (hL2 : L ≤ 3072) (hi : i + 6 ≤ L) : ∃ μ' ν', run 224 1259 [.ref 99, .ref 0, .ref 49, .int (nI i)] [] μ ν = run 224 1305 [.ref 99, .ref 0, .ref 49, .int (nI i)] [] μ' ν' ∧ Rel μ' ν' ∧ μ' 98 = μ 98 ∧ μ' 99 = μ 99 := by
  have P : Pr 98 211 [.int (μ 99 (i + 1))] μ ν := p_count R
  obtain ⟨v, μ1, ν1, μ2, ν2, c1, c2, R2, ⟨e1, e1'⟩, ⟨e2, e2'⟩⟩ := P
  obtain ⟨y, hy⟩ := (call_ty c1).1 rfl
  cases hy
  have q1 : (μ1 98 0).toNatClampNeg = L := by rw [e1]; exact hL
  refine ⟨μ2, ν2, ?_, R2, e2, e2'⟩
  simp (disch := omega) only [e224_1259, e224_1260, e224_1261, e224_1262, e224_1263, e224_1264, e224_1265, e224_1268, e224_1269, e224_1270, e224_1271, e224_1272, e224_1273, e224_1274, e224_1277, e224_1280, e224_1281_0, e224_1281_1, cc_v, cc_n, cc_ite, ite_bI, ite_bI1, nI_add, nI_mul, if_true, if_false, ↓reduceIte, Nat.reduceEqDiff, Nat.reduceAdd, Nat.reduceMul, nI_n10, eq_self, c1, e1', c2]
theorem l_status (R : Rel μ ν) (hL : (μ 98 0).toNatClampNeg = L) (hL2 : L ≤ 3072) (hi : i + 6 ≤ L) : ∃ μ' ν', run 224 1282 [.ref 99, .ref 0, .ref 49, .int (nI i)] [] μ ν = run 224 1305 [.ref 99, .ref 0, .ref 49, .int (nI i)] [] μ' ν' ∧ Rel μ' ν' ∧ μ' 98 = μ 98 ∧ μ' 99 = μ 99 := by
  have P : Pr 99 212 [.int (μ 99 (i + 1))] μ ν := p_status R
  obtain ⟨v, μ1, ν1, μ2, ν2, c1, c2, R2, ⟨e1, e1'⟩, ⟨e2, e2'⟩⟩ := P
  obtain ⟨y, hy⟩ := (call_ty c1).1 rfl
  cases hy
  have q1 : (μ1 98 0).toNatClampNeg = L := by rw [e1]; exact hL
  refine ⟨μ2, ν2, ?_, R2, e2, e2'⟩
  simp (disch := omega) only [e224_1282, e224_1283, e224_1284, e224_1285, e224_1286, e224_1287, e224_1288, e224_1291, e224_1292, e224_1293, e224_1294, e224_1295, e224_1296, e224_1297, e224_1300, e224_1303, e224_1304_0, e224_1304_1, cc_v, cc_n, cc_ite, ite_bI, ite_bI1, nI_add, nI_mul, if_true, if_false, ↓reduceIte, Nat.reduceEqDiff, Nat.reduceAdd, Nat.reduceMul, nI_n10, eq_self, c1, e1', c2]
end
