/-! the law, call by call; written by gen_law.py -/
section
variable {N : Nat} {xs : Nat → Int32} {σ : Sto} {n d c s : Nat} {Q : Po}
theorem lw_0 (hI : IV N xs σ n) (hN : N ≤ 704) (hn : 11 * n + 11 ≤ N) (h : ∀ σ2, IV N xs σ2 (n + 1) → Ev (d + 41, c, s) 168 1195 [aR (some 0), aR (some 1), aR (some 68), aI (nI (11 * n))] [] σ2 Q) : Ev (d + 41, c + 1, s + 12) 168 156 [aR (some 0), aR (some 1), aR (some 68), aI (nI (11 * n))] [] σ Q := by
  obtain ⟨L, S, D, ol, pth, hi⟩ := hI
  obtain ⟨o1, hs, w⟩ := lwF hi hn hN
  simp only [z10, z00, not_true_eq_false, not_false_eq_true, false_implies, true_implies, implies_true, nI_1, Int32.add_zero, true_or, or_true, true_and, and_true, eI_eq, eL_eq, eR_eq, eV_eq, lg_cmp_ge, lg_cmp_le, lg_cmp_gt, lg_cmp_lt, lg_cmp_eq, v_168_156, v_168_157, v_168_158, v_168_159, v_168_160, v_168_161, v_168_162, v_168_163, v_168_164, v_168_165, v_168_166, v_168_167, v_168_168, v_168_169, v_168_170, v_168_171, v_168_172, v_168_173, v_168_174, v_168_175, v_168_176, v_168_177, v_168_178, v_168_179, v_168_180, v_168_181, v_168_182, v_168_183, v_168_184, v_168_186, v_168_187, v_168_188, v_168_189, v_168_190, v_168_192, v_168_193, v_168_194, v_168_195, v_168_197, v_168_198, v_168_199, v_168_200, v_168_202, v_168_203, v_168_204, v_168_205, v_168_208, v_168_209, v_168_210, v_168_211, v_168_212, v_168_214, v_168_215, v_168_216, v_168_217, v_168_219, v_168_220, v_168_221, v_168_222, v_168_224, v_168_225, v_168_226, v_168_227, v_168_230, v_168_231, v_168_232, iK1, iK2, iK3, iK4, iK5, iK6, iK7, iK8, iK9, iK10, (w 1 (by decide)).1, (w 1 (by decide)).2, (w 2 (by decide)).1, (w 2 (by decide)).2, (w 3 (by decide)).1, (w 3 (by decide)).2, (w 4 (by decide)).1, (w 4 (by decide)).2, (w 5 (by decide)).1, (w 5 (by decide)).2, (w 6 (by decide)).1, (w 6 (by decide)).2, (w 7 (by decide)).1, (w 7 (by decide)).2, (w 8 (by decide)).1, (w 8 (by decide)).2, (w 9 (by decide)).1, (w 9 (by decide)).2, (w 10 (by decide)).1, (w 10 (by decide)).2]
  refine ⟨o1, CI_mono (CI_k hs (op_report hi (by omega) _ _ _ _ _ _ _ _)) (fun a σ1 q => ?_)⟩
  obtain ⟨o2, w2⟩ := lwG hi hn hN q.2
  simp only [z10, z00, not_true_eq_false, not_false_eq_true, false_implies, true_implies, implies_true, nI_1, Int32.add_zero, true_or, or_true, true_and, and_true, eI_eq, eL_eq, eR_eq, eV_eq, lg_cmp_ge, lg_cmp_le, lg_cmp_gt, lg_cmp_lt, lg_cmp_eq, v_168_235, v_168_236, v_168_237, v_168_238, v_168_239, v_168_240, v_168_241, v_168_242, v_168_243, v_168_244, v_168_245, v_168_246, v_168_247, v_168_248, v_168_249, v_168_250, v_168_251, v_168_252, v_168_253, v_168_254, v_168_255, v_168_256, v_168_257, v_168_258, v_168_259, v_168_260, v_168_261, v_168_262, v_168_263, v_168_265, v_168_266, v_168_267, v_168_268, v_168_269, v_168_271, v_168_272, v_168_273, v_168_274, v_168_276, v_168_277, v_168_278, v_168_279, v_168_281, v_168_282, v_168_283, v_168_284, v_168_287, v_168_288, v_168_289, v_168_290, v_168_291, v_168_293, v_168_294, v_168_295, v_168_296, v_168_298, v_168_299, v_168_300, v_168_301, v_168_303, v_168_304, v_168_305, v_168_306, v_168_309, v_168_310, v_168_311, iK1, iK2, iK3, iK4, iK5, iK6, iK7, iK8, iK9, iK10, (w2 1 (by decide)).1, (w2 1 (by decide)).2, (w2 2 (by decide)).1, (w2 2 (by decide)).2, (w2 3 (by decide)).1, (w2 3 (by decide)).2, (w2 4 (by decide)).1, (w2 4 (by decide)).2, (w2 5 (by decide)).1, (w2 5 (by decide)).2, (w2 6 (by decide)).1, (w2 6 (by decide)).2, (w2 7 (by decide)).1, (w2 7 (by decide)).2, (w2 8 (by decide)).1, (w2 8 (by decide)).2, (w2 9 (by decide)).1, (w2 9 (by decide)).2, (w2 10 (by decide)).1, (w2 10 (by decide)).2]
  refine ⟨o2, CI_mono q.1 (fun b σ2 r => ?_)⟩
  rw [v_168_314]
  exact ⟨fun _ => h σ2 r.2, fun e => absurd r.1 e⟩
theorem lw_1 (hI : IV N xs σ n) (hN : N ≤ 704) (hn : 11 * n + 11 ≤ N) (h : ∀ σ2, IV N xs σ2 (n + 1) → Ev (d + 41, c, s) 168 1195 [aR (some 0), aR (some 1), aR (some 68), aI (nI (11 * n))] [] σ2 Q) : Ev (d + 41, c, s) 168 319 [aR (some 0), aR (some 1), aR (some 68), aI (nI (11 * n))] [] σ Q := by
  obtain ⟨L, S, D, ol, pth, hi⟩ := hI
  obtain ⟨o1, hs, w⟩ := lwF hi hn hN
  simp only [z10, z00, not_true_eq_false, not_false_eq_true, false_implies, true_implies, implies_true, nI_1, Int32.add_zero, true_or, or_true, true_and, and_true, eI_eq, eL_eq, eR_eq, eV_eq, lg_cmp_ge, lg_cmp_le, lg_cmp_gt, lg_cmp_lt, lg_cmp_eq, v_168_319, v_168_320, v_168_321, v_168_322, v_168_323, v_168_324, v_168_325, iK1, (w 1 (by decide)).1, (w 1 (by decide)).2]
  refine ⟨o1, CI_mono (CI_k hs (op_spans hi (by omega) _)) (fun a σ1 q => ?_)⟩
  obtain ⟨o2, w2⟩ := lwG hi hn hN q.2
  simp only [z10, z00, not_true_eq_false, not_false_eq_true, false_implies, true_implies, implies_true, nI_1, Int32.add_zero, true_or, or_true, true_and, and_true, eI_eq, eL_eq, eR_eq, eV_eq, lg_cmp_ge, lg_cmp_le, lg_cmp_gt, lg_cmp_lt, lg_cmp_eq, v_168_328, v_168_329, v_168_330, v_168_331, v_168_332, v_168_333, v_168_334, iK1, (w2 1 (by decide)).1, (w2 1 (by decide)).2]
  refine ⟨o2, CI_mono q.1 (fun b σ2 r => ?_)⟩
  rw [v_168_337]
  exact ⟨fun _ => h σ2 r.2, fun e => absurd r.1 e⟩
theorem lw_2 (hI : IV N xs σ n) (hN : N ≤ 704) (hn : 11 * n + 11 ≤ N) (h : ∀ σ2, IV N xs σ2 (n + 1) → Ev (d + 41, c, s) 168 1195 [aR (some 0), aR (some 1), aR (some 68), aI (nI (11 * n))] [] σ2 Q) : Ev (d + 41, c, s) 168 342 [aR (some 0), aR (some 1), aR (some 68), aI (nI (11 * n))] [] σ Q := by
  obtain ⟨L, S, D, ol, pth, hi⟩ := hI
  obtain ⟨o1, hs, w⟩ := lwF hi hn hN
  simp only [z10, z00, not_true_eq_false, not_false_eq_true, false_implies, true_implies, implies_true, nI_1, Int32.add_zero, true_or, or_true, true_and, and_true, eI_eq, eL_eq, eR_eq, eV_eq, lg_cmp_ge, lg_cmp_le, lg_cmp_gt, lg_cmp_lt, lg_cmp_eq, v_168_342, v_168_343, v_168_344, v_168_345, v_168_346, v_168_347, v_168_348, v_168_349, v_168_350, v_168_351, v_168_352, v_168_353, v_168_354, v_168_355, v_168_356, v_168_357, v_168_358, iK1, iK2, iK3, (w 1 (by decide)).1, (w 1 (by decide)).2, (w 2 (by decide)).1, (w 2 (by decide)).2, (w 3 (by decide)).1, (w 3 (by decide)).2]
  refine ⟨o1, CI_mono (CI_k hs (op_span hi (by omega) _ _ _)) (fun a σ1 q => ?_)⟩
  obtain ⟨o2, w2⟩ := lwG hi hn hN q.2
  simp only [z10, z00, not_true_eq_false, not_false_eq_true, false_implies, true_implies, implies_true, nI_1, Int32.add_zero, true_or, or_true, true_and, and_true, eI_eq, eL_eq, eR_eq, eV_eq, lg_cmp_ge, lg_cmp_le, lg_cmp_gt, lg_cmp_lt, lg_cmp_eq, v_168_361, v_168_362, v_168_363, v_168_364, v_168_365, v_168_366, v_168_367, v_168_368, v_168_369, v_168_370, v_168_371, v_168_372, v_168_373, v_168_374, v_168_375, v_168_376, v_168_377, iK1, iK2, iK3, (w2 1 (by decide)).1, (w2 1 (by decide)).2, (w2 2 (by decide)).1, (w2 2 (by decide)).2, (w2 3 (by decide)).1, (w2 3 (by decide)).2]
  refine ⟨o2, CI_mono q.1 (fun b σ2 r => ?_)⟩
  rw [v_168_380]
  exact ⟨fun _ => h σ2 r.2, fun e => absurd r.1 e⟩
theorem lw_3 (hI : IV N xs σ n) (hN : N ≤ 704) (hn : 11 * n + 11 ≤ N) (h : ∀ σ2, IV N xs σ2 (n + 1) → Ev (d + 41, c, s) 168 1195 [aR (some 0), aR (some 1), aR (some 68), aI (nI (11 * n))] [] σ2 Q) : Ev (d + 41, c, s) 168 385 [aR (some 0), aR (some 1), aR (some 68), aI (nI (11 * n))] [] σ Q := by
  obtain ⟨L, S, D, ol, pth, hi⟩ := hI
  obtain ⟨o1, hs, w⟩ := lwF hi hn hN
  simp only [z10, z00, not_true_eq_false, not_false_eq_true, false_implies, true_implies, implies_true, nI_1, Int32.add_zero, true_or, or_true, true_and, and_true, eI_eq, eL_eq, eR_eq, eV_eq, lg_cmp_ge, lg_cmp_le, lg_cmp_gt, lg_cmp_lt, lg_cmp_eq, v_168_385, v_168_386, v_168_387, v_168_388, v_168_389, v_168_390, v_168_391, v_168_392, v_168_393, v_168_394, v_168_395, v_168_396, v_168_397, v_168_398, v_168_399, v_168_400, v_168_401, iK1, iK2, iK3, (w 1 (by decide)).1, (w 1 (by decide)).2, (w 2 (by decide)).1, (w 2 (by decide)).2, (w 3 (by decide)).1, (w 3 (by decide)).2]
  refine ⟨o1, CI_mono (CI_k hs (op_kid hi (by omega) _ _ _)) (fun a σ1 q => ?_)⟩
  obtain ⟨o2, w2⟩ := lwG hi hn hN q.2
  simp only [z10, z00, not_true_eq_false, not_false_eq_true, false_implies, true_implies, implies_true, nI_1, Int32.add_zero, true_or, or_true, true_and, and_true, eI_eq, eL_eq, eR_eq, eV_eq, lg_cmp_ge, lg_cmp_le, lg_cmp_gt, lg_cmp_lt, lg_cmp_eq, v_168_404, v_168_405, v_168_406, v_168_407, v_168_408, v_168_409, v_168_410, v_168_411, v_168_412, v_168_413, v_168_414, v_168_415, v_168_416, v_168_417, v_168_418, v_168_419, v_168_420, iK1, iK2, iK3, (w2 1 (by decide)).1, (w2 1 (by decide)).2, (w2 2 (by decide)).1, (w2 2 (by decide)).2, (w2 3 (by decide)).1, (w2 3 (by decide)).2]
  refine ⟨o2, CI_mono q.1 (fun b σ2 r => ?_)⟩
  rw [v_168_423]
  exact ⟨fun _ => h σ2 r.2, fun e => absurd r.1 e⟩
theorem lw_4 (hI : IV N xs σ n) (hN : N ≤ 704) (hn : 11 * n + 11 ≤ N) (h : ∀ σ2, IV N xs σ2 (n + 1) → Ev (d + 41, c, s) 168 1195 [aR (some 0), aR (some 1), aR (some 68), aI (nI (11 * n))] [] σ2 Q) : Ev (d + 41, c, s) 168 428 [aR (some 0), aR (some 1), aR (some 68), aI (nI (11 * n))] [] σ Q := by
  obtain ⟨L, S, D, ol, pth, hi⟩ := hI
  obtain ⟨o1, hs, w⟩ := lwF hi hn hN
  simp only [z10, z00, not_true_eq_false, not_false_eq_true, false_implies, true_implies, implies_true, nI_1, Int32.add_zero, true_or, or_true, true_and, and_true, eI_eq, eL_eq, eR_eq, eV_eq, lg_cmp_ge, lg_cmp_le, lg_cmp_gt, lg_cmp_lt, lg_cmp_eq, v_168_428, v_168_429, v_168_430, v_168_431, v_168_432, v_168_433, v_168_434, v_168_435, v_168_436, v_168_437, v_168_438, v_168_439, iK1, iK2, (w 1 (by decide)).1, (w 1 (by decide)).2, (w 2 (by decide)).1, (w 2 (by decide)).2]
  refine ⟨o1, CI_mono (CI_k hs (op_root hi (by omega) _ _)) (fun a σ1 q => ?_)⟩
  obtain ⟨o2, w2⟩ := lwG hi hn hN q.2
  simp only [z10, z00, not_true_eq_false, not_false_eq_true, false_implies, true_implies, implies_true, nI_1, Int32.add_zero, true_or, or_true, true_and, and_true, eI_eq, eL_eq, eR_eq, eV_eq, lg_cmp_ge, lg_cmp_le, lg_cmp_gt, lg_cmp_lt, lg_cmp_eq, v_168_442, v_168_443, v_168_444, v_168_445, v_168_446, v_168_447, v_168_448, v_168_449, v_168_450, v_168_451, v_168_452, v_168_453, iK1, iK2, (w2 1 (by decide)).1, (w2 1 (by decide)).2, (w2 2 (by decide)).1, (w2 2 (by decide)).2]
  refine ⟨o2, CI_mono q.1 (fun b σ2 r => ?_)⟩
  rw [v_168_456]
  exact ⟨fun _ => h σ2 r.2, fun e => absurd r.1 e⟩
theorem lw_5 (hI : IV N xs σ n) (hN : N ≤ 704) (hn : 11 * n + 11 ≤ N) (h : ∀ σ2, IV N xs σ2 (n + 1) → Ev (d + 41, c, s) 168 1195 [aR (some 0), aR (some 1), aR (some 68), aI (nI (11 * n))] [] σ2 Q) : Ev (d + 41, c, s) 168 461 [aR (some 0), aR (some 1), aR (some 68), aI (nI (11 * n))] [] σ Q := by
  obtain ⟨L, S, D, ol, pth, hi⟩ := hI
  obtain ⟨o1, hs, w⟩ := lwF hi hn hN
  simp only [z10, z00, not_true_eq_false, not_false_eq_true, false_implies, true_implies, implies_true, nI_1, Int32.add_zero, true_or, or_true, true_and, and_true, eI_eq, eL_eq, eR_eq, eV_eq, lg_cmp_ge, lg_cmp_le, lg_cmp_gt, lg_cmp_lt, lg_cmp_eq, v_168_461, v_168_462, v_168_463, v_168_464, v_168_465, v_168_466, v_168_467, v_168_468, v_168_469, v_168_470, v_168_471, v_168_472, iK1, iK2, (w 1 (by decide)).1, (w 1 (by decide)).2, (w 2 (by decide)).1, (w 2 (by decide)).2]
  refine ⟨o1, CI_mono (CI_k hs (op_trace hi (by omega) _ _)) (fun a σ1 q => ?_)⟩
  obtain ⟨o2, w2⟩ := lwG hi hn hN q.2
  simp only [z10, z00, not_true_eq_false, not_false_eq_true, false_implies, true_implies, implies_true, nI_1, Int32.add_zero, true_or, or_true, true_and, and_true, eI_eq, eL_eq, eR_eq, eV_eq, lg_cmp_ge, lg_cmp_le, lg_cmp_gt, lg_cmp_lt, lg_cmp_eq, v_168_475, v_168_476, v_168_477, v_168_478, v_168_479, v_168_480, v_168_481, v_168_482, v_168_483, v_168_484, v_168_485, v_168_486, iK1, iK2, (w2 1 (by decide)).1, (w2 1 (by decide)).2, (w2 2 (by decide)).1, (w2 2 (by decide)).2]
  refine ⟨o2, CI_mono q.1 (fun b σ2 r => ?_)⟩
  rw [v_168_489]
  exact ⟨fun _ => h σ2 r.2, fun e => absurd r.1 e⟩
theorem lw_6 (hI : IV N xs σ n) (hN : N ≤ 704) (hn : 11 * n + 11 ≤ N) (h : ∀ σ2, IV N xs σ2 (n + 1) → Ev (d + 41, c, s) 168 1195 [aR (some 0), aR (some 1), aR (some 68), aI (nI (11 * n))] [] σ2 Q) : Ev (d + 41, c, s) 168 494 [aR (some 0), aR (some 1), aR (some 68), aI (nI (11 * n))] [] σ Q := by
  obtain ⟨L, S, D, ol, pth, hi⟩ := hI
  obtain ⟨o1, hs, w⟩ := lwF hi hn hN
  by_cases c3 : xs (11 * n + 3) = 0
  · by_cases c4 : xs (11 * n + 4) = 0
    · simp only [z10, z00, not_true_eq_false, not_false_eq_true, false_implies, true_implies, implies_true, nI_1, Int32.add_zero, true_or, or_true, true_and, and_true, eI_eq, eL_eq, eR_eq, eV_eq, lg_cmp_ge, lg_cmp_le, lg_cmp_gt, lg_cmp_lt, lg_cmp_eq, v_168_494, v_168_495, v_168_496, v_168_497, v_168_498, v_168_499, v_168_500, v_168_501, v_168_502, v_168_503, v_168_504, v_168_505, v_168_506, v_168_507, v_168_508, v_168_509, v_168_510, v_168_513, v_168_514, v_168_517, v_168_518, v_168_519, v_168_520, v_168_521, v_168_522, v_168_523, v_168_526, v_168_527, v_168_530, v_168_531, iK1, iK2, iK3, iK4, (w 1 (by decide)).1, (w 1 (by decide)).2, (w 2 (by decide)).1, (w 2 (by decide)).2, (w 3 (by decide)).1, (w 3 (by decide)).2, (w 4 (by decide)).1, (w 4 (by decide)).2, c3, c4]
      refine ⟨o1, CL_mono (CL_k hs (op_time hi (by omega) _ _ _ _)) (fun a σ1 q => ?_)⟩
      obtain ⟨o2, w2⟩ := lwG hi hn hN q.2
      simp only [z10, z00, not_true_eq_false, not_false_eq_true, false_implies, true_implies, implies_true, nI_1, Int32.add_zero, true_or, or_true, true_and, and_true, eI_eq, eL_eq, eR_eq, eV_eq, lg_cmp_ge, lg_cmp_le, lg_cmp_gt, lg_cmp_lt, lg_cmp_eq, v_168_534, v_168_535, v_168_536, v_168_537, v_168_538, v_168_539, v_168_540, v_168_541, v_168_542, v_168_543, v_168_544, v_168_545, v_168_546, v_168_547, v_168_548, v_168_549, v_168_550, v_168_553, v_168_554, v_168_557, v_168_558, v_168_559, v_168_560, v_168_561, v_168_562, v_168_563, v_168_566, v_168_567, v_168_570, v_168_571, iK1, iK2, iK3, iK4, (w2 1 (by decide)).1, (w2 1 (by decide)).2, (w2 2 (by decide)).1, (w2 2 (by decide)).2, (w2 3 (by decide)).1, (w2 3 (by decide)).2, (w2 4 (by decide)).1, (w2 4 (by decide)).2, c3, c4]
      refine ⟨o2, CL_mono q.1 (fun b σ2 r => ?_)⟩
      rw [v_168_574, v_168_575, lg_cmp_eq]
      exact ⟨fun _ => h σ2 r.2, fun e => absurd r.1 e⟩
    · simp only [z10, z00, not_true_eq_false, not_false_eq_true, false_implies, true_implies, implies_true, nI_1, Int32.add_zero, true_or, or_true, true_and, and_true, eI_eq, eL_eq, eR_eq, eV_eq, lg_cmp_ge, lg_cmp_le, lg_cmp_gt, lg_cmp_lt, lg_cmp_eq, v_168_494, v_168_495, v_168_496, v_168_497, v_168_498, v_168_499, v_168_500, v_168_501, v_168_502, v_168_503, v_168_504, v_168_505, v_168_506, v_168_507, v_168_508, v_168_509, v_168_510, v_168_513, v_168_514, v_168_517, v_168_518, v_168_519, v_168_520, v_168_521, v_168_522, v_168_523, v_168_526, v_168_527, v_168_530, v_168_531, iK1, iK2, iK3, iK4, (w 1 (by decide)).1, (w 1 (by decide)).2, (w 2 (by decide)).1, (w 2 (by decide)).2, (w 3 (by decide)).1, (w 3 (by decide)).2, (w 4 (by decide)).1, (w 4 (by decide)).2, c3, c4]
      refine ⟨o1, CL_mono (CL_k hs (op_time hi (by omega) _ _ _ _)) (fun a σ1 q => ?_)⟩
      obtain ⟨o2, w2⟩ := lwG hi hn hN q.2
      simp only [z10, z00, not_true_eq_false, not_false_eq_true, false_implies, true_implies, implies_true, nI_1, Int32.add_zero, true_or, or_true, true_and, and_true, eI_eq, eL_eq, eR_eq, eV_eq, lg_cmp_ge, lg_cmp_le, lg_cmp_gt, lg_cmp_lt, lg_cmp_eq, v_168_534, v_168_535, v_168_536, v_168_537, v_168_538, v_168_539, v_168_540, v_168_541, v_168_542, v_168_543, v_168_544, v_168_545, v_168_546, v_168_547, v_168_548, v_168_549, v_168_550, v_168_553, v_168_554, v_168_557, v_168_558, v_168_559, v_168_560, v_168_561, v_168_562, v_168_563, v_168_566, v_168_567, v_168_570, v_168_571, iK1, iK2, iK3, iK4, (w2 1 (by decide)).1, (w2 1 (by decide)).2, (w2 2 (by decide)).1, (w2 2 (by decide)).2, (w2 3 (by decide)).1, (w2 3 (by decide)).2, (w2 4 (by decide)).1, (w2 4 (by decide)).2, c3, c4]
      refine ⟨o2, CL_mono q.1 (fun b σ2 r => ?_)⟩
      rw [v_168_574, v_168_575, lg_cmp_eq]
      exact ⟨fun _ => h σ2 r.2, fun e => absurd r.1 e⟩
  · by_cases c4 : xs (11 * n + 4) = 0
    · simp only [z10, z00, not_true_eq_false, not_false_eq_true, false_implies, true_implies, implies_true, nI_1, Int32.add_zero, true_or, or_true, true_and, and_true, eI_eq, eL_eq, eR_eq, eV_eq, lg_cmp_ge, lg_cmp_le, lg_cmp_gt, lg_cmp_lt, lg_cmp_eq, v_168_494, v_168_495, v_168_496, v_168_497, v_168_498, v_168_499, v_168_500, v_168_501, v_168_502, v_168_503, v_168_504, v_168_505, v_168_506, v_168_507, v_168_508, v_168_509, v_168_510, v_168_513, v_168_514, v_168_517, v_168_518, v_168_519, v_168_520, v_168_521, v_168_522, v_168_523, v_168_526, v_168_527, v_168_530, v_168_531, iK1, iK2, iK3, iK4, (w 1 (by decide)).1, (w 1 (by decide)).2, (w 2 (by decide)).1, (w 2 (by decide)).2, (w 3 (by decide)).1, (w 3 (by decide)).2, (w 4 (by decide)).1, (w 4 (by decide)).2, c3, c4]
      refine ⟨o1, CL_mono (CL_k hs (op_time hi (by omega) _ _ _ _)) (fun a σ1 q => ?_)⟩
      obtain ⟨o2, w2⟩ := lwG hi hn hN q.2
      simp only [z10, z00, not_true_eq_false, not_false_eq_true, false_implies, true_implies, implies_true, nI_1, Int32.add_zero, true_or, or_true, true_and, and_true, eI_eq, eL_eq, eR_eq, eV_eq, lg_cmp_ge, lg_cmp_le, lg_cmp_gt, lg_cmp_lt, lg_cmp_eq, v_168_534, v_168_535, v_168_536, v_168_537, v_168_538, v_168_539, v_168_540, v_168_541, v_168_542, v_168_543, v_168_544, v_168_545, v_168_546, v_168_547, v_168_548, v_168_549, v_168_550, v_168_553, v_168_554, v_168_557, v_168_558, v_168_559, v_168_560, v_168_561, v_168_562, v_168_563, v_168_566, v_168_567, v_168_570, v_168_571, iK1, iK2, iK3, iK4, (w2 1 (by decide)).1, (w2 1 (by decide)).2, (w2 2 (by decide)).1, (w2 2 (by decide)).2, (w2 3 (by decide)).1, (w2 3 (by decide)).2, (w2 4 (by decide)).1, (w2 4 (by decide)).2, c3, c4]
      refine ⟨o2, CL_mono q.1 (fun b σ2 r => ?_)⟩
      rw [v_168_574, v_168_575, lg_cmp_eq]
      exact ⟨fun _ => h σ2 r.2, fun e => absurd r.1 e⟩
    · simp only [z10, z00, not_true_eq_false, not_false_eq_true, false_implies, true_implies, implies_true, nI_1, Int32.add_zero, true_or, or_true, true_and, and_true, eI_eq, eL_eq, eR_eq, eV_eq, lg_cmp_ge, lg_cmp_le, lg_cmp_gt, lg_cmp_lt, lg_cmp_eq, v_168_494, v_168_495, v_168_496, v_168_497, v_168_498, v_168_499, v_168_500, v_168_501, v_168_502, v_168_503, v_168_504, v_168_505, v_168_506, v_168_507, v_168_508, v_168_509, v_168_510, v_168_513, v_168_514, v_168_517, v_168_518, v_168_519, v_168_520, v_168_521, v_168_522, v_168_523, v_168_526, v_168_527, v_168_530, v_168_531, iK1, iK2, iK3, iK4, (w 1 (by decide)).1, (w 1 (by decide)).2, (w 2 (by decide)).1, (w 2 (by decide)).2, (w 3 (by decide)).1, (w 3 (by decide)).2, (w 4 (by decide)).1, (w 4 (by decide)).2, c3, c4]
      refine ⟨o1, CL_mono (CL_k hs (op_time hi (by omega) _ _ _ _)) (fun a σ1 q => ?_)⟩
      obtain ⟨o2, w2⟩ := lwG hi hn hN q.2
      simp only [z10, z00, not_true_eq_false, not_false_eq_true, false_implies, true_implies, implies_true, nI_1, Int32.add_zero, true_or, or_true, true_and, and_true, eI_eq, eL_eq, eR_eq, eV_eq, lg_cmp_ge, lg_cmp_le, lg_cmp_gt, lg_cmp_lt, lg_cmp_eq, v_168_534, v_168_535, v_168_536, v_168_537, v_168_538, v_168_539, v_168_540, v_168_541, v_168_542, v_168_543, v_168_544, v_168_545, v_168_546, v_168_547, v_168_548, v_168_549, v_168_550, v_168_553, v_168_554, v_168_557, v_168_558, v_168_559, v_168_560, v_168_561, v_168_562, v_168_563, v_168_566, v_168_567, v_168_570, v_168_571, iK1, iK2, iK3, iK4, (w2 1 (by decide)).1, (w2 1 (by decide)).2, (w2 2 (by decide)).1, (w2 2 (by decide)).2, (w2 3 (by decide)).1, (w2 3 (by decide)).2, (w2 4 (by decide)).1, (w2 4 (by decide)).2, c3, c4]
      refine ⟨o2, CL_mono q.1 (fun b σ2 r => ?_)⟩
      rw [v_168_574, v_168_575, lg_cmp_eq]
      exact ⟨fun _ => h σ2 r.2, fun e => absurd r.1 e⟩
theorem lw_7 (hI : IV N xs σ n) (hN : N ≤ 704) (hn : 11 * n + 11 ≤ N) (h : ∀ σ2, IV N xs σ2 (n + 1) → Ev (d + 41, c, s) 168 1195 [aR (some 0), aR (some 1), aR (some 68), aI (nI (11 * n))] [] σ2 Q) : Ev (d + 41, c, s) 168 580 [aR (some 0), aR (some 1), aR (some 68), aI (nI (11 * n))] [] σ Q := by
  obtain ⟨L, S, D, ol, pth, hi⟩ := hI
  obtain ⟨o1, hs, w⟩ := lwF hi hn hN
  simp only [z10, z00, not_true_eq_false, not_false_eq_true, false_implies, true_implies, implies_true, nI_1, Int32.add_zero, true_or, or_true, true_and, and_true, eI_eq, eL_eq, eR_eq, eV_eq, lg_cmp_ge, lg_cmp_le, lg_cmp_gt, lg_cmp_lt, lg_cmp_eq, v_168_580, v_168_581, v_168_582, v_168_583, v_168_584, v_168_585, v_168_586, v_168_587, v_168_588, v_168_589, v_168_590, v_168_591, iK1, iK2, (w 1 (by decide)).1, (w 1 (by decide)).2, (w 2 (by decide)).1, (w 2 (by decide)).2]
  refine ⟨o1, CL_mono (CL_k hs (op_bound hi (by omega) _ _)) (fun a σ1 q => ?_)⟩
  obtain ⟨o2, w2⟩ := lwG hi hn hN q.2
  simp only [z10, z00, not_true_eq_false, not_false_eq_true, false_implies, true_implies, implies_true, nI_1, Int32.add_zero, true_or, or_true, true_and, and_true, eI_eq, eL_eq, eR_eq, eV_eq, lg_cmp_ge, lg_cmp_le, lg_cmp_gt, lg_cmp_lt, lg_cmp_eq, v_168_594, v_168_595, v_168_596, v_168_597, v_168_598, v_168_599, v_168_600, v_168_601, v_168_602, v_168_603, v_168_604, v_168_605, iK1, iK2, (w2 1 (by decide)).1, (w2 1 (by decide)).2, (w2 2 (by decide)).1, (w2 2 (by decide)).2]
  refine ⟨o2, CL_mono q.1 (fun b σ2 r => ?_)⟩
  rw [v_168_608, v_168_609, lg_cmp_eq]
  exact ⟨fun _ => h σ2 r.2, fun e => absurd r.1 e⟩
theorem lw_8 (hI : IV N xs σ n) (hN : N ≤ 704) (hn : 11 * n + 11 ≤ N) (h : ∀ σ2, IV N xs σ2 (n + 1) → Ev (d + 41, c, s) 168 1195 [aR (some 0), aR (some 1), aR (some 68), aI (nI (11 * n))] [] σ2 Q) : Ev (d + 41, c, s) 168 614 [aR (some 0), aR (some 1), aR (some 68), aI (nI (11 * n))] [] σ Q := by
  obtain ⟨L, S, D, ol, pth, hi⟩ := hI
  obtain ⟨o1, hs, w⟩ := lwF hi hn hN
  simp only [z10, z00, not_true_eq_false, not_false_eq_true, false_implies, true_implies, implies_true, nI_1, Int32.add_zero, true_or, or_true, true_and, and_true, eI_eq, eL_eq, eR_eq, eV_eq, lg_cmp_ge, lg_cmp_le, lg_cmp_gt, lg_cmp_lt, lg_cmp_eq, v_168_614, v_168_615, v_168_616, v_168_617, v_168_618, v_168_619, v_168_620, v_168_621, v_168_622, v_168_623, v_168_624, v_168_625, v_168_626, v_168_627, v_168_628, v_168_629, v_168_630, iK1, iK2, iK3, (w 1 (by decide)).1, (w 1 (by decide)).2, (w 2 (by decide)).1, (w 2 (by decide)).2, (w 3 (by decide)).1, (w 3 (by decide)).2]
  refine ⟨o1, CL_mono (CL_k hs (op_skew hi (by omega) _ _ _)) (fun a σ1 q => ?_)⟩
  obtain ⟨o2, w2⟩ := lwG hi hn hN q.2
  simp only [z10, z00, not_true_eq_false, not_false_eq_true, false_implies, true_implies, implies_true, nI_1, Int32.add_zero, true_or, or_true, true_and, and_true, eI_eq, eL_eq, eR_eq, eV_eq, lg_cmp_ge, lg_cmp_le, lg_cmp_gt, lg_cmp_lt, lg_cmp_eq, v_168_633, v_168_634, v_168_635, v_168_636, v_168_637, v_168_638, v_168_639, v_168_640, v_168_641, v_168_642, v_168_643, v_168_644, v_168_645, v_168_646, v_168_647, v_168_648, v_168_649, iK1, iK2, iK3, (w2 1 (by decide)).1, (w2 1 (by decide)).2, (w2 2 (by decide)).1, (w2 2 (by decide)).2, (w2 3 (by decide)).1, (w2 3 (by decide)).2]
  refine ⟨o2, CL_mono q.1 (fun b σ2 r => ?_)⟩
  rw [v_168_652, v_168_653, lg_cmp_eq]
  exact ⟨fun _ => h σ2 r.2, fun e => absurd r.1 e⟩
theorem lw_9 (hI : IV N xs σ n) (hN : N ≤ 704) (hn : 11 * n + 11 ≤ N) (h : ∀ σ2, IV N xs σ2 (n + 1) → Ev (d + 41, c, s) 168 1195 [aR (some 0), aR (some 1), aR (some 68), aI (nI (11 * n))] [] σ2 Q) : Ev (d + 41, c, s) 168 658 [aR (some 0), aR (some 1), aR (some 68), aI (nI (11 * n))] [] σ Q := by
  obtain ⟨L, S, D, ol, pth, hi⟩ := hI
  obtain ⟨o1, hs, w⟩ := lwF hi hn hN
  simp only [z10, z00, not_true_eq_false, not_false_eq_true, false_implies, true_implies, implies_true, nI_1, Int32.add_zero, true_or, or_true, true_and, and_true, eI_eq, eL_eq, eR_eq, eV_eq, lg_cmp_ge, lg_cmp_le, lg_cmp_gt, lg_cmp_lt, lg_cmp_eq, v_168_658, v_168_659, v_168_660, v_168_661, v_168_662, v_168_663, v_168_664, iK1, (w 1 (by decide)).1, (w 1 (by decide)).2]
  refine ⟨o1, CI_mono (CI_k hs (op_ring hi (by omega) _)) (fun a σ1 q => ?_)⟩
  obtain ⟨o2, w2⟩ := lwG hi hn hN q.2
  simp only [z10, z00, not_true_eq_false, not_false_eq_true, false_implies, true_implies, implies_true, nI_1, Int32.add_zero, true_or, or_true, true_and, and_true, eI_eq, eL_eq, eR_eq, eV_eq, lg_cmp_ge, lg_cmp_le, lg_cmp_gt, lg_cmp_lt, lg_cmp_eq, v_168_667, v_168_668, v_168_669, v_168_670, v_168_671, v_168_672, v_168_673, iK1, (w2 1 (by decide)).1, (w2 1 (by decide)).2]
  refine ⟨o2, CI_mono q.1 (fun b σ2 r => ?_)⟩
  rw [v_168_676]
  exact ⟨fun _ => h σ2 r.2, fun e => absurd r.1 e⟩
theorem lw_10 (hI : IV N xs σ n) (hN : N ≤ 704) (hn : 11 * n + 11 ≤ N) (h : ∀ σ2, IV N xs σ2 (n + 1) → Ev (d + 41, c, s) 168 1195 [aR (some 0), aR (some 1), aR (some 68), aI (nI (11 * n))] [] σ2 Q) : Ev (d + 41, c, s) 168 681 [aR (some 0), aR (some 1), aR (some 68), aI (nI (11 * n))] [] σ Q := by
  obtain ⟨L, S, D, ol, pth, hi⟩ := hI
  obtain ⟨o1, hs, w⟩ := lwF hi hn hN
  simp only [z10, z00, not_true_eq_false, not_false_eq_true, false_implies, true_implies, implies_true, nI_1, Int32.add_zero, true_or, or_true, true_and, and_true, eI_eq, eL_eq, eR_eq, eV_eq, lg_cmp_ge, lg_cmp_le, lg_cmp_gt, lg_cmp_lt, lg_cmp_eq, v_168_681, v_168_682]
  refine ⟨o1, CI_mono (CI_k hs (op_put hi (by omega))) (fun a σ1 q => ?_)⟩
  obtain ⟨o2, w2⟩ := lwG hi hn hN q.2
  simp only [z10, z00, not_true_eq_false, not_false_eq_true, false_implies, true_implies, implies_true, nI_1, Int32.add_zero, true_or, or_true, true_and, and_true, eI_eq, eL_eq, eR_eq, eV_eq, lg_cmp_ge, lg_cmp_le, lg_cmp_gt, lg_cmp_lt, lg_cmp_eq, v_168_685, v_168_686]
  refine ⟨o2, CI_mono q.1 (fun b σ2 r => ?_)⟩
  rw [v_168_689]
  exact ⟨fun _ => h σ2 r.2, fun e => absurd r.1 e⟩
theorem lw_11 (hI : IV N xs σ n) (hN : N ≤ 704) (hn : 11 * n + 11 ≤ N) (h : ∀ σ2, IV N xs σ2 (n + 1) → Ev (d + 41, c, s) 168 1195 [aR (some 0), aR (some 1), aR (some 68), aI (nI (11 * n))] [] σ2 Q) : Ev (d + 41, c, s) 168 694 [aR (some 0), aR (some 1), aR (some 68), aI (nI (11 * n))] [] σ Q := by
  obtain ⟨L, S, D, ol, pth, hi⟩ := hI
  obtain ⟨o1, hs, w⟩ := lwF hi hn hN
  simp only [z10, z00, not_true_eq_false, not_false_eq_true, false_implies, true_implies, implies_true, nI_1, Int32.add_zero, true_or, or_true, true_and, and_true, eI_eq, eL_eq, eR_eq, eV_eq, lg_cmp_ge, lg_cmp_le, lg_cmp_gt, lg_cmp_lt, lg_cmp_eq, v_168_694, v_168_695, v_168_696, v_168_697, v_168_698, v_168_699, v_168_700, iK1, (w 1 (by decide)).1, (w 1 (by decide)).2]
  refine ⟨o1, CL_mono (CL_k hs (op_moved hi (by omega) _)) (fun a σ1 q => ?_)⟩
  obtain ⟨o2, w2⟩ := lwG hi hn hN q.2
  simp only [z10, z00, not_true_eq_false, not_false_eq_true, false_implies, true_implies, implies_true, nI_1, Int32.add_zero, true_or, or_true, true_and, and_true, eI_eq, eL_eq, eR_eq, eV_eq, lg_cmp_ge, lg_cmp_le, lg_cmp_gt, lg_cmp_lt, lg_cmp_eq, v_168_703, v_168_704, v_168_705, v_168_706, v_168_707, v_168_708, v_168_709, iK1, (w2 1 (by decide)).1, (w2 1 (by decide)).2]
  refine ⟨o2, CL_mono q.1 (fun b σ2 r => ?_)⟩
  rw [v_168_712, v_168_713, lg_cmp_eq]
  exact ⟨fun _ => h σ2 r.2, fun e => absurd r.1 e⟩
theorem lw_12 (hI : IV N xs σ n) (hN : N ≤ 704) (hn : 11 * n + 11 ≤ N) (h : ∀ σ2, IV N xs σ2 (n + 1) → Ev (d + 41, c, s) 168 1195 [aR (some 0), aR (some 1), aR (some 68), aI (nI (11 * n))] [] σ2 Q) : Ev (d + 41, c, s) 168 718 [aR (some 0), aR (some 1), aR (some 68), aI (nI (11 * n))] [] σ Q := by
  obtain ⟨L, S, D, ol, pth, hi⟩ := hI
  obtain ⟨o1, hs, w⟩ := lwF hi hn hN
  simp only [z10, z00, not_true_eq_false, not_false_eq_true, false_implies, true_implies, implies_true, nI_1, Int32.add_zero, true_or, or_true, true_and, and_true, eI_eq, eL_eq, eR_eq, eV_eq, lg_cmp_ge, lg_cmp_le, lg_cmp_gt, lg_cmp_lt, lg_cmp_eq, v_168_718, v_168_719, v_168_720, v_168_721, v_168_722, v_168_723, v_168_724, v_168_725, v_168_726, v_168_727, v_168_728, v_168_729, v_168_730, v_168_732, v_168_733, v_168_734, v_168_735, v_168_736, v_168_737, v_168_738, v_168_739, v_168_742, v_168_743, v_168_744, iK1, iK2, iK3, (w 1 (by decide)).1, (w 1 (by decide)).2, (w 2 (by decide)).1, (w 2 (by decide)).2, (w 3 (by decide)).1, (w 3 (by decide)).2]
  refine ⟨o1, CI_mono (CI_k hs (op_attempt hi (by omega) _ _)) (fun a σ1 q => ?_)⟩
  obtain ⟨o2, w2⟩ := lwG hi hn hN q.2
  simp only [z10, z00, not_true_eq_false, not_false_eq_true, false_implies, true_implies, implies_true, nI_1, Int32.add_zero, true_or, or_true, true_and, and_true, eI_eq, eL_eq, eR_eq, eV_eq, lg_cmp_ge, lg_cmp_le, lg_cmp_gt, lg_cmp_lt, lg_cmp_eq, v_168_747, v_168_748, v_168_749, v_168_750, v_168_751, v_168_752, v_168_753, v_168_754, v_168_755, v_168_756, v_168_757, v_168_758, v_168_759, v_168_761, v_168_762, v_168_763, v_168_764, v_168_765, v_168_766, v_168_767, v_168_768, v_168_771, v_168_772, v_168_773, iK1, iK2, iK3, (w2 1 (by decide)).1, (w2 1 (by decide)).2, (w2 2 (by decide)).1, (w2 2 (by decide)).2, (w2 3 (by decide)).1, (w2 3 (by decide)).2]
  refine ⟨o2, CI_mono q.1 (fun b σ2 r => ?_)⟩
  rw [v_168_776]
  exact ⟨fun _ => h σ2 r.2, fun e => absurd r.1 e⟩
theorem lw_13 (hI : IV N xs σ n) (hN : N ≤ 704) (hn : 11 * n + 11 ≤ N) (h : ∀ σ2, IV N xs σ2 (n + 1) → Ev (d + 41, c, s) 168 1195 [aR (some 0), aR (some 1), aR (some 68), aI (nI (11 * n))] [] σ2 Q) : Ev (d + 41, c, s) 168 781 [aR (some 0), aR (some 1), aR (some 68), aI (nI (11 * n))] [] σ Q := by
  obtain ⟨L, S, D, ol, pth, hi⟩ := hI
  obtain ⟨o1, hs, w⟩ := lwF hi hn hN
  simp only [z10, z00, not_true_eq_false, not_false_eq_true, false_implies, true_implies, implies_true, nI_1, Int32.add_zero, true_or, or_true, true_and, and_true, eI_eq, eL_eq, eR_eq, eV_eq, lg_cmp_ge, lg_cmp_le, lg_cmp_gt, lg_cmp_lt, lg_cmp_eq, v_168_781, v_168_782]
  refine ⟨o1, CI_mono (CI_k hs (op_check hi (by omega))) (fun a σ1 q => ?_)⟩
  obtain ⟨o2, w2⟩ := lwG hi hn hN q.2
  simp only [z10, z00, not_true_eq_false, not_false_eq_true, false_implies, true_implies, implies_true, nI_1, Int32.add_zero, true_or, or_true, true_and, and_true, eI_eq, eL_eq, eR_eq, eV_eq, lg_cmp_ge, lg_cmp_le, lg_cmp_gt, lg_cmp_lt, lg_cmp_eq, v_168_785, v_168_786]
  refine ⟨o2, CI_mono q.1 (fun b σ2 r => ?_)⟩
  rw [v_168_789]
  exact ⟨fun _ => h σ2 r.2, fun e => absurd r.1 e⟩
theorem lw_14 (hI : IV N xs σ n) (hN : N ≤ 704) (hn : 11 * n + 11 ≤ N) (h : ∀ σ2, IV N xs σ2 (n + 1) → Ev (d + 41, c, s) 168 1195 [aR (some 0), aR (some 1), aR (some 68), aI (nI (11 * n))] [] σ2 Q) : Ev (d + 41, c, s) 168 794 [aR (some 0), aR (some 1), aR (some 68), aI (nI (11 * n))] [] σ Q := by
  obtain ⟨L, S, D, ol, pth, hi⟩ := hI
  obtain ⟨o1, hs, w⟩ := lwF hi hn hN
  simp only [z10, z00, not_true_eq_false, not_false_eq_true, false_implies, true_implies, implies_true, nI_1, Int32.add_zero, true_or, or_true, true_and, and_true, eI_eq, eL_eq, eR_eq, eV_eq, lg_cmp_ge, lg_cmp_le, lg_cmp_gt, lg_cmp_lt, lg_cmp_eq, v_168_794, v_168_795, v_168_796, v_168_797, v_168_798, v_168_799, v_168_800, v_168_801, v_168_802, v_168_803, v_168_804, v_168_805, iK1, iK2, (w 1 (by decide)).1, (w 1 (by decide)).2, (w 2 (by decide)).1, (w 2 (by decide)).2]
  refine ⟨o1, CI_mono (CI_k hs (op_way hi (by omega) _ _)) (fun a σ1 q => ?_)⟩
  obtain ⟨o2, w2⟩ := lwG hi hn hN q.2
  simp only [z10, z00, not_true_eq_false, not_false_eq_true, false_implies, true_implies, implies_true, nI_1, Int32.add_zero, true_or, or_true, true_and, and_true, eI_eq, eL_eq, eR_eq, eV_eq, lg_cmp_ge, lg_cmp_le, lg_cmp_gt, lg_cmp_lt, lg_cmp_eq, v_168_808, v_168_809, v_168_810, v_168_811, v_168_812, v_168_813, v_168_814, v_168_815, v_168_816, v_168_817, v_168_818, v_168_819, iK1, iK2, (w2 1 (by decide)).1, (w2 1 (by decide)).2, (w2 2 (by decide)).1, (w2 2 (by decide)).2]
  refine ⟨o2, CI_mono q.1 (fun b σ2 r => ?_)⟩
  rw [v_168_822]
  exact ⟨fun _ => h σ2 r.2, fun e => absurd r.1 e⟩
theorem lw_15 (hI : IV N xs σ n) (hN : N ≤ 704) (hn : 11 * n + 11 ≤ N) (h : ∀ σ2, IV N xs σ2 (n + 1) → Ev (d + 41, c, s) 168 1195 [aR (some 0), aR (some 1), aR (some 68), aI (nI (11 * n))] [] σ2 Q) : Ev (d + 41, c, s) 168 827 [aR (some 0), aR (some 1), aR (some 68), aI (nI (11 * n))] [] σ Q := by
  obtain ⟨L, S, D, ol, pth, hi⟩ := hI
  obtain ⟨o1, hs, w⟩ := lwF hi hn hN
  simp only [z10, z00, not_true_eq_false, not_false_eq_true, false_implies, true_implies, implies_true, nI_1, Int32.add_zero, true_or, or_true, true_and, and_true, eI_eq, eL_eq, eR_eq, eV_eq, lg_cmp_ge, lg_cmp_le, lg_cmp_gt, lg_cmp_lt, lg_cmp_eq, v_168_827, v_168_828, v_168_829, v_168_830, v_168_831, v_168_832, v_168_833, v_168_834, v_168_835, v_168_836, v_168_837, v_168_838, iK1, iK2, (w 1 (by decide)).1, (w 1 (by decide)).2, (w 2 (by decide)).1, (w 2 (by decide)).2]
  refine ⟨o1, CL_mono (CL_k hs (op_part hi (by omega) _ _)) (fun a σ1 q => ?_)⟩
  obtain ⟨o2, w2⟩ := lwG hi hn hN q.2
  simp only [z10, z00, not_true_eq_false, not_false_eq_true, false_implies, true_implies, implies_true, nI_1, Int32.add_zero, true_or, or_true, true_and, and_true, eI_eq, eL_eq, eR_eq, eV_eq, lg_cmp_ge, lg_cmp_le, lg_cmp_gt, lg_cmp_lt, lg_cmp_eq, v_168_841, v_168_842, v_168_843, v_168_844, v_168_845, v_168_846, v_168_847, v_168_848, v_168_849, v_168_850, v_168_851, v_168_852, iK1, iK2, (w2 1 (by decide)).1, (w2 1 (by decide)).2, (w2 2 (by decide)).1, (w2 2 (by decide)).2]
  refine ⟨o2, CL_mono q.1 (fun b σ2 r => ?_)⟩
  rw [v_168_855, v_168_856, lg_cmp_eq]
  exact ⟨fun _ => h σ2 r.2, fun e => absurd r.1 e⟩
theorem lw_16 (hI : IV N xs σ n) (hN : N ≤ 704) (hn : 11 * n + 11 ≤ N) (h : ∀ σ2, IV N xs σ2 (n + 1) → Ev (d + 41, c, s) 168 1195 [aR (some 0), aR (some 1), aR (some 68), aI (nI (11 * n))] [] σ2 Q) : Ev (d + 41, c, s) 168 861 [aR (some 0), aR (some 1), aR (some 68), aI (nI (11 * n))] [] σ Q := by
  obtain ⟨L, S, D, ol, pth, hi⟩ := hI
  obtain ⟨o1, hs, w⟩ := lwF hi hn hN
  simp only [z10, z00, not_true_eq_false, not_false_eq_true, false_implies, true_implies, implies_true, nI_1, Int32.add_zero, true_or, or_true, true_and, and_true, eI_eq, eL_eq, eR_eq, eV_eq, lg_cmp_ge, lg_cmp_le, lg_cmp_gt, lg_cmp_lt, lg_cmp_eq, v_168_861, v_168_862, v_168_863, v_168_864, v_168_865, v_168_866, v_168_867, v_168_868, v_168_869, v_168_870, v_168_871, v_168_872, iK1, iK2, (w 1 (by decide)).1, (w 1 (by decide)).2, (w 2 (by decide)).1, (w 2 (by decide)).2]
  refine ⟨o1, CL_mono (CL_k hs (op_share hi (by omega) _ _)) (fun a σ1 q => ?_)⟩
  obtain ⟨o2, w2⟩ := lwG hi hn hN q.2
  simp only [z10, z00, not_true_eq_false, not_false_eq_true, false_implies, true_implies, implies_true, nI_1, Int32.add_zero, true_or, or_true, true_and, and_true, eI_eq, eL_eq, eR_eq, eV_eq, lg_cmp_ge, lg_cmp_le, lg_cmp_gt, lg_cmp_lt, lg_cmp_eq, v_168_875, v_168_876, v_168_877, v_168_878, v_168_879, v_168_880, v_168_881, v_168_882, v_168_883, v_168_884, v_168_885, v_168_886, iK1, iK2, (w2 1 (by decide)).1, (w2 1 (by decide)).2, (w2 2 (by decide)).1, (w2 2 (by decide)).2]
  refine ⟨o2, CL_mono q.1 (fun b σ2 r => ?_)⟩
  rw [v_168_889, v_168_890, lg_cmp_eq]
  exact ⟨fun _ => h σ2 r.2, fun e => absurd r.1 e⟩
theorem lw_17 (hI : IV N xs σ n) (hN : N ≤ 704) (hn : 11 * n + 11 ≤ N) (h : ∀ σ2, IV N xs σ2 (n + 1) → Ev (d + 41, c, s) 168 1195 [aR (some 0), aR (some 1), aR (some 68), aI (nI (11 * n))] [] σ2 Q) : Ev (d + 41, c, s) 168 895 [aR (some 0), aR (some 1), aR (some 68), aI (nI (11 * n))] [] σ Q := by
  obtain ⟨L, S, D, ol, pth, hi⟩ := hI
  obtain ⟨o1, hs, w⟩ := lwF hi hn hN
  simp only [z10, z00, not_true_eq_false, not_false_eq_true, false_implies, true_implies, implies_true, nI_1, Int32.add_zero, true_or, or_true, true_and, and_true, eI_eq, eL_eq, eR_eq, eV_eq, lg_cmp_ge, lg_cmp_le, lg_cmp_gt, lg_cmp_lt, lg_cmp_eq, v_168_895, v_168_896, v_168_897, v_168_898, v_168_899, v_168_900, v_168_901, v_168_902, v_168_903, v_168_904, v_168_905, v_168_906, iK1, iK2, (w 1 (by decide)).1, (w 1 (by decide)).2, (w 2 (by decide)).1, (w 2 (by decide)).2]
  refine ⟨o1, CI_mono (CI_k hs (op_slow hi (by omega) _ _)) (fun a σ1 q => ?_)⟩
  obtain ⟨o2, w2⟩ := lwG hi hn hN q.2
  simp only [z10, z00, not_true_eq_false, not_false_eq_true, false_implies, true_implies, implies_true, nI_1, Int32.add_zero, true_or, or_true, true_and, and_true, eI_eq, eL_eq, eR_eq, eV_eq, lg_cmp_ge, lg_cmp_le, lg_cmp_gt, lg_cmp_lt, lg_cmp_eq, v_168_909, v_168_910, v_168_911, v_168_912, v_168_913, v_168_914, v_168_915, v_168_916, v_168_917, v_168_918, v_168_919, v_168_920, iK1, iK2, (w2 1 (by decide)).1, (w2 1 (by decide)).2, (w2 2 (by decide)).1, (w2 2 (by decide)).2]
  refine ⟨o2, CI_mono q.1 (fun b σ2 r => ?_)⟩
  rw [v_168_923]
  exact ⟨fun _ => h σ2 r.2, fun e => absurd r.1 e⟩
theorem lw_18 (hI : IV N xs σ n) (hN : N ≤ 704) (hn : 11 * n + 11 ≤ N) (h : ∀ σ2, IV N xs σ2 (n + 1) → Ev (d + 41, c, s) 168 1195 [aR (some 0), aR (some 1), aR (some 68), aI (nI (11 * n))] [] σ2 Q) : Ev (d + 41, c, s) 168 928 [aR (some 0), aR (some 1), aR (some 68), aI (nI (11 * n))] [] σ Q := by
  obtain ⟨L, S, D, ol, pth, hi⟩ := hI
  obtain ⟨o1, hs, w⟩ := lwF hi hn hN
  simp only [z10, z00, not_true_eq_false, not_false_eq_true, false_implies, true_implies, implies_true, nI_1, Int32.add_zero, true_or, or_true, true_and, and_true, eI_eq, eL_eq, eR_eq, eV_eq, lg_cmp_ge, lg_cmp_le, lg_cmp_gt, lg_cmp_lt, lg_cmp_eq, v_168_928, v_168_929, v_168_930, v_168_931, v_168_932, v_168_933, v_168_934, iK1, (w 1 (by decide)).1, (w 1 (by decide)).2]
  refine ⟨o1, CI_mono (CI_k hs (op_quota hi (by omega) _)) (fun a σ1 q => ?_)⟩
  obtain ⟨o2, w2⟩ := lwG hi hn hN q.2
  simp only [z10, z00, not_true_eq_false, not_false_eq_true, false_implies, true_implies, implies_true, nI_1, Int32.add_zero, true_or, or_true, true_and, and_true, eI_eq, eL_eq, eR_eq, eV_eq, lg_cmp_ge, lg_cmp_le, lg_cmp_gt, lg_cmp_lt, lg_cmp_eq, v_168_937, v_168_938, v_168_939, v_168_940, v_168_941, v_168_942, v_168_943, iK1, (w2 1 (by decide)).1, (w2 1 (by decide)).2]
  refine ⟨o2, CI_mono q.1 (fun b σ2 r => ?_)⟩
  rw [v_168_946]
  exact ⟨fun _ => h σ2 r.2, fun e => absurd r.1 e⟩
theorem lw_19 (hI : IV N xs σ n) (hN : N ≤ 704) (hn : 11 * n + 11 ≤ N) (h : ∀ σ2, IV N xs σ2 (n + 1) → Ev (d + 41, c, s) 168 1195 [aR (some 0), aR (some 1), aR (some 68), aI (nI (11 * n))] [] σ2 Q) : Ev (d + 41, c, s) 168 951 [aR (some 0), aR (some 1), aR (some 68), aI (nI (11 * n))] [] σ Q := by
  obtain ⟨L, S, D, ol, pth, hi⟩ := hI
  obtain ⟨o1, hs, w⟩ := lwF hi hn hN
  simp only [z10, z00, not_true_eq_false, not_false_eq_true, false_implies, true_implies, implies_true, nI_1, Int32.add_zero, true_or, or_true, true_and, and_true, eI_eq, eL_eq, eR_eq, eV_eq, lg_cmp_ge, lg_cmp_le, lg_cmp_gt, lg_cmp_lt, lg_cmp_eq, v_168_951, v_168_952, v_168_953, v_168_954, v_168_955, v_168_956, v_168_957, iK1, (w 1 (by decide)).1, (w 1 (by decide)).2]
  refine ⟨o1, CI_mono (CI_k hs (op_close hi (by omega) _)) (fun a σ1 q => ?_)⟩
  obtain ⟨o2, w2⟩ := lwG hi hn hN q.2
  simp only [z10, z00, not_true_eq_false, not_false_eq_true, false_implies, true_implies, implies_true, nI_1, Int32.add_zero, true_or, or_true, true_and, and_true, eI_eq, eL_eq, eR_eq, eV_eq, lg_cmp_ge, lg_cmp_le, lg_cmp_gt, lg_cmp_lt, lg_cmp_eq, v_168_960, v_168_961, v_168_962, v_168_963, v_168_964, v_168_965, v_168_966, iK1, (w2 1 (by decide)).1, (w2 1 (by decide)).2]
  refine ⟨o2, CI_mono q.1 (fun b σ2 r => ?_)⟩
  rw [v_168_969]
  exact ⟨fun _ => h σ2 r.2, fun e => absurd r.1 e⟩
theorem lw_20 (hI : IV N xs σ n) (hN : N ≤ 704) (hn : 11 * n + 11 ≤ N) (h : ∀ σ2, IV N xs σ2 (n + 1) → Ev (d + 41, c, s) 168 1195 [aR (some 0), aR (some 1), aR (some 68), aI (nI (11 * n))] [] σ2 Q) : Ev (d + 41, c, s) 168 974 [aR (some 0), aR (some 1), aR (some 68), aI (nI (11 * n))] [] σ Q := by
  obtain ⟨L, S, D, ol, pth, hi⟩ := hI
  obtain ⟨o1, hs, w⟩ := lwF hi hn hN
  simp only [z10, z00, not_true_eq_false, not_false_eq_true, false_implies, true_implies, implies_true, nI_1, Int32.add_zero, true_or, or_true, true_and, and_true, eI_eq, eL_eq, eR_eq, eV_eq, lg_cmp_ge, lg_cmp_le, lg_cmp_gt, lg_cmp_lt, lg_cmp_eq, v_168_974, v_168_975, v_168_976, v_168_977, v_168_978, v_168_979, v_168_980, iK1, (w 1 (by decide)).1, (w 1 (by decide)).2]
  refine ⟨o1, CI_mono (CI_k hs (op_kept hi (by omega) _)) (fun a σ1 q => ?_)⟩
  obtain ⟨o2, w2⟩ := lwG hi hn hN q.2
  simp only [z10, z00, not_true_eq_false, not_false_eq_true, false_implies, true_implies, implies_true, nI_1, Int32.add_zero, true_or, or_true, true_and, and_true, eI_eq, eL_eq, eR_eq, eV_eq, lg_cmp_ge, lg_cmp_le, lg_cmp_gt, lg_cmp_lt, lg_cmp_eq, v_168_983, v_168_984, v_168_985, v_168_986, v_168_987, v_168_988, v_168_989, iK1, (w2 1 (by decide)).1, (w2 1 (by decide)).2]
  refine ⟨o2, CI_mono q.1 (fun b σ2 r => ?_)⟩
  rw [v_168_992]
  exact ⟨fun _ => h σ2 r.2, fun e => absurd r.1 e⟩
theorem lw_21 (hI : IV N xs σ n) (hN : N ≤ 704) (hn : 11 * n + 11 ≤ N) (h : ∀ σ2, IV N xs σ2 (n + 1) → Ev (d + 41, c, s) 168 1195 [aR (some 0), aR (some 1), aR (some 68), aI (nI (11 * n))] [] σ2 Q) : Ev (d + 41, c, s) 168 997 [aR (some 0), aR (some 1), aR (some 68), aI (nI (11 * n))] [] σ Q := by
  obtain ⟨L, S, D, ol, pth, hi⟩ := hI
  obtain ⟨o1, hs, w⟩ := lwF hi hn hN
  simp only [z10, z00, not_true_eq_false, not_false_eq_true, false_implies, true_implies, implies_true, nI_1, Int32.add_zero, true_or, or_true, true_and, and_true, eI_eq, eL_eq, eR_eq, eV_eq, lg_cmp_ge, lg_cmp_le, lg_cmp_gt, lg_cmp_lt, lg_cmp_eq, v_168_997, v_168_998, v_168_999, v_168_1000, v_168_1001, v_168_1002, v_168_1003, iK1, (w 1 (by decide)).1, (w 1 (by decide)).2]
  refine ⟨o1, CI_mono (CI_k hs (op_stands hi (by omega) _)) (fun a σ1 q => ?_)⟩
  obtain ⟨o2, w2⟩ := lwG hi hn hN q.2
  simp only [z10, z00, not_true_eq_false, not_false_eq_true, false_implies, true_implies, implies_true, nI_1, Int32.add_zero, true_or, or_true, true_and, and_true, eI_eq, eL_eq, eR_eq, eV_eq, lg_cmp_ge, lg_cmp_le, lg_cmp_gt, lg_cmp_lt, lg_cmp_eq, v_168_1006, v_168_1007, v_168_1008, v_168_1009, v_168_1010, v_168_1011, v_168_1012, iK1, (w2 1 (by decide)).1, (w2 1 (by decide)).2]
  refine ⟨o2, CI_mono q.1 (fun b σ2 r => ?_)⟩
  rw [v_168_1015]
  exact ⟨fun _ => h σ2 r.2, fun e => absurd r.1 e⟩
theorem lw_22 (hI : IV N xs σ n) (hN : N ≤ 704) (hn : 11 * n + 11 ≤ N) (h : ∀ σ2, IV N xs σ2 (n + 1) → Ev (d + 41, c, s) 168 1195 [aR (some 0), aR (some 1), aR (some 68), aI (nI (11 * n))] [] σ2 Q) : Ev (d + 41, c, s) 168 1020 [aR (some 0), aR (some 1), aR (some 68), aI (nI (11 * n))] [] σ Q := by
  obtain ⟨L, S, D, ol, pth, hi⟩ := hI
  obtain ⟨o1, hs, w⟩ := lwF hi hn hN
  simp only [z10, z00, not_true_eq_false, not_false_eq_true, false_implies, true_implies, implies_true, nI_1, Int32.add_zero, true_or, or_true, true_and, and_true, eI_eq, eL_eq, eR_eq, eV_eq, lg_cmp_ge, lg_cmp_le, lg_cmp_gt, lg_cmp_lt, lg_cmp_eq, v_168_1020, v_168_1021, v_168_1022, v_168_1023, v_168_1024, v_168_1025, v_168_1026, iK1, (w 1 (by decide)).1, (w 1 (by decide)).2]
  refine ⟨o1, CI_mono (CI_k hs (op_drop hi (by omega) _)) (fun a σ1 q => ?_)⟩
  obtain ⟨o2, w2⟩ := lwG hi hn hN q.2
  simp only [z10, z00, not_true_eq_false, not_false_eq_true, false_implies, true_implies, implies_true, nI_1, Int32.add_zero, true_or, or_true, true_and, and_true, eI_eq, eL_eq, eR_eq, eV_eq, lg_cmp_ge, lg_cmp_le, lg_cmp_gt, lg_cmp_lt, lg_cmp_eq, v_168_1029, v_168_1030, v_168_1031, v_168_1032, v_168_1033, v_168_1034, v_168_1035, iK1, (w2 1 (by decide)).1, (w2 1 (by decide)).2]
  refine ⟨o2, CI_mono q.1 (fun b σ2 r => ?_)⟩
  rw [v_168_1038]
  exact ⟨fun _ => h σ2 r.2, fun e => absurd r.1 e⟩
theorem lw_23 (hI : IV N xs σ n) (hN : N ≤ 704) (hn : 11 * n + 11 ≤ N) (h : ∀ σ2, IV N xs σ2 (n + 1) → Ev (d + 41, c, s) 168 1195 [aR (some 0), aR (some 1), aR (some 68), aI (nI (11 * n))] [] σ2 Q) : Ev (d + 41, c, s) 168 1043 [aR (some 0), aR (some 1), aR (some 68), aI (nI (11 * n))] [] σ Q := by
  obtain ⟨L, S, D, ol, pth, hi⟩ := hI
  obtain ⟨o1, hs, w⟩ := lwF hi hn hN
  simp only [z10, z00, not_true_eq_false, not_false_eq_true, false_implies, true_implies, implies_true, nI_1, Int32.add_zero, true_or, or_true, true_and, and_true, eI_eq, eL_eq, eR_eq, eV_eq, lg_cmp_ge, lg_cmp_le, lg_cmp_gt, lg_cmp_lt, lg_cmp_eq, v_168_1043, v_168_1044, v_168_1045, v_168_1046, v_168_1047, v_168_1048, v_168_1049, v_168_1050, v_168_1051, v_168_1052, v_168_1053, v_168_1054, v_168_1055, v_168_1056, v_168_1057, v_168_1058, v_168_1059, iK1, iK2, iK3, (w 1 (by decide)).1, (w 1 (by decide)).2, (w 2 (by decide)).1, (w 2 (by decide)).2, (w 3 (by decide)).1, (w 3 (by decide)).2]
  refine ⟨o1, CI_mono (CI_k hs (op_total hi (by omega) _ _ _)) (fun a σ1 q => ?_)⟩
  obtain ⟨o2, w2⟩ := lwG hi hn hN q.2
  simp only [z10, z00, not_true_eq_false, not_false_eq_true, false_implies, true_implies, implies_true, nI_1, Int32.add_zero, true_or, or_true, true_and, and_true, eI_eq, eL_eq, eR_eq, eV_eq, lg_cmp_ge, lg_cmp_le, lg_cmp_gt, lg_cmp_lt, lg_cmp_eq, v_168_1062, v_168_1063, v_168_1064, v_168_1065, v_168_1066, v_168_1067, v_168_1068, v_168_1069, v_168_1070, v_168_1071, v_168_1072, v_168_1073, v_168_1074, v_168_1075, v_168_1076, v_168_1077, v_168_1078, iK1, iK2, iK3, (w2 1 (by decide)).1, (w2 1 (by decide)).2, (w2 2 (by decide)).1, (w2 2 (by decide)).2, (w2 3 (by decide)).1, (w2 3 (by decide)).2]
  refine ⟨o2, CI_mono q.1 (fun b σ2 r => ?_)⟩
  rw [v_168_1081]
  exact ⟨fun _ => h σ2 r.2, fun e => absurd r.1 e⟩
theorem lw_24 (hI : IV N xs σ n) (hN : N ≤ 704) (hn : 11 * n + 11 ≤ N) (h : ∀ σ2, IV N xs σ2 (n + 1) → Ev (d + 41, c, s) 168 1195 [aR (some 0), aR (some 1), aR (some 68), aI (nI (11 * n))] [] σ2 Q) : Ev (d + 41, c, s) 168 1086 [aR (some 0), aR (some 1), aR (some 68), aI (nI (11 * n))] [] σ Q := by
  obtain ⟨L, S, D, ol, pth, hi⟩ := hI
  obtain ⟨o1, hs, w⟩ := lwF hi hn hN
  simp only [z10, z00, not_true_eq_false, not_false_eq_true, false_implies, true_implies, implies_true, nI_1, Int32.add_zero, true_or, or_true, true_and, and_true, eI_eq, eL_eq, eR_eq, eV_eq, lg_cmp_ge, lg_cmp_le, lg_cmp_gt, lg_cmp_lt, lg_cmp_eq, v_168_1086, v_168_1087, v_168_1088, v_168_1089, v_168_1090, v_168_1091, v_168_1092, v_168_1093, v_168_1094, v_168_1095, v_168_1096, v_168_1097, v_168_1098, v_168_1099, v_168_1100, v_168_1101, v_168_1102, iK1, iK2, iK3, (w 1 (by decide)).1, (w 1 (by decide)).2, (w 2 (by decide)).1, (w 2 (by decide)).2, (w 3 (by decide)).1, (w 3 (by decide)).2]
  refine ⟨o1, CI_mono (CI_k hs (op_percent hi (by omega) _ _ _)) (fun a σ1 q => ?_)⟩
  obtain ⟨o2, w2⟩ := lwG hi hn hN q.2
  simp only [z10, z00, not_true_eq_false, not_false_eq_true, false_implies, true_implies, implies_true, nI_1, Int32.add_zero, true_or, or_true, true_and, and_true, eI_eq, eL_eq, eR_eq, eV_eq, lg_cmp_ge, lg_cmp_le, lg_cmp_gt, lg_cmp_lt, lg_cmp_eq, v_168_1105, v_168_1106, v_168_1107, v_168_1108, v_168_1109, v_168_1110, v_168_1111, v_168_1112, v_168_1113, v_168_1114, v_168_1115, v_168_1116, v_168_1117, v_168_1118, v_168_1119, v_168_1120, v_168_1121, iK1, iK2, iK3, (w2 1 (by decide)).1, (w2 1 (by decide)).2, (w2 2 (by decide)).1, (w2 2 (by decide)).2, (w2 3 (by decide)).1, (w2 3 (by decide)).2]
  refine ⟨o2, CI_mono q.1 (fun b σ2 r => ?_)⟩
  rw [v_168_1124]
  exact ⟨fun _ => h σ2 r.2, fun e => absurd r.1 e⟩
theorem lw_25 (hI : IV N xs σ n) (hN : N ≤ 704) (hn : 11 * n + 11 ≤ N) (h : ∀ σ2, IV N xs σ2 (n + 1) → Ev (d + 41, c, s) 168 1195 [aR (some 0), aR (some 1), aR (some 68), aI (nI (11 * n))] [] σ2 Q) : Ev (d + 41, c, s) 168 1129 [aR (some 0), aR (some 1), aR (some 68), aI (nI (11 * n))] [] σ Q := by
  obtain ⟨L, S, D, ol, pth, hi⟩ := hI
  obtain ⟨o1, hs, w⟩ := lwF hi hn hN
  simp only [z10, z00, not_true_eq_false, not_false_eq_true, false_implies, true_implies, implies_true, nI_1, Int32.add_zero, true_or, or_true, true_and, and_true, eI_eq, eL_eq, eR_eq, eV_eq, lg_cmp_ge, lg_cmp_le, lg_cmp_gt, lg_cmp_lt, lg_cmp_eq, v_168_1129, v_168_1130, v_168_1131, v_168_1132, v_168_1133, v_168_1134, v_168_1135, v_168_1136, v_168_1137, v_168_1138, v_168_1139, v_168_1140, v_168_1141, v_168_1142, v_168_1143, v_168_1144, v_168_1145, iK1, iK2, iK3, (w 1 (by decide)).1, (w 1 (by decide)).2, (w 2 (by decide)).1, (w 2 (by decide)).2, (w 3 (by decide)).1, (w 3 (by decide)).2]
  refine ⟨o1, CI_mono (CI_k hs (op_flow hi (by omega) _ _ _)) (fun a σ1 q => ?_)⟩
  obtain ⟨o2, w2⟩ := lwG hi hn hN q.2
  simp only [z10, z00, not_true_eq_false, not_false_eq_true, false_implies, true_implies, implies_true, nI_1, Int32.add_zero, true_or, or_true, true_and, and_true, eI_eq, eL_eq, eR_eq, eV_eq, lg_cmp_ge, lg_cmp_le, lg_cmp_gt, lg_cmp_lt, lg_cmp_eq, v_168_1148, v_168_1149, v_168_1150, v_168_1151, v_168_1152, v_168_1153, v_168_1154, v_168_1155, v_168_1156, v_168_1157, v_168_1158, v_168_1159, v_168_1160, v_168_1161, v_168_1162, v_168_1163, v_168_1164, iK1, iK2, iK3, (w2 1 (by decide)).1, (w2 1 (by decide)).2, (w2 2 (by decide)).1, (w2 2 (by decide)).2, (w2 3 (by decide)).1, (w2 3 (by decide)).2]
  refine ⟨o2, CI_mono q.1 (fun b σ2 r => ?_)⟩
  rw [v_168_1167]
  exact ⟨fun _ => h σ2 r.2, fun e => absurd r.1 e⟩
theorem lw_26 (hI : IV N xs σ n) (hN : N ≤ 704) (hn : 11 * n + 11 ≤ N) (h : ∀ σ2, IV N xs σ2 (n + 1) → Ev (d + 41, c, s) 168 1195 [aR (some 0), aR (some 1), aR (some 68), aI (nI (11 * n))] [] σ2 Q) : Ev (d + 41, c, s) 168 1172 [aR (some 0), aR (some 1), aR (some 68), aI (nI (11 * n))] [] σ Q := by
  obtain ⟨L, S, D, ol, pth, hi⟩ := hI
  obtain ⟨o1, hs, w⟩ := lwF hi hn hN
  simp only [z10, z00, not_true_eq_false, not_false_eq_true, false_implies, true_implies, implies_true, nI_1, Int32.add_zero, true_or, or_true, true_and, and_true, eI_eq, eL_eq, eR_eq, eV_eq, lg_cmp_ge, lg_cmp_le, lg_cmp_gt, lg_cmp_lt, lg_cmp_eq, v_168_1172, v_168_1173, v_168_1174, v_168_1175, v_168_1176, v_168_1177, v_168_1178, iK1, (w 1 (by decide)).1, (w 1 (by decide)).2]
  refine ⟨o1, CI_mono (CI_k hs (op_count hi (by omega) _)) (fun a σ1 q => ?_)⟩
  obtain ⟨o2, w2⟩ := lwG hi hn hN q.2
  simp only [z10, z00, not_true_eq_false, not_false_eq_true, false_implies, true_implies, implies_true, nI_1, Int32.add_zero, true_or, or_true, true_and, and_true, eI_eq, eL_eq, eR_eq, eV_eq, lg_cmp_ge, lg_cmp_le, lg_cmp_gt, lg_cmp_lt, lg_cmp_eq, v_168_1181, v_168_1182, v_168_1183, v_168_1184, v_168_1185, v_168_1186, v_168_1187, iK1, (w2 1 (by decide)).1, (w2 1 (by decide)).2]
  refine ⟨o2, CI_mono q.1 (fun b σ2 r => ?_)⟩
  rw [v_168_1190]
  exact ⟨fun _ => h σ2 r.2, fun e => absurd r.1 e⟩
end
