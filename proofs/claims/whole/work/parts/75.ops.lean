section LAW
variable {S : AScr} {m m1 m2 : AMem} {N N' : Nat → Nat} {B B' : Nat → Nat → Nat} {i : Nat}
/-- the script's word at i -/
def sw (S : AScr) (i : Nat) : Int32 := S.2 i
theorem nI_ix (h : i + 6 ≤ S.1) (hS : S.1 ≤ 3072) {d : Nat} (hd : d < 6) : nI i + nI d = nI (i + d) ∧ inB (nI (i + d)) S.1 = true ∧ (nI (i + d)).toNatClampNeg = i + d := ⟨nI_add i d, inB8 (by omega) (by omega), nI_cl8 (by omega)⟩
theorem lg_self {x : Int64} : lg_cmp x x = nI 0 := by
  unfold lg_cmp
  rw [if_neg (by simp), if_pos rfl]
  rfl
/-- an operation of the law: on both sides the same, and on to the next -/
def LO (S : AScr) (i pc : Nat) (m : AMem) : Prop := ∃ N' B' m2, Bs N' B' m2 ∧ Ca N' B' m2 ∧ ∀ (f : Nat) (Rt : Option Value → AMem → Prop), T S (f + 14) 193 pc [some (.ref 112), some (.ref 0), some (.ref 73), some (.int (nI i))] [] m Rt = T S (f + 14) 193 1275 [some (.ref 112), some (.ref 0), some (.ref 73), some (.int (nI i))] [] m2 Rt
theorem law_0 (hb : Bs N B m) (hc : Ca N B m) (h : i + 6 ≤ S.1) (hS : S.1 ≤ 3072) : LO S i 188 m := by
  have x1 := nI_ix h hS (d := 1) (by decide)
  have x2 := nI_ix h hS (d := 2) (by decide)
  have p : PR S 30 87 [some (.ref 0), some (.int (S.2 (i + 1))), some (.int (S.2 (i + 2))), none] [some (.ref 73), some (.int (S.2 (i + 1))), some (.int (S.2 (i + 2)))] m := p_type hb hc
  obtain ⟨r, m1, m2, N', B', k1, k2, e1, e2⟩ := p
  refine ⟨N', B', m2, k1, k2, fun f Rt => ?_⟩
  simp only [u193_188, u193_189, u193_190, u193_191, u193_192, u193_193, u193_194, u193_195, u193_196, u193_197, u193_198, u193_199, u193_202, u193_203, u193_204, u193_205, u193_206, u193_207, u193_208, u193_209, u193_210, u193_211, u193_212, u193_213, u193_216, pu_some, pu_none, x1.1, x1.2.1, x1.2.2, x2.1, x2.2.1, x2.2.2, e1, e2, if_true, true_and]
theorem law_1 (hb : Bs N B m) (hc : Ca N B m) (h : i + 6 ≤ S.1) (hS : S.1 ≤ 3072) : LO S i 221 m := by
  have x1 := nI_ix h hS (d := 1) (by decide)
  have p : PR S 35 90 [some (.ref 0), some (.int (S.2 (i + 1))), none] [some (.ref 73), some (.int (S.2 (i + 1))), none] m := p_wipe hb hc
  obtain ⟨r, m1, m2, N', B', k1, k2, e1, e2⟩ := p
  refine ⟨N', B', m2, k1, k2, fun f Rt => ?_⟩
  simp only [u193_221, u193_222, u193_223, u193_224, u193_225, u193_226, u193_227, u193_230, u193_231, u193_232, u193_233, u193_234, u193_235, u193_236, u193_239, pu_some, pu_none, x1.1, x1.2.1, x1.2.2, e1, e2, if_true, true_and]
theorem law_2 (hb : Bs N B m) (hc : Ca N B m) (h : i + 6 ≤ S.1) (hS : S.1 ≤ 3072) : LO S i 244 m := by
  have x1 := nI_ix h hS (d := 1) (by decide)
  have p : PR S 36 91 [some (.ref 0), some (.int (S.2 (i + 1)))] [some (.ref 73), some (.int (S.2 (i + 1)))] m := p_undo hb hc
  obtain ⟨r, m1, m2, N', B', k1, k2, e1, e2⟩ := p
  refine ⟨N', B', m2, k1, k2, fun f Rt => ?_⟩
  simp only [u193_244, u193_245, u193_246, u193_247, u193_248, u193_249, u193_250, u193_253, u193_254, u193_255, u193_256, u193_257, u193_258, u193_259, u193_262, pu_some, pu_none, x1.1, x1.2.1, x1.2.2, e1, e2, if_true, true_and]
theorem law_3 (hb : Bs N B m) (hc : Ca N B m) (h : i + 6 ≤ S.1) (hS : S.1 ≤ 3072) : LO S i 267 m := by
  have x1 := nI_ix h hS (d := 1) (by decide)
  have p : PR S 37 92 [some (.ref 0), some (.int (S.2 (i + 1)))] [some (.ref 73), some (.int (S.2 (i + 1)))] m := pr_q hb (c_fault hb hc) (fun m1 h1 k1 => m_fault h1)
  obtain ⟨r, m1, m2, N', B', k1, k2, e1, e2⟩ := p
  refine ⟨N', B', m2, k1, k2, fun f Rt => ?_⟩
  simp only [u193_267, u193_268, u193_269, u193_270, u193_271, u193_272, u193_273, u193_276, u193_277, u193_278, u193_279, u193_280, u193_281, u193_282, u193_285, pu_some, pu_none, x1.1, x1.2.1, x1.2.2, e1, e2, if_true, true_and]
theorem law_4 (hb : Bs N B m) (hc : Ca N B m) (h : i + 6 ≤ S.1) (hS : S.1 ≤ 3072) : LO S i 290 m := by
  have x1 := nI_ix h hS (d := 1) (by decide)
  have x2 := nI_ix h hS (d := 2) (by decide)
  have p : PR S 38 101 [some (.ref 0), some (.int (S.2 (i + 1))), some (.int (S.2 (i + 2)))] [some (.ref 73), some (.int (S.2 (i + 1))), some (.int (S.2 (i + 2)))] m := pr_q hb (c_sailor hb hc) (fun m1 h1 k1 => m_sailor h1)
  obtain ⟨r, m1, m2, N', B', k1, k2, e1, e2⟩ := p
  refine ⟨N', B', m2, k1, k2, fun f Rt => ?_⟩
  simp only [u193_290, u193_291, u193_292, u193_293, u193_294, u193_295, u193_296, u193_297, u193_298, u193_299, u193_300, u193_301, u193_304, u193_305, u193_306, u193_307, u193_308, u193_309, u193_310, u193_311, u193_312, u193_313, u193_314, u193_315, u193_318, pu_some, pu_none, x1.1, x1.2.1, x1.2.2, x2.1, x2.2.1, x2.2.2, e1, e2, if_true, true_and]
theorem law_5 (hb : Bs N B m) (hc : Ca N B m) (h : i + 6 ≤ S.1) (hS : S.1 ≤ 3072) : LO S i 323 m := by
  have x1 := nI_ix h hS (d := 1) (by decide)
  have x2 := nI_ix h hS (d := 2) (by decide)
  have p : PR S 40 105 [some (.ref 0), some (.int (S.2 (i + 1))), some (.int (S.2 (i + 2)))] [some (.ref 73), some (.int (S.2 (i + 1))), some (.int (S.2 (i + 2)))] m := pr_q hb (c_house hb hc) (fun m1 h1 k1 => m_house h1)
  obtain ⟨r, m1, m2, N', B', k1, k2, e1, e2⟩ := p
  refine ⟨N', B', m2, k1, k2, fun f Rt => ?_⟩
  simp only [u193_323, u193_324, u193_325, u193_326, u193_327, u193_328, u193_329, u193_330, u193_331, u193_332, u193_333, u193_334, u193_337, u193_338, u193_339, u193_340, u193_341, u193_342, u193_343, u193_344, u193_345, u193_346, u193_347, u193_348, u193_351, pu_some, pu_none, x1.1, x1.2.1, x1.2.2, x2.1, x2.2.1, x2.2.2, e1, e2, if_true, true_and]
theorem law_6 (hb : Bs N B m) (hc : Ca N B m) (h : i + 6 ≤ S.1) (hS : S.1 ≤ 3072) : LO S i 356 m := by
  have x1 := nI_ix h hS (d := 1) (by decide)
  have x2 := nI_ix h hS (d := 2) (by decide)
  have p : PR S 42 107 [some (.ref 0), some (.int (S.2 (i + 1))), some (.int (S.2 (i + 2)))] [some (.ref 73), some (.int (S.2 (i + 1))), some (.int (S.2 (i + 2)))] m := pr_q hb (c_ship hb hc) (fun m1 h1 k1 => m_ship h1)
  obtain ⟨r, m1, m2, N', B', k1, k2, e1, e2⟩ := p
  refine ⟨N', B', m2, k1, k2, fun f Rt => ?_⟩
  simp only [u193_356, u193_357, u193_358, u193_359, u193_360, u193_361, u193_362, u193_363, u193_364, u193_365, u193_366, u193_367, u193_370, u193_371, u193_372, u193_373, u193_374, u193_375, u193_376, u193_377, u193_378, u193_379, u193_380, u193_381, u193_384, pu_some, pu_none, x1.1, x1.2.1, x1.2.2, x2.1, x2.2.1, x2.2.2, e1, e2, if_true, true_and]
theorem law_7 (hb : Bs N B m) (hc : Ca N B m) (h : i + 6 ≤ S.1) (hS : S.1 ≤ 3072) : LO S i 389 m := by
  have x1 := nI_ix h hS (d := 1) (by decide)
  have p : PR S 44 110 [some (.ref 0), some (.int (S.2 (i + 1))), none] [some (.ref 73), some (.int (S.2 (i + 1))), none] m := p_cap hb hc
  obtain ⟨r, m1, m2, N', B', k1, k2, e1, e2⟩ := p
  refine ⟨N', B', m2, k1, k2, fun f Rt => ?_⟩
  simp only [u193_389, u193_390, u193_391, u193_392, u193_393, u193_394, u193_395, u193_398, u193_399, u193_400, u193_401, u193_402, u193_403, u193_404, u193_407, pu_some, pu_none, x1.1, x1.2.1, x1.2.2, e1, e2, if_true, true_and]
theorem law_8 (hb : Bs N B m) (hc : Ca N B m) (h : i + 6 ≤ S.1) (hS : S.1 ≤ 3072) : LO S i 412 m := by
  have x1 := nI_ix h hS (d := 1) (by decide)
  have x2 := nI_ix h hS (d := 2) (by decide)
  have p : PR S 45 111 [some (.ref 0), some (.int (S.2 (i + 1))), some (.int (S.2 (i + 2)))] [some (.ref 73), some (.int (S.2 (i + 1))), some (.int (S.2 (i + 2)))] m := pr_q hb (c_owes hb hc) (fun m1 h1 k1 => m_owes h1)
  obtain ⟨r, m1, m2, N', B', k1, k2, e1, e2⟩ := p
  refine ⟨N', B', m2, k1, k2, fun f Rt => ?_⟩
  simp only [u193_412, u193_413, u193_414, u193_415, u193_416, u193_417, u193_418, u193_419, u193_420, u193_421, u193_422, u193_423, u193_426, u193_427, u193_428, u193_429, u193_430, u193_431, u193_432, u193_433, u193_434, u193_435, u193_436, u193_437, u193_440, pu_some, pu_none, x1.1, x1.2.1, x1.2.2, x2.1, x2.2.1, x2.2.2, e1, e2, if_true, true_and]
theorem law_9 (hb : Bs N B m) (hc : Ca N B m) (h : i + 6 ≤ S.1) (hS : S.1 ≤ 3072) : LO S i 445 m := by
  have x1 := nI_ix h hS (d := 1) (by decide)
  have x2 := nI_ix h hS (d := 2) (by decide)
  have p : PR S 48 121 [some (.ref 0), some (.int (S.2 (i + 1))), some (.int (S.2 (i + 2)))] [some (.ref 73), some (.int (S.2 (i + 1))), some (.int (S.2 (i + 2)))] m := pr_q hb (c_purse hb hc) (fun m1 h1 k1 => m_purse h1)
  obtain ⟨r, m1, m2, N', B', k1, k2, e1, e2⟩ := p
  refine ⟨N', B', m2, k1, k2, fun f Rt => ?_⟩
  simp only [u193_445, u193_446, u193_447, u193_448, u193_449, u193_450, u193_451, u193_452, u193_453, u193_454, u193_455, u193_456, u193_459, u193_460, u193_461, u193_462, u193_463, u193_464, u193_465, u193_466, u193_467, u193_468, u193_469, u193_470, u193_473, pu_some, pu_none, x1.1, x1.2.1, x1.2.2, x2.1, x2.2.1, x2.2.2, e1, e2, if_true, true_and]
theorem law_10 (hb : Bs N B m) (hc : Ca N B m) (h : i + 6 ≤ S.1) (hS : S.1 ≤ 3072) : LO S i 478 m := by
  have x1 := nI_ix h hS (d := 1) (by decide)
  have x2 := nI_ix h hS (d := 2) (by decide)
  have p : PR S 49 123 [some (.ref 0), some (.int (S.2 (i + 1))), some (.int (S.2 (i + 2)))] [some (.ref 73), some (.int (S.2 (i + 1))), some (.int (S.2 (i + 2)))] m := pr_q hb (c_where hb hc) (fun m1 h1 k1 => m_where h1)
  obtain ⟨r, m1, m2, N', B', k1, k2, e1, e2⟩ := p
  refine ⟨N', B', m2, k1, k2, fun f Rt => ?_⟩
  simp only [u193_478, u193_479, u193_480, u193_481, u193_482, u193_483, u193_484, u193_485, u193_486, u193_487, u193_488, u193_489, u193_492, u193_493, u193_494, u193_495, u193_496, u193_497, u193_498, u193_499, u193_500, u193_501, u193_502, u193_503, u193_506, pu_some, pu_none, x1.1, x1.2.1, x1.2.2, x2.1, x2.2.1, x2.2.2, e1, e2, if_true, true_and]
theorem law_11 (hb : Bs N B m) (hc : Ca N B m) (h : i + 6 ≤ S.1) (hS : S.1 ≤ 3072) : LO S i 511 m := by
  have x1 := nI_ix h hS (d := 1) (by decide)
  have x2 := nI_ix h hS (d := 2) (by decide)
  have x3 := nI_ix h hS (d := 3) (by decide)
  have p : PR S 50 125 [some (.ref 0), some (.int (S.2 (i + 1))), some (.int (S.2 (i + 2))), some (.int (S.2 (i + 3)))] [some (.ref 73), some (.int (S.2 (i + 1))), some (.int (S.2 (i + 2))), some (.int (S.2 (i + 3)))] m := pr_q hb (c_takes hb hc) (fun m1 h1 k1 => m_takes h1)
  obtain ⟨r, m1, m2, N', B', k1, k2, e1, e2⟩ := p
  refine ⟨N', B', m2, k1, k2, fun f Rt => ?_⟩
  simp only [u193_511, u193_512, u193_513, u193_514, u193_515, u193_516, u193_517, u193_518, u193_519, u193_520, u193_521, u193_522, u193_523, u193_524, u193_525, u193_526, u193_527, u193_530, u193_531, u193_532, u193_533, u193_534, u193_535, u193_536, u193_537, u193_538, u193_539, u193_540, u193_541, u193_542, u193_543, u193_544, u193_545, u193_546, u193_549, pu_some, pu_none, x1.1, x1.2.1, x1.2.2, x2.1, x2.2.1, x2.2.2, x3.1, x3.2.1, x3.2.2, e1, e2, if_true, true_and]
theorem law_12 (hb : Bs N B m) (hc : Ca N B m) (h : i + 6 ≤ S.1) (hS : S.1 ≤ 3072) : LO S i 554 m := by
  have x1 := nI_ix h hS (d := 1) (by decide)
  have x2 := nI_ix h hS (d := 2) (by decide)
  have p : PR S 51 127 [some (.ref 0), some (.int (S.2 (i + 1))), some (.int (S.2 (i + 2))), none] [some (.ref 73), some (.int (S.2 (i + 1))), some (.int (S.2 (i + 2)))] m := pr_q hb (c_crew hb hc) (fun m1 h1 k1 => m_crew h1)
  obtain ⟨r, m1, m2, N', B', k1, k2, e1, e2⟩ := p
  refine ⟨N', B', m2, k1, k2, fun f Rt => ?_⟩
  simp only [u193_554, u193_555, u193_556, u193_557, u193_558, u193_559, u193_560, u193_561, u193_562, u193_563, u193_564, u193_565, u193_568, u193_569, u193_570, u193_571, u193_572, u193_573, u193_574, u193_575, u193_576, u193_577, u193_578, u193_579, u193_582, pu_some, pu_none, x1.1, x1.2.1, x1.2.2, x2.1, x2.2.1, x2.2.2, e1, e2, if_true, true_and]
theorem law_13 (hb : Bs N B m) (hc : Ca N B m) (h : i + 6 ≤ S.1) (hS : S.1 ≤ 3072) : LO S i 587 m := by
  have x1 := nI_ix h hS (d := 1) (by decide)
  have p : PR S 52 131 [some (.ref 0), some (.int (S.2 (i + 1))), none, none, none, none] [some (.ref 73), some (.int (S.2 (i + 1)))] m := pr_q hb (c_richest hb hc) (fun m1 h1 k1 => m_richest h1)
  obtain ⟨r, m1, m2, N', B', k1, k2, e1, e2⟩ := p
  refine ⟨N', B', m2, k1, k2, fun f Rt => ?_⟩
  simp only [u193_587, u193_588, u193_589, u193_590, u193_591, u193_592, u193_593, u193_596, u193_597, u193_598, u193_599, u193_600, u193_601, u193_602, u193_605, pu_some, pu_none, x1.1, x1.2.1, x1.2.2, e1, e2, if_true, true_and]
theorem law_14 (hb : Bs N B m) (hc : Ca N B m) (h : i + 6 ≤ S.1) (hS : S.1 ≤ 3072) : LO S i 610 m := by
  have p : PR S 53 133 [some (.ref 0)] [some (.ref 73)] m := pr_q hb (c_last hb hc) (fun m1 h1 k1 => m_last h1)
  obtain ⟨r, m1, m2, N', B', k1, k2, e1, e2⟩ := p
  refine ⟨N', B', m2, k1, k2, fun f Rt => ?_⟩
  simp only [u193_610, u193_611, u193_614, u193_615, u193_618, pu_some, pu_none, e1, e2, if_true, true_and]
theorem law_15 (hb : Bs N B m) (hc : Ca N B m) (h : i + 6 ≤ S.1) (hS : S.1 ≤ 3072) : LO S i 623 m := by
  have x1 := nI_ix h hS (d := 1) (by decide)
  have x2 := nI_ix h hS (d := 2) (by decide)
  have p : PR S 54 135 [some (.ref 0), some (.int (S.2 (i + 1))), some (.int (S.2 (i + 2))), none, none, none] [some (.ref 73), some (.int (S.2 (i + 1))), some (.int (S.2 (i + 2)))] m := pr_q hb (c_price hb hc) (fun m1 h1 k1 => m_price h1)
  obtain ⟨r, m1, m2, N', B', k1, k2, e1, e2⟩ := p
  refine ⟨N', B', m2, k1, k2, fun f Rt => ?_⟩
  simp only [u193_623, u193_624, u193_625, u193_626, u193_627, u193_628, u193_629, u193_630, u193_631, u193_632, u193_633, u193_634, u193_637, u193_638, u193_639, u193_640, u193_641, u193_642, u193_643, u193_644, u193_645, u193_646, u193_647, u193_648, u193_651, pu_some, pu_none, x1.1, x1.2.1, x1.2.2, x2.1, x2.2.1, x2.2.2, e1, e2, if_true, true_and]
theorem law_16 (hb : Bs N B m) (hc : Ca N B m) (h : i + 6 ≤ S.1) (hS : S.1 ≤ 3072) : LO S i 656 m := by
  have x1 := nI_ix h hS (d := 1) (by decide)
  have x2 := nI_ix h hS (d := 2) (by decide)
  have p : PR S 55 137 [some (.ref 0), some (.int (S.2 (i + 1))), some (.int (S.2 (i + 2))), none, none, none, none, none] [some (.ref 73), some (.int (S.2 (i + 1))), some (.int (S.2 (i + 2)))] m := pr_q hb (c_lodge hb hc) (fun m1 h1 k1 => m_lodge h1)
  obtain ⟨r, m1, m2, N', B', k1, k2, e1, e2⟩ := p
  refine ⟨N', B', m2, k1, k2, fun f Rt => ?_⟩
  simp only [u193_656, u193_657, u193_658, u193_659, u193_660, u193_661, u193_662, u193_663, u193_664, u193_665, u193_666, u193_667, u193_670, u193_671, u193_672, u193_673, u193_674, u193_675, u193_676, u193_677, u193_678, u193_679, u193_680, u193_681, u193_684, pu_some, pu_none, x1.1, x1.2.1, x1.2.2, x2.1, x2.2.1, x2.2.2, e1, e2, if_true, true_and]
theorem law_17 (hb : Bs N B m) (hc : Ca N B m) (h : i + 6 ≤ S.1) (hS : S.1 ≤ 3072) : LO S i 689 m := by
  have x1 := nI_ix h hS (d := 1) (by decide)
  have p : PR S 56 139 [some (.ref 0), some (.int (S.2 (i + 1))), none] [some (.ref 73), some (.int (S.2 (i + 1)))] m := pr_q hb (c_look hb hc) (fun m1 h1 k1 => m_look h1)
  obtain ⟨r, m1, m2, N', B', k1, k2, e1, e2⟩ := p
  refine ⟨N', B', m2, k1, k2, fun f Rt => ?_⟩
  simp only [u193_689, u193_690, u193_691, u193_692, u193_693, u193_694, u193_695, u193_698, u193_699, u193_700, u193_701, u193_702, u193_703, u193_704, u193_707, pu_some, pu_none, x1.1, x1.2.1, x1.2.2, e1, e2, if_true, true_and]
theorem law_18 (hb : Bs N B m) (hc : Ca N B m) (h : i + 6 ≤ S.1) (hS : S.1 ≤ 3072) : LO S i 712 m := by
  have x1 := nI_ix h hS (d := 1) (by decide)
  have x2 := nI_ix h hS (d := 2) (by decide)
  have p : PR S 57 141 [some (.ref 0), some (.int (S.2 (i + 1))), some (.int (S.2 (i + 2))), none, none] [some (.ref 73), some (.int (S.2 (i + 1))), some (.int (S.2 (i + 2)))] m := pr_q hb (c_leave hb hc) (fun m1 h1 k1 => m_leave h1)
  obtain ⟨r, m1, m2, N', B', k1, k2, e1, e2⟩ := p
  refine ⟨N', B', m2, k1, k2, fun f Rt => ?_⟩
  simp only [u193_712, u193_713, u193_714, u193_715, u193_716, u193_717, u193_718, u193_719, u193_720, u193_721, u193_722, u193_723, u193_726, u193_727, u193_728, u193_729, u193_730, u193_731, u193_732, u193_733, u193_734, u193_735, u193_736, u193_737, u193_740, pu_some, pu_none, x1.1, x1.2.1, x1.2.2, x2.1, x2.2.1, x2.2.2, e1, e2, if_true, true_and]
theorem law_19 (hb : Bs N B m) (hc : Ca N B m) (h : i + 6 ≤ S.1) (hS : S.1 ≤ 3072) : LO S i 745 m := by
  have x1 := nI_ix h hS (d := 1) (by decide)
  have x2 := nI_ix h hS (d := 2) (by decide)
  have x3 := nI_ix h hS (d := 3) (by decide)
  have p : PR S 61 145 [some (.ref 0), some (.int (S.2 (i + 1))), some (.int (S.2 (i + 2))), some (.int (S.2 (i + 3)))] [some (.ref 73), some (.int (S.2 (i + 1))), some (.int (S.2 (i + 2))), some (.int (S.2 (i + 3)))] m := p_seen hb hc
  obtain ⟨r, m1, m2, N', B', k1, k2, e1, e2⟩ := p
  refine ⟨N', B', m2, k1, k2, fun f Rt => ?_⟩
  simp only [u193_745, u193_746, u193_747, u193_748, u193_749, u193_750, u193_751, u193_752, u193_753, u193_754, u193_755, u193_756, u193_757, u193_758, u193_759, u193_760, u193_761, u193_764, u193_765, u193_766, u193_767, u193_768, u193_769, u193_770, u193_771, u193_772, u193_773, u193_774, u193_775, u193_776, u193_777, u193_778, u193_779, u193_780, u193_783, pu_some, pu_none, x1.1, x1.2.1, x1.2.2, x2.1, x2.2.1, x2.2.2, x3.1, x3.2.1, x3.2.2, e1, e2, if_true, true_and]
theorem law_20 (hb : Bs N B m) (hc : Ca N B m) (h : i + 6 ≤ S.1) (hS : S.1 ≤ 3072) : LO S i 788 m := by
  have p : PR S 62 146 [some (.ref 0), none] [some (.ref 73), none] m := p_forget hb hc
  obtain ⟨r, m1, m2, N', B', k1, k2, e1, e2⟩ := p
  refine ⟨N', B', m2, k1, k2, fun f Rt => ?_⟩
  simp only [u193_788, u193_789, u193_792, u193_793, u193_796, pu_some, pu_none, e1, e2, if_true, true_and]
theorem law_21 (hb : Bs N B m) (hc : Ca N B m) (h : i + 6 ≤ S.1) (hS : S.1 ≤ 3072) : LO S i 801 m := by
  have x1 := nI_ix h hS (d := 1) (by decide)
  have p : PR S 63 147 [some (.ref 0), some (.int (S.2 (i + 1))), none, none, none] [some (.ref 73), some (.int (S.2 (i + 1))), none] m := p_read hb hc
  obtain ⟨r, m1, m2, N', B', k1, k2, e1, e2⟩ := p
  refine ⟨N', B', m2, k1, k2, fun f Rt => ?_⟩
  simp only [u193_801, u193_802, u193_803, u193_804, u193_805, u193_806, u193_807, u193_810, u193_811, u193_812, u193_813, u193_814, u193_815, u193_816, u193_819, pu_some, pu_none, x1.1, x1.2.1, x1.2.2, e1, e2, if_true, true_and]
theorem law_22 (hb : Bs N B m) (hc : Ca N B m) (h : i + 6 ≤ S.1) (hS : S.1 ≤ 3072) : LO S i 824 m := by
  have p : PR S 65 150 [some (.ref 0)] [some (.ref 73)] m := pr_q hb (c_never hb hc) (fun m1 h1 k1 => m_never h1)
  obtain ⟨r, m1, m2, N', B', k1, k2, e1, e2⟩ := p
  refine ⟨N', B', m2, k1, k2, fun f Rt => ?_⟩
  simp only [u193_824, u193_825, u193_828, u193_829, u193_832, pu_some, pu_none, e1, e2, if_true, true_and]
theorem law_23 (hb : Bs N B m) (hc : Ca N B m) (h : i + 6 ≤ S.1) (hS : S.1 ≤ 3072) : LO S i 837 m := by
  have x1 := nI_ix h hS (d := 1) (by decide)
  have x2 := nI_ix h hS (d := 2) (by decide)
  have p : PR S 67 153 [some (.ref 0), some (.int (S.2 (i + 1))), some (.int (S.2 (i + 2))), none, none, none, none] [some (.ref 73), some (.int (S.2 (i + 1))), some (.int (S.2 (i + 2)))] m := pr_q hb (c_was hb hc) (fun m1 h1 k1 => m_was h1)
  obtain ⟨r, m1, m2, N', B', k1, k2, e1, e2⟩ := p
  refine ⟨N', B', m2, k1, k2, fun f Rt => ?_⟩
  simp only [u193_837, u193_838, u193_839, u193_840, u193_841, u193_842, u193_843, u193_844, u193_845, u193_846, u193_847, u193_848, u193_851, u193_852, u193_853, u193_854, u193_855, u193_856, u193_857, u193_858, u193_859, u193_860, u193_861, u193_862, u193_865, pu_some, pu_none, x1.1, x1.2.1, x1.2.2, x2.1, x2.2.1, x2.2.2, e1, e2, if_true, true_and]
theorem law_24 (hb : Bs N B m) (hc : Ca N B m) (h : i + 6 ≤ S.1) (hS : S.1 ≤ 3072) : LO S i 870 m := by
  have x1 := nI_ix h hS (d := 1) (by decide)
  have p : PR S 68 155 [some (.ref 0), some (.int (S.2 (i + 1))), none, none, none, none, none] [some (.ref 73), some (.int (S.2 (i + 1)))] m := pr_q hb (c_ask hb hc) (fun m1 h1 k1 => m_ask h1)
  obtain ⟨r, m1, m2, N', B', k1, k2, e1, e2⟩ := p
  refine ⟨N', B', m2, k1, k2, fun f Rt => ?_⟩
  simp only [u193_870, u193_871, u193_872, u193_873, u193_874, u193_875, u193_876, u193_879, u193_880, u193_881, u193_882, u193_883, u193_884, u193_885, u193_888, pu_some, pu_none, x1.1, x1.2.1, x1.2.2, e1, e2, if_true, true_and]
theorem law_25 (hb : Bs N B m) (hc : Ca N B m) (h : i + 6 ≤ S.1) (hS : S.1 ≤ 3072) : LO S i 893 m := by
  have x1 := nI_ix h hS (d := 1) (by decide)
  have x2 := nI_ix h hS (d := 2) (by decide)
  have x3 := nI_ix h hS (d := 3) (by decide)
  have x4 := nI_ix h hS (d := 4) (by decide)
  obtain ⟨m1, y1, a1, e1a⟩ := c_storm (S := S) hb hc (c := S.2 (i + 1)) (x := S.2 (i + 2)) (d := S.2 (i + 3)) (v := S.2 (i + 4))
  obtain ⟨m2, y2, e2⟩ := m_storm (S := S) (Bs_c hb y1) (c := S.2 (i + 1)) (x := S.2 (i + 2)) (d := S.2 (i + 3)) (v := S.2 (i + 4))
  have e1 := fun (f : Nat) (Rt : Option Value → AMem → Prop) => e1a (f + 4) Rt
  refine ⟨N, B, m2, Bs_m (Bs_c hb y1) y2, Ca_m a1 y2, fun f Rt => ?_⟩
  simp only [u193_893, u193_894, u193_895, u193_896, u193_897, u193_898, u193_899, u193_900, u193_901, u193_902, u193_903, u193_904, u193_905, u193_906, u193_907, u193_908, u193_909, u193_910, u193_911, u193_912, u193_913, u193_914, u193_917, u193_918, u193_919, u193_920, u193_921, u193_922, u193_923, u193_924, u193_925, u193_926, u193_927, u193_928, u193_929, u193_930, u193_931, u193_932, u193_933, u193_934, u193_935, u193_936, u193_937, u193_938, u193_941, u193_942, pu_some, pu_none, x1.1, x1.2.1, x1.2.2, x2.1, x2.2.1, x2.2.2, x3.1, x3.2.1, x3.2.2, x4.1, x4.2.1, x4.2.2, e1, e2, if_true, true_and, lg_self]
theorem law_26 (hb : Bs N B m) (hc : Ca N B m) (h : i + 6 ≤ S.1) (hS : S.1 ≤ 3072) : LO S i 947 m := by
  have x1 := nI_ix h hS (d := 1) (by decide)
  have x2 := nI_ix h hS (d := 2) (by decide)
  have p : PR S 72 161 [some (.ref 0), some (.int (S.2 (i + 1))), some (.int (S.2 (i + 2))), none, none] [some (.ref 73), some (.int (S.2 (i + 1))), some (.int (S.2 (i + 2)))] m := pr_q hb (c_port hb hc) (fun m1 h1 k1 => m_port h1)
  obtain ⟨r, m1, m2, N', B', k1, k2, e1, e2⟩ := p
  refine ⟨N', B', m2, k1, k2, fun f Rt => ?_⟩
  simp only [u193_947, u193_948, u193_949, u193_950, u193_951, u193_952, u193_953, u193_954, u193_955, u193_956, u193_957, u193_958, u193_961, u193_962, u193_963, u193_964, u193_965, u193_966, u193_967, u193_968, u193_969, u193_970, u193_971, u193_972, u193_975, pu_some, pu_none, x1.1, x1.2.1, x1.2.2, x2.1, x2.2.1, x2.2.2, e1, e2, if_true, true_and]
theorem law_27 (hb : Bs N B m) (hc : Ca N B m) (h : i + 6 ≤ S.1) (hS : S.1 ≤ 3072) : LO S i 980 m := by
  have x1 := nI_ix h hS (d := 1) (by decide)
  have x2 := nI_ix h hS (d := 2) (by decide)
  have x3 := nI_ix h hS (d := 3) (by decide)
  have p : PR S 73 164 [some (.ref 0), some (.int (S.2 (i + 1))), some (.int (S.2 (i + 2))), some (.int (S.2 (i + 3)))] [some (.ref 73), some (.int (S.2 (i + 1))), some (.int (S.2 (i + 2))), some (.int (S.2 (i + 3))), none] m := p_sheet hb hc
  obtain ⟨r, m1, m2, N', B', k1, k2, e1, e2⟩ := p
  refine ⟨N', B', m2, k1, k2, fun f Rt => ?_⟩
  simp only [u193_980, u193_981, u193_982, u193_983, u193_984, u193_985, u193_986, u193_987, u193_988, u193_989, u193_990, u193_991, u193_992, u193_993, u193_994, u193_995, u193_996, u193_999, u193_1000, u193_1001, u193_1002, u193_1003, u193_1004, u193_1005, u193_1006, u193_1007, u193_1008, u193_1009, u193_1010, u193_1011, u193_1012, u193_1013, u193_1014, u193_1015, u193_1018, pu_some, pu_none, x1.1, x1.2.1, x1.2.2, x2.1, x2.2.1, x2.2.2, x3.1, x3.2.1, x3.2.2, e1, e2, if_true, true_and]
theorem law_28 (hb : Bs N B m) (hc : Ca N B m) (h : i + 6 ≤ S.1) (hS : S.1 ≤ 3072) : LO S i 1023 m := by
  have x1 := nI_ix h hS (d := 1) (by decide)
  have p : PR S 74 165 [some (.ref 0), some (.int (S.2 (i + 1)))] [some (.ref 73), some (.int (S.2 (i + 1)))] m := p_lose hb hc
  obtain ⟨r, m1, m2, N', B', k1, k2, e1, e2⟩ := p
  refine ⟨N', B', m2, k1, k2, fun f Rt => ?_⟩
  simp only [u193_1023, u193_1024, u193_1025, u193_1026, u193_1027, u193_1028, u193_1029, u193_1032, u193_1033, u193_1034, u193_1035, u193_1036, u193_1037, u193_1038, u193_1041, pu_some, pu_none, x1.1, x1.2.1, x1.2.2, e1, e2, if_true, true_and]
theorem law_29 (hb : Bs N B m) (hc : Ca N B m) (h : i + 6 ≤ S.1) (hS : S.1 ≤ 3072) : LO S i 1046 m := by
  have x1 := nI_ix h hS (d := 1) (by decide)
  have x2 := nI_ix h hS (d := 2) (by decide)
  have x3 := nI_ix h hS (d := 3) (by decide)
  have x4 := nI_ix h hS (d := 4) (by decide)
  have p : PR S 75 166 [some (.ref 0), some (.int (S.2 (i + 1))), some (.int (S.2 (i + 2))), some (.int (S.2 (i + 3))), some (.int (S.2 (i + 4))), none] [some (.ref 73), some (.int (S.2 (i + 1))), some (.int (S.2 (i + 2))), some (.int (S.2 (i + 3))), some (.int (S.2 (i + 4))), none] m := p_put hb hc
  obtain ⟨r, m1, m2, N', B', k1, k2, e1, e2⟩ := p
  refine ⟨N', B', m2, k1, k2, fun f Rt => ?_⟩
  simp only [u193_1046, u193_1047, u193_1048, u193_1049, u193_1050, u193_1051, u193_1052, u193_1053, u193_1054, u193_1055, u193_1056, u193_1057, u193_1058, u193_1059, u193_1060, u193_1061, u193_1062, u193_1063, u193_1064, u193_1065, u193_1066, u193_1067, u193_1070, u193_1071, u193_1072, u193_1073, u193_1074, u193_1075, u193_1076, u193_1077, u193_1078, u193_1079, u193_1080, u193_1081, u193_1082, u193_1083, u193_1084, u193_1085, u193_1086, u193_1087, u193_1088, u193_1089, u193_1090, u193_1091, u193_1094, pu_some, pu_none, x1.1, x1.2.1, x1.2.2, x2.1, x2.2.1, x2.2.2, x3.1, x3.2.1, x3.2.2, x4.1, x4.2.1, x4.2.2, e1, e2, if_true, true_and]
theorem law_30 (hb : Bs N B m) (hc : Ca N B m) (h : i + 6 ≤ S.1) (hS : S.1 ≤ 3072) : LO S i 1099 m := by
  have x1 := nI_ix h hS (d := 1) (by decide)
  have x2 := nI_ix h hS (d := 2) (by decide)
  have x3 := nI_ix h hS (d := 3) (by decide)
  have p : PR S 77 169 [some (.ref 0), some (.int (S.2 (i + 1))), some (.int (S.2 (i + 2))), some (.int (S.2 (i + 3)))] [some (.ref 73), some (.int (S.2 (i + 1))), some (.int (S.2 (i + 2))), some (.int (S.2 (i + 3))), none] m := p_get hb hc
  obtain ⟨r, m1, m2, N', B', k1, k2, e1, e2⟩ := p
  refine ⟨N', B', m2, k1, k2, fun f Rt => ?_⟩
  simp only [u193_1099, u193_1100, u193_1101, u193_1102, u193_1103, u193_1104, u193_1105, u193_1106, u193_1107, u193_1108, u193_1109, u193_1110, u193_1111, u193_1112, u193_1113, u193_1114, u193_1115, u193_1118, u193_1119, u193_1120, u193_1121, u193_1122, u193_1123, u193_1124, u193_1125, u193_1126, u193_1127, u193_1128, u193_1129, u193_1130, u193_1131, u193_1132, u193_1133, u193_1134, u193_1137, pu_some, pu_none, x1.1, x1.2.1, x1.2.2, x2.1, x2.2.1, x2.2.2, x3.1, x3.2.1, x3.2.2, e1, e2, if_true, true_and]
theorem law_31 (hb : Bs N B m) (hc : Ca N B m) (h : i + 6 ≤ S.1) (hS : S.1 ≤ 3072) : LO S i 1142 m := by
  have x1 := nI_ix h hS (d := 1) (by decide)
  have x2 := nI_ix h hS (d := 2) (by decide)
  have x3 := nI_ix h hS (d := 3) (by decide)
  have x4 := nI_ix h hS (d := 4) (by decide)
  have x5 := nI_ix h hS (d := 5) (by decide)
  have p : PR S 78 170 [some (.ref 0), some (.int (S.2 (i + 1))), some (.int (S.2 (i + 2))), some (.int (S.2 (i + 3))), some (.int (S.2 (i + 4))), some (.int (S.2 (i + 5))), none, none] [some (.ref 73), some (.int (S.2 (i + 1))), some (.int (S.2 (i + 2))), some (.int (S.2 (i + 3))), some (.int (S.2 (i + 4))), some (.int (S.2 (i + 5))), none] m := p_copy hb hc
  obtain ⟨r, m1, m2, N', B', k1, k2, e1, e2⟩ := p
  refine ⟨N', B', m2, k1, k2, fun f Rt => ?_⟩
  simp only [u193_1142, u193_1143, u193_1144, u193_1145, u193_1146, u193_1147, u193_1148, u193_1149, u193_1150, u193_1151, u193_1152, u193_1153, u193_1154, u193_1155, u193_1156, u193_1157, u193_1158, u193_1159, u193_1160, u193_1161, u193_1162, u193_1163, u193_1164, u193_1165, u193_1166, u193_1167, u193_1168, u193_1171, u193_1172, u193_1173, u193_1174, u193_1175, u193_1176, u193_1177, u193_1178, u193_1179, u193_1180, u193_1181, u193_1182, u193_1183, u193_1184, u193_1185, u193_1186, u193_1187, u193_1188, u193_1189, u193_1190, u193_1191, u193_1192, u193_1193, u193_1194, u193_1195, u193_1196, u193_1197, u193_1200, pu_some, pu_none, x1.1, x1.2.1, x1.2.2, x2.1, x2.2.1, x2.2.2, x3.1, x3.2.1, x3.2.2, x4.1, x4.2.1, x4.2.2, x5.1, x5.2.1, x5.2.2, e1, e2, if_true, true_and]
theorem law_32 (hb : Bs N B m) (hc : Ca N B m) (h : i + 6 ≤ S.1) (hS : S.1 ≤ 3072) : LO S i 1205 m := by
  have x1 := nI_ix h hS (d := 1) (by decide)
  have x2 := nI_ix h hS (d := 2) (by decide)
  have p : PR S 79 171 [some (.ref 0), some (.int (S.2 (i + 1))), some (.int (S.2 (i + 2))), none, none, none] [some (.ref 73), some (.int (S.2 (i + 1))), some (.int (S.2 (i + 2))), none] m := p_write hb hc
  obtain ⟨r, m1, m2, N', B', k1, k2, e1, e2⟩ := p
  refine ⟨N', B', m2, k1, k2, fun f Rt => ?_⟩
  simp only [u193_1205, u193_1206, u193_1207, u193_1208, u193_1209, u193_1210, u193_1211, u193_1212, u193_1213, u193_1214, u193_1215, u193_1216, u193_1219, u193_1220, u193_1221, u193_1222, u193_1223, u193_1224, u193_1225, u193_1226, u193_1227, u193_1228, u193_1229, u193_1230, u193_1233, pu_some, pu_none, x1.1, x1.2.1, x1.2.2, x2.1, x2.2.1, x2.2.2, e1, e2, if_true, true_and]
theorem law_33 (hb : Bs N B m) (hc : Ca N B m) (h : i + 6 ≤ S.1) (hS : S.1 ≤ 3072) : LO S i 1238 m := by
  have x1 := nI_ix h hS (d := 1) (by decide)
  have p : PR S 80 172 [some (.ref 0), some (.int (S.2 (i + 1)))] [some (.ref 73), some (.int (S.2 (i + 1)))] m := pr_q hb (c_count hb hc) (fun m1 h1 k1 => by
    have e := m_count (S := S) h1 (v := S.2 (i + 1))
    rw [← h1.2.2.2.2.2.1, Kc_at k1 (by omega) (by omega)] at e
    exact e)
  obtain ⟨r, m1, m2, N', B', k1, k2, e1, e2⟩ := p
  refine ⟨N', B', m2, k1, k2, fun f Rt => ?_⟩
  simp only [u193_1238, u193_1239, u193_1240, u193_1241, u193_1242, u193_1243, u193_1244, u193_1247, u193_1248, u193_1249, u193_1250, u193_1251, u193_1252, u193_1253, u193_1256, pu_some, pu_none, x1.1, x1.2.1, x1.2.2, e1, e2, if_true, true_and]
theorem law_34 (hb : Bs N B m) (hc : Ca N B m) (h : i + 6 ≤ S.1) (hS : S.1 ≤ 3072) : LO S i 1261 m := by
  obtain ⟨m1, y1, a1, e1a⟩ := c_digest (S := S) hb hc
  obtain ⟨m2, y2, e2a⟩ := g_digest (S := S) (Bs_c hb y1)
  have e1 := fun (f : Nat) (Rt : Option Value → AMem → Prop) => e1a (f + 2) Rt
  have e2 := fun (f : Nat) (Rt : Option Value → AMem → Prop) => e2a (f + 3) Rt
  refine ⟨N, B, m2, Bs_m (Bs_c hb y1) y2, Ca_m a1 y2, fun f Rt => ?_⟩
  simp only [u193_1261, u193_1262, u193_1265, u193_1266, u193_1269, u193_1270, pu_some, pu_none, e1, e2, if_true, true_and, lg_self]
end LAW
