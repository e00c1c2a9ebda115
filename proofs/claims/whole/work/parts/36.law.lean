/-! the law's loop: any invariant that every pair of calls keeps (printed by wip/gen/lawloop.py) -/
def Pr (I : dm_G → Prop) (yC yM : Nat) (as : List Value) (σ : dm_G) : Prop := ∃ (v : Int32) (σ1 σ2 : dm_G), Er yC (.ref (0 : Nat) :: as) σ (some (.int v)) σ1 ∧ Er yM (.ref (118 : Nat) :: as) σ1 (some (.int v)) σ2 ∧ I σ2
theorem mask63 (x : Int32) : ∃ k, k < 64 ∧ x &&& nI 63 = nI k := by
  have hx : x = nI x.toUInt32.toNat := by
    apply Int32.toBitVec_inj.mp
    show x.toBitVec = BitVec.ofNat 32 x.toBitVec.toNat
    rw [BitVec.ofNat_toNat, BitVec.setWidth_eq]
  refine ⟨x.toUInt32.toNat &&& 63, Nat.lt_of_le_of_lt Nat.and_le_right (by decide), ?_⟩
  rw [← nI_and, ← hx]
section LW
variable {I : dm_G → Prop} {σ : dm_G} {L i : Nat} {xs : Nat → Int32} {Q : Option Value → dm_G → Prop}
theorem law_0 (hi : i + 4 ≤ L) (hL : L ≤ 2048) (hp : Pr I 76 131 [.int (xs (i + 1))] σ) (ih : ∀ σ', I σ' → Wq (some (L, xs)) 210 18 [some (.retAddr 0), some (.ref (0 : Nat)), some (.ref (118 : Nat)), some (.int (nI (i + 4)))] [] σ' Q) : Wq (some (L, xs)) 210 184 [some (.retAddr 0), some (.ref (0 : Nat)), some (.ref (118 : Nat)), some (.int (nI i))] [] σ Q := by
  obtain ⟨v, σ1, σ2, e1, e2, h3⟩ := hp
  simp only [w210_184, w210_185, w210_186, w210_187, w210_188, w210_189, w210_189s, w210_190, w210_193, w210_194, w210_195, w210_196, w210_197, w210_198, w210_198s, w210_199, w210_202, w210_205, w210_206, w210_1112, w210_1115, ks_0, ks_118, nI_add, in_nI (show i + 1 < L by omega) (by omega), nI_clamp (show i + 1 < 2 ^ 31 by omega), ↓reduceIte, Option.toList_some, List.cons_append, List.nil_append, Cq_of e1, Cq_of e2]
  exact ih σ2 h3
theorem law_1 (hi : i + 4 ≤ L) (hL : L ≤ 2048) (hp : Pr I 77 143 [] σ) (ih : ∀ σ', I σ' → Wq (some (L, xs)) 210 18 [some (.retAddr 0), some (.ref (0 : Nat)), some (.ref (118 : Nat)), some (.int (nI (i + 4)))] [] σ' Q) : Wq (some (L, xs)) 210 207 [some (.retAddr 0), some (.ref (0 : Nat)), some (.ref (118 : Nat)), some (.int (nI i))] [] σ Q := by
  obtain ⟨v, σ1, σ2, e1, e2, h3⟩ := hp
  simp only [w210_207, w210_208, w210_211, w210_212, w210_215, w210_218, w210_219, w210_1112, w210_1115, ks_0, ks_118, nI_add, ↓reduceIte, Option.toList_some, List.cons_append, List.nil_append, Cq_of e1, Cq_of e2]
  exact ih σ2 h3
theorem law_2 (hi : i + 4 ≤ L) (hL : L ≤ 2048) (hp : Pr I 78 144 [] σ) (ih : ∀ σ', I σ' → Wq (some (L, xs)) 210 18 [some (.retAddr 0), some (.ref (0 : Nat)), some (.ref (118 : Nat)), some (.int (nI (i + 4)))] [] σ' Q) : Wq (some (L, xs)) 210 220 [some (.retAddr 0), some (.ref (0 : Nat)), some (.ref (118 : Nat)), some (.int (nI i))] [] σ Q := by
  obtain ⟨v, σ1, σ2, e1, e2, h3⟩ := hp
  simp only [w210_220, w210_221, w210_224, w210_225, w210_228, w210_231, w210_232, w210_1112, w210_1115, ks_0, ks_118, nI_add, ↓reduceIte, Option.toList_some, List.cons_append, List.nil_append, Cq_of e1, Cq_of e2]
  exact ih σ2 h3
theorem law_3 (hi : i + 4 ≤ L) (hL : L ≤ 2048) (hp : Pr I 79 160 [.int (xs (i + 1))] σ) (ih : ∀ σ', I σ' → Wq (some (L, xs)) 210 18 [some (.retAddr 0), some (.ref (0 : Nat)), some (.ref (118 : Nat)), some (.int (nI (i + 4)))] [] σ' Q) : Wq (some (L, xs)) 210 233 [some (.retAddr 0), some (.ref (0 : Nat)), some (.ref (118 : Nat)), some (.int (nI i))] [] σ Q := by
  obtain ⟨v, σ1, σ2, e1, e2, h3⟩ := hp
  simp only [w210_233, w210_234, w210_235, w210_236, w210_237, w210_238, w210_238s, w210_239, w210_242, w210_243, w210_244, w210_245, w210_246, w210_247, w210_247s, w210_248, w210_251, w210_254, w210_255, w210_1112, w210_1115, ks_0, ks_118, nI_add, in_nI (show i + 1 < L by omega) (by omega), nI_clamp (show i + 1 < 2 ^ 31 by omega), ↓reduceIte, Option.toList_some, List.cons_append, List.nil_append, Cq_of e1, Cq_of e2]
  exact ih σ2 h3
theorem law_4 (hi : i + 4 ≤ L) (hL : L ≤ 2048) (hp : Pr I 80 161 [.int (xs (i + 1)), .int (xs (i + 2))] σ) (ih : ∀ σ', I σ' → Wq (some (L, xs)) 210 18 [some (.retAddr 0), some (.ref (0 : Nat)), some (.ref (118 : Nat)), some (.int (nI (i + 4)))] [] σ' Q) : Wq (some (L, xs)) 210 256 [some (.retAddr 0), some (.ref (0 : Nat)), some (.ref (118 : Nat)), some (.int (nI i))] [] σ Q := by
  obtain ⟨v, σ1, σ2, e1, e2, h3⟩ := hp
  simp only [w210_256, w210_257, w210_258, w210_259, w210_260, w210_261, w210_261s, w210_262, w210_263, w210_264, w210_265, w210_266, w210_266s, w210_267, w210_270, w210_271, w210_272, w210_273, w210_274, w210_275, w210_275s, w210_276, w210_277, w210_278, w210_279, w210_280, w210_280s, w210_281, w210_284, w210_287, w210_288, w210_1112, w210_1115, ks_0, ks_118, nI_add, in_nI (show i + 1 < L by omega) (by omega), nI_clamp (show i + 1 < 2 ^ 31 by omega), in_nI (show i + 2 < L by omega) (by omega), nI_clamp (show i + 2 < 2 ^ 31 by omega), ↓reduceIte, Option.toList_some, List.cons_append, List.nil_append, Cq_of e1, Cq_of e2]
  exact ih σ2 h3
theorem law_5 (hi : i + 4 ≤ L) (hL : L ≤ 2048) (hp : Pr I 81 162 [.int (xs (i + 1)), .int (xs (i + 2))] σ) (ih : ∀ σ', I σ' → Wq (some (L, xs)) 210 18 [some (.retAddr 0), some (.ref (0 : Nat)), some (.ref (118 : Nat)), some (.int (nI (i + 4)))] [] σ' Q) : Wq (some (L, xs)) 210 289 [some (.retAddr 0), some (.ref (0 : Nat)), some (.ref (118 : Nat)), some (.int (nI i))] [] σ Q := by
  obtain ⟨v, σ1, σ2, e1, e2, h3⟩ := hp
  simp only [w210_289, w210_290, w210_291, w210_292, w210_293, w210_294, w210_294s, w210_295, w210_296, w210_297, w210_298, w210_299, w210_299s, w210_300, w210_303, w210_304, w210_305, w210_306, w210_307, w210_308, w210_308s, w210_309, w210_310, w210_311, w210_312, w210_313, w210_313s, w210_314, w210_317, w210_320, w210_321, w210_1112, w210_1115, ks_0, ks_118, nI_add, in_nI (show i + 1 < L by omega) (by omega), nI_clamp (show i + 1 < 2 ^ 31 by omega), in_nI (show i + 2 < L by omega) (by omega), nI_clamp (show i + 2 < 2 ^ 31 by omega), ↓reduceIte, Option.toList_some, List.cons_append, List.nil_append, Cq_of e1, Cq_of e2]
  exact ih σ2 h3
theorem law_6 (hi : i + 4 ≤ L) (hL : L ≤ 2048) (hp : Pr I 82 163 [.int (xs (i + 1)), .int (xs (i + 2))] σ) (ih : ∀ σ', I σ' → Wq (some (L, xs)) 210 18 [some (.retAddr 0), some (.ref (0 : Nat)), some (.ref (118 : Nat)), some (.int (nI (i + 4)))] [] σ' Q) : Wq (some (L, xs)) 210 322 [some (.retAddr 0), some (.ref (0 : Nat)), some (.ref (118 : Nat)), some (.int (nI i))] [] σ Q := by
  obtain ⟨v, σ1, σ2, e1, e2, h3⟩ := hp
  simp only [w210_322, w210_323, w210_324, w210_325, w210_326, w210_327, w210_327s, w210_328, w210_329, w210_330, w210_331, w210_332, w210_332s, w210_333, w210_336, w210_337, w210_338, w210_339, w210_340, w210_341, w210_341s, w210_342, w210_343, w210_344, w210_345, w210_346, w210_346s, w210_347, w210_350, w210_353, w210_354, w210_1112, w210_1115, ks_0, ks_118, nI_add, in_nI (show i + 1 < L by omega) (by omega), nI_clamp (show i + 1 < 2 ^ 31 by omega), in_nI (show i + 2 < L by omega) (by omega), nI_clamp (show i + 2 < 2 ^ 31 by omega), ↓reduceIte, Option.toList_some, List.cons_append, List.nil_append, Cq_of e1, Cq_of e2]
  exact ih σ2 h3
theorem law_7 (hi : i + 4 ≤ L) (hL : L ≤ 2048) (hp : Pr I 85 167 [.int (xs (i + 1))] σ) (ih : ∀ σ', I σ' → Wq (some (L, xs)) 210 18 [some (.retAddr 0), some (.ref (0 : Nat)), some (.ref (118 : Nat)), some (.int (nI (i + 4)))] [] σ' Q) : Wq (some (L, xs)) 210 355 [some (.retAddr 0), some (.ref (0 : Nat)), some (.ref (118 : Nat)), some (.int (nI i))] [] σ Q := by
  obtain ⟨v, σ1, σ2, e1, e2, h3⟩ := hp
  simp only [w210_355, w210_356, w210_357, w210_358, w210_359, w210_360, w210_360s, w210_361, w210_364, w210_365, w210_366, w210_367, w210_368, w210_369, w210_369s, w210_370, w210_373, w210_376, w210_377, w210_1112, w210_1115, ks_0, ks_118, nI_add, in_nI (show i + 1 < L by omega) (by omega), nI_clamp (show i + 1 < 2 ^ 31 by omega), ↓reduceIte, Option.toList_some, List.cons_append, List.nil_append, Cq_of e1, Cq_of e2]
  exact ih σ2 h3
theorem law_8 (hi : i + 4 ≤ L) (hL : L ≤ 2048) (hp : Pr I 86 170 [.int (xs (i + 1)), .int (xs (i + 2))] σ) (ih : ∀ σ', I σ' → Wq (some (L, xs)) 210 18 [some (.retAddr 0), some (.ref (0 : Nat)), some (.ref (118 : Nat)), some (.int (nI (i + 4)))] [] σ' Q) : Wq (some (L, xs)) 210 378 [some (.retAddr 0), some (.ref (0 : Nat)), some (.ref (118 : Nat)), some (.int (nI i))] [] σ Q := by
  obtain ⟨v, σ1, σ2, e1, e2, h3⟩ := hp
  simp only [w210_378, w210_379, w210_380, w210_381, w210_382, w210_383, w210_383s, w210_384, w210_385, w210_386, w210_387, w210_388, w210_388s, w210_389, w210_392, w210_393, w210_394, w210_395, w210_396, w210_397, w210_397s, w210_398, w210_399, w210_400, w210_401, w210_402, w210_402s, w210_403, w210_406, w210_409, w210_410, w210_1112, w210_1115, ks_0, ks_118, nI_add, in_nI (show i + 1 < L by omega) (by omega), nI_clamp (show i + 1 < 2 ^ 31 by omega), in_nI (show i + 2 < L by omega) (by omega), nI_clamp (show i + 2 < 2 ^ 31 by omega), ↓reduceIte, Option.toList_some, List.cons_append, List.nil_append, Cq_of e1, Cq_of e2]
  exact ih σ2 h3
theorem law_9 (hi : i + 4 ≤ L) (hL : L ≤ 2048) (hp : Pr I 87 171 [.int (xs (i + 1)), .int (xs (i + 2))] σ) (ih : ∀ σ', I σ' → Wq (some (L, xs)) 210 18 [some (.retAddr 0), some (.ref (0 : Nat)), some (.ref (118 : Nat)), some (.int (nI (i + 4)))] [] σ' Q) : Wq (some (L, xs)) 210 411 [some (.retAddr 0), some (.ref (0 : Nat)), some (.ref (118 : Nat)), some (.int (nI i))] [] σ Q := by
  obtain ⟨v, σ1, σ2, e1, e2, h3⟩ := hp
  simp only [w210_411, w210_412, w210_413, w210_414, w210_415, w210_416, w210_416s, w210_417, w210_418, w210_419, w210_420, w210_421, w210_421s, w210_422, w210_425, w210_426, w210_427, w210_428, w210_429, w210_430, w210_430s, w210_431, w210_432, w210_433, w210_434, w210_435, w210_435s, w210_436, w210_439, w210_442, w210_443, w210_1112, w210_1115, ks_0, ks_118, nI_add, in_nI (show i + 1 < L by omega) (by omega), nI_clamp (show i + 1 < 2 ^ 31 by omega), in_nI (show i + 2 < L by omega) (by omega), nI_clamp (show i + 2 < 2 ^ 31 by omega), ↓reduceIte, Option.toList_some, List.cons_append, List.nil_append, Cq_of e1, Cq_of e2]
  exact ih σ2 h3
theorem law_10 (hi : i + 4 ≤ L) (hL : L ≤ 2048) (hp : ∀ b : Int32, b = nI 0 ∨ b = nI 1 → Pr I 88 172 [.int (xs (i + 1)), .int b] σ) (ih : ∀ σ', I σ' → Wq (some (L, xs)) 210 18 [some (.retAddr 0), some (.ref (0 : Nat)), some (.ref (118 : Nat)), some (.int (nI (i + 4)))] [] σ' Q) : Wq (some (L, xs)) 210 444 [some (.retAddr 0), some (.ref (0 : Nat)), some (.ref (118 : Nat)), some (.int (nI i))] [] σ Q := by
  by_cases hb : xs (i + 2) = nI 0
  · obtain ⟨v, σ1, σ2, e1, e2, h3⟩ := hp (nI 0) (by simp)
    simp only [w210_444, w210_445, w210_446, w210_447, w210_448, w210_449, w210_449s, w210_450, w210_451, w210_452, w210_453, w210_454, w210_454s, w210_455, w210_458, w210_459, w210_462, w210_463, w210_466, w210_467, w210_468, w210_469, w210_470, w210_471, w210_471s, w210_472, w210_473, w210_474, w210_475, w210_476, w210_476s, w210_477, w210_480, w210_481, w210_484, w210_485, w210_488, w210_491, w210_492, w210_1112, w210_1115, ks_0, ks_118, nI_add, in_nI (show i + 1 < L by omega) (by omega), nI_clamp (show i + 1 < 2 ^ 31 by omega), in_nI (show i + 2 < L by omega) (by omega), nI_clamp (show i + 2 < 2 ^ 31 by omega), ↓reduceIte, Option.toList_some, List.cons_append, List.nil_append, hb, Cq_of e1, Cq_of e2]
    exact ih σ2 h3
  · obtain ⟨v, σ1, σ2, e1, e2, h3⟩ := hp (nI 1) (by simp)
    simp only [w210_444, w210_445, w210_446, w210_447, w210_448, w210_449, w210_449s, w210_450, w210_451, w210_452, w210_453, w210_454, w210_454s, w210_455, w210_458, w210_459, w210_462, w210_463, w210_466, w210_467, w210_468, w210_469, w210_470, w210_471, w210_471s, w210_472, w210_473, w210_474, w210_475, w210_476, w210_476s, w210_477, w210_480, w210_481, w210_484, w210_485, w210_488, w210_491, w210_492, w210_1112, w210_1115, ks_0, ks_118, nI_add, in_nI (show i + 1 < L by omega) (by omega), nI_clamp (show i + 1 < 2 ^ 31 by omega), in_nI (show i + 2 < L by omega) (by omega), nI_clamp (show i + 2 < 2 ^ 31 by omega), ↓reduceIte, Option.toList_some, List.cons_append, List.nil_append, hb, Cq_of e1, Cq_of e2]
    exact ih σ2 h3
theorem law_11 (hi : i + 4 ≤ L) (hL : L ≤ 2048) (hp : Pr I 89 173 [.int (xs (i + 1)), .int (xs (i + 2))] σ) (ih : ∀ σ', I σ' → Wq (some (L, xs)) 210 18 [some (.retAddr 0), some (.ref (0 : Nat)), some (.ref (118 : Nat)), some (.int (nI (i + 4)))] [] σ' Q) : Wq (some (L, xs)) 210 493 [some (.retAddr 0), some (.ref (0 : Nat)), some (.ref (118 : Nat)), some (.int (nI i))] [] σ Q := by
  obtain ⟨v, σ1, σ2, e1, e2, h3⟩ := hp
  simp only [w210_493, w210_494, w210_495, w210_496, w210_497, w210_498, w210_498s, w210_499, w210_500, w210_501, w210_502, w210_503, w210_503s, w210_504, w210_507, w210_508, w210_509, w210_510, w210_511, w210_512, w210_512s, w210_513, w210_514, w210_515, w210_516, w210_517, w210_517s, w210_518, w210_521, w210_524, w210_525, w210_1112, w210_1115, ks_0, ks_118, nI_add, in_nI (show i + 1 < L by omega) (by omega), nI_clamp (show i + 1 < 2 ^ 31 by omega), in_nI (show i + 2 < L by omega) (by omega), nI_clamp (show i + 2 < 2 ^ 31 by omega), ↓reduceIte, Option.toList_some, List.cons_append, List.nil_append, Cq_of e1, Cq_of e2]
  exact ih σ2 h3
theorem law_12 (hi : i + 4 ≤ L) (hL : L ≤ 2048) (hp : Pr I 90 174 [.int (xs (i + 1))] σ) (ih : ∀ σ', I σ' → Wq (some (L, xs)) 210 18 [some (.retAddr 0), some (.ref (0 : Nat)), some (.ref (118 : Nat)), some (.int (nI (i + 4)))] [] σ' Q) : Wq (some (L, xs)) 210 526 [some (.retAddr 0), some (.ref (0 : Nat)), some (.ref (118 : Nat)), some (.int (nI i))] [] σ Q := by
  obtain ⟨v, σ1, σ2, e1, e2, h3⟩ := hp
  simp only [w210_526, w210_527, w210_528, w210_529, w210_530, w210_531, w210_531s, w210_532, w210_535, w210_536, w210_537, w210_538, w210_539, w210_540, w210_540s, w210_541, w210_544, w210_547, w210_548, w210_1112, w210_1115, ks_0, ks_118, nI_add, in_nI (show i + 1 < L by omega) (by omega), nI_clamp (show i + 1 < 2 ^ 31 by omega), ↓reduceIte, Option.toList_some, List.cons_append, List.nil_append, Cq_of e1, Cq_of e2]
  exact ih σ2 h3
theorem law_13 (hi : i + 4 ≤ L) (hL : L ≤ 2048) (hp : Pr I 91 177 [.int (xs (i + 1))] σ) (ih : ∀ σ', I σ' → Wq (some (L, xs)) 210 18 [some (.retAddr 0), some (.ref (0 : Nat)), some (.ref (118 : Nat)), some (.int (nI (i + 4)))] [] σ' Q) : Wq (some (L, xs)) 210 549 [some (.retAddr 0), some (.ref (0 : Nat)), some (.ref (118 : Nat)), some (.int (nI i))] [] σ Q := by
  obtain ⟨v, σ1, σ2, e1, e2, h3⟩ := hp
  simp only [w210_549, w210_550, w210_551, w210_552, w210_553, w210_554, w210_554s, w210_555, w210_558, w210_559, w210_560, w210_561, w210_562, w210_563, w210_563s, w210_564, w210_567, w210_570, w210_571, w210_1112, w210_1115, ks_0, ks_118, nI_add, in_nI (show i + 1 < L by omega) (by omega), nI_clamp (show i + 1 < 2 ^ 31 by omega), ↓reduceIte, Option.toList_some, List.cons_append, List.nil_append, Cq_of e1, Cq_of e2]
  exact ih σ2 h3
theorem law_14 (hi : i + 4 ≤ L) (hL : L ≤ 2048) (hp : Pr I 92 178 [] σ) (ih : ∀ σ', I σ' → Wq (some (L, xs)) 210 18 [some (.retAddr 0), some (.ref (0 : Nat)), some (.ref (118 : Nat)), some (.int (nI (i + 4)))] [] σ' Q) : Wq (some (L, xs)) 210 572 [some (.retAddr 0), some (.ref (0 : Nat)), some (.ref (118 : Nat)), some (.int (nI i))] [] σ Q := by
  obtain ⟨v, σ1, σ2, e1, e2, h3⟩ := hp
  simp only [w210_572, w210_573, w210_576, w210_577, w210_580, w210_583, w210_584, w210_1112, w210_1115, ks_0, ks_118, nI_add, ↓reduceIte, Option.toList_some, List.cons_append, List.nil_append, Cq_of e1, Cq_of e2]
  exact ih σ2 h3
theorem law_15 (hi : i + 4 ≤ L) (hL : L ≤ 2048) (hp : Pr I 99 179 [.int (xs (i + 1)), .int (xs (i + 2)), .int (xs (i + 3))] σ) (ih : ∀ σ', I σ' → Wq (some (L, xs)) 210 18 [some (.retAddr 0), some (.ref (0 : Nat)), some (.ref (118 : Nat)), some (.int (nI (i + 4)))] [] σ' Q) : Wq (some (L, xs)) 210 585 [some (.retAddr 0), some (.ref (0 : Nat)), some (.ref (118 : Nat)), some (.int (nI i))] [] σ Q := by
  obtain ⟨v, σ1, σ2, e1, e2, h3⟩ := hp
  simp only [w210_585, w210_586, w210_587, w210_588, w210_589, w210_590, w210_590s, w210_591, w210_592, w210_593, w210_594, w210_595, w210_595s, w210_596, w210_597, w210_598, w210_599, w210_600, w210_600s, w210_601, w210_604, w210_605, w210_606, w210_607, w210_608, w210_609, w210_609s, w210_610, w210_611, w210_612, w210_613, w210_614, w210_614s, w210_615, w210_616, w210_617, w210_618, w210_619, w210_619s, w210_620, w210_623, w210_626, w210_627, w210_1112, w210_1115, ks_0, ks_118, nI_add, in_nI (show i + 1 < L by omega) (by omega), nI_clamp (show i + 1 < 2 ^ 31 by omega), in_nI (show i + 2 < L by omega) (by omega), nI_clamp (show i + 2 < 2 ^ 31 by omega), in_nI (show i + 3 < L by omega) (by omega), nI_clamp (show i + 3 < 2 ^ 31 by omega), ↓reduceIte, Option.toList_some, List.cons_append, List.nil_append, Cq_of e1, Cq_of e2]
  exact ih σ2 h3
theorem law_16 (hi : i + 4 ≤ L) (hL : L ≤ 2048) (hp : Pr I 100 180 [.int (xs (i + 1)), .int (xs (i + 2)), .int (xs (i + 3))] σ) (ih : ∀ σ', I σ' → Wq (some (L, xs)) 210 18 [some (.retAddr 0), some (.ref (0 : Nat)), some (.ref (118 : Nat)), some (.int (nI (i + 4)))] [] σ' Q) : Wq (some (L, xs)) 210 628 [some (.retAddr 0), some (.ref (0 : Nat)), some (.ref (118 : Nat)), some (.int (nI i))] [] σ Q := by
  obtain ⟨v, σ1, σ2, e1, e2, h3⟩ := hp
  simp only [w210_628, w210_629, w210_630, w210_631, w210_632, w210_633, w210_633s, w210_634, w210_635, w210_636, w210_637, w210_638, w210_638s, w210_639, w210_640, w210_641, w210_642, w210_643, w210_643s, w210_644, w210_647, w210_648, w210_649, w210_650, w210_651, w210_652, w210_652s, w210_653, w210_654, w210_655, w210_656, w210_657, w210_657s, w210_658, w210_659, w210_660, w210_661, w210_662, w210_662s, w210_663, w210_666, w210_669, w210_670, w210_1112, w210_1115, ks_0, ks_118, nI_add, in_nI (show i + 1 < L by omega) (by omega), nI_clamp (show i + 1 < 2 ^ 31 by omega), in_nI (show i + 2 < L by omega) (by omega), nI_clamp (show i + 2 < 2 ^ 31 by omega), in_nI (show i + 3 < L by omega) (by omega), nI_clamp (show i + 3 < 2 ^ 31 by omega), ↓reduceIte, Option.toList_some, List.cons_append, List.nil_append, Cq_of e1, Cq_of e2]
  exact ih σ2 h3
theorem law_17 (hi : i + 4 ≤ L) (hL : L ≤ 2048) (hp : Pr I 101 185 [.int (xs (i + 1))] σ) (ih : ∀ σ', I σ' → Wq (some (L, xs)) 210 18 [some (.retAddr 0), some (.ref (0 : Nat)), some (.ref (118 : Nat)), some (.int (nI (i + 4)))] [] σ' Q) : Wq (some (L, xs)) 210 671 [some (.retAddr 0), some (.ref (0 : Nat)), some (.ref (118 : Nat)), some (.int (nI i))] [] σ Q := by
  obtain ⟨v, σ1, σ2, e1, e2, h3⟩ := hp
  simp only [w210_671, w210_672, w210_673, w210_674, w210_675, w210_676, w210_676s, w210_677, w210_680, w210_681, w210_682, w210_683, w210_684, w210_685, w210_685s, w210_686, w210_689, w210_692, w210_693, w210_1112, w210_1115, ks_0, ks_118, nI_add, in_nI (show i + 1 < L by omega) (by omega), nI_clamp (show i + 1 < 2 ^ 31 by omega), ↓reduceIte, Option.toList_some, List.cons_append, List.nil_append, Cq_of e1, Cq_of e2]
  exact ih σ2 h3
theorem law_18 (hi : i + 4 ≤ L) (hL : L ≤ 2048) (hp : Pr I 102 189 [.int (xs (i + 1)), .int (xs (i + 2)), .int (xs (i + 3))] σ) (ih : ∀ σ', I σ' → Wq (some (L, xs)) 210 18 [some (.retAddr 0), some (.ref (0 : Nat)), some (.ref (118 : Nat)), some (.int (nI (i + 4)))] [] σ' Q) : Wq (some (L, xs)) 210 694 [some (.retAddr 0), some (.ref (0 : Nat)), some (.ref (118 : Nat)), some (.int (nI i))] [] σ Q := by
  obtain ⟨v, σ1, σ2, e1, e2, h3⟩ := hp
  simp only [w210_694, w210_695, w210_696, w210_697, w210_698, w210_699, w210_699s, w210_700, w210_701, w210_702, w210_703, w210_704, w210_704s, w210_705, w210_706, w210_707, w210_708, w210_709, w210_709s, w210_710, w210_713, w210_714, w210_715, w210_716, w210_717, w210_718, w210_718s, w210_719, w210_720, w210_721, w210_722, w210_723, w210_723s, w210_724, w210_725, w210_726, w210_727, w210_728, w210_728s, w210_729, w210_732, w210_735, w210_736, w210_1112, w210_1115, ks_0, ks_118, nI_add, in_nI (show i + 1 < L by omega) (by omega), nI_clamp (show i + 1 < 2 ^ 31 by omega), in_nI (show i + 2 < L by omega) (by omega), nI_clamp (show i + 2 < 2 ^ 31 by omega), in_nI (show i + 3 < L by omega) (by omega), nI_clamp (show i + 3 < 2 ^ 31 by omega), ↓reduceIte, Option.toList_some, List.cons_append, List.nil_append, Cq_of e1, Cq_of e2]
  exact ih σ2 h3
theorem law_19 (hi : i + 4 ≤ L) (hL : L ≤ 2048) (hp : Pr I 103 190 [.int (xs (i + 1)), .int (xs (i + 2))] σ) (ih : ∀ σ', I σ' → Wq (some (L, xs)) 210 18 [some (.retAddr 0), some (.ref (0 : Nat)), some (.ref (118 : Nat)), some (.int (nI (i + 4)))] [] σ' Q) : Wq (some (L, xs)) 210 737 [some (.retAddr 0), some (.ref (0 : Nat)), some (.ref (118 : Nat)), some (.int (nI i))] [] σ Q := by
  obtain ⟨v, σ1, σ2, e1, e2, h3⟩ := hp
  simp only [w210_737, w210_738, w210_739, w210_740, w210_741, w210_742, w210_742s, w210_743, w210_744, w210_745, w210_746, w210_747, w210_747s, w210_748, w210_751, w210_752, w210_753, w210_754, w210_755, w210_756, w210_756s, w210_757, w210_758, w210_759, w210_760, w210_761, w210_761s, w210_762, w210_765, w210_768, w210_769, w210_1112, w210_1115, ks_0, ks_118, nI_add, in_nI (show i + 1 < L by omega) (by omega), nI_clamp (show i + 1 < 2 ^ 31 by omega), in_nI (show i + 2 < L by omega) (by omega), nI_clamp (show i + 2 < 2 ^ 31 by omega), ↓reduceIte, Option.toList_some, List.cons_append, List.nil_append, Cq_of e1, Cq_of e2]
  exact ih σ2 h3
theorem law_20 (hi : i + 4 ≤ L) (hL : L ≤ 2048) (hp : Pr I 104 191 [.int (xs (i + 1))] σ) (ih : ∀ σ', I σ' → Wq (some (L, xs)) 210 18 [some (.retAddr 0), some (.ref (0 : Nat)), some (.ref (118 : Nat)), some (.int (nI (i + 4)))] [] σ' Q) : Wq (some (L, xs)) 210 770 [some (.retAddr 0), some (.ref (0 : Nat)), some (.ref (118 : Nat)), some (.int (nI i))] [] σ Q := by
  obtain ⟨v, σ1, σ2, e1, e2, h3⟩ := hp
  simp only [w210_770, w210_771, w210_772, w210_773, w210_774, w210_775, w210_775s, w210_776, w210_779, w210_780, w210_781, w210_782, w210_783, w210_784, w210_784s, w210_785, w210_788, w210_791, w210_792, w210_1112, w210_1115, ks_0, ks_118, nI_add, in_nI (show i + 1 < L by omega) (by omega), nI_clamp (show i + 1 < 2 ^ 31 by omega), ↓reduceIte, Option.toList_some, List.cons_append, List.nil_append, Cq_of e1, Cq_of e2]
  exact ih σ2 h3
theorem law_21 (hi : i + 4 ≤ L) (hL : L ≤ 2048) (hp : Pr I 105 192 [.int (xs (i + 1)), .int (xs (i + 2)), .int (xs (i + 3))] σ) (ih : ∀ σ', I σ' → Wq (some (L, xs)) 210 18 [some (.retAddr 0), some (.ref (0 : Nat)), some (.ref (118 : Nat)), some (.int (nI (i + 4)))] [] σ' Q) : Wq (some (L, xs)) 210 793 [some (.retAddr 0), some (.ref (0 : Nat)), some (.ref (118 : Nat)), some (.int (nI i))] [] σ Q := by
  obtain ⟨v, σ1, σ2, e1, e2, h3⟩ := hp
  simp only [w210_793, w210_794, w210_795, w210_796, w210_797, w210_798, w210_798s, w210_799, w210_800, w210_801, w210_802, w210_803, w210_803s, w210_804, w210_805, w210_806, w210_807, w210_808, w210_808s, w210_809, w210_812, w210_813, w210_814, w210_815, w210_816, w210_817, w210_817s, w210_818, w210_819, w210_820, w210_821, w210_822, w210_822s, w210_823, w210_824, w210_825, w210_826, w210_827, w210_827s, w210_828, w210_831, w210_834, w210_835, w210_1112, w210_1115, ks_0, ks_118, nI_add, in_nI (show i + 1 < L by omega) (by omega), nI_clamp (show i + 1 < 2 ^ 31 by omega), in_nI (show i + 2 < L by omega) (by omega), nI_clamp (show i + 2 < 2 ^ 31 by omega), in_nI (show i + 3 < L by omega) (by omega), nI_clamp (show i + 3 < 2 ^ 31 by omega), ↓reduceIte, Option.toList_some, List.cons_append, List.nil_append, Cq_of e1, Cq_of e2]
  exact ih σ2 h3
theorem law_22 (hi : i + 4 ≤ L) (hL : L ≤ 2048) (hp : Pr I 106 193 [.int (xs (i + 1)), .int (xs (i + 2))] σ) (ih : ∀ σ', I σ' → Wq (some (L, xs)) 210 18 [some (.retAddr 0), some (.ref (0 : Nat)), some (.ref (118 : Nat)), some (.int (nI (i + 4)))] [] σ' Q) : Wq (some (L, xs)) 210 836 [some (.retAddr 0), some (.ref (0 : Nat)), some (.ref (118 : Nat)), some (.int (nI i))] [] σ Q := by
  obtain ⟨v, σ1, σ2, e1, e2, h3⟩ := hp
  simp only [w210_836, w210_837, w210_838, w210_839, w210_840, w210_841, w210_841s, w210_842, w210_843, w210_844, w210_845, w210_846, w210_846s, w210_847, w210_850, w210_851, w210_852, w210_853, w210_854, w210_855, w210_855s, w210_856, w210_857, w210_858, w210_859, w210_860, w210_860s, w210_861, w210_864, w210_867, w210_868, w210_1112, w210_1115, ks_0, ks_118, nI_add, in_nI (show i + 1 < L by omega) (by omega), nI_clamp (show i + 1 < 2 ^ 31 by omega), in_nI (show i + 2 < L by omega) (by omega), nI_clamp (show i + 2 < 2 ^ 31 by omega), ↓reduceIte, Option.toList_some, List.cons_append, List.nil_append, Cq_of e1, Cq_of e2]
  exact ih σ2 h3
theorem law_23 (hi : i + 4 ≤ L) (hL : L ≤ 2048) (hp : Pr I 107 194 [.int (xs (i + 1)), .int (xs (i + 2))] σ) (ih : ∀ σ', I σ' → Wq (some (L, xs)) 210 18 [some (.retAddr 0), some (.ref (0 : Nat)), some (.ref (118 : Nat)), some (.int (nI (i + 4)))] [] σ' Q) : Wq (some (L, xs)) 210 869 [some (.retAddr 0), some (.ref (0 : Nat)), some (.ref (118 : Nat)), some (.int (nI i))] [] σ Q := by
  obtain ⟨v, σ1, σ2, e1, e2, h3⟩ := hp
  simp only [w210_869, w210_870, w210_871, w210_872, w210_873, w210_874, w210_874s, w210_875, w210_876, w210_877, w210_878, w210_879, w210_879s, w210_880, w210_883, w210_884, w210_885, w210_886, w210_887, w210_888, w210_888s, w210_889, w210_890, w210_891, w210_892, w210_893, w210_893s, w210_894, w210_897, w210_900, w210_901, w210_1112, w210_1115, ks_0, ks_118, nI_add, in_nI (show i + 1 < L by omega) (by omega), nI_clamp (show i + 1 < 2 ^ 31 by omega), in_nI (show i + 2 < L by omega) (by omega), nI_clamp (show i + 2 < 2 ^ 31 by omega), ↓reduceIte, Option.toList_some, List.cons_append, List.nil_append, Cq_of e1, Cq_of e2]
  exact ih σ2 h3
theorem law_24 (hi : i + 4 ≤ L) (hL : L ≤ 2048) (hp : Pr I 109 196 [.int (xs (i + 1))] σ) (ih : ∀ σ', I σ' → Wq (some (L, xs)) 210 18 [some (.retAddr 0), some (.ref (0 : Nat)), some (.ref (118 : Nat)), some (.int (nI (i + 4)))] [] σ' Q) : Wq (some (L, xs)) 210 902 [some (.retAddr 0), some (.ref (0 : Nat)), some (.ref (118 : Nat)), some (.int (nI i))] [] σ Q := by
  obtain ⟨v, σ1, σ2, e1, e2, h3⟩ := hp
  simp only [w210_902, w210_903, w210_904, w210_905, w210_906, w210_907, w210_907s, w210_908, w210_911, w210_912, w210_913, w210_914, w210_915, w210_916, w210_916s, w210_917, w210_920, w210_923, w210_924, w210_1112, w210_1115, ks_0, ks_118, nI_add, in_nI (show i + 1 < L by omega) (by omega), nI_clamp (show i + 1 < 2 ^ 31 by omega), ↓reduceIte, Option.toList_some, List.cons_append, List.nil_append, Cq_of e1, Cq_of e2]
  exact ih σ2 h3
theorem law_25 (hi : i + 4 ≤ L) (hL : L ≤ 2048) (hp : Pr I 110 197 [.int (xs (i + 1)), .int (xs (i + 2))] σ) (ih : ∀ σ', I σ' → Wq (some (L, xs)) 210 18 [some (.retAddr 0), some (.ref (0 : Nat)), some (.ref (118 : Nat)), some (.int (nI (i + 4)))] [] σ' Q) : Wq (some (L, xs)) 210 925 [some (.retAddr 0), some (.ref (0 : Nat)), some (.ref (118 : Nat)), some (.int (nI i))] [] σ Q := by
  obtain ⟨v, σ1, σ2, e1, e2, h3⟩ := hp
  simp only [w210_925, w210_926, w210_927, w210_928, w210_929, w210_930, w210_930s, w210_931, w210_932, w210_933, w210_934, w210_935, w210_935s, w210_936, w210_939, w210_940, w210_941, w210_942, w210_943, w210_944, w210_944s, w210_945, w210_946, w210_947, w210_948, w210_949, w210_949s, w210_950, w210_953, w210_956, w210_957, w210_1112, w210_1115, ks_0, ks_118, nI_add, in_nI (show i + 1 < L by omega) (by omega), nI_clamp (show i + 1 < 2 ^ 31 by omega), in_nI (show i + 2 < L by omega) (by omega), nI_clamp (show i + 2 < 2 ^ 31 by omega), ↓reduceIte, Option.toList_some, List.cons_append, List.nil_append, Cq_of e1, Cq_of e2]
  exact ih σ2 h3
theorem law_26 (hi : i + 4 ≤ L) (hL : L ≤ 2048) (hp : Pr I 111 198 [] σ) (ih : ∀ σ', I σ' → Wq (some (L, xs)) 210 18 [some (.retAddr 0), some (.ref (0 : Nat)), some (.ref (118 : Nat)), some (.int (nI (i + 4)))] [] σ' Q) : Wq (some (L, xs)) 210 958 [some (.retAddr 0), some (.ref (0 : Nat)), some (.ref (118 : Nat)), some (.int (nI i))] [] σ Q := by
  obtain ⟨v, σ1, σ2, e1, e2, h3⟩ := hp
  simp only [w210_958, w210_959, w210_962, w210_963, w210_966, w210_969, w210_970, w210_1112, w210_1115, ks_0, ks_118, nI_add, ↓reduceIte, Option.toList_some, List.cons_append, List.nil_append, Cq_of e1, Cq_of e2]
  exact ih σ2 h3
theorem law_27 (hi : i + 4 ≤ L) (hL : L ≤ 2048) (hp : Pr I 112 199 [] σ) (ih : ∀ σ', I σ' → Wq (some (L, xs)) 210 18 [some (.retAddr 0), some (.ref (0 : Nat)), some (.ref (118 : Nat)), some (.int (nI (i + 4)))] [] σ' Q) : Wq (some (L, xs)) 210 971 [some (.retAddr 0), some (.ref (0 : Nat)), some (.ref (118 : Nat)), some (.int (nI i))] [] σ Q := by
  obtain ⟨v, σ1, σ2, e1, e2, h3⟩ := hp
  simp only [w210_971, w210_972, w210_975, w210_976, w210_979, w210_982, w210_983, w210_1112, w210_1115, ks_0, ks_118, nI_add, ↓reduceIte, Option.toList_some, List.cons_append, List.nil_append, Cq_of e1, Cq_of e2]
  exact ih σ2 h3
theorem law_28 (hi : i + 4 ≤ L) (hL : L ≤ 2048) (hp : Pr I 113 200 [.int (xs (i + 1)), .int (xs (i + 2))] σ) (ih : ∀ σ', I σ' → Wq (some (L, xs)) 210 18 [some (.retAddr 0), some (.ref (0 : Nat)), some (.ref (118 : Nat)), some (.int (nI (i + 4)))] [] σ' Q) : Wq (some (L, xs)) 210 984 [some (.retAddr 0), some (.ref (0 : Nat)), some (.ref (118 : Nat)), some (.int (nI i))] [] σ Q := by
  obtain ⟨v, σ1, σ2, e1, e2, h3⟩ := hp
  simp only [w210_984, w210_985, w210_986, w210_987, w210_988, w210_989, w210_989s, w210_990, w210_991, w210_992, w210_993, w210_994, w210_994s, w210_995, w210_998, w210_999, w210_1000, w210_1001, w210_1002, w210_1003, w210_1003s, w210_1004, w210_1005, w210_1006, w210_1007, w210_1008, w210_1008s, w210_1009, w210_1012, w210_1015, w210_1016, w210_1112, w210_1115, ks_0, ks_118, nI_add, in_nI (show i + 1 < L by omega) (by omega), nI_clamp (show i + 1 < 2 ^ 31 by omega), in_nI (show i + 2 < L by omega) (by omega), nI_clamp (show i + 2 < 2 ^ 31 by omega), ↓reduceIte, Option.toList_some, List.cons_append, List.nil_append, Cq_of e1, Cq_of e2]
  exact ih σ2 h3
theorem law_29 (hi : i + 4 ≤ L) (hL : L ≤ 2048) (hp : Pr I 114 201 [] σ) (ih : ∀ σ', I σ' → Wq (some (L, xs)) 210 18 [some (.retAddr 0), some (.ref (0 : Nat)), some (.ref (118 : Nat)), some (.int (nI (i + 4)))] [] σ' Q) : Wq (some (L, xs)) 210 1017 [some (.retAddr 0), some (.ref (0 : Nat)), some (.ref (118 : Nat)), some (.int (nI i))] [] σ Q := by
  obtain ⟨v, σ1, σ2, e1, e2, h3⟩ := hp
  simp only [w210_1017, w210_1018, w210_1021, w210_1022, w210_1025, w210_1028, w210_1029, w210_1112, w210_1115, ks_0, ks_118, nI_add, ↓reduceIte, Option.toList_some, List.cons_append, List.nil_append, Cq_of e1, Cq_of e2]
  exact ih σ2 h3
theorem law_30 (hi : i + 4 ≤ L) (hL : L ≤ 2048) (hp : Pr I 115 202 [] σ) (ih : ∀ σ', I σ' → Wq (some (L, xs)) 210 18 [some (.retAddr 0), some (.ref (0 : Nat)), some (.ref (118 : Nat)), some (.int (nI (i + 4)))] [] σ' Q) : Wq (some (L, xs)) 210 1030 [some (.retAddr 0), some (.ref (0 : Nat)), some (.ref (118 : Nat)), some (.int (nI i))] [] σ Q := by
  obtain ⟨v, σ1, σ2, e1, e2, h3⟩ := hp
  simp only [w210_1030, w210_1031, w210_1034, w210_1035, w210_1038, w210_1041, w210_1042, w210_1112, w210_1115, ks_0, ks_118, nI_add, ↓reduceIte, Option.toList_some, List.cons_append, List.nil_append, Cq_of e1, Cq_of e2]
  exact ih σ2 h3
theorem law_31 (hi : i + 4 ≤ L) (hL : L ≤ 2048) (hp : Pr I 116 203 [.int (xs (i + 1))] σ) (ih : ∀ σ', I σ' → Wq (some (L, xs)) 210 18 [some (.retAddr 0), some (.ref (0 : Nat)), some (.ref (118 : Nat)), some (.int (nI (i + 4)))] [] σ' Q) : Wq (some (L, xs)) 210 1043 [some (.retAddr 0), some (.ref (0 : Nat)), some (.ref (118 : Nat)), some (.int (nI i))] [] σ Q := by
  obtain ⟨v, σ1, σ2, e1, e2, h3⟩ := hp
  simp only [w210_1043, w210_1044, w210_1045, w210_1046, w210_1047, w210_1048, w210_1048s, w210_1049, w210_1052, w210_1053, w210_1054, w210_1055, w210_1056, w210_1057, w210_1057s, w210_1058, w210_1061, w210_1064, w210_1065, w210_1112, w210_1115, ks_0, ks_118, nI_add, in_nI (show i + 1 < L by omega) (by omega), nI_clamp (show i + 1 < 2 ^ 31 by omega), ↓reduceIte, Option.toList_some, List.cons_append, List.nil_append, Cq_of e1, Cq_of e2]
  exact ih σ2 h3
theorem law_32 (hi : i + 4 ≤ L) (hL : L ≤ 2048) (hp : Pr I 117 204 [.int (xs (i + 1))] σ) (ih : ∀ σ', I σ' → Wq (some (L, xs)) 210 18 [some (.retAddr 0), some (.ref (0 : Nat)), some (.ref (118 : Nat)), some (.int (nI (i + 4)))] [] σ' Q) : Wq (some (L, xs)) 210 1066 [some (.retAddr 0), some (.ref (0 : Nat)), some (.ref (118 : Nat)), some (.int (nI i))] [] σ Q := by
  obtain ⟨v, σ1, σ2, e1, e2, h3⟩ := hp
  simp only [w210_1066, w210_1067, w210_1068, w210_1069, w210_1070, w210_1071, w210_1071s, w210_1072, w210_1075, w210_1076, w210_1077, w210_1078, w210_1079, w210_1080, w210_1080s, w210_1081, w210_1084, w210_1087, w210_1088, w210_1112, w210_1115, ks_0, ks_118, nI_add, in_nI (show i + 1 < L by omega) (by omega), nI_clamp (show i + 1 < 2 ^ 31 by omega), ↓reduceIte, Option.toList_some, List.cons_append, List.nil_append, Cq_of e1, Cq_of e2]
  exact ih σ2 h3
theorem law_33 (hi : i + 4 ≤ L) (hL : L ≤ 2048) (hp : Pr I 118 205 [.int (xs (i + 1))] σ) (ih : ∀ σ', I σ' → Wq (some (L, xs)) 210 18 [some (.retAddr 0), some (.ref (0 : Nat)), some (.ref (118 : Nat)), some (.int (nI (i + 4)))] [] σ' Q) : Wq (some (L, xs)) 210 1089 [some (.retAddr 0), some (.ref (0 : Nat)), some (.ref (118 : Nat)), some (.int (nI i))] [] σ Q := by
  obtain ⟨v, σ1, σ2, e1, e2, h3⟩ := hp
  simp only [w210_1089, w210_1090, w210_1091, w210_1092, w210_1093, w210_1094, w210_1094s, w210_1095, w210_1098, w210_1099, w210_1100, w210_1101, w210_1102, w210_1103, w210_1103s, w210_1104, w210_1107, w210_1110, w210_1111, w210_1112, w210_1115, ks_0, ks_118, nI_add, in_nI (show i + 1 < L by omega) (by omega), nI_clamp (show i + 1 < 2 ^ 31 by omega), ↓reduceIte, Option.toList_some, List.cons_append, List.nil_append, Cq_of e1, Cq_of e2]
  exact ih σ2 h3
theorem law_loop (hq0 : ∀ (σ : dm_G) (x0 : Int32), I σ → Pr I 76 131 [.int x0] σ) (hq1 : ∀ (σ : dm_G), I σ → Pr I 77 143 [] σ) (hq2 : ∀ (σ : dm_G), I σ → Pr I 78 144 [] σ) (hq3 : ∀ (σ : dm_G) (x0 : Int32), I σ → Pr I 79 160 [.int x0] σ) (hq4 : ∀ (σ : dm_G) (x0 x1 : Int32), I σ → Pr I 80 161 [.int x0, .int x1] σ) (hq5 : ∀ (σ : dm_G) (x0 x1 : Int32), I σ → Pr I 81 162 [.int x0, .int x1] σ) (hq6 : ∀ (σ : dm_G) (x0 x1 : Int32), I σ → Pr I 82 163 [.int x0, .int x1] σ) (hq7 : ∀ (σ : dm_G) (x0 : Int32), I σ → Pr I 85 167 [.int x0] σ) (hq8 : ∀ (σ : dm_G) (x0 x1 : Int32), I σ → Pr I 86 170 [.int x0, .int x1] σ) (hq9 : ∀ (σ : dm_G) (x0 x1 : Int32), I σ → Pr I 87 171 [.int x0, .int x1] σ) (hq10 : ∀ (σ : dm_G) (x b : Int32), I σ → b = nI 0 ∨ b = nI 1 → Pr I 88 172 [.int x, .int b] σ) (hq11 : ∀ (σ : dm_G) (x0 x1 : Int32), I σ → Pr I 89 173 [.int x0, .int x1] σ) (hq12 : ∀ (σ : dm_G) (x0 : Int32), I σ → Pr I 90 174 [.int x0] σ) (hq13 : ∀ (σ : dm_G) (x0 : Int32), I σ → Pr I 91 177 [.int x0] σ) (hq14 : ∀ (σ : dm_G), I σ → Pr I 92 178 [] σ) (hq15 : ∀ (σ : dm_G) (x0 x1 x2 : Int32), I σ → Pr I 99 179 [.int x0, .int x1, .int x2] σ) (hq16 : ∀ (σ : dm_G) (x0 x1 x2 : Int32), I σ → Pr I 100 180 [.int x0, .int x1, .int x2] σ) (hq17 : ∀ (σ : dm_G) (x0 : Int32), I σ → Pr I 101 185 [.int x0] σ) (hq18 : ∀ (σ : dm_G) (x0 x1 x2 : Int32), I σ → Pr I 102 189 [.int x0, .int x1, .int x2] σ) (hq19 : ∀ (σ : dm_G) (x0 x1 : Int32), I σ → Pr I 103 190 [.int x0, .int x1] σ) (hq20 : ∀ (σ : dm_G) (x0 : Int32), I σ → Pr I 104 191 [.int x0] σ) (hq21 : ∀ (σ : dm_G) (x0 x1 x2 : Int32), I σ → Pr I 105 192 [.int x0, .int x1, .int x2] σ) (hq22 : ∀ (σ : dm_G) (x0 x1 : Int32), I σ → Pr I 106 193 [.int x0, .int x1] σ) (hq23 : ∀ (σ : dm_G) (x0 x1 : Int32), I σ → Pr I 107 194 [.int x0, .int x1] σ) (hq24 : ∀ (σ : dm_G) (x0 : Int32), I σ → Pr I 109 196 [.int x0] σ) (hq25 : ∀ (σ : dm_G) (x0 x1 : Int32), I σ → Pr I 110 197 [.int x0, .int x1] σ) (hq26 : ∀ (σ : dm_G), I σ → Pr I 111 198 [] σ) (hq27 : ∀ (σ : dm_G), I σ → Pr I 112 199 [] σ) (hq28 : ∀ (σ : dm_G) (x0 x1 : Int32), I σ → Pr I 113 200 [.int x0, .int x1] σ) (hq29 : ∀ (σ : dm_G), I σ → Pr I 114 201 [] σ) (hq30 : ∀ (σ : dm_G), I σ → Pr I 115 202 [] σ) (hq31 : ∀ (σ : dm_G) (x0 : Int32), I σ → Pr I 116 203 [.int x0] σ) (hq32 : ∀ (σ : dm_G) (x0 : Int32), I σ → Pr I 117 204 [.int x0] σ) (hq33 : ∀ (σ : dm_G) (x0 : Int32), I σ → Pr I 118 205 [.int x0] σ) (hL : L ≤ 2048) : ∀ (f i : Nat) (σ : dm_G), I σ → L + 4 ≤ i + 4 * f → i ≤ L + 4 → Wq (some (L, xs)) 210 18 [some (.retAddr 0), some (.ref (0 : Nat)), some (.ref (118 : Nat)), some (.int (nI i))] [] σ (fun r _ => r = some (.int (nI 1))) := by
  intro f
  induction f with
  | zero =>
    intro i σ hI hf hi
    have h0 : nI L - nI 4 < nI i := by
      rw [Int32.lt_iff_toInt_lt, pk_sub_toInt (by omega) (by omega), nI_toInt (by omega)]
      omega
    rw [w210_18]
    simp only [w210_19, w210_20, w210_21, w210_22, w210_23, w210_26, w210_27, w210_28, w210_28s, w210_29, w210_31, w210_1118, w210_1119, h0, (by decide : nI 1 &&& 1 = nI 1), ↓reduceIte]
  | succ f ihf =>
    intro i σ hI hf hi
    by_cases h4 : i + 4 ≤ L
    · have h0 : ¬ nI L - nI 4 < nI i := by
        rw [Int32.lt_iff_toInt_lt, pk_sub_toInt (by omega) (by omega), nI_toInt (by omega)]
        omega
      have ih : ∀ σ', I σ' → Wq (some (L, xs)) 210 18 [some (.retAddr 0), some (.ref (0 : Nat)), some (.ref (118 : Nat)), some (.int (nI (i + 4)))] [] σ' (fun r _ => r = some (.int (nI 1))) := fun σ' h => ihf (i + 4) σ' h (by omega) (by omega)
      obtain ⟨k, hk, ek⟩ := mask63 (xs i)
      rw [w210_18]
      simp only [w210_19, w210_20, w210_21, w210_22, w210_23, w210_26, w210_27, w210_28, w210_28s, w210_29, w210_31, h0, in_nI (show i < L by omega) (by omega), nI_clamp (show i < 2 ^ 31 by omega), ek, ↓reduceIte]
      by_cases h34 : k < 34
      · rcases (by omega : k = 0 ∨ k = 1 ∨ k = 2 ∨ k = 3 ∨ k = 4 ∨ k = 5 ∨ k = 6 ∨ k = 7 ∨ k = 8 ∨ k = 9 ∨ k = 10 ∨ k = 11 ∨ k = 12 ∨ k = 13 ∨ k = 14 ∨ k = 15 ∨ k = 16 ∨ k = 17 ∨ k = 18 ∨ k = 19 ∨ k = 20 ∨ k = 21 ∨ k = 22 ∨ k = 23 ∨ k = 24 ∨ k = 25 ∨ k = 26 ∨ k = 27 ∨ k = 28 ∨ k = 29 ∨ k = 30 ∨ k = 31 ∨ k = 32 ∨ k = 33) with rfl | rfl | rfl | rfl | rfl | rfl | rfl | rfl | rfl | rfl | rfl | rfl | rfl | rfl | rfl | rfl | rfl | rfl | rfl | rfl | rfl | rfl | rfl | rfl | rfl | rfl | rfl | rfl | rfl | rfl | rfl | rfl | rfl | rfl
        · rw [w210_32_0]; exact law_0 (show i + 4 ≤ L from h4) hL (hq0 σ _ hI) ih
        · rw [w210_32_1]; exact law_1 (show i + 4 ≤ L from h4) hL (hq1 σ hI) ih
        · rw [w210_32_2]; exact law_2 (show i + 4 ≤ L from h4) hL (hq2 σ hI) ih
        · rw [w210_32_3]; exact law_3 (show i + 4 ≤ L from h4) hL (hq3 σ _ hI) ih
        · rw [w210_32_4]; exact law_4 (show i + 4 ≤ L from h4) hL (hq4 σ _ _ hI) ih
        · rw [w210_32_5]; exact law_5 (show i + 4 ≤ L from h4) hL (hq5 σ _ _ hI) ih
        · rw [w210_32_6]; exact law_6 (show i + 4 ≤ L from h4) hL (hq6 σ _ _ hI) ih
        · rw [w210_32_7]; exact law_7 (show i + 4 ≤ L from h4) hL (hq7 σ _ hI) ih
        · rw [w210_32_8]; exact law_8 (show i + 4 ≤ L from h4) hL (hq8 σ _ _ hI) ih
        · rw [w210_32_9]; exact law_9 (show i + 4 ≤ L from h4) hL (hq9 σ _ _ hI) ih
        · rw [w210_32_10]; exact law_10 (show i + 4 ≤ L from h4) hL (fun b hb => hq10 σ _ b hI hb) ih
        · rw [w210_32_11]; exact law_11 (show i + 4 ≤ L from h4) hL (hq11 σ _ _ hI) ih
        · rw [w210_32_12]; exact law_12 (show i + 4 ≤ L from h4) hL (hq12 σ _ hI) ih
        · rw [w210_32_13]; exact law_13 (show i + 4 ≤ L from h4) hL (hq13 σ _ hI) ih
        · rw [w210_32_14]; exact law_14 (show i + 4 ≤ L from h4) hL (hq14 σ hI) ih
        · rw [w210_32_15]; exact law_15 (show i + 4 ≤ L from h4) hL (hq15 σ _ _ _ hI) ih
        · rw [w210_32_16]; exact law_16 (show i + 4 ≤ L from h4) hL (hq16 σ _ _ _ hI) ih
        · rw [w210_32_17]; exact law_17 (show i + 4 ≤ L from h4) hL (hq17 σ _ hI) ih
        · rw [w210_32_18]; exact law_18 (show i + 4 ≤ L from h4) hL (hq18 σ _ _ _ hI) ih
        · rw [w210_32_19]; exact law_19 (show i + 4 ≤ L from h4) hL (hq19 σ _ _ hI) ih
        · rw [w210_32_20]; exact law_20 (show i + 4 ≤ L from h4) hL (hq20 σ _ hI) ih
        · rw [w210_32_21]; exact law_21 (show i + 4 ≤ L from h4) hL (hq21 σ _ _ _ hI) ih
        · rw [w210_32_22]; exact law_22 (show i + 4 ≤ L from h4) hL (hq22 σ _ _ hI) ih
        · rw [w210_32_23]; exact law_23 (show i + 4 ≤ L from h4) hL (hq23 σ _ _ hI) ih
        · rw [w210_32_24]; exact law_24 (show i + 4 ≤ L from h4) hL (hq24 σ _ hI) ih
        · rw [w210_32_25]; exact law_25 (show i + 4 ≤ L from h4) hL (hq25 σ _ _ hI) ih
        · rw [w210_32_26]; exact law_26 (show i + 4 ≤ L from h4) hL (hq26 σ hI) ih
        · rw [w210_32_27]; exact law_27 (show i + 4 ≤ L from h4) hL (hq27 σ hI) ih
        · rw [w210_32_28]; exact law_28 (show i + 4 ≤ L from h4) hL (hq28 σ _ _ hI) ih
        · rw [w210_32_29]; exact law_29 (show i + 4 ≤ L from h4) hL (hq29 σ hI) ih
        · rw [w210_32_30]; exact law_30 (show i + 4 ≤ L from h4) hL (hq30 σ hI) ih
        · rw [w210_32_31]; exact law_31 (show i + 4 ≤ L from h4) hL (hq31 σ _ hI) ih
        · rw [w210_32_32]; exact law_32 (show i + 4 ≤ L from h4) hL (hq32 σ _ hI) ih
        · rw [w210_32_33]; exact law_33 (show i + 4 ≤ L from h4) hL (hq33 σ _ hI) ih
      · have hd : (nI k).toInt < 0 ∨ 33 < (nI k).toInt := by rw [nI_toInt (by omega)]; omega
        rw [w210_32_d hd]
        simp only [w210_1112, w210_1115, nI_add]
        exact ih σ hI
    · have h0 : nI L - nI 4 < nI i := by
        rw [Int32.lt_iff_toInt_lt, pk_sub_toInt (by omega) (by omega), nI_toInt (by omega)]
        omega
      rw [w210_18]
      simp only [w210_19, w210_20, w210_21, w210_22, w210_23, w210_26, w210_27, w210_28, w210_28s, w210_29, w210_31, w210_1118, w210_1119, h0, (by decide : nI 1 &&& 1 = nI 1), ↓reduceIte]
end LW
