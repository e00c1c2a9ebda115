/-! the law's loop: any invariant that every pair of calls keeps (printed by wip/gen/lawloop.py) -/
def Pr (I : dm_G → Prop) (yC yM : Nat) (as : List Value) (σ : dm_G) : Prop := ∃ (v : Int32) (σ1 σ2 : dm_G), Er yC (.ref (0 : Nat) :: as) σ (some (.int v)) σ1 ∧ Er yM (.ref (118 : Nat) :: as) σ1 (some (.int v)) σ2 ∧ I σ2
theorem mask63 (x : Int32) : ∃ k, k < 64 ∧ x &&& nI 63 = nI k := by
  have hx : x = nI x.toUInt32.toNat := by
    apply Int32.toBitVec_inj.mp
    show x.toBitVec = BitVec.ofNat 32 x.toBitVec.toNat
    rw [BitVec.ofNat_toNat, BitVec.setWidth_eq]
  refine ⟨x.toUInt32.toNat &&& 63, Nat.lt_of_le_of_lt Nat.and_le_right (by decide), ?_⟩
  rw [← nI_and, ← hx]
section LW
variable {I : dm_G → Prop} {σ : dm_G} {L i : Nat} {xs : Nat → Int32} {Q : Option Value → dm_G → Prop}
theorem law_0 (hi : i + 4 ≤ L) (hL : L ≤ 2048) (hp : Pr I 77 132 [.int (xs (i + 1))] σ) (ih : ∀ σ', I σ' → Wq (some (L, xs)) 211 18 [some (.retAddr 0), some (.ref (0 : Nat)), some (.ref (118 : Nat)), some (.int (nI (i + 4)))] [] σ' Q) : Wq (some (L, xs)) 211 184 [some (.retAddr 0), some (.ref (0 : Nat)), some (.ref (118 : Nat)), some (.int (nI i))] [] σ Q := by
  obtain ⟨v, σ1, σ2, e1, e2, h3⟩ := hp
  simp only [w211_184, w211_185, w211_186, w211_187, w211_188, w211_189, w211_189s, w211_190, w211_193, w211_194, w211_195, w211_196, w211_197, w211_198, w211_198s, w211_199, w211_202, w211_205, w211_206, w211_1112, w211_1115, ks_0, ks_118, nI_add, in_nI (show i + 1 < L by omega) (by omega), nI_clamp (show i + 1 < 2 ^ 31 by omega), ↓reduceIte, Option.toList_some, List.cons_append, List.nil_append, Cq_of e1, Cq_of e2]
  exact ih σ2 h3
theorem law_1 (hi : i + 4 ≤ L) (hL : L ≤ 2048) (hp : Pr I 78 144 [] σ) (ih : ∀ σ', I σ' → Wq (some (L, xs)) 211 18 [some (.retAddr 0), some (.ref (0 : Nat)), some (.ref (118 : Nat)), some (.int (nI (i + 4)))] [] σ' Q) : Wq (some (L, xs)) 211 207 [some (.retAddr 0), some (.ref (0 : Nat)), some (.ref (118 : Nat)), some (.int (nI i))] [] σ Q := by
  obtain ⟨v, σ1, σ2, e1, e2, h3⟩ := hp
  simp only [w211_207, w211_208, w211_211, w211_212, w211_215, w211_218, w211_219, w211_1112, w211_1115, ks_0, ks_118, nI_add, ↓reduceIte, Option.toList_some, List.cons_append, List.nil_append, Cq_of e1, Cq_of e2]
  exact ih σ2 h3
theorem law_2 (hi : i + 4 ≤ L) (hL : L ≤ 2048) (hp : Pr I 79 145 [] σ) (ih : ∀ σ', I σ' → Wq (some (L, xs)) 211 18 [some (.retAddr 0), some (.ref (0 : Nat)), some (.ref (118 : Nat)), some (.int (nI (i + 4)))] [] σ' Q) : Wq (some (L, xs)) 211 220 [some (.retAddr 0), some (.ref (0 : Nat)), some (.ref (118 : Nat)), some (.int (nI i))] [] σ Q := by
  obtain ⟨v, σ1, σ2, e1, e2, h3⟩ := hp
  simp only [w211_220, w211_221, w211_224, w211_225, w211_228, w211_231, w211_232, w211_1112, w211_1115, ks_0, ks_118, nI_add, ↓reduceIte, Option.toList_some, List.cons_append, List.nil_append, Cq_of e1, Cq_of e2]
  exact ih σ2 h3
theorem law_3 (hi : i + 4 ≤ L) (hL : L ≤ 2048) (hp : Pr I 80 161 [.int (xs (i + 1))] σ) (ih : ∀ σ', I σ' → Wq (some (L, xs)) 211 18 [some (.retAddr 0), some (.ref (0 : Nat)), some (.ref (118 : Nat)), some (.int (nI (i + 4)))] [] σ' Q) : Wq (some (L, xs)) 211 233 [some (.retAddr 0), some (.ref (0 : Nat)), some (.ref (118 : Nat)), some (.int (nI i))] [] σ Q := by
  obtain ⟨v, σ1, σ2, e1, e2, h3⟩ := hp
  simp only [w211_233, w211_234, w211_235, w211_236, w211_237, w211_238, w211_238s, w211_239, w211_242, w211_243, w211_244, w211_245, w211_246, w211_247, w211_247s, w211_248, w211_251, w211_254, w211_255, w211_1112, w211_1115, ks_0, ks_118, nI_add, in_nI (show i + 1 < L by omega) (by omega), nI_clamp (show i + 1 < 2 ^ 31 by omega), ↓reduceIte, Option.toList_some, List.cons_append, List.nil_append, Cq_of e1, Cq_of e2]
  exact ih σ2 h3
theorem law_4 (hi : i + 4 ≤ L) (hL : L ≤ 2048) (hp : Pr I 81 162 [.int (xs (i + 1)), .int (xs (i + 2))] σ) (ih : ∀ σ', I σ' → Wq (some (L, xs)) 211 18 [some (.retAddr 0), some (.ref (0 : Nat)), some (.ref (118 : Nat)), some (.int (nI (i + 4)))] [] σ' Q) : Wq (some (L, xs)) 211 256 [some (.retAddr 0), some (.ref (0 : Nat)), some (.ref (118 : Nat)), some (.int (nI i))] [] σ Q := by
  obtain ⟨v, σ1, σ2, e1, e2, h3⟩ := hp
  simp only [w211_256, w211_257, w211_258, w211_259, w211_260, w211_261, w211_261s, w211_262, w211_263, w211_264, w211_265, w211_266, w211_266s, w211_267, w211_270, w211_271, w211_272, w211_273, w211_274, w211_275, w211_275s, w211_276, w211_277, w211_278, w211_279, w211_280, w211_280s, w211_281, w211_284, w211_287, w211_288, w211_1112, w211_1115, ks_0, ks_118, nI_add, in_nI (show i + 1 < L by omega) (by omega), nI_clamp (show i + 1 < 2 ^ 31 by omega), in_nI (show i + 2 < L by omega) (by omega), nI_clamp (show i + 2 < 2 ^ 31 by omega), ↓reduceIte, Option.toList_some, List.cons_append, List.nil_append, Cq_of e1, Cq_of e2]
  exact ih σ2 h3
theorem law_5 (hi : i + 4 ≤ L) (hL : L ≤ 2048) (hp : Pr I 82 163 [.int (xs (i + 1)), .int (xs (i + 2))] σ) (ih : ∀ σ', I σ' → Wq (some (L, xs)) 211 18 [some (.retAddr 0), some (.ref (0 : Nat)), some (.ref (118 : Nat)), some (.int (nI (i + 4)))] [] σ' Q) : Wq (some (L, xs)) 211 289 [some (.retAddr 0), some (.ref (0 : Nat)), some (.ref (118 : Nat)), some (.int (nI i))] [] σ Q := by
  obtain ⟨v, σ1, σ2, e1, e2, h3⟩ := hp
  simp only [w211_289, w211_290, w211_291, w211_292, w211_293, w211_294, w211_294s, w211_295, w211_296, w211_297, w211_298, w211_299, w211_299s, w211_300, w211_303, w211_304, w211_305, w211_306, w211_307, w211_308, w211_308s, w211_309, w211_310, w211_311, w211_312, w211_313, w211_313s, w211_314, w211_317, w211_320, w211_321, w211_1112, w211_1115, ks_0, ks_118, nI_add, in_nI (show i + 1 < L by omega) (by omega), nI_clamp (show i + 1 < 2 ^ 31 by omega), in_nI (show i + 2 < L by omega) (by omega), nI_clamp (show i + 2 < 2 ^ 31 by omega), ↓reduceIte, Option.toList_some, List.cons_append, List.nil_append, Cq_of e1, Cq_of e2]
  exact ih σ2 h3
theorem law_6 (hi : i + 4 ≤ L) (hL : L ≤ 2048) (hp : Pr I 83 164 [.int (xs (i + 1)), .int (xs (i + 2))] σ) (ih : ∀ σ', I σ' → Wq (some (L, xs)) 211 18 [some (.retAddr 0), some (.ref (0 : Nat)), some (.ref (118 : Nat)), some (.int (nI (i + 4)))] [] σ' Q) : Wq (some (L, xs)) 211 322 [some (.retAddr 0), some (.ref (0 : Nat)), some (.ref (118 : Nat)), some (.int (nI i))] [] σ Q := by
  obtain ⟨v, σ1, σ2, e1, e2, h3⟩ := hp
  simp only [w211_322, w211_323, w211_324, w211_325, w211_326, w211_327, w211_327s, w211_328, w211_329, w211_330, w211_331, w211_332, w211_332s, w211_333, w211_336, w211_337, w211_338, w211_339, w211_340, w211_341, w211_341s, w211_342, w211_343, w211_344, w211_345, w211_346, w211_346s, w211_347, w211_350, w211_353, w211_354, w211_1112, w211_1115, ks_0, ks_118, nI_add, in_nI (show i + 1 < L by omega) (by omega), nI_clamp (show i + 1 < 2 ^ 31 by omega), in_nI (show i + 2 < L by omega) (by omega), nI_clamp (show i + 2 < 2 ^ 31 by omega), ↓reduceIte, Option.toList_some, List.cons_append, List.nil_append, Cq_of e1, Cq_of e2]
  exact ih σ2 h3
theorem law_7 (hi : i + 4 ≤ L) (hL : L ≤ 2048) (hp : Pr I 86 168 [.int (xs (i + 1))] σ) (ih : ∀ σ', I σ' → Wq (some (L, xs)) 211 18 [some (.retAddr 0), some (.ref (0 : Nat)), some (.ref (118 : Nat)), some (.int (nI (i + 4)))] [] σ' Q) : Wq (some (L, xs)) 211 355 [some (.retAddr 0), some (.ref (0 : Nat)), some (.ref (118 : Nat)), some (.int (nI i))] [] σ Q := by
  obtain ⟨v, σ1, σ2, e1, e2, h3⟩ := hp
  simp only [w211_355, w211_356, w211_357, w211_358, w211_359, w211_360, w211_360s, w211_361, w211_364, w211_365, w211_366, w211_367, w211_368, w211_369, w211_369s, w211_370, w211_373, w211_376, w211_377, w211_1112, w211_1115, ks_0, ks_118, nI_add, in_nI (show i + 1 < L by omega) (by omega), nI_clamp (show i + 1 < 2 ^ 31 by omega), ↓reduceIte, Option.toList_some, List.cons_append, List.nil_append, Cq_of e1, Cq_of e2]
  exact ih σ2 h3
theorem law_8 (hi : i + 4 ≤ L) (hL : L ≤ 2048) (hp : Pr I 87 171 [.int (xs (i + 1)), .int (xs (i + 2))] σ) (ih : ∀ σ', I σ' → Wq (some (L, xs)) 211 18 [some (.retAddr 0), some (.ref (0 : Nat)), some (.ref (118 : Nat)), some (.int (nI (i + 4)))] [] σ' Q) : Wq (some (L, xs)) 211 378 [some (.retAddr 0), some (.ref (0 : Nat)), some (.ref (118 : Nat)), some (.int (nI i))] [] σ Q := by
  obtain ⟨v, σ1, σ2, e1, e2, h3⟩ := hp
  simp only [w211_378, w211_379, w211_380, w211_381, w211_382, w211_383, w211_383s, w211_384, w211_385, w211_386, w211_387, w211_388, w211_388s, w211_389, w211_392, w211_393, w211_394, w211_395, w211_396, w211_397, w211_397s, w211_398, w211_399, w211_400, w211_401, w211_402, w211_402s, w211_403, w211_406, w211_409, w211_410, w211_1112, w211_1115, ks_0, ks_118, nI_add, in_nI (show i + 1 < L by omega) (by omega), nI_clamp (show i + 1 < 2 ^ 31 by omega), in_nI (show i + 2 < L by omega) (by omega), nI_clamp (show i + 2 < 2 ^ 31 by omega), ↓reduceIte, Option.toList_some, List.cons_append, List.nil_append, Cq_of e1, Cq_of e2]
  exact ih σ2 h3
theorem law_9 (hi : i + 4 ≤ L) (hL : L ≤ 2048) (hp : Pr I 88 172 [.int (xs (i + 1)), .int (xs (i + 2))] σ) (ih : ∀ σ', I σ' → Wq (some (L, xs)) 211 18 [some (.retAddr 0), some (.ref (0 : Nat)), some (.ref (118 : Nat)), some (.int (nI (i + 4)))] [] σ' Q) : Wq (some (L, xs)) 211 411 [some (.retAddr 0), some (.ref (0 : Nat)), some (.ref (118 : Nat)), some (.int (nI i))] [] σ Q := by
  obtain ⟨v, σ1, σ2, e1, e2, h3⟩ := hp
  simp only [w211_411, w211_412, w211_413, w211_414, w211_415, w211_416, w211_416s, w211_417, w211_418, w211_419, w211_420, w211_421, w211_421s, w211_422, w211_425, w211_426, w211_427, w211_428, w211_429, w211_430, w211_430s, w211_431, w211_432, w211_433, w211_434, w211_435, w211_435s, w211_436, w211_439, w211_442, w211_443, w211_1112, w211_1115, ks_0, ks_118, nI_add, in_nI (show i + 1 < L by omega) (by omega), nI_clamp (show i + 1 < 2 ^ 31 by omega), in_nI (show i + 2 < L by omega) (by omega), nI_clamp (show i + 2 < 2 ^ 31 by omega), ↓reduceIte, Option.toList_some, List.cons_append, List.nil_append, Cq_of e1, Cq_of e2]
  exact ih σ2 h3
theorem law_10 (hi : i + 4 ≤ L) (hL : L ≤ 2048) (hp : ∀ b : Int32, b = nI 0 ∨ b = nI 1 → Pr I 89 173 [.int (xs (i + 1)), .int b] σ) (ih : ∀ σ', I σ' → Wq (some (L, xs)) 211 18 [some (.retAddr 0), some (.ref (0 : Nat)), some (.ref (118 : Nat)), some (.int (nI (i + 4)))] [] σ' Q) : Wq (some (L, xs)) 211 444 [some (.retAddr 0), some (.ref (0 : Nat)), some (.ref (118 : Nat)), some (.int (nI i))] [] σ Q := by
  by_cases hb : xs (i + 2) = nI 0
  · obtain ⟨v, σ1, σ2, e1, e2, h3⟩ := hp (nI 0) (by simp)
    simp only [w211_444, w211_445, w211_446, w211_447, w211_448, w211_449, w211_449s, w211_450, w211_451, w211_452, w211_453, w211_454, w211_454s, w211_455, w211_458, w211_459, w211_462, w211_463, w211_466, w211_467, w211_468, w211_469, w211_470, w211_471, w211_471s, w211_472, w211_473, w211_474, w211_475, w211_476, w211_476s, w211_477, w211_480, w211_481, w211_484, w211_485, w211_488, w211_491, w211_492, w211_1112, w211_1115, ks_0, ks_118, nI_add, in_nI (show i + 1 < L by omega) (by omega), nI_clamp (show i + 1 < 2 ^ 31 by omega), in_nI (show i + 2 < L by omega) (by omega), nI_clamp (show i + 2 < 2 ^ 31 by omega), ↓reduceIte, Option.toList_some, List.cons_append, List.nil_append, hb, Cq_of e1, Cq_of e2]
    exact ih σ2 h3
  · obtain ⟨v, σ1, σ2, e1, e2, h3⟩ := hp (nI 1) (by simp)
    simp only [w211_444, w211_445, w211_446, w211_447, w211_448, w211_449, w211_449s, w211_450, w211_451, w211_452, w211_453, w211_454, w211_454s, w211_455, w211_458, w211_459, w211_462, w211_463, w211_466, w211_467, w211_468, w211_469, w211_470, w211_471, w211_471s, w211_472, w211_473, w211_474, w211_475, w211_476, w211_476s, w211_477, w211_480, w211_481, w211_484, w211_485, w211_488, w211_491, w211_492, w211_1112, w211_1115, ks_0, ks_118, nI_add, in_nI (show i + 1 < L by omega) (by omega), nI_clamp (show i + 1 < 2 ^ 31 by omega), in_nI (show i + 2 < L by omega) (by omega), nI_clamp (show i + 2 < 2 ^ 31 by omega), ↓reduceIte, Option.toList_some, List.cons_append, List.nil_append, hb, Cq_of e1, Cq_of e2]
    exact ih σ2 h3
theorem law_11 (hi : i + 4 ≤ L) (hL : L ≤ 2048) (hp : Pr I 90 174 [.int (xs (i + 1)), .int (xs (i + 2))] σ) (ih : ∀ σ', I σ' → Wq (some (L, xs)) 211 18 [some (.retAddr 0), some (.ref (0 : Nat)), some (.ref (118 : Nat)), some (.int (nI (i + 4)))] [] σ' Q) : Wq (some (L, xs)) 211 493 [some (.retAddr 0), some (.ref (0 : Nat)), some (.ref (118 : Nat)), some (.int (nI i))] [] σ Q := by
  obtain ⟨v, σ1, σ2, e1, e2, h3⟩ := hp
  simp only [w211_493, w211_494, w211_495, w211_496, w211_497, w211_498, w211_498s, w211_499, w211_500, w211_501, w211_502, w211_503, w211_503s, w211_504, w211_507, w211_508, w211_509, w211_510, w211_511, w211_512, w211_512s, w211_513, w211_514, w211_515, w211_516, w211_517, w211_517s, w211_518, w211_521, w211_524, w211_525, w211_1112, w211_1115, ks_0, ks_118, nI_add, in_nI (show i + 1 < L by omega) (by omega), nI_clamp (show i + 1 < 2 ^ 31 by omega), in_nI (show i + 2 < L by omega) (by omega), nI_clamp (show i + 2 < 2 ^ 31 by omega), ↓reduceIte, Option.toList_some, List.cons_append, List.nil_append, Cq_of e1, Cq_of e2]
  exact ih σ2 h3
theorem law_12 (hi : i + 4 ≤ L) (hL : L ≤ 2048) (hp : Pr I 91 175 [.int (xs (i + 1))] σ) (ih : ∀ σ', I σ' → Wq (some (L, xs)) 211 18 [some (.retAddr 0), some (.ref (0 : Nat)), some (.ref (118 : Nat)), some (.int (nI (i + 4)))] [] σ' Q) : Wq (some (L, xs)) 211 526 [some (.retAddr 0), some (.ref (0 : Nat)), some (.ref (118 : Nat)), some (.int (nI i))] [] σ Q := by
  obtain ⟨v, σ1, σ2, e1, e2, h3⟩ := hp
  simp only [w211_526, w211_527, w211_528, w211_529, w211_530, w211_531, w211_531s, w211_532, w211_535, w211_536, w211_537, w211_538, w211_539, w211_540, w211_540s, w211_541, w211_544, w211_547, w211_548, w211_1112, w211_1115, ks_0, ks_118, nI_add, in_nI (show i + 1 < L by omega) (by omega), nI_clamp (show i + 1 < 2 ^ 31 by omega), ↓reduceIte, Option.toList_some, List.cons_append, List.nil_append, Cq_of e1, Cq_of e2]
  exact ih σ2 h3
theorem law_13 (hi : i + 4 ≤ L) (hL : L ≤ 2048) (hp : Pr I 92 178 [.int (xs (i + 1))] σ) (ih : ∀ σ', I σ' → Wq (some (L, xs)) 211 18 [some (.retAddr 0), some (.ref (0 : Nat)), some (.ref (118 : Nat)), some (.int (nI (i + 4)))] [] σ' Q) : Wq (some (L, xs)) 211 549 [some (.retAddr 0), some (.ref (0 : Nat)), some (.ref (118 : Nat)), some (.int (nI i))] [] σ Q := by
  obtain ⟨v, σ1, σ2, e1, e2, h3⟩ := hp
  simp only [w211_549, w211_550, w211_551, w211_552, w211_553, w211_554, w211_554s, w211_555, w211_558, w211_559, w211_560, w211_561, w211_562, w211_563, w211_563s, w211_564, w211_567, w211_570, w211_571, w211_1112, w211_1115, ks_0, ks_118, nI_add, in_nI (show i + 1 < L by omega) (by omega), nI_clamp (show i + 1 < 2 ^ 31 by omega), ↓reduceIte, Option.toList_some, List.cons_append, List.nil_append, Cq_of e1, Cq_of e2]
  exact ih σ2 h3
theorem law_14 (hi : i + 4 ≤ L) (hL : L ≤ 2048) (hp : Pr I 93 179 [] σ) (ih : ∀ σ', I σ' → Wq (some (L, xs)) 211 18 [some (.retAddr 0), some (.ref (0 : Nat)), some (.ref (118 : Nat)), some (.int (nI (i + 4)))] [] σ' Q) : Wq (some (L, xs)) 211 572 [some (.retAddr 0), some (.ref (0 : Nat)), some (.ref (118 : Nat)), some (.int (nI i))] [] σ Q := by
  obtain ⟨v, σ1, σ2, e1, e2, h3⟩ := hp
  simp only [w211_572, w211_573, w211_576, w211_577, w211_580, w211_583, w211_584, w211_1112, w211_1115, ks_0, ks_118, nI_add, ↓reduceIte, Option.toList_some, List.cons_append, List.nil_append, Cq_of e1, Cq_of e2]
  exact ih σ2 h3
theorem law_15 (hi : i + 4 ≤ L) (hL : L ≤ 2048) (hp : Pr I 100 180 [.int (xs (i + 1)), .int (xs (i + 2)), .int (xs (i + 3))] σ) (ih : ∀ σ', I σ' → Wq (some (L, xs)) 211 18 [some (.retAddr 0), some (.ref (0 : Nat)), some (.ref (118 : Nat)), some (.int (nI (i + 4)))] [] σ' Q) : Wq (some (L, xs)) 211 585 [some (.retAddr 0), some (.ref (0 : Nat)), some (.ref (118 : Nat)), some (.int (nI i))] [] σ Q := by
  obtain ⟨v, σ1, σ2, e1, e2, h3⟩ := hp
  simp only [w211_585, w211_586, w211_587, w211_588, w211_589, w211_590, w211_590s, w211_591, w211_592, w211_593, w211_594, w211_595, w211_595s, w211_596, w211_597, w211_598, w211_599, w211_600, w211_600s, w211_601, w211_604, w211_605, w211_606, w211_607, w211_608, w211_609, w211_609s, w211_610, w211_611, w211_612, w211_613, w211_614, w211_614s, w211_615, w211_616, w211_617, w211_618, w211_619, w211_619s, w211_620, w211_623, w211_626, w211_627, w211_1112, w211_1115, ks_0, ks_118, nI_add, in_nI (show i + 1 < L by omega) (by omega), nI_clamp (show i + 1 < 2 ^ 31 by omega), in_nI (show i + 2 < L by omega) (by omega), nI_clamp (show i + 2 < 2 ^ 31 by omega), in_nI (show i + 3 < L by omega) (by omega), nI_clamp (show i + 3 < 2 ^ 31 by omega), ↓reduceIte, Option.toList_some, List.cons_append, List.nil_append, Cq_of e1, Cq_of e2]
  exact ih σ2 h3
theorem law_16 (hi : i + 4 ≤ L) (hL : L ≤ 2048) (hp : Pr I 101 181 [.int (xs (i + 1)), .int (xs (i + 2)), .int (xs (i + 3))] σ) (ih : ∀ σ', I σ' → Wq (some (L, xs)) 211 18 [some (.retAddr 0), some (.ref (0 : Nat)), some (.ref (118 : Nat)), some (.int (nI (i + 4)))] [] σ' Q) : Wq (some (L, xs)) 211 628 [some (.retAddr 0), some (.ref (0 : Nat)), some (.ref (118 : Nat)), some (.int (nI i))] [] σ Q := by
  obtain ⟨v, σ1, σ2, e1, e2, h3⟩ := hp
  simp only [w211_628, w211_629, w211_630, w211_631, w211_632, w211_633, w211_633s, w211_634, w211_635, w211_636, w211_637, w211_638, w211_638s, w211_639, w211_640, w211_641, w211_642, w211_643, w211_643s, w211_644, w211_647, w211_648, w211_649, w211_650, w211_651, w211_652, w211_652s, w211_653, w211_654, w211_655, w211_656, w211_657, w211_657s, w211_658, w211_659, w211_660, w211_661, w211_662, w211_662s, w211_663, w211_666, w211_669, w211_670, w211_1112, w211_1115, ks_0, ks_118, nI_add, in_nI (show i + 1 < L by omega) (by omega), nI_clamp (show i + 1 < 2 ^ 31 by omega), in_nI (show i + 2 < L by omega) (by omega), nI_clamp (show i + 2 < 2 ^ 31 by omega), in_nI (show i + 3 < L by omega) (by omega), nI_clamp (show i + 3 < 2 ^ 31 by omega), ↓reduceIte, Option.toList_some, List.cons_append, List.nil_append, Cq_of e1, Cq_of e2]
  exact ih σ2 h3
theorem law_17 (hi : i + 4 ≤ L) (hL : L ≤ 2048) (hp : Pr I 102 186 [.int (xs (i + 1))] σ) (ih : ∀ σ', I σ' → Wq (some (L, xs)) 211 18 [some (.retAddr 0), some (.ref (0 : Nat)), some (.ref (118 : Nat)), some (.int (nI (i + 4)))] [] σ' Q) : Wq (some (L, xs)) 211 671 [some (.retAddr 0), some (.ref (0 : Nat)), some (.ref (118 : Nat)), some (.int (nI i))] [] σ Q := by
  obtain ⟨v, σ1, σ2, e1, e2, h3⟩ := hp
  simp only [w211_671, w211_672, w211_673, w211_674, w211_675, w211_676, w211_676s, w211_677, w211_680, w211_681, w211_682, w211_683, w211_684, w211_685, w211_685s, w211_686, w211_689, w211_692, w211_693, w211_1112, w211_1115, ks_0, ks_118, nI_add, in_nI (show i + 1 < L by omega) (by omega), nI_clamp (show i + 1 < 2 ^ 31 by omega), ↓reduceIte, Option.toList_some, List.cons_append, List.nil_append, Cq_of e1, Cq_of e2]
  exact ih σ2 h3
theorem law_18 (hi : i + 4 ≤ L) (hL : L ≤ 2048) (hp : Pr I 103 190 [.int (xs (i + 1)), .int (xs (i + 2)), .int (xs (i + 3))] σ) (ih : ∀ σ', I σ' → Wq (some (L, xs)) 211 18 [some (.retAddr 0), some (.ref (0 : Nat)), some (.ref (118 : Nat)), some (.int (nI (i + 4)))] [] σ' Q) : Wq (some (L, xs)) 211 694 [some (.retAddr 0), some (.ref (0 : Nat)), some (.ref (118 : Nat)), some (.int (nI i))] [] σ Q := by
  obtain ⟨v, σ1, σ2, e1, e2, h3⟩ := hp
  simp only [w211_694, w211_695, w211_696, w211_697, w211_698, w211_699, w211_699s, w211_700, w211_701, w211_702, w211_703, w211_704, w211_704s, w211_705, w211_706, w211_707, w211_708, w211_709, w211_709s, w211_710, w211_713, w211_714, w211_715, w211_716, w211_717, w211_718, w211_718s, w211_719, w211_720, w211_721, w211_722, w211_723, w211_723s, w211_724, w211_725, w211_726, w211_727, w211_728, w211_728s, w211_729, w211_732, w211_735, w211_736, w211_1112, w211_1115, ks_0, ks_118, nI_add, in_nI (show i + 1 < L by omega) (by omega), nI_clamp (show i + 1 < 2 ^ 31 by omega), in_nI (show i + 2 < L by omega) (by omega), nI_clamp (show i + 2 < 2 ^ 31 by omega), in_nI (show i + 3 < L by omega) (by omega), nI_clamp (show i + 3 < 2 ^ 31 by omega), ↓reduceIte, Option.toList_some, List.cons_append, List.nil_append, Cq_of e1, Cq_of e2]
  exact ih σ2 h3
theorem law_19 (hi : i + 4 ≤ L) (hL : L ≤ 2048) (hp : Pr I 104 191 [.int (xs (i + 1)), .int (xs (i + 2))] σ) (ih : ∀ σ', I σ' → Wq (some (L, xs)) 211 18 [some (.retAddr 0), some (.ref (0 : Nat)), some (.ref (118 : Nat)), some (.int (nI (i + 4)))] [] σ' Q) : Wq (some (L, xs)) 211 737 [some (.retAddr 0), some (.ref (0 : Nat)), some (.ref (118 : Nat)), some (.int (nI i))] [] σ Q := by
  obtain ⟨v, σ1, σ2, e1, e2, h3⟩ := hp
  simp only [w211_737, w211_738, w211_739, w211_740, w211_741, w211_742, w211_742s, w211_743, w211_744, w211_745, w211_746, w211_747, w211_747s, w211_748, w211_751, w211_752, w211_753, w211_754, w211_755, w211_756, w211_756s, w211_757, w211_758, w211_759, w211_760, w211_761, w211_761s, w211_762, w211_765, w211_768, w211_769, w211_1112, w211_1115, ks_0, ks_118, nI_add, in_nI (show i + 1 < L by omega) (by omega), nI_clamp (show i + 1 < 2 ^ 31 by omega), in_nI (show i + 2 < L by omega) (by omega), nI_clamp (show i + 2 < 2 ^ 31 by omega), ↓reduceIte, Option.toList_some, List.cons_append, List.nil_append, Cq_of e1, Cq_of e2]
  exact ih σ2 h3
theorem law_20 (hi : i + 4 ≤ L) (hL : L ≤ 2048) (hp : Pr I 105 192 [.int (xs (i + 1))] σ) (ih : ∀ σ', I σ' → Wq (some (L, xs)) 211 18 [some (.retAddr 0), some (.ref (0 : Nat)), some (.ref (118 : Nat)), some (.int (nI (i + 4)))] [] σ' Q) : Wq (some (L, xs)) 211 770 [some (.retAddr 0), some (.ref (0 : Nat)), some (.ref (118 : Nat)), some (.int (nI i))] [] σ Q := by
  obtain ⟨v, σ1, σ2, e1, e2, h3⟩ := hp
  simp only [w211_770, w211_771, w211_772, w211_773, w211_774, w211_775, w211_775s, w211_776, w211_779, w211_780, w211_781, w211_782, w211_783, w211_784, w211_784s, w211_785, w211_788, w211_791, w211_792, w211_1112, w211_1115, ks_0, ks_118, nI_add, in_nI (show i + 1 < L by omega) (by omega), nI_clamp (show i + 1 < 2 ^ 31 by omega), ↓reduceIte, Option.toList_some, List.cons_append, List.nil_append, Cq_of e1, Cq_of e2]
  exact ih σ2 h3
theorem law_21 (hi : i + 4 ≤ L) (hL : L ≤ 2048) (hp : Pr I 106 193 [.int (xs (i + 1)), .int (xs (i + 2)), .int (xs (i + 3))] σ) (ih : ∀ σ', I σ' → Wq (some (L, xs)) 211 18 [some (.retAddr 0), some (.ref (0 : Nat)), some (.ref (118 : Nat)), some (.int (nI (i + 4)))] [] σ' Q) : Wq (some (L, xs)) 211 793 [some (.retAddr 0), some (.ref (0 : Nat)), some (.ref (118 : Nat)), some (.int (nI i))] [] σ Q := by
  obtain ⟨v, σ1, σ2, e1, e2, h3⟩ := hp
  simp only [w211_793, w211_794, w211_795, w211_796, w211_797, w211_798, w211_798s, w211_799, w211_800, w211_801, w211_802, w211_803, w211_803s, w211_804, w211_805, w211_806, w211_807, w211_808, w211_808s, w211_809, w211_812, w211_813, w211_814, w211_815, w211_816, w211_817, w211_817s, w211_818, w211_819, w211_820, w211_821, w211_822, w211_822s, w211_823, w211_824, w211_825, w211_826, w211_827, w211_827s, w211_828, w211_831, w211_834, w211_835, w211_1112, w211_1115, ks_0, ks_118, nI_add, in_nI (show i + 1 < L by omega) (by omega), nI_clamp (show i + 1 < 2 ^ 31 by omega), in_nI (show i + 2 < L by omega) (by omega), nI_clamp (show i + 2 < 2 ^ 31 by omega), in_nI (show i + 3 < L by omega) (by omega), nI_clamp (show i + 3 < 2 ^ 31 by omega), ↓reduceIte, Option.toList_some, List.cons_append, List.nil_append, Cq_of e1, Cq_of e2]
  exact ih σ2 h3
theorem law_22 (hi : i + 4 ≤ L) (hL : L ≤ 2048) (hp : Pr I 107 194 [.int (xs (i + 1)), .int (xs (i + 2))] σ) (ih : ∀ σ', I σ' → Wq (some (L, xs)) 211 18 [some (.retAddr 0), some (.ref (0 : Nat)), some (.ref (118 : Nat)), some (.int (nI (i + 4)))] [] σ' Q) : Wq (some (L, xs)) 211 836 [some (.retAddr 0), some (.ref (0 : Nat)), some (.ref (118 : Nat)), some (.int (nI i))] [] σ Q := by
  obtain ⟨v, σ1, σ2, e1, e2, h3⟩ := hp
  simp only [w211_836, w211_837, w211_838, w211_839, w211_840, w211_841, w211_841s, w211_842, w211_843, w211_844, w211_845, w211_846, w211_846s, w211_847, w211_850, w211_851, w211_852, w211_853, w211_854, w211_855, w211_855s, w211_856, w211_857, w211_858, w211_859, w211_860, w211_860s, w211_861, w211_864, w211_867, w211_868, w211_1112, w211_1115, ks_0, ks_118, nI_add, in_nI (show i + 1 < L by omega) (by omega), nI_clamp (show i + 1 < 2 ^ 31 by omega), in_nI (show i + 2 < L by omega) (by omega), nI_clamp (show i + 2 < 2 ^ 31 by omega), ↓reduceIte, Option.toList_some, List.cons_append, List.nil_append, Cq_of e1, Cq_of e2]
  exact ih σ2 h3
theorem law_23 (hi : i + 4 ≤ L) (hL : L ≤ 2048) (hp : Pr I 108 195 [.int (xs (i + 1)), .int (xs (i + 2))] σ) (ih : ∀ σ', I σ' → Wq (some (L, xs)) 211 18 [some (.retAddr 0), some (.ref (0 : Nat)), some (.ref (118 : Nat)), some (.int (nI (i + 4)))] [] σ' Q) : Wq (some (L, xs)) 211 869 [some (.retAddr 0), some (.ref (0 : Nat)), some (.ref (118 : Nat)), some (.int (nI i))] [] σ Q := by
  obtain ⟨v, σ1, σ2, e1, e2, h3⟩ := hp
  simp only [w211_869, w211_870, w211_871, w211_872, w211_873, w211_874, w211_874s, w211_875, w211_876, w211_877, w211_878, w211_879, w211_879s, w211_880, w211_883, w211_884, w211_885, w211_886, w211_887, w211_888, w211_888s, w211_889, w211_890, w211_891, w211_892, w211_893, w211_893s, w211_894, w211_897, w211_900, w211_901, w211_1112, w211_1115, ks_0, ks_118, nI_add, in_nI (show i + 1 < L by omega) (by omega), nI_clamp (show i + 1 < 2 ^ 31 by omega), in_nI (show i + 2 < L by omega) (by omega), nI_clamp (show i + 2 < 2 ^ 31 by omega), ↓reduceIte, Option.toList_some, List.cons_append, List.nil_append, Cq_of e1, Cq_of e2]
  exact ih σ2 h3
theorem law_24 (hi : i + 4 ≤ L) (hL : L ≤ 2048) (hp : Pr I 110 197 [.int (xs (i + 1))] σ) (ih : ∀ σ', I σ' → Wq (some (L, xs)) 211 18 [some (.retAddr 0), some (.ref (0 : Nat)), some (.ref (118 : Nat)), some (.int (nI (i + 4)))] [] σ' Q) : Wq (some (L, xs)) 211 902 [some (.retAddr 0), some (.ref (0 : Nat)), some (.ref (118 : Nat)), some (.int (nI i))] [] σ Q := by
  obtain ⟨v, σ1, σ2, e1, e2, h3⟩ := hp
  simp only [w211_902, w211_903, w211_904, w211_905, w211_906, w211_907, w211_907s, w211_908, w211_911, w211_912, w211_913, w211_914, w211_915, w211_916, w211_916s, w211_917, w211_920, w211_923, w211_924, w211_1112, w211_1115, ks_0, ks_118, nI_add, in_nI (show i + 1 < L by omega) (by omega), nI_clamp (show i + 1 < 2 ^ 31 by omega), ↓reduceIte, Option.toList_some, List.cons_append, List.nil_append, Cq_of e1, Cq_of e2]
  exact ih σ2 h3
theorem law_25 (hi : i + 4 ≤ L) (hL : L ≤ 2048) (hp : Pr I 111 198 [.int (xs (i + 1)), .int (xs (i + 2))] σ) (ih : ∀ σ', I σ' → Wq (some (L, xs)) 211 18 [some (.retAddr 0), some (.ref (0 : Nat)), some (.ref (118 : Nat)), some (.int (nI (i + 4)))] [] σ' Q) : Wq (some (L, xs)) 211 925 [some (.retAddr 0), some (.ref (0 : Nat)), some (.ref (118 : Nat)), some (.int (nI i))] [] σ Q := by
  obtain ⟨v, σ1, σ2, e1, e2, h3⟩ := hp
  simp only [w211_925, w211_926, w211_927, w211_928, w211_929, w211_930, w211_930s, w211_931, w211_932, w211_933, w211_934, w211_935, w211_935s, w211_936, w211_939, w211_940, w211_941, w211_942, w211_943, w211_944, w211_944s, w211_945, w211_946, w211_947, w211_948, w211_949, w211_949s, w211_950, w211_953, w211_956, w211_957, w211_1112, w211_1115, ks_0, ks_118, nI_add, in_nI (show i + 1 < L by omega) (by omega), nI_clamp (show i + 1 < 2 ^ 31 by omega), in_nI (show i + 2 < L by omega) (by omega), nI_clamp (show i + 2 < 2 ^ 31 by omega), ↓reduceIte, Option.toList_some, List.cons_append, List.nil_append, Cq_of e1, Cq_of e2]
  exact ih σ2 h3
theorem law_26 (hi : i + 4 ≤ L) (hL : L ≤ 2048) (hp : Pr I 112 199 [] σ) (ih : ∀ σ', I σ' → Wq (some (L, xs)) 211 18 [some (.retAddr 0), some (.ref (0 : Nat)), some (.ref (118 : Nat)), some (.int (nI (i + 4)))] [] σ' Q) : Wq (some (L, xs)) 211 958 [some (.retAddr 0), some (.ref (0 : Nat)), some (.ref (118 : Nat)), some (.int (nI i))] [] σ Q := by
  obtain ⟨v, σ1, σ2, e1, e2, h3⟩ := hp
  simp only [w211_958, w211_959, w211_962, w211_963, w211_966, w211_969, w211_970, w211_1112, w211_1115, ks_0, ks_118, nI_add, ↓reduceIte, Option.toList_some, List.cons_append, List.nil_append, Cq_of e1, Cq_of e2]
  exact ih σ2 h3
theorem law_27 (hi : i + 4 ≤ L) (hL : L ≤ 2048) (hp : Pr I 113 200 [] σ) (ih : ∀ σ', I σ' → Wq (some (L, xs)) 211 18 [some (.retAddr 0), some (.ref (0 : Nat)), some (.ref (118 : Nat)), some (.int (nI (i + 4)))] [] σ' Q) : Wq (some (L, xs)) 211 971 [some (.retAddr 0), some (.ref (0 : Nat)), some (.ref (118 : Nat)), some (.int (nI i))] [] σ Q := by
  obtain ⟨v, σ1, σ2, e1, e2, h3⟩ := hp
  simp only [w211_971, w211_972, w211_975, w211_976, w211_979, w211_982, w211_983, w211_1112, w211_1115, ks_0, ks_118, nI_add, ↓reduceIte, Option.toList_some, List.cons_append, List.nil_append, Cq_of e1, Cq_of e2]
  exact ih σ2 h3
theorem law_28 (hi : i + 4 ≤ L) (hL : L ≤ 2048) (hp : Pr I 114 201 [.int (xs (i + 1)), .int (xs (i + 2))] σ) (ih : ∀ σ', I σ' → Wq (some (L, xs)) 211 18 [some (.retAddr 0), some (.ref (0 : Nat)), some (.ref (118 : Nat)), some (.int (nI (i + 4)))] [] σ' Q) : Wq (some (L, xs)) 211 984 [some (.retAddr 0), some (.ref (0 : Nat)), some (.ref (118 : Nat)), some (.int (nI i))] [] σ Q := by
  obtain ⟨v, σ1, σ2, e1, e2, h3⟩ := hp
  simp only [w211_984, w211_985, w211_986, w211_987, w211_988, w211_989, w211_989s, w211_990, w211_991, w211_992, w211_993, w211_994, w211_994s, w211_995, w211_998, w211_999, w211_1000, w211_1001, w211_1002, w211_1003, w211_1003s, w211_1004, w211_1005, w211_1006, w211_1007, w211_1008, w211_1008s, w211_1009, w211_1012, w211_1015, w211_1016, w211_1112, w211_1115, ks_0, ks_118, nI_add, in_nI (show i + 1 < L by omega) (by omega), nI_clamp (show i + 1 < 2 ^ 31 by omega), in_nI (show i + 2 < L by omega) (by omega), nI_clamp (show i + 2 < 2 ^ 31 by omega), ↓reduceIte, Option.toList_some, List.cons_append, List.nil_append, Cq_of e1, Cq_of e2]
  exact ih σ2 h3
theorem law_29 (hi : i + 4 ≤ L) (hL : L ≤ 2048) (hp : Pr I 115 202 [] σ) (ih : ∀ σ', I σ' → Wq (some (L, xs)) 211 18 [some (.retAddr 0), some (.ref (0 : Nat)), some (.ref (118 : Nat)), some (.int (nI (i + 4)))] [] σ' Q) : Wq (some (L, xs)) 211 1017 [some (.retAddr 0), some (.ref (0 : Nat)), some (.ref (118 : Nat)), some (.int (nI i))] [] σ Q := by
  obtain ⟨v, σ1, σ2, e1, e2, h3⟩ := hp
  simp only [w211_1017, w211_1018, w211_1021, w211_1022, w211_1025, w211_1028, w211_1029, w211_1112, w211_1115, ks_0, ks_118, nI_add, ↓reduceIte, Option.toList_some, List.cons_append, List.nil_append, Cq_of e1, Cq_of e2]
  exact ih σ2 h3
theorem law_30 (hi : i + 4 ≤ L) (hL : L ≤ 2048) (hp : Pr I 116 203 [] σ) (ih : ∀ σ', I σ' → Wq (some (L, xs)) 211 18 [some (.retAddr 0), some (.ref (0 : Nat)), some (.ref (118 : Nat)), some (.int (nI (i + 4)))] [] σ' Q) : Wq (some (L, xs)) 211 1030 [some (.retAddr 0), some (.ref (0 : Nat)), some (.ref (118 : Nat)), some (.int (nI i))] [] σ Q := by
  obtain ⟨v, σ1, σ2, e1, e2, h3⟩ := hp
  simp only [w211_1030, w211_1031, w211_1034, w211_1035, w211_1038, w211_1041, w211_1042, w211_1112, w211_1115, ks_0, ks_118, nI_add, ↓reduceIte, Option.toList_some, List.cons_append, List.nil_append, Cq_of e1, Cq_of e2]
  exact ih σ2 h3
theorem law_31 (hi : i + 4 ≤ L) (hL : L ≤ 2048) (hp : Pr I 117 204 [.int (xs (i + 1))] σ) (ih : ∀ σ', I σ' → Wq (some (L, xs)) 211 18 [some (.retAddr 0), some (.ref (0 : Nat)), some (.ref (118 : Nat)), some (.int (nI (i + 4)))] [] σ' Q) : Wq (some (L, xs)) 211 1043 [some (.retAddr 0), some (.ref (0 : Nat)), some (.ref (118 : Nat)), some (.int (nI i))] [] σ Q := by
  obtain ⟨v, σ1, σ2, e1, e2, h3⟩ := hp
  simp only [w211_1043, w211_1044, w211_1045, w211_1046, w211_1047, w211_1048, w211_1048s, w211_1049, w211_1052, w211_1053, w211_1054, w211_1055, w211_1056, w211_1057, w211_1057s, w211_1058, w211_1061, w211_1064, w211_1065, w211_1112, w211_1115, ks_0, ks_118, nI_add, in_nI (show i + 1 < L by omega) (by omega), nI_clamp (show i + 1 < 2 ^ 31 by omega), ↓reduceIte, Option.toList_some, List.cons_append, List.nil_append, Cq_of e1, Cq_of e2]
  exact ih σ2 h3
theorem law_32 (hi : i + 4 ≤ L) (hL : L ≤ 2048) (hp : Pr I 118 205 [.int (xs (i + 1))] σ) (ih : ∀ σ', I σ' → Wq (some (L, xs)) 211 18 [some (.retAddr 0), some (.ref (0 : Nat)), some (.ref (118 : Nat)), some (.int (nI (i + 4)))] [] σ' Q) : Wq (some (L, xs)) 211 1066 [some (.retAddr 0), some (.ref (0 : Nat)), some (.ref (118 : Nat)), some (.int (nI i))] [] σ Q := by
  obtain ⟨v, σ1, σ2, e1, e2, h3⟩ := hp
  simp only [w211_1066, w211_1067, w211_1068, w211_1069, w211_1070, w211_1071, w211_1071s, w211_1072, w211_1075, w211_1076, w211_1077, w211_1078, w211_1079, w211_1080, w211_1080s, w211_1081, w211_1084, w211_1087, w211_1088, w211_1112, w211_1115, ks_0, ks_118, nI_add, in_nI (show i + 1 < L by omega) (by omega), nI_clamp (show i + 1 < 2 ^ 31 by omega), ↓reduceIte, Option.toList_some, List.cons_append, List.nil_append, Cq_of e1, Cq_of e2]
  exact ih σ2 h3
theorem law_33 (hi : i + 4 ≤ L) (hL : L ≤ 2048) (hp : Pr I 119 206 [.int (xs (i + 1))] σ) (ih : ∀ σ', I σ' → Wq (some (L, xs)) 211 18 [some (.retAddr 0), some (.ref (0 : Nat)), some (.ref (118 : Nat)), some (.int (nI (i + 4)))] [] σ' Q) : Wq (some (L, xs)) 211 1089 [some (.retAddr 0), some (.ref (0 : Nat)), some (.ref (118 : Nat)), some (.int (nI i))] [] σ Q := by
  obtain ⟨v, σ1, σ2, e1, e2, h3⟩ := hp
  simp only [w211_1089, w211_1090, w211_1091, w211_1092, w211_1093, w211_1094, w211_1094s, w211_1095, w211_1098, w211_1099, w211_1100, w211_1101, w211_1102, w211_1103, w211_1103s, w211_1104, w211_1107, w211_1110, w211_1111, w211_1112, w211_1115, ks_0, ks_118, nI_add, in_nI (show i + 1 < L by omega) (by omega), nI_clamp (show i + 1 < 2 ^ 31 by omega), ↓reduceIte, Option.toList_some, List.cons_append, List.nil_append, Cq_of e1, Cq_of e2]
  exact ih σ2 h3
theorem law_loop (hq0 : ∀ (σ : dm_G) (x0 : Int32), I σ → Pr I 77 132 [.int x0] σ) (hq1 : ∀ (σ : dm_G), I σ → Pr I 78 144 [] σ) (hq2 : ∀ (σ : dm_G), I σ → Pr I 79 145 [] σ) (hq3 : ∀ (σ : dm_G) (x0 : Int32), I σ → Pr I 80 161 [.int x0] σ) (hq4 : ∀ (σ : dm_G) (x0 x1 : Int32), I σ → Pr I 81 162 [.int x0, .int x1] σ) (hq5 : ∀ (σ : dm_G) (x0 x1 : Int32), I σ → Pr I 82 163 [.int x0, .int x1] σ) (hq6 : ∀ (σ : dm_G) (x0 x1 : Int32), I σ → Pr I 83 164 [.int x0, .int x1] σ) (hq7 : ∀ (σ : dm_G) (x0 : Int32), I σ → Pr I 86 168 [.int x0] σ) (hq8 : ∀ (σ : dm_G) (x0 x1 : Int32), I σ → Pr I 87 171 [.int x0, .int x1] σ) (hq9 : ∀ (σ : dm_G) (x0 x1 : Int32), I σ → Pr I 88 172 [.int x0, .int x1] σ) (hq10 : ∀ (σ : dm_G) (x b : Int32), I σ → b = nI 0 ∨ b = nI 1 → Pr I 89 173 [.int x, .int b] σ) (hq11 : ∀ (σ : dm_G) (x0 x1 : Int32), I σ → Pr I 90 174 [.int x0, .int x1] σ) (hq12 : ∀ (σ : dm_G) (x0 : Int32), I σ → Pr I 91 175 [.int x0] σ) (hq13 : ∀ (σ : dm_G) (x0 : Int32), I σ → Pr I 92 178 [.int x0] σ) (hq14 : ∀ (σ : dm_G), I σ → Pr I 93 179 [] σ) (hq15 : ∀ (σ : dm_G) (x0 x1 x2 : Int32), I σ → Pr I 100 180 [.int x0, .int x1, .int x2] σ) (hq16 : ∀ (σ : dm_G) (x0 x1 x2 : Int32), I σ → Pr I 101 181 [.int x0, .int x1, .int x2] σ) (hq17 : ∀ (σ : dm_G) (x0 : Int32), I σ → Pr I 102 186 [.int x0] σ) (hq18 : ∀ (σ : dm_G) (x0 x1 x2 : Int32), I σ → Pr I 103 190 [.int x0, .int x1, .int x2] σ) (hq19 : ∀ (σ : dm_G) (x0 x1 : Int32), I σ → Pr I 104 191 [.int x0, .int x1] σ) (hq20 : ∀ (σ : dm_G) (x0 : Int32), I σ → Pr I 105 192 [.int x0] σ) (hq21 : ∀ (σ : dm_G) (x0 x1 x2 : Int32), I σ → Pr I 106 193 [.int x0, .int x1, .int x2] σ) (hq22 : ∀ (σ : dm_G) (x0 x1 : Int32), I σ → Pr I 107 194 [.int x0, .int x1] σ) (hq23 : ∀ (σ : dm_G) (x0 x1 : Int32), I σ → Pr I 108 195 [.int x0, .int x1] σ) (hq24 : ∀ (σ : dm_G) (x0 : Int32), I σ → Pr I 110 197 [.int x0] σ) (hq25 : ∀ (σ : dm_G) (x0 x1 : Int32), I σ → Pr I 111 198 [.int x0, .int x1] σ) (hq26 : ∀ (σ : dm_G), I σ → Pr I 112 199 [] σ) (hq27 : ∀ (σ : dm_G), I σ → Pr I 113 200 [] σ) (hq28 : ∀ (σ : dm_G) (x0 x1 : Int32), I σ → Pr I 114 201 [.int x0, .int x1] σ) (hq29 : ∀ (σ : dm_G), I σ → Pr I 115 202 [] σ) (hq30 : ∀ (σ : dm_G), I σ → Pr I 116 203 [] σ) (hq31 : ∀ (σ : dm_G) (x0 : Int32), I σ → Pr I 117 204 [.int x0] σ) (hq32 : ∀ (σ : dm_G) (x0 : Int32), I σ → Pr I 118 205 [.int x0] σ) (hq33 : ∀ (σ : dm_G) (x0 : Int32), I σ → Pr I 119 206 [.int x0] σ) (hL : L ≤ 2048) : ∀ (f i : Nat) (σ : dm_G), I σ → L + 4 ≤ i + 4 * f → i ≤ L + 4 → Wq (some (L, xs)) 211 18 [some (.retAddr 0), some (.ref (0 : Nat)), some (.ref (118 : Nat)), some (.int (nI i))] [] σ (fun r _ => r = some (.int (nI 1))) := by
  intro f
  induction f with
  | zero =>
    intro i σ hI hf hi
    have h0 : nI L - nI 4 < nI i := by
      rw [Int32.lt_iff_toInt_lt, pk_sub_toInt (by omega) (by omega), nI_toInt (by omega)]
      omega
    rw [w211_18]
    simp only [w211_19, w211_20, w211_21, w211_22, w211_23, w211_26, w211_27, w211_28, w211_28s, w211_29, w211_31, w211_1118, w211_1119, h0, (by decide : nI 1 &&& 1 = nI 1), ↓reduceIte]
  | succ f ihf =>
    intro i σ hI hf hi
    by_cases h4 : i + 4 ≤ L
    · have h0 : ¬ nI L - nI 4 < nI i := by
        rw [Int32.lt_iff_toInt_lt, pk_sub_toInt (by omega) (by omega), nI_toInt (by omega)]
        omega
      have ih : ∀ σ', I σ' → Wq (some (L, xs)) 211 18 [some (.retAddr 0), some (.ref (0 : Nat)), some (.ref (118 : Nat)), some (.int (nI (i + 4)))] [] σ' (fun r _ => r = some (.int (nI 1))) := fun σ' h => ihf (i + 4) σ' h (by omega) (by omega)
      obtain ⟨k, hk, ek⟩ := mask63 (xs i)
      rw [w211_18]
      simp only [w211_19, w211_20, w211_21, w211_22, w211_23, w211_26, w211_27, w211_28, w211_28s, w211_29, w211_31, h0, in_nI (show i < L by omega) (by omega), nI_clamp (show i < 2 ^ 31 by omega), ek, ↓reduceIte]
      by_cases h34 : k < 34
      · rcases (by omega : k = 0 ∨ k = 1 ∨ k = 2 ∨ k = 3 ∨ k = 4 ∨ k = 5 ∨ k = 6 ∨ k = 7 ∨ k = 8 ∨ k = 9 ∨ k = 10 ∨ k = 11 ∨ k = 12 ∨ k = 13 ∨ k = 14 ∨ k = 15 ∨ k = 16 ∨ k = 17 ∨ k = 18 ∨ k = 19 ∨ k = 20 ∨ k = 21 ∨ k = 22 ∨ k = 23 ∨ k = 24 ∨ k = 25 ∨ k = 26 ∨ k = 27 ∨ k = 28 ∨ k = 29 ∨ k = 30 ∨ k = 31 ∨ k = 32 ∨ k = 33) with rfl | rfl | rfl | rfl | rfl | rfl | rfl | rfl | rfl | rfl | rfl | rfl | rfl | rfl | rfl | rfl | rfl | rfl | rfl | rfl | rfl | rfl | rfl | rfl | rfl | rfl | rfl | rfl | rfl | rfl | rfl | rfl | rfl | rfl
        · rw [w211_32_0]; exact law_0 (show i + 4 ≤ L from h4) hL (hq0 σ _ hI) ih
        · rw [w211_32_1]; exact law_1 (show i + 4 ≤ L from h4) hL (hq1 σ hI) ih
        · rw [w211_32_2]; exact law_2 (show i + 4 ≤ L from h4) hL (hq2 σ hI) ih
        · rw [w211_32_3]; exact law_3 (show i + 4 ≤ L from h4) hL (hq3 σ _ hI) ih
        · rw [w211_32_4]; exact law_4 (show i + 4 ≤ L from h4) hL (hq4 σ _ _ hI) ih
        · rw [w211_32_5]; exact law_5 (show i + 4 ≤ L from h4) hL (hq5 σ _ _ hI) ih
        · rw [w211_32_6]; exact law_6 (show i + 4 ≤ L from h4) hL (hq6 σ _ _ hI) ih
        · rw [w211_32_7]; exact law_7 (show i + 4 ≤ L from h4) hL (hq7 σ _ hI) ih
        · rw [w211_32_8]; exact law_8 (show i + 4 ≤ L from h4) hL (hq8 σ _ _ hI) ih
        · rw [w211_32_9]; exact law_9 (show i + 4 ≤ L from h4) hL (hq9 σ _ _ hI) ih
        · rw [w211_32_10]; exact law_10 (show i + 4 ≤ L from h4) hL (fun b hb => hq10 σ _ b hI hb) ih
        · rw [w211_32_11]; exact law_11 (show i + 4 ≤ L from h4) hL (hq11 σ _ _ hI) ih
        · rw [w211_32_12]; exact law_12 (show i + 4 ≤ L from h4) hL (hq12 σ _ hI) ih
        · rw [w211_32_13]; exact law_13 (show i + 4 ≤ L from h4) hL (hq13 σ _ hI) ih
        · rw [w211_32_14]; exact law_14 (show i + 4 ≤ L from h4) hL (hq14 σ hI) ih
        · rw [w211_32_15]; exact law_15 (show i + 4 ≤ L from h4) hL (hq15 σ _ _ _ hI) ih
        · rw [w211_32_16]; exact law_16 (show i + 4 ≤ L from h4) hL (hq16 σ _ _ _ hI) ih
        · rw [w211_32_17]; exact law_17 (show i + 4 ≤ L from h4) hL (hq17 σ _ hI) ih
        · rw [w211_32_18]; exact law_18 (show i + 4 ≤ L from h4) hL (hq18 σ _ _ _ hI) ih
        · rw [w211_32_19]; exact law_19 (show i + 4 ≤ L from h4) hL (hq19 σ _ _ hI) ih
        · rw [w211_32_20]; exact law_20 (show i + 4 ≤ L from h4) hL (hq20 σ _ hI) ih
        · rw [w211_32_21]; exact law_21 (show i + 4 ≤ L from h4) hL (hq21 σ _ _ _ hI) ih
        · rw [w211_32_22]; exact law_22 (show i + 4 ≤ L from h4) hL (hq22 σ _ _ hI) ih
        · rw [w211_32_23]; exact law_23 (show i + 4 ≤ L from h4) hL (hq23 σ _ _ hI) ih
        · rw [w211_32_24]; exact law_24 (show i + 4 ≤ L from h4) hL (hq24 σ _ hI) ih
        · rw [w211_32_25]; exact law_25 (show i + 4 ≤ L from h4) hL (hq25 σ _ _ hI) ih
        · rw [w211_32_26]; exact law_26 (show i + 4 ≤ L from h4) hL (hq26 σ hI) ih
        · rw [w211_32_27]; exact law_27 (show i + 4 ≤ L from h4) hL (hq27 σ hI) ih
        · rw [w211_32_28]; exact law_28 (show i + 4 ≤ L from h4) hL (hq28 σ _ _ hI) ih
        · rw [w211_32_29]; exact law_29 (show i + 4 ≤ L from h4) hL (hq29 σ hI) ih
        · rw [w211_32_30]; exact law_30 (show i + 4 ≤ L from h4) hL (hq30 σ hI) ih
        · rw [w211_32_31]; exact law_31 (show i + 4 ≤ L from h4) hL (hq31 σ _ hI) ih
        · rw [w211_32_32]; exact law_32 (show i + 4 ≤ L from h4) hL (hq32 σ _ hI) ih
        · rw [w211_32_33]; exact law_33 (show i + 4 ≤ L from h4) hL (hq33 σ _ hI) ih
      · have hd : (nI k).toInt < 0 ∨ 33 < (nI k).toInt := by rw [nI_toInt (by omega)]; omega
        rw [w211_32_d hd]
        simp only [w211_1112, w211_1115, nI_add]
        exact ih σ hI
    · have h0 : nI L - nI 4 < nI i := by
        rw [Int32.lt_iff_toInt_lt, pk_sub_toInt (by omega) (by omega), nI_toInt (by omega)]
        omega
      rw [w211_18]
      simp only [w211_19, w211_20, w211_21, w211_22, w211_23, w211_26, w211_27, w211_28, w211_28s, w211_29, w211_31, w211_1118, w211_1119, h0, (by decide : nI 1 &&& 1 = nI 1), ↓reduceIte]
end LW
