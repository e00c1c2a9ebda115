/-! the law's acts: a hire -/
section LW3
variable {N : Nat} {xs : Nat → Int32} {σ : dm_G} {Q : Option Value → dm_G → Prop} {tn i : Nat} {x : Int32} {g e y at' kn hd how : Nat} {a10 a11 a12 a13 a14 a15 a16 a17 a18 a19 a20 a21 a22 a23 a24 a25 a26 a27 a28 a29 : Option Value} {c n : Nat → Nat} {k : Nat} {p : Nat → Nat → Nat} {q : Nat} {im : Nat → Nat → Nat} {h : Nat} {hs ht : Nat → Nat} {m : Nat} {bg bx : Nat → Nat} {L : Nat} {tx : Nat → Nat} {f : Int32} {s : Nat}
theorem lB_hire (hK : KA c n k p q im h hs ht m bg bx L tx f s σ) (hG : GA c n g e y at' kn hd) (hI : n 20 ≤ 1000) (h0 : 1 ≤ c 0) (hh : 2 ≤ how) (hh6 : how < 6) : ∃ (did : Nat) (n' : Nat → Nat) (k' : Nat) (p' : Nat → Nat → Nat) (s' : Nat) (τ : dm_G) (u24 u25 u26 : Option Value), (∀ Q, Wq (some (N, xs)) 132 258 [some (.retAddr 0), some (.ref (0 : Nat)), some (.ref (118 : Nat)), some (.ref (119 : Nat)), some (.ref (120 : Nat)), some (.int (nI (c 0))), some (.int (nI (c 2))), some (.int (nI (c 3))), some (.int (nI tn)), some (.int (nI i)), some (.int x), some (.int (nI k)), some (.int (nI (n 20))), some (.int (nI (n 19))), some (.int (nI (n 18))), some (.int (nI (n 21))), some (.int (nI g)), some (.int (nI e)), some (.int (nI y)), some (.int (nI at')), some (.int (nI kn)), some (.int (nI hd)), some (.int (nI how)), some (.int (nI 1)), a24, a25, a26, a27, a28, a29] [] σ Q = Wq (some (N, xs)) 132 978 [some (.retAddr 0), some (.ref (0 : Nat)), some (.ref (118 : Nat)), some (.ref (119 : Nat)), some (.ref (120 : Nat)), some (.int (nI (c 0))), some (.int (nI (c 2))), some (.int (nI (c 3))), some (.int (nI tn)), some (.int (nI i)), some (.int x), some (.int (nI k)), some (.int (nI (n 20))), some (.int (nI (n 19))), some (.int (nI (n 18))), some (.int (nI (n 21))), some (.int (nI g)), some (.int (nI e)), some (.int (nI y)), some (.int (nI at')), some (.int (nI kn)), some (.int (nI hd)), some (.int (nI how)), some (.int (nI did)), u24, u25, u26, a27, a28, a29] [] τ Q) ∧ KA c n' k' p' q im h hs ht m bg bx L tx f s' τ ∧ FZ σ τ ∧ Dn c n n' ∧ ((did = 1 ∧ k' = min (k + 1) 16 ∧ p' = pushP n p) ∨ (did = 0 ∧ n' = n ∧ k' = k ∧ p' = p)) := by
  have w0 := hK.1.1.1
  have w2 := hK.1.1.2.1
  have w3 := hK.1.1.2.2.1
  have g2 : nI 2 ≤ nI how := nI_le hh (by omega)
  have g6 : ¬ nI 6 ≤ nI how := nI_ge hh6 (by omega)
  obtain ⟨hG1, hG2, hG3, hG4, hG5⟩ := hG
  obtain ⟨hn1, hn18, hn19, hn20, hn21⟩ := id hK.1.2.1
  by_cases hz : c 2 = 0 ∨ c 3 = 0
  · have hg' : g < c 2 ∨ c 2 = 0 ∧ g = 0 := by
      by_cases z2 : c 2 = 0
      · exact Or.inr ⟨z2, (hG2 z2).1⟩
      · exact Or.inl (hG1 (by omega)).1
    have c1 := fun Q => Cq_of (Q := Q) (q_leads_f (z := nI 1) hK hz hg' hG4)
    have c2 := fun Q => Cq_of (Q := Q) (q_hire_f hK hg' hz hG4)
    refine ⟨0, n, k, p, s, σ, some (.int (-1000000001)), some (.int (-1000000001)), some (.int (nI 0)), fun Q => ?_, hK, FZ.rf, ⟨Nat.le_refl _, by omega, Nat.le_refl _, fun _ _ _ h => h⟩, Or.inr ⟨rfl, rfl, rfl, rfl⟩⟩
    have hth : ∀ (Q' : Option Value → dm_G → Prop) (u24 u25 : Option Value), Wq (some (N, xs)) 132 355 [some (.retAddr 0), some (.ref (0 : Nat)), some (.ref (118 : Nat)), some (.ref (119 : Nat)), some (.ref (120 : Nat)), some (.int (nI (c 0))), some (.int (nI (c 2))), some (.int (nI (c 3))), some (.int (nI tn)), some (.int (nI i)), some (.int x), some (.int (nI k)), some (.int (nI (n 20))), some (.int (nI (n 19))), some (.int (nI (n 18))), some (.int (nI (n 21))), some (.int (nI g)), some (.int (nI e)), some (.int (nI y)), some (.int (nI at')), some (.int (nI kn)), some (.int (nI hd)), some (.int (nI how)), some (.int (nI 1)), u24, u25, a26, a27, a28, a29] [] σ Q' = Wq (some (N, xs)) 132 372 [some (.retAddr 0), some (.ref (0 : Nat)), some (.ref (118 : Nat)), some (.ref (119 : Nat)), some (.ref (120 : Nat)), some (.int (nI (c 0))), some (.int (nI (c 2))), some (.int (nI (c 3))), some (.int (nI tn)), some (.int (nI i)), some (.int x), some (.int (nI k)), some (.int (nI (n 20))), some (.int (nI (n 19))), some (.int (nI (n 18))), some (.int (nI (n 21))), some (.int (nI g)), some (.int (nI e)), some (.int (nI y)), some (.int (nI at')), some (.int (nI kn)), some (.int (nI hd)), some (.int (nI how)), some (.int (nI 1)), u24, u25, some (.int (nI 0)), a27, a28, a29] [] σ Q' := by
      intro Q' u24 u25
      by_cases z2 : c 2 = 0
      · simp only [w132_355, w132_357, w132_360, w132_362, w132_365, w132_366, w132_369, w132_370, z2, nI_le (Nat.le_refl 0) (show 0 < 2 ^ 31 by omega), ↓reduceIte, Option.toList_some, Option.toList_none, List.cons_append, List.nil_append]
      · have n2 : ¬ nI (c 2) ≤ nI 0 := nI_ge (by omega) (by omega)
        have z3 : c 3 = 0 := by omega
        simp only [w132_355, w132_357, w132_360, w132_362, w132_365, w132_366, w132_369, w132_370, n2, z3, nI_le (Nat.le_refl 0) (show 0 < 2 ^ 31 by omega), ↓reduceIte, Option.toList_some, Option.toList_none, List.cons_append, List.nil_append]
    rw [w132_258]
    simp only [w132_260, w132_261, w132_327, w132_329, w132_331, w132_334, w132_335, w132_337, w132_339, w132_340, w132_343, w132_345, w132_346, w132_348, w132_350, w132_353, g2, g6, ks_0, c1, c2, ↓reduceIte, Option.toList_some, Option.toList_none, List.cons_append, List.nil_append]
    rw [hth]
    simp only [w132_372, w132_374, w132_377, w132_379, w132_382, w132_384, w132_386, w132_387, w132_388, w132_389, w132_392, w132_393, w132_396, w132_397, w132_399, w132_401, w132_403, w132_406, w132_408, w132_411, w132_413, w132_416, w132_418, w132_421, w132_423, w132_426, w132_428, w132_448, w132_450, w132_546, nI_ne1, ↓reduceIte, Option.toList_some, Option.toList_none, List.cons_append, List.nil_append]
  · have z2 : 0 < c 2 := by omega
    have z3 : 0 < c 3 := by omega
    obtain ⟨hg, rfl, rfl, rfl⟩ := hG1 z2
    have he := hG3 z3
    have n2 : ¬ nI (c 2) ≤ nI 0 := nI_ge (by omega) (by omega)
    have n3 : ¬ nI (c 3) ≤ nI 0 := nI_ge (by omega) (by omega)
    have p6 : 2 ^ c 3 ≤ 2 ^ 6 := Nat.pow_le_pow_right (by decide) w3
    have p8 : 2 ^ c 0 ≤ 2 ^ 8 := Nat.pow_le_pow_right (by decide) w0
    have c1 := fun Q => Cq_of (Q := Q) (q_leads (j := 1) hK hg he (by omega))
    have hb18 := nI_bit (a := n 18) (x := e) (by omega) (by omega)
    cases hl : lwN c n g e with
    | none =>
      have el : ldN c n g e 1 = none := by unfold ldN; rw [hl]
      rw [el] at c1
      have c2 := fun Q => Cq_of (Q := Q) (q_hire_n hK hg he hl)
      refine ⟨0, n, k, p, s, σ, some (.int (-1)), some (.int (-1000000003)), some (.int (nI 1)), fun Q => ?_, hK, FZ.rf, ⟨Nat.le_refl _, by omega, Nat.le_refl _, fun _ _ _ h => h⟩, Or.inr ⟨rfl, rfl, rfl, rfl⟩⟩
      rw [w132_258]
      by_cases hb : (n 18).testBit e = true
      · simp only [w132_260, w132_261, w132_327, w132_329, w132_331, w132_334, w132_335, w132_337, w132_339, w132_340, w132_343, w132_345, w132_346, w132_348, w132_350, w132_353, w132_355, w132_357, w132_360, w132_362, w132_365, w132_366, w132_369, w132_370, w132_372, w132_374, w132_377, w132_379, w132_382, w132_384, w132_386, w132_387, w132_388, w132_389, w132_392, w132_393, w132_396, w132_397, w132_399, w132_401, w132_403, w132_406, w132_408, w132_411, w132_413, w132_416, w132_418, w132_421, w132_423, w132_426, w132_428, w132_431, w132_433, w132_435, w132_436, w132_437, w132_438, w132_439, w132_442, w132_444, w132_445, w132_448, w132_450, w132_546, g2, g6, ks_0, c1, oI, c2, n2, n3, nI_ne1, (by decide : (-1 : Int32) < nI 0), hb18, hb, ↓reduceIte, Option.toList_some, Option.toList_none, List.cons_append, List.nil_append]
      · simp only [w132_260, w132_261, w132_327, w132_329, w132_331, w132_334, w132_335, w132_337, w132_339, w132_340, w132_343, w132_345, w132_346, w132_348, w132_350, w132_353, w132_355, w132_357, w132_360, w132_362, w132_365, w132_366, w132_369, w132_370, w132_372, w132_374, w132_377, w132_379, w132_382, w132_384, w132_386, w132_387, w132_388, w132_389, w132_392, w132_393, w132_396, w132_397, w132_399, w132_401, w132_403, w132_406, w132_408, w132_411, w132_413, w132_416, w132_418, w132_421, w132_423, w132_426, w132_428, w132_431, w132_433, w132_435, w132_436, w132_437, w132_438, w132_439, w132_442, w132_444, w132_445, w132_448, w132_450, w132_546, g2, g6, ks_0, c1, oI, c2, n2, n3, nI_ne1, (by decide : (-1 : Int32) < nI 0), hb18, hb, (by decide : ¬ nI 0 = nI 1), ↓reduceIte, Option.toList_some, Option.toList_none, List.cons_append, List.nil_append, Bool.false_eq_true]
    | some d =>
      have el : ldN c n g e 1 = some (csN c (n 20) g d) := by unfold ldN; rw [hl]; rfl
      rw [el] at c1
      have hb : ¬ (n 18).testBit e = true := fun hb => by
        unfold lwN at hl
        rw [if_pos hb] at hl
        cases hl
      have hd := lwN_lt hl
      have hcs : csN c (n 20) g d ≤ 792 := csN_lt hK.1.1 hg (by omega)
      obtain ⟨τ, e2, K1, k1⟩ := q_hire hK hg he hl
      have c2 := fun Q => Cq_of (Q := Q) e2
      have t7 := fun Q => Cq_of (Q := Q) (q_told (j := 7) K1 (by omega))
      have t8 := fun Q => Cq_of (Q := Q) (q_told (j := 8) K1 (by omega))
      have u0 := fun Q => Cq_of (Q := Q) (q_guide (j := 0) K1 hg (by omega))
      have u2 := fun Q => Cq_of (Q := Q) (q_guide (j := 2) K1 hg (by omega))
      have u3 := fun Q => Cq_of (Q := Q) (q_guide (j := 3) K1 hg (by omega))
      have v1 := fun Q => Cq_of (Q := Q) (q_client (j := 1) K1 he (by omega))
      generalize hcv : csN c (n 20) g d = pr at c1 c2 K1 t7 t8 u0 u2 u3 v1 hcs
      have b18 : hiN c n g e pr 18 = n 18 ||| 1 <<< e := by unfold hiN; rw [if_neg (by omega), if_pos rfl]
      have b21 : hiN c n g e pr 21 = min (n 21 + pr) 999999 := by unfold hiN; rw [if_pos rfl]
      have b0 : hiN c n g e pr g = c (61 + e) := by unfold hiN; rw [if_neg (by omega), if_neg (by omega), if_pos rfl]
      have b6 : hiN c n g e pr (6 + g) = n (6 + g) := hi_k (by omega) (by omega)
      have b12 : hiN c n g e pr (12 + g) = n (12 + g) ||| 1 <<< e := by unfold hiN; rw [if_neg (by omega), if_neg (by omega), if_neg (by omega), if_pos rfl]
      have b20 : hiN c n g e pr 20 = n 20 := by unfold hiN; rw [if_neg (by omega), if_neg (by omega), if_neg (by omega), if_neg (by omega)]
      simp only [tdN, gdN, b18, b21, b0, b6, b12, (by decide : ¬ (1 : Nat) = 0), if_false] at t7 t8 u0 u2 u3 v1
      have np : ¬ nI pr < nI 0 := nI_nlt (by omega) (by omega)
      refine ⟨1, _, _, _, s, τ, some (.int (nI pr)), some (.int (nI pr)), some (.int (nI 1)), fun Q => ?_, K1, k1, ⟨?_, ?_, ?_, ?_⟩, Or.inl ⟨rfl, rfl, rfl⟩⟩
      · rw [w132_258]
        by_cases hm : n 21 + pr ≤ 999999
        · have e21 : min (n 21 + pr) 999999 = n 21 + pr := Nat.min_eq_left hm
          rw [e21] at t8
          have l1 : nI (n 21 + pr) ≤ nI 999999 := nI_le hm (by omega)
          simp only [w132_260, w132_261, w132_327, w132_329, w132_331, w132_334, w132_335, w132_337, w132_339, w132_340, w132_343, w132_345, w132_346, w132_348, w132_350, w132_353, w132_355, w132_357, w132_360, w132_362, w132_365, w132_366, w132_369, w132_370, w132_372, w132_374, w132_377, w132_379, w132_382, w132_384, w132_386, w132_387, w132_388, w132_389, w132_392, w132_393, w132_396, w132_397, w132_399, w132_401, w132_403, w132_406, w132_408, w132_411, w132_413, w132_416, w132_418, w132_421, w132_423, w132_426, w132_428, w132_431, w132_433, w132_435, w132_436, w132_437, w132_438, w132_439, w132_442, w132_444, w132_445, w132_448, w132_450, w132_453, w132_454, w132_456, w132_459, w132_461, w132_462, w132_464, w132_465, w132_466, w132_469, w132_470, w132_472, w132_475, w132_477, w132_479, w132_480, w132_482, w132_485, w132_487, w132_490, w132_492, w132_494, w132_495, w132_498, w132_499, w132_501, w132_502, w132_505, w132_506, w132_508, w132_509, w132_512, w132_515, w132_516, w132_518, w132_519, w132_522, w132_524, w132_525, w132_527, w132_528, w132_529, w132_532, w132_533, w132_535, w132_536, w132_539, w132_541, w132_546, g2, g6, ks_0, c1, oI, c2, n2, n3, nI_ne1, np, hb18, hb, (by decide : ¬ nI 0 = nI 1), t7, nI_shl 1 (show e < 32 by omega), nI_or, t8, nI_add, l1, u0, v1, u3, u2, ↓reduceIte, Option.toList_some, Option.toList_none, List.cons_append, List.nil_append, Bool.false_eq_true]
        · have e21 : min (n 21 + pr) 999999 = 999999 := Nat.min_eq_right (by omega)
          rw [e21] at t8
          have l1 : ¬ nI (n 21 + pr) ≤ nI 999999 := nI_ge (by omega) (by omega)
          simp only [w132_260, w132_261, w132_327, w132_329, w132_331, w132_334, w132_335, w132_337, w132_339, w132_340, w132_343, w132_345, w132_346, w132_348, w132_350, w132_353, w132_355, w132_357, w132_360, w132_362, w132_365, w132_366, w132_369, w132_370, w132_372, w132_374, w132_377, w132_379, w132_382, w132_384, w132_386, w132_387, w132_388, w132_389, w132_392, w132_393, w132_396, w132_397, w132_399, w132_401, w132_403, w132_406, w132_408, w132_411, w132_413, w132_416, w132_418, w132_421, w132_423, w132_426, w132_428, w132_431, w132_433, w132_435, w132_436, w132_437, w132_438, w132_439, w132_442, w132_444, w132_445, w132_448, w132_450, w132_453, w132_454, w132_456, w132_459, w132_461, w132_462, w132_464, w132_465, w132_466, w132_469, w132_470, w132_472, w132_475, w132_477, w132_479, w132_480, w132_482, w132_485, w132_487, w132_490, w132_492, w132_494, w132_495, w132_498, w132_499, w132_501, w132_502, w132_505, w132_506, w132_508, w132_509, w132_512, w132_515, w132_516, w132_518, w132_519, w132_522, w132_524, w132_525, w132_527, w132_528, w132_529, w132_532, w132_533, w132_535, w132_536, w132_539, w132_541, w132_546, g2, g6, ks_0, c1, oI, c2, n2, n3, nI_ne1, np, hb18, hb, (by decide : ¬ nI 0 = nI 1), t7, nI_shl 1 (show e < 32 by omega), nI_or, t8, nI_add, l1, u0, v1, u3, u2, ↓reduceIte, Option.toList_some, Option.toList_none, List.cons_append, List.nil_append, Bool.false_eq_true]
      · rw [b20]; exact Nat.le_refl _
      · rw [b20]; omega
      · exact hi_21 hn21
      · intro g' hg' b hb
        rw [hi_k (by omega) (by omega)]
        exact hb
end LW3
