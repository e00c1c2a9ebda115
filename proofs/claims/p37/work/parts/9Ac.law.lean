/-! the law's acts: a hire -/
section LW3
variable {N : Nat} {xs : Nat → Int32} {σ : dm_G} {Q : Option Value → dm_G → Prop} {tn i : Nat} {x : Int32} {g e y at' kn hd how : Nat} {a10 a11 a12 a13 a14 a15 a16 a17 a18 a19 a20 a21 a22 a23 a24 a25 a26 a27 a28 a29 : Option Value} {c n : Nat → Nat} {k : Nat} {p : Nat → Nat → Nat} {q : Nat} {im : Nat → Nat → Nat} {h : Nat} {hs ht : Nat → Nat} {m : Nat} {bg bx : Nat → Nat} {L : Nat} {tx : Nat → Nat} {f : Int32} {s : Nat}
theorem lB_hire (hK : KA c n k p q im h hs ht m bg bx L tx f s σ) (hG : GA c n g e y at' kn hd) (hI : n 20 ≤ 1000) (h0 : 1 ≤ c 0) (hh : 2 ≤ how) (hh6 : how < 6) : ∃ (did : Nat) (n' : Nat → Nat) (k' : Nat) (p' : Nat → Nat → Nat) (s' : Nat) (τ : dm_G) (u24 u25 u26 : Option Value), (∀ Q, Wq (some (N, xs)) 133 258 [some (.retAddr 0), some (.ref (0 : Nat)), some (.ref (118 : Nat)), some (.ref (119 : Nat)), some (.ref (120 : Nat)), some (.int (nI (c 0))), some (.int (nI (c 2))), some (.int (nI (c 3))), some (.int (nI tn)), some (.int (nI i)), some (.int x), some (.int (nI k)), some (.int (nI (n 20))), some (.int (nI (n 19))), some (.int (nI (n 18))), some (.int (nI (n 21))), some (.int (nI g)), some (.int (nI e)), some (.int (nI y)), some (.int (nI at')), some (.int (nI kn)), some (.int (nI hd)), some (.int (nI how)), some (.int (nI 1)), a24, a25, a26, a27, a28, a29] [] σ Q = Wq (some (N, xs)) 133 978 [some (.retAddr 0), some (.ref (0 : Nat)), some (.ref (118 : Nat)), some (.ref (119 : Nat)), some (.ref (120 : Nat)), some (.int (nI (c 0))), some (.int (nI (c 2))), some (.int (nI (c 3))), some (.int (nI tn)), some (.int (nI i)), some (.int x), some (.int (nI k)), some (.int (nI (n 20))), some (.int (nI (n 19))), some (.int (nI (n 18))), some (.int (nI (n 21))), some (.int (nI g)), some (.int (nI e)), some (.int (nI y)), some (.int (nI at')), some (.int (nI kn)), some (.int (nI hd)), some (.int (nI how)), some (.int (nI did)), u24, u25, u26, a27, a28, a29] [] τ Q) ∧ KA c n' k' p' q im h hs ht m bg bx L tx f s' τ ∧ FZ σ τ ∧ Dn c n n' ∧ ((did = 1 ∧ k' = min (k + 1) 16 ∧ p' = pushP n p) ∨ (did = 0 ∧ n' = n ∧ k' = k ∧ p' = p)) := by
  have w0 := hK.1.1.1
  have w2 := hK.1.1.2.1
  have w3 := hK.1.1.2.2.1
  have g2 : nI 2 ≤ nI how := nI_le hh (by omega)
  have g6 : ¬ nI 6 ≤ nI how := nI_ge hh6 (by omega)
  obtain ⟨hG1, hG2, hG3, hG4, hG5⟩ := hG
  obtain ⟨hn1, hn18, hn19, hn20, hn21⟩ := id hK.1.2.1
  by_cases hz : c 2 = 0 ∨ c 3 = 0
  · have hg' : g < c 2 ∨ c 2 = 0 ∧ g = 0 := by
      by_cases z2 : c 2 = 0
      · exact Or.inr ⟨z2, (hG2 z2).1⟩
      · exact Or.inl (hG1 (by omega)).1
    have c1 := fun Q => Cq_of (Q := Q) (q_leads_f (z := nI 1) hK hz hg' hG4)
    have c2 := fun Q => Cq_of (Q := Q) (q_hire_f hK hg' hz hG4)
    refine ⟨0, n, k, p, s, σ, some (.int (-1000000001)), some (.int (-1000000001)), some (.int (nI 0)), fun Q => ?_, hK, FZ.rf, ⟨Nat.le_refl _, by omega, Nat.le_refl _, fun _ _ _ h => h⟩, Or.inr ⟨rfl, rfl, rfl, rfl⟩⟩
    have hth : ∀ (Q' : Option Value → dm_G → Prop) (u24 u25 : Option Value), Wq (some (N, xs)) 133 355 [some (.retAddr 0), some (.ref (0 : Nat)), some (.ref (118 : Nat)), some (.ref (119 : Nat)), some (.ref (120 : Nat)), some (.int (nI (c 0))), some (.int (nI (c 2))), some (.int (nI (c 3))), some (.int (nI tn)), some (.int (nI i)), some (.int x), some (.int (nI k)), some (.int (nI (n 20))), some (.int (nI (n 19))), some (.int (nI (n 18))), some (.int (nI (n 21))), some (.int (nI g)), some (.int (nI e)), some (.int (nI y)), some (.int (nI at')), some (.int (nI kn)), some (.int (nI hd)), some (.int (nI how)), some (.int (nI 1)), u24, u25, a26, a27, a28, a29] [] σ Q' = Wq (some (N, xs)) 133 372 [some (.retAddr 0), some (.ref (0 : Nat)), some (.ref (118 : Nat)), some (.ref (119 : Nat)), some (.ref (120 : Nat)), some (.int (nI (c 0))), some (.int (nI (c 2))), some (.int (nI (c 3))), some (.int (nI tn)), some (.int (nI i)), some (.int x), some (.int (nI k)), some (.int (nI (n 20))), some (.int (nI (n 19))), some (.int (nI (n 18))), some (.int (nI (n 21))), some (.int (nI g)), some (.int (nI e)), some (.int (nI y)), some (.int (nI at')), some (.int (nI kn)), some (.int (nI hd)), some (.int (nI how)), some (.int (nI 1)), u24, u25, some (.int (nI 0)), a27, a28, a29] [] σ Q' := by
      intro Q' u24 u25
      by_cases z2 : c 2 = 0
      · simp only [w133_355, w133_357, w133_360, w133_362, w133_365, w133_366, w133_369, w133_370, z2, nI_le (Nat.le_refl 0) (show 0 < 2 ^ 31 by omega), ↓reduceIte, Option.toList_some, Option.toList_none, List.cons_append, List.nil_append]
      · have n2 : ¬ nI (c 2) ≤ nI 0 := nI_ge (by omega) (by omega)
        have z3 : c 3 = 0 := by omega
        simp only [w133_355, w133_357, w133_360, w133_362, w133_365, w133_366, w133_369, w133_370, n2, z3, nI_le (Nat.le_refl 0) (show 0 < 2 ^ 31 by omega), ↓reduceIte, Option.toList_some, Option.toList_none, List.cons_append, List.nil_append]
    rw [w133_258]
    simp only [w133_260, w133_261, w133_327, w133_329, w133_331, w133_334, w133_335, w133_337, w133_339, w133_340, w133_343, w133_345, w133_346, w133_348, w133_350, w133_353, g2, g6, ks_0, c1, c2, ↓reduceIte, Option.toList_some, Option.toList_none, List.cons_append, List.nil_append]
    rw [hth]
    simp only [w133_372, w133_374, w133_377, w133_379, w133_382, w133_384, w133_386, w133_387, w133_388, w133_389, w133_392, w133_393, w133_396, w133_397, w133_399, w133_401, w133_403, w133_406, w133_408, w133_411, w133_413, w133_416, w133_418, w133_421, w133_423, w133_426, w133_428, w133_448, w133_450, w133_546, nI_ne1, ↓reduceIte, Option.toList_some, Option.toList_none, List.cons_append, List.nil_append]
  · have z2 : 0 < c 2 := by omega
    have z3 : 0 < c 3 := by omega
    obtain ⟨hg, rfl, rfl, rfl⟩ := hG1 z2
    have he := hG3 z3
    have n2 : ¬ nI (c 2) ≤ nI 0 := nI_ge (by omega) (by omega)
    have n3 : ¬ nI (c 3) ≤ nI 0 := nI_ge (by omega) (by omega)
    have p6 : 2 ^ c 3 ≤ 2 ^ 6 := Nat.pow_le_pow_right (by decide) w3
    have p8 : 2 ^ c 0 ≤ 2 ^ 8 := Nat.pow_le_pow_right (by decide) w0
    have c1 := fun Q => Cq_of (Q := Q) (q_leads (j := 1) hK hg he (by omega))
    have hb18 := nI_bit (a := n 18) (x := e) (by omega) (by omega)
    cases hl : lwN c n g e with
    | none =>
      have el : ldN c n g e 1 = none := by unfold ldN; rw [hl]
      rw [el] at c1
      have c2 := fun Q => Cq_of (Q := Q) (q_hire_n hK hg he hl)
      refine ⟨0, n, k, p, s, σ, some (.int (-1)), some (.int (-1000000003)), some (.int (nI 1)), fun Q => ?_, hK, FZ.rf, ⟨Nat.le_refl _, by omega, Nat.le_refl _, fun _ _ _ h => h⟩, Or.inr ⟨rfl, rfl, rfl, rfl⟩⟩
      rw [w133_258]
      by_cases hb : (n 18).testBit e = true
      · simp only [w133_260, w133_261, w133_327, w133_329, w133_331, w133_334, w133_335, w133_337, w133_339, w133_340, w133_343, w133_345, w133_346, w133_348, w133_350, w133_353, w133_355, w133_357, w133_360, w133_362, w133_365, w133_366, w133_369, w133_370, w133_372, w133_374, w133_377, w133_379, w133_382, w133_384, w133_386, w133_387, w133_388, w133_389, w133_392, w133_393, w133_396, w133_397, w133_399, w133_401, w133_403, w133_406, w133_408, w133_411, w133_413, w133_416, w133_418, w133_421, w133_423, w133_426, w133_428, w133_431, w133_433, w133_435, w133_436, w133_437, w133_438, w133_439, w133_442, w133_444, w133_445, w133_448, w133_450, w133_546, g2, g6, ks_0, c1, oI, c2, n2, n3, nI_ne1, (by decide : (-1 : Int32) < nI 0), hb18, hb, ↓reduceIte, Option.toList_some, Option.toList_none, List.cons_append, List.nil_append]
      · simp only [w133_260, w133_261, w133_327, w133_329, w133_331, w133_334, w133_335, w133_337, w133_339, w133_340, w133_343, w133_345, w133_346, w133_348, w133_350, w133_353, w133_355, w133_357, w133_360, w133_362, w133_365, w133_366, w133_369, w133_370, w133_372, w133_374, w133_377, w133_379, w133_382, w133_384, w133_386, w133_387, w133_388, w133_389, w133_392, w133_393, w133_396, w133_397, w133_399, w133_401, w133_403, w133_406, w133_408, w133_411, w133_413, w133_416, w133_418, w133_421, w133_423, w133_426, w133_428, w133_431, w133_433, w133_435, w133_436, w133_437, w133_438, w133_439, w133_442, w133_444, w133_445, w133_448, w133_450, w133_546, g2, g6, ks_0, c1, oI, c2, n2, n3, nI_ne1, (by decide : (-1 : Int32) < nI 0), hb18, hb, (by decide : ¬ nI 0 = nI 1), ↓reduceIte, Option.toList_some, Option.toList_none, List.cons_append, List.nil_append, Bool.false_eq_true]
    | some d =>
      have el : ldN c n g e 1 = some (csN c (n 20) g d) := by unfold ldN; rw [hl]; rfl
      rw [el] at c1
      have hb : ¬ (n 18).testBit e = true := fun hb => by
        unfold lwN at hl
        rw [if_pos hb] at hl
        cases hl
      have hd := lwN_lt hl
      have hcs : csN c (n 20) g d ≤ 792 := csN_lt hK.1.1 hg (by omega)
      obtain ⟨τ, e2, K1, k1⟩ := q_hire hK hg he hl
      have c2 := fun Q => Cq_of (Q := Q) e2
      have t7 := fun Q => Cq_of (Q := Q) (q_told (j := 7) K1 (by omega))
      have t8 := fun Q => Cq_of (Q := Q) (q_told (j := 8) K1 (by omega))
      have u0 := fun Q => Cq_of (Q := Q) (q_guide (j := 0) K1 hg (by omega))
      have u2 := fun Q => Cq_of (Q := Q) (q_guide (j := 2) K1 hg (by omega))
      have u3 := fun Q => Cq_of (Q := Q) (q_guide (j := 3) K1 hg (by omega))
      have v1 := fun Q => Cq_of (Q := Q) (q_client (j := 1) K1 he (by omega))
      generalize hcv : csN c (n 20) g d = pr at c1 c2 K1 t7 t8 u0 u2 u3 v1 hcs
      have b18 : hiN c n g e pr 18 = n 18 ||| 1 <<< e := by unfold hiN; rw [if_neg (by omega), if_pos rfl]
      have b21 : hiN c n g e pr 21 = min (n 21 + pr) 999999 := by unfold hiN; rw [if_pos rfl]
      have b0 : hiN c n g e pr g = c (61 + e) := by unfold hiN; rw [if_neg (by omega), if_neg (by omega), if_pos rfl]
      have b6 : hiN c n g e pr (6 + g) = n (6 + g) := hi_k (by omega) (by omega)
      have b12 : hiN c n g e pr (12 + g) = n (12 + g) ||| 1 <<< e := by unfold hiN; rw [if_neg (by omega), if_neg (by omega), if_neg (by omega), if_pos rfl]
      have b20 : hiN c n g e pr 20 = n 20 := by unfold hiN; rw [if_neg (by omega), if_neg (by omega), if_neg (by omega), if_neg (by omega)]
      simp only [tdN, gdN, b18, b21, b0, b6, b12, (by decide : ¬ (1 : Nat) = 0), if_false] at t7 t8 u0 u2 u3 v1
      have np : ¬ nI pr < nI 0 := nI_nlt (by omega) (by omega)
      refine ⟨1, _, _, _, s, τ, some (.int (nI pr)), some (.int (nI pr)), some (.int (nI 1)), fun Q => ?_, K1, k1, ⟨?_, ?_, ?_, ?_⟩, Or.inl ⟨rfl, rfl, rfl⟩⟩
      · rw [w133_258]
        by_cases hm : n 21 + pr ≤ 999999
        · have e21 : min (n 21 + pr) 999999 = n 21 + pr := Nat.min_eq_left hm
          rw [e21] at t8
          have l1 : nI (n 21 + pr) ≤ nI 999999 := nI_le hm (by omega)
          simp only [w133_260, w133_261, w133_327, w133_329, w133_331, w133_334, w133_335, w133_337, w133_339, w133_340, w133_343, w133_345, w133_346, w133_348, w133_350, w133_353, w133_355, w133_357, w133_360, w133_362, w133_365, w133_366, w133_369, w133_370, w133_372, w133_374, w133_377, w133_379, w133_382, w133_384, w133_386, w133_387, w133_388, w133_389, w133_392, w133_393, w133_396, w133_397, w133_399, w133_401, w133_403, w133_406, w133_408, w133_411, w133_413, w133_416, w133_418, w133_421, w133_423, w133_426, w133_428, w133_431, w133_433, w133_435, w133_436, w133_437, w133_438, w133_439, w133_442, w133_444, w133_445, w133_448, w133_450, w133_453, w133_454, w133_456, w133_459, w133_461, w133_462, w133_464, w133_465, w133_466, w133_469, w133_470, w133_472, w133_475, w133_477, w133_479, w133_480, w133_482, w133_485, w133_487, w133_490, w133_492, w133_494, w133_495, w133_498, w133_499, w133_501, w133_502, w133_505, w133_506, w133_508, w133_509, w133_512, w133_515, w133_516, w133_518, w133_519, w133_522, w133_524, w133_525, w133_527, w133_528, w133_529, w133_532, w133_533, w133_535, w133_536, w133_539, w133_541, w133_546, g2, g6, ks_0, c1, oI, c2, n2, n3, nI_ne1, np, hb18, hb, (by decide : ¬ nI 0 = nI 1), t7, nI_shl 1 (show e < 32 by omega), nI_or, t8, nI_add, l1, u0, v1, u3, u2, ↓reduceIte, Option.toList_some, Option.toList_none, List.cons_append, List.nil_append, Bool.false_eq_true]
        · have e21 : min (n 21 + pr) 999999 = 999999 := Nat.min_eq_right (by omega)
          rw [e21] at t8
          have l1 : ¬ nI (n 21 + pr) ≤ nI 999999 := nI_ge (by omega) (by omega)
          simp only [w133_260, w133_261, w133_327, w133_329, w133_331, w133_334, w133_335, w133_337, w133_339, w133_340, w133_343, w133_345, w133_346, w133_348, w133_350, w133_353, w133_355, w133_357, w133_360, w133_362, w133_365, w133_366, w133_369, w133_370, w133_372, w133_374, w133_377, w133_379, w133_382, w133_384, w133_386, w133_387, w133_388, w133_389, w133_392, w133_393, w133_396, w133_397, w133_399, w133_401, w133_403, w133_406, w133_408, w133_411, w133_413, w133_416, w133_418, w133_421, w133_423, w133_426, w133_428, w133_431, w133_433, w133_435, w133_436, w133_437, w133_438, w133_439, w133_442, w133_444, w133_445, w133_448, w133_450, w133_453, w133_454, w133_456, w133_459, w133_461, w133_462, w133_464, w133_465, w133_466, w133_469, w133_470, w133_472, w133_475, w133_477, w133_479, w133_480, w133_482, w133_485, w133_487, w133_490, w133_492, w133_494, w133_495, w133_498, w133_499, w133_501, w133_502, w133_505, w133_506, w133_508, w133_509, w133_512, w133_515, w133_516, w133_518, w133_519, w133_522, w133_524, w133_525, w133_527, w133_528, w133_529, w133_532, w133_533, w133_535, w133_536, w133_539, w133_541, w133_546, g2, g6, ks_0, c1, oI, c2, n2, n3, nI_ne1, np, hb18, hb, (by decide : ¬ nI 0 = nI 1), t7, nI_shl 1 (show e < 32 by omega), nI_or, t8, nI_add, l1, u0, v1, u3, u2, ↓reduceIte, Option.toList_some, Option.toList_none, List.cons_append, List.nil_append, Bool.false_eq_true]
      · rw [b20]; exact Nat.le_refl _
      · rw [b20]; omega
      · exact hi_21 hn21
      · intro g' hg' b hb
        rw [hi_k (by omega) (by omega)]
        exact hb
end LW3
