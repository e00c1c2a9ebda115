/-! the law tells guides, clients, moons -/
section TE3
variable {N : Nat} {xs : Nat → Int32} {σ : dm_G} {Q : Option Value → dm_G → Prop} {n0 z1 z2 z3 z4 : Nat} {c n : Nat → Nat} {k : Nat} {p : Nat → Nat → Nat} {q : Nat} {im : Nat → Nat → Nat} {h : Nat} {hs ht : Nat → Nat} {m : Nat} {bg bx : Nat → Nat} {L : Nat} {tx : Nat → Nat} {f : Int32} {s : Nat}
theorem ZC_u2 {a j : Nat} {v : Value} (ha : a ≠ 118) (hZ : ZC σ n0 z1 z2 z3 z4) : ZC (dm_up σ a j v) n0 z1 z2 z3 z4 := ZC_of (fun b hb => by rw [up_get, if_neg (by omega)]) hZ
/-- what was told of i guides -/
def GZ (σ : dm_G) (rd : Nat → Nat) (i : Nat) : Prop := ∀ g, g < i → gi σ 118 (37 + g) = nI (rd (43 + g)) ∧ gi σ 120 (6 + g) = nI (rd (49 + g))
theorem nl_99 {v : Nat} (h : v ≤ 99) : 2 ≤ nl v ∧ nl v ≤ 3 := by
  unfold nl nd
  split
  · omega
  · first | omega | (rw [if_pos h]; omega)
theorem nl_l (v : Nat) : 2 ≤ nl v ∧ nl v ≤ 4 := by
  have := nd_1 v
  unfold nl
  omega
/-- one guide -/
theorem tl_g {i : Nat} {v8 v11 : Option Value} (hN : N < 2 ^ 31) (hK : KA c n k p q im h hs ht m bg bx L tx f s σ) (hZ : ZC σ n0 z1 z2 z3 z4) (hn0 : 1 ≤ n0) (hn8 : n0 ≤ 8) (hi : i < z2) (hz2 : z2 ≤ 5) (hL : L + 11 ≤ 240) : ∃ v0 v1 v2 x τ tx', v0 < n0 ∧ v1 ≤ 99 ∧ 1 ≤ v2 ∧ v2 < 2 ^ n0 ∧ (∀ Q, Wq (some (N, xs)) 127 347 [some (.ref (0 : Nat)), some (.retAddr 0), some (.ref (118 : Nat)), some (.ref (119 : Nat)), some (.ref (120 : Nat)), some (.int (nI 8)), some (.int (nI 5)), some (.int (nI 5)), v8, some (.int (nI n0)), some (.int (nI i)), v11] [] σ Q = Wq (some (N, xs)) 127 347 [some (.ref (0 : Nat)), some (.retAddr 0), some (.ref (118 : Nat)), some (.ref (119 : Nat)), some (.ref (120 : Nat)), some (.int (nI 8)), some (.int (nI 5)), some (.int (nI 5)), some (.int x), some (.int (nI n0)), some (.int (nI (i + 1))), v11] [] τ Q) ∧ KA c n k p q im h hs ht m bg bx (L + 1 + nl v0 + nl v1 + nl v2 + 1) tx' f s τ ∧ Ext tx tx' L ∧ (tx' L = 103 ∧ nAt tx' (L + 1) v0 ∧ nAt tx' (L + 1 + nl v0) v1 ∧ nAt tx' (L + 1 + nl v0 + nl v1) v2 ∧ tx' (L + 1 + nl v0 + nl v1 + nl v2) = 59) ∧ ZC τ n0 z1 z2 z3 z4 ∧ gi τ 118 (37 + i) = nI v1 ∧ gi τ 120 (6 + i) = nI v2 ∧ (∀ j, j ≠ 37 + i → gi τ 118 j = gi σ 118 j) ∧ ∀ j, j ≠ i → j ≠ 6 + i → gi τ 120 j = gi σ 120 j := by
  have hx : ∀ Q' σ, Cs (some (N, xs)) 125 [.retAddr 0, .int (nI (9 + i))] σ Q' = Q' (some (.int (cellV N xs (9 + i)))) σ := fun Q' σ => q_cellC (by omega) hN
  generalize cellV N xs (9 + i) = x at hx
  have hp2 : 2 ≤ 2 ^ n0 := by
    have := Nat.pow_le_pow_right (n := 2) (by decide) hn0
    omega
  have hp8 : 2 ^ n0 ≤ 2 ^ 8 := Nat.pow_le_pow_right (by decide) hn8
  have hv0 : partV x n0 < n0 := partV_lt x (by omega)
  generalize hv0e : partV x n0 = v0 at hv0
  obtain ⟨v1, hv1, ev1⟩ : ∃ v1, v1 ≤ 99 ∧ ∀ (Q' : Option Value → dm_G → Prop) (σ : dm_G), Wq (some (N, xs)) 127 384 [some (.ref (0 : Nat)), some (.retAddr 0), some (.ref (118 : Nat)), some (.ref (119 : Nat)), some (.ref (120 : Nat)), some (.int (nI 8)), some (.int (nI 5)), some (.int (nI 5)), some (.int x), some (.int (nI n0)), some (.int (nI i)), v11] [.int (nI (37 + i)), (.ref (118 : Nat))] σ Q' = Wq (some (N, xs)) 127 410 [some (.ref (0 : Nat)), some (.retAddr 0), some (.ref (118 : Nat)), some (.ref (119 : Nat)), some (.ref (120 : Nat)), some (.int (nI 8)), some (.int (nI 5)), some (.int (nI 5)), some (.int x), some (.int (nI n0)), some (.int (nI i)), v11] [.int (nI v1), .int (nI (37 + i)), (.ref (118 : Nat))] σ Q' := by
    by_cases hb : partV (x >>> (nI 20 &&& 31)) 2 = 0
    · refine ⟨partV (x >>> (nI 3 &&& 31)) 100, by have := partV_lt (x >>> (nI 3 &&& 31)) (d := 100) (by omega); omega, fun Q' σ => ?_⟩
      rw [w127_384]
      simp only [w127_386, w127_387, w127_388, w127_390, w127_392, w127_393, w127_394, w127_397, w127_400, w127_402, w127_407, q_partC (d := 2) (by omega) (by omega), hb, q_partC (d := 100) (by omega) (by omega), ↓reduceIte, Option.toList_some, Option.toList_none, List.cons_append, List.nil_append]
    · have hb' : ¬ nI (partV (x >>> (nI 20 &&& 31)) 2) = nI 0 := fun z => hb (nI_inj (by have := partV_lt (x >>> (nI 20 &&& 31)) (d := 2) (by omega); omega) (by omega) z)
      refine ⟨partV (x >>> (nI 3 &&& 31)) 9, by have := partV_lt (x >>> (nI 3 &&& 31)) (d := 9) (by omega); omega, fun Q' σ => ?_⟩
      rw [w127_384]
      simp only [w127_386, w127_387, w127_388, w127_390, w127_392, w127_393, w127_394, w127_397, w127_405, w127_407, q_partC (d := 2) (by omega) (by omega), hb', q_partC (d := 9) (by omega) (by omega), ↓reduceIte, Option.toList_some, Option.toList_none, List.cons_append, List.nil_append]
  have hd : nI 1 <<< (nI n0 &&& 31) - nI 1 = nI (2 ^ n0 - 1) := by rw [nI_shl 1 (show n0 < 32 by omega), Nat.one_shiftLeft, pk_sub (by omega)]
  obtain ⟨w, hw1, ev2⟩ : ∃ w, w < 2 ^ n0 - 1 ∧ ∀ (Q' : Option Value → dm_G → Prop) (σ : dm_G), Wq (some (N, xs)) 127 419 [some (.ref (0 : Nat)), some (.retAddr 0), some (.ref (118 : Nat)), some (.ref (119 : Nat)), some (.ref (120 : Nat)), some (.int (nI 8)), some (.int (nI 5)), some (.int (nI 5)), some (.int x), some (.int (nI n0)), some (.int (nI i)), v11] [.int (nI 1), .int (nI (6 + i)), (.ref (120 : Nat))] σ Q' = Wq (some (N, xs)) 127 448 [some (.ref (0 : Nat)), some (.retAddr 0), some (.ref (118 : Nat)), some (.ref (119 : Nat)), some (.ref (120 : Nat)), some (.int (nI 8)), some (.int (nI 5)), some (.int (nI 5)), some (.int x), some (.int (nI n0)), some (.int (nI i)), v11] [.int (nI w), .int (nI 1), .int (nI (6 + i)), (.ref (120 : Nat))] σ Q' := by
    refine ⟨partV (x >>> (nI 10 &&& 31) ||| nI 85 <<< (nI 2 * nI (partV (x >>> (nI 18 &&& 31)) 4) &&& 31)) (2 ^ n0 - 1), partV_lt _ (by omega), fun Q' σ => ?_⟩
    rw [w127_419]
    simp only [w127_421, w127_423, w127_424, w127_426, w127_427, w127_429, w127_431, w127_432, w127_433, w127_436, w127_437, w127_438, w127_439, w127_440, w127_442, w127_443, w127_444, w127_445, q_partC (d := 4) (by omega) (by omega), hd, q_partC (d := 2 ^ n0 - 1) (by omega) (by omega), ↓reduceIte, Option.toList_some, Option.toList_none, List.cons_append, List.nil_append]
  generalize hσ1 : dm_up (dm_up (dm_up σ 120 i (.int (nI v0))) 118 (37 + i) (.int (nI v1))) 120 (6 + i) (.int (nI (1 + w))) = σ1
  have K1 : KA c n k p q im h hs ht m bg bx L tx f s σ1 := by
    rw [← hσ1]
    exact KA_up (by omega) (KA_up (by omega) (KA_up (by omega) hK))
  have Z1 : ZC σ1 n0 z1 z2 z3 z4 := by
    rw [← hσ1]
    exact ZC_u2 (by omega) (ZC_up (by omega) (ZC_u2 (by omega) hZ))
  have y0 : gi σ1 120 i = nI v0 := by rw [← hσ1, gi_up, if_neg (by omega), gi_up, if_neg (by omega), gi_up, if_pos ⟨rfl, rfl⟩]
  have y1 : gi σ1 118 (37 + i) = nI v1 := by rw [← hσ1, gi_up, if_neg (by omega), gi_up, if_pos ⟨rfl, rfl⟩]
  have y2 : gi σ1 120 (6 + i) = nI (1 + w) := by rw [← hσ1, gi_up, if_pos ⟨rfl, rfl⟩]
  have y3 : ∀ j, j ≠ 37 + i → gi σ1 118 j = gi σ 118 j := fun j hj => by rw [← hσ1, gi_up, if_neg (by omega), gi_up, if_neg (by omega), gi_up, if_neg (by omega)]
  have y4 : ∀ j, j ≠ i → j ≠ 6 + i → gi σ1 120 j = gi σ 120 j := fun j h1 h2 => by rw [← hσ1, gi_up, if_neg (by omega), gi_up, if_neg (by omega), gi_up, if_neg (by omega)]
  have l0 := nl_9 (v := v0) (by omega)
  have l1 := nl_99 hv1
  have l2 := nl_l (1 + w)
  obtain ⟨τ1, e1, K2, k2⟩ := q_feed K1 (e := 103) (by omega) (by omega)
  obtain ⟨τ2, tx2, e2, K3, k3, x3, a3⟩ := q_number (N := N) (xs := xs) K2 (v := v0) (by omega) (by omega)
  obtain ⟨τ3, tx3, e3, K4, k4, x4, a4⟩ := q_number (N := N) (xs := xs) K3 (v := v1) (by omega) (by omega)
  obtain ⟨τ4, tx4, e4, K5, k5, x5, a5⟩ := q_number (N := N) (xs := xs) K4 (v := 1 + w) (by omega) (by omega)
  obtain ⟨τ5, e5, K6, k6⟩ := q_feed K5 (e := 59) (by omega) (by omega)
  have c1 := fun Q => Cq_of (Q := Q) e1
  have c2 := fun Q => Cs_of (Q := Q) e2
  have c3 := fun Q => Cs_of (Q := Q) e3
  have c4 := fun Q => Cs_of (Q := Q) e4
  have c5 := fun Q => Cq_of (Q := Q) e5
  have F1 : FZ σ1 τ5 := (((k2.tr k3).tr k4).tr k5).tr k6
  have fg : ∀ a b, 118 ≤ a → gi τ5 a b = gi σ1 a b := fun a b ha => gi_of (F1 a b ha)
  have g0 : gi τ1 120 i = nI v0 := (gi_of (k2 120 i (by omega))).trans y0
  have g1 : gi τ2 118 (37 + i) = nI v1 := (gi_of (k3 118 _ (by omega))).trans ((gi_of (k2 118 _ (by omega))).trans y1)
  have g2 : gi τ3 120 (6 + i) = nI (1 + w) := (gi_of (k4 120 _ (by omega))).trans ((gi_of (k3 120 _ (by omega))).trans ((gi_of (k2 120 _ (by omega))).trans y2))
  have u : ∀ j, j < L + 1 + nl v0 + nl v1 + nl (1 + w) → up1 tx4 (L + 1 + nl v0 + nl v1 + nl (1 + w)) 59 j = tx4 j := fun j hj => up1_ne (by omega)
  refine ⟨v0, v1, 1 + w, x, τ5, up1 tx4 (L + 1 + nl v0 + nl v1 + nl (1 + w)) 59, hv0, hv1, by omega, by omega, fun Q => ?_, K6, ?_, ⟨?_, ?_, ?_, ?_, up1_eq⟩, ZC_F F1 Z1, (fg _ _ (by omega)).trans y1, (fg _ _ (by omega)).trans y2, fun j hj => (fg _ _ (by omega)).trans (y3 j hj), fun j h1 h2 => (fg _ _ (by omega)).trans (y4 j h1 h2)⟩
  · rw [w127_347]
    simp only [w127_349, w127_350, w127_351, w127_351s, w127_352, w127_355, w127_356, w127_358, w127_360, w127_361, w127_364, w127_366, w127_368, w127_370, w127_372, w127_374, w127_377, w127_378, w127_379, w127_381, w127_383, kt_118, kt_120, in_nI (show 2 < kl 118 by rw [kl_118]; omega) (by rw [kl_118]; omega), nI_clamp (show 2 < 2 ^ 31 by omega), hZ.2.2.1, nI_ge hi (show z2 < 2 ^ 31 by omega), nI_add, hx, q_partC (d := n0) (by omega) (by omega), hv0e, in_nI (show i < kl 120 by rw [kl_120]; omega) (by rw [kl_120]; omega), nI_clamp (show i < 2 ^ 31 by omega), ↓reduceIte, Option.toList_some, Option.toList_none, List.cons_append, List.nil_append]
    rw [ev1]
    simp only [w127_410, w127_411, w127_413, w127_415, w127_417, w127_418, kt_118, kt_120, nI_add, in_nI (show 37 + i < kl 118 by rw [kl_118]; omega) (by rw [kl_118]; omega), nI_clamp (show 37 + i < 2 ^ 31 by omega), ↓reduceIte, Option.toList_some, Option.toList_none, List.cons_append, List.nil_append]
    rw [ev2]
    simp only [w127_448, w127_449, w127_450, w127_451, w127_453, w127_456, w127_457, w127_458, w127_460, w127_462, w127_462s, w127_463, w127_466, w127_467, w127_468, w127_470, w127_472, w127_473, w127_473s, w127_474, w127_477, w127_478, w127_480, w127_482, w127_484, w127_485, w127_485s, w127_486, w127_489, w127_490, w127_492, w127_495, w127_496, w127_499, kt_118, kt_120, nI_add, in_nI (show 6 + i < kl 120 by rw [kl_120]; omega) (by rw [kl_120]; omega), nI_clamp (show 6 + i < 2 ^ 31 by omega), in_nI (show i < kl 120 by rw [kl_120]; omega) (by rw [kl_120]; omega), nI_clamp (show i < 2 ^ 31 by omega), in_nI (show 37 + i < kl 118 by rw [kl_118]; omega) (by rw [kl_118]; omega), nI_clamp (show 37 + i < 2 ^ 31 by omega), hσ1, ks_0, c1, g0, c2, g1, c3, g2, c4, c5, ↓reduceIte, Option.toList_some, Option.toList_none, List.cons_append, List.nil_append]
  · intro j hj
    rw [u j (by omega), x5 j (by omega), x4 j (by omega), x3 j (by omega), up1_ne (by omega)]
  · rw [u L (by omega), x5 L (by omega), x4 L (by omega), x3 L (by omega), up1_eq]
  · exact nAt_cg a3 (fun j h1 h2 => by rw [u j (by omega), x5 j (by omega), x4 j (by omega)])
  · exact nAt_cg a4 (fun j h1 h2 => by rw [u j (by omega), x5 j (by omega)])
  · exact nAt_cg a5 (fun j h1 h2 => by rw [u j (by omega)])
theorem tl_gs (hN : N < 2 ^ 31) (hn0 : 1 ≤ n0) (hn8 : n0 ≤ 8) (hz1 : z1 ≤ 8) (hz2 : z2 ≤ 5) {v11 : Option Value} (kk : ∀ σ' L tx rd v8, KA c n k p q im h hs ht m bg bx L tx f s σ' → ZC σ' n0 z1 z2 z3 z4 → L ≤ 139 → PX tx L (1 + z1 + z2) rd → rd 0 = n0 ∧ rd 2 = z2 ∧ rd 3 = 0 ∧ rd 4 = 0 → GZ σ' rd z2 → Wq (some (N, xs)) 127 502 [some (.ref (0 : Nat)), some (.retAddr 0), some (.ref (118 : Nat)), some (.ref (119 : Nat)), some (.ref (120 : Nat)), some (.int (nI 8)), some (.int (nI 5)), some (.int (nI 5)), v8, some (.int (nI n0)), some (.int (nI z2)), v11] [] σ' Q) : ∀ (f' i : Nat) (σ : dm_G) (L : Nat) (tx rd : Nat → Nat) (v8 : Option Value), i + f' = z2 → KA c n k p q im h hs ht m bg bx L tx f s σ → ZC σ n0 z1 z2 z3 z4 → L ≤ 84 + 11 * i → PX tx L (1 + z1 + i) rd → rd 0 = n0 ∧ rd 2 = i ∧ rd 3 = 0 ∧ rd 4 = 0 → GZ σ rd i → Wq (some (N, xs)) 127 347 [some (.ref (0 : Nat)), some (.retAddr 0), some (.ref (118 : Nat)), some (.ref (119 : Nat)), some (.ref (120 : Nat)), some (.int (nI 8)), some (.int (nI 5)), some (.int (nI 5)), v8, some (.int (nI n0)), some (.int (nI i)), v11] [] σ Q := by
  intro f'
  induction f' with
  | zero =>
    intro i σ L tx rd v8 hi hK hZ hL hP hR hG
    obtain rfl : i = z2 := by omega
    rw [w127_347]
    simp only [w127_349, w127_350, w127_351, w127_351s, w127_352, kt_118, in_nI (show 2 < kl 118 by rw [kl_118]; omega) (by rw [kl_118]; omega), nI_clamp (show 2 < 2 ^ 31 by omega), hZ.2.2.1, nI_le (Nat.le_refl i) (show i < 2 ^ 31 by omega), ↓reduceIte, Option.toList_some, Option.toList_none, List.cons_append, List.nil_append]
    exact kk σ L tx rd v8 hK hZ (by omega) hP hR hG
  | succ f' ih =>
    intro i σ L tx rd v8 hi hK hZ hL hP hR hG
    obtain ⟨v0, v1, v2, x, τ, tx', g0, g1, g2, g3, w, K1, ex, ⟨t0, t1, t2, t3, t4⟩, Z1, c1, c2, c3, c4⟩ := tl_g (N := N) (xs := xs) (i := i) (v8 := v8) (v11 := v11) hN hK hZ hn0 hn8 (by omega) hz2 (by omega)
    rw [w Q]
    obtain ⟨r0, r2, r3, r4⟩ := hR
    have l0 := nl_9 (v := v0) (by omega)
    have l1 := nl_99 g1
    have l2 := nl_l v2
    have ne : ∀ j, j ≠ 2 → j ≠ 37 + i → j ≠ 43 + i → j ≠ 49 + i → rdG rd v0 v1 v2 j = rd j := fun j h1 h2 h3 h4 => by
      unfold rdG upN
      rw [r2, if_neg h4, if_neg h3, if_neg h2, if_neg h1]
    refine ih (i + 1) τ (L + 1 + nl v0 + nl v1 + nl v2 + 1) tx' (rdG rd v0 v1 v2) _ (by omega) K1 Z1 (by omega) ?_ ⟨?_, ?_, ?_, ?_⟩ ?_
    · refine PX_s (j := 1 + z1 + i) (PX_cg hP ex) (by omega) (by omega) (by rw [t0]; omega) ?_
      intro L' tx2 q1 q2 q3
      have tr : ∀ {p v : Nat}, nAt tx' p v → p + nl v ≤ L + 1 + nl v0 + nl v1 + nl v2 + 1 → nAt tx2 p v := fun hn hp => nAt_cg hn (fun j h1 h2 => q3 j (by omega))
      exact cl_g (by omega) (by omega) (by omega) (by omega) g1 g2 (by rw [r0]; exact g3) (by rw [q3 L (by omega), t0]) (tr t1 (by omega)) (tr t2 (by omega)) (tr t3 (by omega)) (by rw [q3 _ (by omega)]; exact t4) (by omega)
    · rw [ne 0 (by omega) (by omega) (by omega) (by omega)]; exact r0
    · unfold rdG upN
      rw [r2, if_neg (by omega), if_neg (by omega), if_neg (by omega), if_pos rfl]
    · rw [ne 3 (by omega) (by omega) (by omega) (by omega)]; exact r3
    · rw [ne 4 (by omega) (by omega) (by omega) (by omega)]; exact r4
    · intro g hg
      by_cases h : g = i
      · subst h
        refine ⟨?_, ?_⟩
        · rw [c1]
          unfold rdG upN
          rw [r2, if_neg (by omega), if_pos rfl]
        · rw [c2]
          unfold rdG upN
          rw [r2, if_pos rfl]
      · rw [c3 _ (by omega), c4 _ (by omega) (by omega), ne _ (by omega) (by omega) (by omega) (by omega), ne _ (by omega) (by omega) (by omega) (by omega)]
        exact hG g (by omega)
end TE3
