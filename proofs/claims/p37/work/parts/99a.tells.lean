/-! the law tells the crossings -/
section TE2
variable {N : Nat} {xs : Nat → Int32} {σ : dm_G} {Q : Option Value → dm_G → Prop} {n0 z1 z2 z3 z4 : Nat} {c n : Nat → Nat} {k : Nat} {p : Nat → Nat → Nat} {q : Nat} {im : Nat → Nat → Nat} {h : Nat} {hs ht : Nat → Nat} {m : Nat} {bg bx : Nat → Nat} {L : Nat} {tx : Nat → Nat} {f : Int32} {s : Nat}
theorem nl_9 {v : Nat} (h : v ≤ 9) : nl v = 2 := by unfold nl nd; rw [if_pos h]
theorem ZC_up {j : Nat} {v : Value} (hj : 5 ≤ j) (hZ : ZC σ n0 z1 z2 z3 z4) : ZC (dm_up σ 118 j v) n0 z1 z2 z3 z4 := ZC_of (fun b hb => by rw [up_get, if_neg (by omega)]) hZ
theorem ZC_F {τ : dm_G} (hk : FZ σ τ) (hZ : ZC σ n0 z1 z2 z3 z4) : ZC τ n0 z1 z2 z3 z4 := ZC_of (fun b _ => hk 118 b (by omega)) hZ
theorem tl_q {v8 v9 : Option Value} (kk : ∀ σ', KA c n k p q im h hs ht m bg bx L tx f s σ' → ZC σ' n0 z1 z2 z3 z4 → Wq (some (N, xs)) 127 207 [some (.ref (0 : Nat)), some (.retAddr 0), some (.ref (118 : Nat)), some (.ref (119 : Nat)), some (.ref (120 : Nat)), some (.int (nI 8)), some (.int (nI 5)), some (.int (nI 5)), v8, v9, some (.int (nI 24)), none] [] σ' Q) : ∀ (f' i : Nat) (σ : dm_G), i + f' = 24 → KA c n k p q im h hs ht m bg bx L tx f s σ → ZC σ n0 z1 z2 z3 z4 → Wq (some (N, xs)) 127 183 [some (.ref (0 : Nat)), some (.retAddr 0), some (.ref (118 : Nat)), some (.ref (119 : Nat)), some (.ref (120 : Nat)), some (.int (nI 8)), some (.int (nI 5)), some (.int (nI 5)), v8, v9, some (.int (nI i)), none] [] σ Q := by
  intro f'
  induction f' with
  | zero =>
    intro i σ hi hK hZ
    obtain rfl : i = 24 := by omega
    rw [w127_183]
    simp only [w127_185, w127_187, nI_le (Nat.le_refl 24) (show 24 < 2 ^ 31 by omega), ↓reduceIte, Option.toList_some, Option.toList_none, List.cons_append, List.nil_append]
    exact kk σ hK hZ
  | succ f' ih =>
    intro i σ hi hK hZ
    rw [w127_183]
    simp only [w127_185, w127_187, w127_190, w127_191, w127_193, w127_195, w127_196, w127_198, w127_199, w127_200, w127_201, w127_204, nI_ge (show i < 24 by omega) (show 24 < 2 ^ 31 by omega), kt_118, nI_add, in_nI (show 13 + i < kl 118 by rw [kl_118]; omega) (by rw [kl_118]; omega), nI_clamp (show 13 + i < 2 ^ 31 by omega), (by decide : ¬ nI 3 = 0), not_false_eq_true, ↓reduceIte, Option.toList_some, Option.toList_none, List.cons_append, List.nil_append]
    exact ih (i + 1) _ (by omega) (KA_up (by omega) hK) (ZC_up (by omega) hZ)
/-- one end of a crossing -/
theorem tl_k {i k' : Nat} {x : Int32} (hK : KA c n k p q im h hs ht m bg bx L tx f s σ) (hZ : ZC σ n0 z1 z2 z3 z4) (hn0 : 1 ≤ n0) (hn8 : n0 ≤ 8) (hi : i < 8) (hk : k' < 3) (hL : L + 2 ≤ 240) : ∃ v τ tx', v < n0 ∧ (∀ Q, Wq (some (N, xs)) 127 277 [some (.ref (0 : Nat)), some (.retAddr 0), some (.ref (118 : Nat)), some (.ref (119 : Nat)), some (.ref (120 : Nat)), some (.int (nI 8)), some (.int (nI 5)), some (.int (nI 5)), some (.int x), some (.int (nI n0)), some (.int (nI i)), some (.int (nI k'))] [] σ Q = Wq (some (N, xs)) 127 277 [some (.ref (0 : Nat)), some (.retAddr 0), some (.ref (118 : Nat)), some (.ref (119 : Nat)), some (.ref (120 : Nat)), some (.int (nI 8)), some (.int (nI 5)), some (.int (nI 5)), some (.int x), some (.int (nI n0)), some (.int (nI i)), some (.int (nI (k' + 1)))] [] τ Q) ∧ KA c n k p q im h hs ht m bg bx (L + 2) tx' f s τ ∧ Ext tx tx' L ∧ nAt tx' L v ∧ ZC τ n0 z1 z2 z3 z4 := by
  have hv : partV (x >>> (nI (3 + 4 * k') &&& 31)) n0 < n0 := partV_lt _ (by omega)
  generalize hve : partV (x >>> (nI (3 + 4 * k') &&& 31)) n0 = v at hv
  have K1 := KA_up (a := 118) (b := 13 + 3 * i + k') (v := .int (nI v)) (by omega) hK
  obtain ⟨τ, tx', e1, K2, k2, x2, a2⟩ := q_number (N := N) (xs := xs) K1 (v := v) (by omega) (by rw [nl_9 (by omega)]; omega)
  rw [nl_9 (by omega)] at K2
  have c1 := fun Q => Cs_of (Q := Q) e1
  have hg : gi (dm_up σ 118 (13 + 3 * i + k') (.int (nI v))) 118 (13 + 3 * i + k') = nI v := by rw [gi_up, if_pos ⟨rfl, rfl⟩]
  refine ⟨v, τ, tx', hv, fun Q => ?_, K2, x2, a2, ZC_F k2 (ZC_up (by omega) hZ)⟩
  rw [w127_277]
  simp only [w127_279, w127_280, w127_283, w127_284, w127_286, w127_287, w127_289, w127_290, w127_291, w127_293, w127_294, w127_296, w127_297, w127_298, w127_300, w127_301, w127_302, w127_303, w127_305, w127_308, w127_309, w127_310, w127_311, w127_313, w127_314, w127_316, w127_317, w127_318, w127_320, w127_321, w127_321s, w127_322, w127_325, w127_328, nI_ge (show k' < 3 by omega) (show 3 < 2 ^ 31 by omega), pk_mul, nI_add, kt_118, in_nI (show 13 + 3 * i + k' < kl 118 by rw [kl_118]; omega) (by rw [kl_118]; omega), nI_clamp (show 13 + 3 * i + k' < 2 ^ 31 by omega), q_partC (d := n0) (by omega) (by omega), hve, hg, c1, ↓reduceIte, Option.toList_some, Option.toList_none, List.cons_append, List.nil_append]
/-- one crossing -/
theorem tl_c {i : Nat} {v8 v11 : Option Value} (hN : N < 2 ^ 31) (hK : KA c n k p q im h hs ht m bg bx L tx f s σ) (hZ : ZC σ n0 z1 z2 z3 z4) (hn0 : 1 ≤ n0) (hn8 : n0 ≤ 8) (hz1 : z1 ≤ n0) (hi : i < z1) (hL : L + 10 ≤ 240) : ∃ v0 v1 v2 v3 x τ tx', v0 ≤ 5 ∧ v1 < n0 ∧ v2 < n0 ∧ v3 < n0 ∧ (∀ Q, Wq (some (N, xs)) 127 210 [some (.ref (0 : Nat)), some (.retAddr 0), some (.ref (118 : Nat)), some (.ref (119 : Nat)), some (.ref (120 : Nat)), some (.int (nI 8)), some (.int (nI 5)), some (.int (nI 5)), v8, some (.int (nI n0)), some (.int (nI i)), v11] [] σ Q = Wq (some (N, xs)) 127 210 [some (.ref (0 : Nat)), some (.retAddr 0), some (.ref (118 : Nat)), some (.ref (119 : Nat)), some (.ref (120 : Nat)), some (.int (nI 8)), some (.int (nI 5)), some (.int (nI 5)), some (.int x), some (.int (nI n0)), some (.int (nI (i + 1))), some (.int (nI 3))] [] τ Q) ∧ KA c n k p q im h hs ht m bg bx (L + 10) tx' f s τ ∧ Ext tx tx' L ∧ (tx' L = 99 ∧ nAt tx' (L + 1) v0 ∧ nAt tx' (L + 3) v1 ∧ nAt tx' (L + 5) v2 ∧ nAt tx' (L + 7) v3 ∧ tx' (L + 9) = 59) ∧ ZC τ n0 z1 z2 z3 z4 := by
  have hx : ∀ Q' σ, Cs (some (N, xs)) 125 [.retAddr 0, .int (nI (1 + i))] σ Q' = Q' (some (.int (cellV N xs (1 + i)))) σ := fun Q' σ => q_cellC (by omega) hN
  generalize cellV N xs (1 + i) = x at hx
  obtain ⟨v0, hv0, ev⟩ : ∃ v0, v0 ≤ 5 ∧ ∀ (Q' : Option Value → dm_G → Prop) (σ : dm_G), Wq (some (N, xs)) 127 235 [some (.ref (0 : Nat)), some (.retAddr 0), some (.ref (118 : Nat)), some (.ref (119 : Nat)), some (.ref (120 : Nat)), some (.int (nI 8)), some (.int (nI 5)), some (.int (nI 5)), some (.int x), some (.int (nI n0)), some (.int (nI i)), v11] [.int x, .int (nI (5 + i)), (.ref (118 : Nat))] σ Q' = Wq (some (N, xs)) 127 256 [some (.ref (0 : Nat)), some (.retAddr 0), some (.ref (118 : Nat)), some (.ref (119 : Nat)), some (.ref (120 : Nat)), some (.int (nI 8)), some (.int (nI 5)), some (.int (nI 5)), some (.int x), some (.int (nI n0)), some (.int (nI i)), v11] [.int (nI v0), .int (nI (5 + i)), (.ref (118 : Nat))] σ Q' := by
    by_cases hb : partV (x >>> (nI 14 &&& 31)) 2 = 0
    · refine ⟨partV x 6, by have := partV_lt x (d := 6) (by omega); omega, fun Q' σ => ?_⟩
      rw [w127_235]
      simp only [w127_237, w127_239, w127_240, w127_241, w127_244, w127_247, w127_249, w127_253, q_partC (d := 2) (by omega) (by omega), hb, q_partC (d := 6) (by omega) (by omega), ↓reduceIte, Option.toList_some, Option.toList_none, List.cons_append, List.nil_append]
    · have hb' : ¬ nI (partV (x >>> (nI 14 &&& 31)) 2) = nI 0 := fun z => hb (nI_inj (by have := partV_lt (x >>> (nI 14 &&& 31)) (d := 2) (by omega); omega) (by omega) z)
      refine ⟨partV x 2, by have := partV_lt x (d := 2) (by omega); omega, fun Q' σ => ?_⟩
      rw [w127_235]
      simp only [w127_237, w127_239, w127_240, w127_241, w127_244, w127_252, w127_253, q_partC (d := 2) (by omega) (by omega), hb', ↓reduceIte, Option.toList_some, Option.toList_none, List.cons_append, List.nil_append]
  have K1 := KA_up (a := 118) (b := 5 + i) (v := .int (nI v0)) (by omega) hK
  obtain ⟨τ1, e1, K2, k2⟩ := q_feed K1 (e := 99) (by omega) (by omega)
  obtain ⟨τ2, tx2, e2, K3, k3, x3, a3⟩ := q_number (N := N) (xs := xs) K2 (v := v0) (by omega) (by rw [nl_9 (by omega)]; omega)
  rw [nl_9 (by omega)] at K3
  have Z3 := ZC_F k3 (ZC_F k2 (ZC_up (v := .int (nI v0)) (show 5 ≤ 5 + i by omega) hZ))
  obtain ⟨v1, τ3, tx3, hv1, w1, K4, x4, a4, Z4⟩ := tl_k (N := N) (xs := xs) (i := i) (k' := 0) (x := x) K3 Z3 hn0 hn8 (by omega) (by omega) (by omega)
  obtain ⟨v2, τ4, tx4, hv2, w2', K5, x5, a5, Z5⟩ := tl_k (N := N) (xs := xs) (i := i) (k' := 1) (x := x) K4 Z4 hn0 hn8 (by omega) (by omega) (by omega)
  obtain ⟨v3, τ5, tx5, hv3, w3', K6, x6, a6, Z6⟩ := tl_k (N := N) (xs := xs) (i := i) (k' := 2) (x := x) K5 Z5 hn0 hn8 (by omega) (by omega) (by omega)
  obtain ⟨τ6, e7, K7, k7⟩ := q_feed K6 (e := 59) (by omega) (by omega)
  have c1 := fun Q => Cq_of (Q := Q) e1
  have c2 := fun Q => Cs_of (Q := Q) e2
  have c3 := fun Q => Cq_of (Q := Q) e7
  have hg : gi τ1 118 (5 + i) = nI v0 := by rw [gi_of (k2 118 _ (by omega)), gi_up, if_pos ⟨rfl, rfl⟩]
  have u : ∀ j, j < L + 1 + 2 + 2 + 2 + 2 → up1 tx5 (L + 1 + 2 + 2 + 2 + 2) 59 j = tx5 j := fun j hj => up1_ne (by omega)
  refine ⟨v0, v1, v2, v3, x, τ6, up1 tx5 (L + 1 + 2 + 2 + 2 + 2) 59, hv0, hv1, hv2, hv3, fun Q => ?_, K7, ?_, ⟨?_, ?_, ?_, ?_, ?_, ?_⟩, ZC_F k7 Z6⟩
  · rw [w127_210]
    simp only [w127_212, w127_213, w127_214, w127_214s, w127_215, w127_218, w127_219, w127_220, w127_222, w127_223, w127_226, w127_228, w127_229, w127_230, w127_232, w127_233, kt_118, in_nI (show 1 < kl 118 by rw [kl_118]; omega) (by rw [kl_118]; omega), nI_clamp (show 1 < 2 ^ 31 by omega), hZ.2.1, nI_ge hi (show z1 < 2 ^ 31 by omega), nI_add, hx, ↓reduceIte, Option.toList_some, Option.toList_none, List.cons_append, List.nil_append]
    rw [ev]
    simp only [w127_256, w127_257, w127_258, w127_260, w127_263, w127_264, w127_265, w127_266, w127_267, w127_269, w127_270, w127_270s, w127_271, w127_274, w127_275, kt_118, nI_add, in_nI (show 5 + i < kl 118 by rw [kl_118]; omega) (by rw [kl_118]; omega), nI_clamp (show 5 + i < 2 ^ 31 by omega), ks_0, c1, hg, c2, ↓reduceIte, Option.toList_some, Option.toList_none, List.cons_append, List.nil_append]
    rw [w1, w2', w3', w127_277]
    simp only [w127_279, w127_280, w127_331, w127_332, w127_334, w127_337, w127_338, w127_341, nI_le (Nat.le_refl 3) (show 3 < 2 ^ 31 by omega), Nat.reduceAdd, ks_0, c3, nI_add, ↓reduceIte, Option.toList_some, Option.toList_none, List.cons_append, List.nil_append]
  · intro j hj
    rw [u j (by omega), x6 j (by omega), x5 j (by omega), x4 j (by omega), x3 j (by omega), up1_ne (by omega)]
  · rw [u L (by omega), x6 L (by omega), x5 L (by omega), x4 L (by omega), x3 L (by omega), up1_eq]
  · exact nAt_cg a3 (fun j h1 h2 => by rw [nl_9 (by omega)] at h2; rw [u j (by omega), x6 j (by omega), x5 j (by omega), x4 j (by omega)])
  · exact nAt_cg a4 (fun j h1 h2 => by rw [nl_9 (by omega)] at h2; rw [u j (by omega), x6 j (by omega), x5 j (by omega)])
  · exact nAt_cg a5 (fun j h1 h2 => by rw [nl_9 (by omega)] at h2; rw [u j (by omega), x6 j (by omega)])
  · exact nAt_cg a6 (fun j h1 h2 => by rw [nl_9 (by omega)] at h2; rw [u j (by omega)])
  · rw [show L + 9 = L + 1 + 2 + 2 + 2 + 2 by omega]
    exact up1_eq
/-- the city told so far: n0 crossings, i of them told -/
def RC (rd : Nat → Nat) (n0 i : Nat) : Prop := rd 0 = n0 ∧ rd 1 = i ∧ rd 2 = 0 ∧ rd 3 = 0 ∧ rd 4 = 0
theorem tl_cs (hN : N < 2 ^ 31) (hn0 : 1 ≤ n0) (hn8 : n0 ≤ 8) (hz1 : z1 ≤ n0) (kk : ∀ σ' L tx rd v8 v11, KA c n k p q im h hs ht m bg bx L tx f s σ' → ZC σ' n0 z1 z2 z3 z4 → L ≤ 84 → PX tx L (1 + z1) rd → RC rd n0 z1 → Wq (some (N, xs)) 127 344 [some (.ref (0 : Nat)), some (.retAddr 0), some (.ref (118 : Nat)), some (.ref (119 : Nat)), some (.ref (120 : Nat)), some (.int (nI 8)), some (.int (nI 5)), some (.int (nI 5)), v8, some (.int (nI n0)), some (.int (nI z1)), v11] [] σ' Q) : ∀ (f' i : Nat) (σ : dm_G) (L : Nat) (tx rd : Nat → Nat) (v8 v11 : Option Value), i + f' = z1 → KA c n k p q im h hs ht m bg bx L tx f s σ → ZC σ n0 z1 z2 z3 z4 → L = 4 + 10 * i → PX tx L (1 + i) rd → RC rd n0 i → Wq (some (N, xs)) 127 210 [some (.ref (0 : Nat)), some (.retAddr 0), some (.ref (118 : Nat)), some (.ref (119 : Nat)), some (.ref (120 : Nat)), some (.int (nI 8)), some (.int (nI 5)), some (.int (nI 5)), v8, some (.int (nI n0)), some (.int (nI i)), v11] [] σ Q := by
  intro f'
  induction f' with
  | zero =>
    intro i σ L tx rd v8 v11 hi hK hZ hL hP hR
    obtain rfl : i = z1 := by omega
    rw [w127_210]
    simp only [w127_212, w127_213, w127_214, w127_214s, w127_215, kt_118, in_nI (show 1 < kl 118 by rw [kl_118]; omega) (by rw [kl_118]; omega), nI_clamp (show 1 < 2 ^ 31 by omega), hZ.2.1, nI_le (Nat.le_refl i) (show i < 2 ^ 31 by omega), ↓reduceIte, Option.toList_some, Option.toList_none, List.cons_append, List.nil_append]
    exact kk σ L tx rd v8 v11 hK hZ (by omega) hP hR
  | succ f' ih =>
    intro i σ L tx rd v8 v11 hi hK hZ hL hP hR
    obtain ⟨v0, v1, v2, v3, x, τ, tx', g0, g1, g2, g3, w, K1, ex, ⟨t0, t1, t2, t3, t4, t5⟩, Z1⟩ := tl_c (N := N) (xs := xs) (i := i) (v8 := v8) (v11 := v11) hN hK hZ hn0 hn8 hz1 (by omega) (by omega)
    rw [w Q]
    obtain ⟨r0, r1, r2, r3, r4⟩ := hR
    refine ih (i + 1) τ (L + 10) tx' (rdX rd v0 v1 v2 v3) _ _ (by omega) K1 Z1 (by omega) ?_ ?_
    · refine PX_s (j := 1 + i) (PX_cg hP ex) (by omega) (by omega) (by rw [t0]; omega) ?_
      intro L' tx2 q1 q2 q3
      have e0 := nl_9 (v := v0) (by omega)
      have e1 := nl_9 (v := v1) (by omega)
      have e2 := nl_9 (v := v2) (by omega)
      have e3 := nl_9 (v := v3) (by omega)
      have tr : ∀ {p v : Nat}, nAt tx' p v → v ≤ 9 → p + 2 ≤ L + 10 → nAt tx2 p v := fun hn hv9 hp => nAt_cg hn (fun j h1 h2 => by rw [nl_9 hv9] at h2; exact q3 j (by omega))
      have := cl_c (L := L') (tx := tx2) (rd := rd) (p := L) (v0 := v0) (v1 := v1) (v2 := v2) (v3 := v3) (by omega) (by omega) (by omega) g0 (by omega) (by omega) (by omega) (by rw [q3 L (by omega), t0]) (tr t1 (by omega) (by omega)) (by rw [e0]; exact tr t2 (by omega) (by omega)) (by rw [e0, e1]; exact tr t3 (by omega) (by omega)) (by rw [e0, e1, e2]; exact tr t4 (by omega) (by omega)) (by rw [e0, e1, e2, e3, q3 _ (by omega)]; exact t5) (by rw [e0, e1, e2, e3]; omega)
      rw [e0, e1, e2, e3] at this
      exact this
    · have ne : ∀ j, j ≠ 1 → j < 5 → rdX rd v0 v1 v2 v3 j = rd j := fun j h1 h5 => by
        unfold rdX upN
        rw [if_neg (by omega), if_neg (by omega), if_neg (by omega), if_neg (by omega), if_neg h1]
      refine ⟨(ne 0 (by omega) (by omega)).trans r0, ?_, (ne 2 (by omega) (by omega)).trans r2, (ne 3 (by omega) (by omega)).trans r3, (ne 4 (by omega) (by omega)).trans r4⟩
      unfold rdX upN
      rw [if_neg (by omega), if_neg (by omega), if_neg (by omega), if_neg (by omega), if_pos rfl]
      omega
end TE2
