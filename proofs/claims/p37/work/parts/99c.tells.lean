/-! the law tells clients and moons; the city is read -/
section TE4
variable {N : Nat} {xs : Nat → Int32} {σ : dm_G} {Q : Option Value → dm_G → Prop} {n0 z1 z2 z3 z4 : Nat} {c n : Nat → Nat} {k : Nat} {p : Nat → Nat → Nat} {q : Nat} {im : Nat → Nat → Nat} {h : Nat} {hs ht : Nat → Nat} {m : Nat} {bg bx : Nat → Nat} {L : Nat} {tx : Nat → Nat} {f : Int32} {s : Nat}
/-- one client -/
theorem tl_e {i : Nat} {v8 v11 : Option Value} (hN : N < 2 ^ 31) (hK : KA c n k p q im h hs ht m bg bx L tx f s σ) (hZ : ZC σ n0 z1 z2 z3 z4) (hn0 : 1 ≤ n0) (hn8 : n0 ≤ 8) (hi : i < z3) (hz3 : z3 ≤ 5) (hL : L + 6 ≤ 240) : ∃ v0 v1 x τ tx', v0 < n0 ∧ v1 < n0 ∧ (∀ Q, Wq (some (N, xs)) 127 505 [some (.ref (0 : Nat)), some (.retAddr 0), some (.ref (118 : Nat)), some (.ref (119 : Nat)), some (.ref (120 : Nat)), some (.int (nI 8)), some (.int (nI 5)), some (.int (nI 5)), v8, some (.int (nI n0)), some (.int (nI i)), v11] [] σ Q = Wq (some (N, xs)) 127 505 [some (.ref (0 : Nat)), some (.retAddr 0), some (.ref (118 : Nat)), some (.ref (119 : Nat)), some (.ref (120 : Nat)), some (.int (nI 8)), some (.int (nI 5)), some (.int (nI 5)), some (.int x), some (.int (nI n0)), some (.int (nI (i + 1))), v11] [] τ Q) ∧ KA c n k p q im h hs ht m bg bx (L + 6) tx' f s τ ∧ Ext tx tx' L ∧ (tx' L = 101 ∧ nAt tx' (L + 1) v0 ∧ nAt tx' (L + 3) v1 ∧ tx' (L + 5) = 59) ∧ ZC τ n0 z1 z2 z3 z4 ∧ (∀ j, j < 43 → gi τ 118 j = gi σ 118 j) ∧ ∀ j, gi τ 120 j = gi σ 120 j := by
  have hx : ∀ Q' σ, Cs (some (N, xs)) 125 [.retAddr 0, .int (nI 15)] σ Q' = Q' (some (.int (cellV N xs 15))) σ := fun Q' σ => q_cellC (by omega) hN
  generalize cellV N xs 15 >>> (nI (5 * i) &&& 31) = x' at hx
  generalize hxx : cellV N xs 15 >>> (nI (5 * i) &&& 31) = x
  have hv0 : partV x n0 < n0 := partV_lt x (by omega)
  generalize hv0e : partV x n0 = v0 at hv0
  have hv1 : partV (x >>> (nI 3 &&& 31)) n0 < n0 := partV_lt _ (by omega)
  generalize hv1e : partV (x >>> (nI 3 &&& 31)) n0 = v1 at hv1
  generalize hσ1 : dm_up (dm_up σ 118 (43 + i) (.int (nI v0))) 118 (49 + i) (.int (nI v1)) = σ1
  have K1 : KA c n k p q im h hs ht m bg bx L tx f s σ1 := by
    rw [← hσ1]
    exact KA_up (by omega) (KA_up (by omega) hK)
  have Z1 : ZC σ1 n0 z1 z2 z3 z4 := by
    rw [← hσ1]
    exact ZC_up (by omega) (ZC_up (by omega) hZ)
  have y0 : gi σ1 118 (43 + i) = nI v0 := by rw [← hσ1, gi_up, if_neg (by omega), gi_up, if_pos ⟨rfl, rfl⟩]
  have y1 : gi σ1 118 (49 + i) = nI v1 := by rw [← hσ1, gi_up, if_pos ⟨rfl, rfl⟩]
  have y3 : ∀ j, j < 43 → gi σ1 118 j = gi σ 118 j := fun j hj => by rw [← hσ1, gi_up, if_neg (by omega), gi_up, if_neg (by omega)]
  have y4 : ∀ j, gi σ1 120 j = gi σ 120 j := fun j => by rw [← hσ1, gi_up, if_neg (by omega), gi_up, if_neg (by omega)]
  have l0 := nl_9 (v := v0) (by omega)
  have l1 := nl_9 (v := v1) (by omega)
  obtain ⟨τ1, e1, K2, k2⟩ := q_feed K1 (e := 101) (by omega) (by omega)
  obtain ⟨τ2, tx2, e2, K3, k3, x3, a3⟩ := q_number (N := N) (xs := xs) K2 (v := v0) (by omega) (by omega)
  rw [l0] at K3
  obtain ⟨τ3, tx3, e3, K4, k4, x4, a4⟩ := q_number (N := N) (xs := xs) K3 (v := v1) (by omega) (by omega)
  rw [l1] at K4
  obtain ⟨τ5, e5, K6, k6⟩ := q_feed K4 (e := 59) (by omega) (by omega)
  have c1 := fun Q => Cq_of (Q := Q) e1
  have c2 := fun Q => Cs_of (Q := Q) e2
  have c3 := fun Q => Cs_of (Q := Q) e3
  have c5 := fun Q => Cq_of (Q := Q) e5
  have F1 : FZ σ1 τ5 := ((k2.tr k3).tr k4).tr k6
  have fg : ∀ a b, 118 ≤ a → gi τ5 a b = gi σ1 a b := fun a b ha => gi_of (F1 a b ha)
  have g0 : gi τ1 118 (43 + i) = nI v0 := (gi_of (k2 118 _ (by omega))).trans y0
  have g1 : gi τ2 118 (49 + i) = nI v1 := (gi_of (k3 118 _ (by omega))).trans ((gi_of (k2 118 _ (by omega))).trans y1)
  have u : ∀ j, j < L + 1 + 2 + 2 → up1 tx3 (L + 1 + 2 + 2) 59 j = tx3 j := fun j hj => up1_ne (by omega)
  refine ⟨v0, v1, x, τ5, up1 tx3 (L + 1 + 2 + 2) 59, hv0, hv1, fun Q => ?_, K6, ?_, ⟨?_, ?_, ?_, up1_eq⟩, ZC_F F1 Z1, fun j hj => (fg _ _ (by omega)).trans (y3 j hj), fun j => (fg _ _ (by omega)).trans (y4 j)⟩
  · rw [w127_505]
    simp only [w127_507, w127_508, w127_509, w127_509s, w127_510, w127_513, w127_514, w127_516, w127_519, w127_520, w127_522, w127_523, w127_524, w127_526, w127_527, w127_529, w127_531, w127_532, w127_534, w127_536, w127_539, w127_540, w127_541, w127_543, w127_545, w127_546, w127_548, w127_549, w127_550, w127_552, w127_555, w127_556, w127_557, w127_559, w127_562, w127_563, w127_564, w127_565, w127_567, w127_569, w127_570, w127_570s, w127_571, w127_574, w127_575, w127_576, w127_578, w127_580, w127_581, w127_581s, w127_582, w127_585, w127_586, w127_588, w127_591, w127_592, w127_595, kt_118, in_nI (show 3 < kl 118 by rw [kl_118]; omega) (by rw [kl_118]; omega), nI_clamp (show 3 < 2 ^ 31 by omega), hZ.2.2.2.1, nI_ge hi (show z3 < 2 ^ 31 by omega), nI_add, pk_mul, q_cellC (show 15 < 2 ^ 31 by omega) hN, hxx, q_partC (d := n0) (by omega) (by omega), hv0e, hv1e, in_nI (show 43 + i < kl 118 by rw [kl_118]; omega) (by rw [kl_118]; omega), nI_clamp (show 43 + i < 2 ^ 31 by omega), in_nI (show 49 + i < kl 118 by rw [kl_118]; omega) (by rw [kl_118]; omega), nI_clamp (show 49 + i < 2 ^ 31 by omega), hσ1, ks_0, c1, g0, c2, g1, c3, c5, ↓reduceIte, Option.toList_some, Option.toList_none, List.cons_append, List.nil_append]
  · intro j hj
    rw [u j (by omega), x4 j (by omega), x3 j (by omega), up1_ne (by omega)]
  · rw [u L (by omega), x4 L (by omega), x3 L (by omega), up1_eq]
  · exact nAt_cg a3 (fun j h1 h2 => by rw [u j (by omega), x4 j (by omega)])
  · exact nAt_cg a4 (fun j h1 h2 => by rw [u j (by omega)])
theorem tl_es (hN : N < 2 ^ 31) (hn0 : 1 ≤ n0) (hn8 : n0 ≤ 8) (hz1 : z1 ≤ 8) (hz2 : z2 ≤ 5) (hz3 : z3 ≤ 5) {v11 : Option Value} (kk : ∀ σ' L tx rd v8, KA c n k p q im h hs ht m bg bx L tx f s σ' → ZC σ' n0 z1 z2 z3 z4 → L ≤ 169 → PX tx L (1 + z1 + z2 + z3) rd → rd 0 = n0 ∧ rd 2 = z2 ∧ rd 3 = z3 ∧ rd 4 = 0 → GZ σ' rd z2 → Wq (some (N, xs)) 127 598 [some (.ref (0 : Nat)), some (.retAddr 0), some (.ref (118 : Nat)), some (.ref (119 : Nat)), some (.ref (120 : Nat)), some (.int (nI 8)), some (.int (nI 5)), some (.int (nI 5)), v8, some (.int (nI n0)), some (.int (nI z3)), v11] [] σ' Q) : ∀ (f' i : Nat) (σ : dm_G) (L : Nat) (tx rd : Nat → Nat) (v8 : Option Value), i + f' = z3 → KA c n k p q im h hs ht m bg bx L tx f s σ → ZC σ n0 z1 z2 z3 z4 → L ≤ 139 + 6 * i → PX tx L (1 + z1 + z2 + i) rd → rd 0 = n0 ∧ rd 2 = z2 ∧ rd 3 = i ∧ rd 4 = 0 → GZ σ rd z2 → Wq (some (N, xs)) 127 505 [some (.ref (0 : Nat)), some (.retAddr 0), some (.ref (118 : Nat)), some (.ref (119 : Nat)), some (.ref (120 : Nat)), some (.int (nI 8)), some (.int (nI 5)), some (.int (nI 5)), v8, some (.int (nI n0)), some (.int (nI i)), v11] [] σ Q := by
  intro f'
  induction f' with
  | zero =>
    intro i σ L tx rd v8 hi hK hZ hL hP hR hG
    obtain rfl : i = z3 := by omega
    rw [w127_505]
    simp only [w127_507, w127_508, w127_509, w127_509s, w127_510, kt_118, in_nI (show 3 < kl 118 by rw [kl_118]; omega) (by rw [kl_118]; omega), nI_clamp (show 3 < 2 ^ 31 by omega), hZ.2.2.2.1, nI_le (Nat.le_refl i) (show i < 2 ^ 31 by omega), ↓reduceIte, Option.toList_some, Option.toList_none, List.cons_append, List.nil_append]
    exact kk σ L tx rd v8 hK hZ (by omega) hP hR hG
  | succ f' ih =>
    intro i σ L tx rd v8 hi hK hZ hL hP hR hG
    obtain ⟨v0, v1, x, τ, tx', g0, g1, w, K1, ex, ⟨t0, t1, t2, t3⟩, Z1, c3, c4⟩ := tl_e (N := N) (xs := xs) (i := i) (v8 := v8) (v11 := v11) hN hK hZ hn0 hn8 (by omega) hz3 (by omega)
    rw [w Q]
    obtain ⟨r0, r2, r3, r4⟩ := hR
    have l0 := nl_9 (v := v0) (by omega)
    have l1 := nl_9 (v := v1) (by omega)
    have ne : ∀ j, j ≠ 3 → j < 55 → rdE rd v0 v1 j = rd j := fun j h1 h2 => by
      unfold rdE upN
      rw [if_neg (by omega), if_neg (by omega), if_neg h1]
    refine ih (i + 1) τ (L + 6) tx' (rdE rd v0 v1) _ (by omega) K1 Z1 (by omega) ?_ ⟨?_, ?_, ?_, ?_⟩ ?_
    · refine PX_s (j := 1 + z1 + z2 + i) (PX_cg hP ex) (by omega) (by omega) (by rw [t0]; omega) ?_
      intro L' tx2 q1 q2 q3
      have tr : ∀ {p v : Nat}, nAt tx' p v → p + nl v ≤ L + 6 → nAt tx2 p v := fun hn hp => nAt_cg hn (fun j h1 h2 => q3 j (by omega))
      have := cl_e (L := L') (tx := tx2) (rd := rd) (p := L) (v0 := v0) (v1 := v1) (by omega) (by omega) (by omega) (by omega) (by omega) (by rw [q3 L (by omega), t0]) (tr t1 (by omega)) (by rw [l0]; exact tr t2 (by omega)) (by rw [l0, l1, q3 _ (by omega)]; exact t3) (by omega)
      rw [l0, l1] at this
      exact this
    · rw [ne 0 (by omega) (by omega)]; exact r0
    · rw [ne 2 (by omega) (by omega)]; exact r2
    · unfold rdE upN
      rw [if_neg (by omega), if_neg (by omega), if_pos rfl]
      omega
    · rw [ne 4 (by omega) (by omega)]; exact r4
    · intro g hg
      rw [c3 _ (by omega), c4, ne _ (by omega) (by omega), ne _ (by omega) (by omega)]
      exact hG g hg
/-- the moons, one by one -/
theorem tl_ms {L0 : Nat} {tx0 : Nat → Nat} {v8 v11 : Option Value} {rd : Nat → Nat} (hN : N < 2 ^ 31) (hL0 : L0 ≤ 169) (hz4 : z4 ≤ 8) (h4 : 0 < z4) (kk : ∀ σ' tx d, KA c n k p q im h hs ht m bg bx (L0 + 1 + 2 * z4) tx f s σ' → Ext tx0 tx L0 → tx L0 = 109 → mAt tx d (L0 + 1) z4 → tx (L0 + 1 + 2 * z4 - 1) = 59 → ZC σ' n0 z1 z2 z3 z4 → GZ σ' rd z2 → Wq (some (N, xs)) 127 685 [some (.ref (0 : Nat)), some (.retAddr 0), some (.ref (118 : Nat)), some (.ref (119 : Nat)), some (.ref (120 : Nat)), some (.int (nI 8)), some (.int (nI 5)), some (.int (nI 5)), v8, some (.int (nI n0)), some (.int (nI z4)), v11] [] σ' Q) : ∀ (f' i : Nat) (σ : dm_G) (tx d : Nat → Nat), i + f' = z4 → KA c n k p q im h hs ht m bg bx (L0 + 1 + (2 * i - 1)) tx f s σ → Ext tx0 tx L0 → tx L0 = 109 → mAt tx d (L0 + 1) i → ZC σ n0 z1 z2 z3 z4 → GZ σ rd z2 → Wq (some (N, xs)) 127 614 [some (.ref (0 : Nat)), some (.retAddr 0), some (.ref (118 : Nat)), some (.ref (119 : Nat)), some (.ref (120 : Nat)), some (.int (nI 8)), some (.int (nI 5)), some (.int (nI 5)), v8, some (.int (nI n0)), some (.int (nI i)), v11] [] σ Q := by
  intro f'
  induction f' with
  | zero =>
    intro i σ tx d hi hK hE h0 hm hZ hG
    obtain rfl : i = z4 := by omega
    obtain ⟨τ, e1, K1, k1⟩ := q_feed hK (e := 59) (by omega) (by omega)
    have c1 := fun Q => Cq_of (Q := Q) e1
    rw [show L0 + 1 + (2 * i - 1) + 1 = L0 + 1 + 2 * i by omega] at K1
    have n4 : ¬ nI i ≤ nI 0 := nI_ge h4 (by omega)
    have hk := kk τ (up1 tx (L0 + 1 + (2 * i - 1)) 59) d K1 (fun j hj => by rw [up1_ne (by omega)]; exact hE j hj) (by rw [up1_ne (by omega)]; exact h0) ⟨fun j hj => by rw [up1_ne (by omega)]; exact hm.1 j hj, fun j hj => by rw [up1_ne (by omega)]; exact hm.2 j hj⟩ (by rw [show L0 + 1 + 2 * i - 1 = L0 + 1 + (2 * i - 1) by omega]; exact up1_eq) (ZC_F k1 hZ) (fun g hg => ⟨(gi_of (k1 118 _ (by omega))).trans (hG g hg).1, (gi_of (k1 120 _ (by omega))).trans (hG g hg).2⟩)
    rw [w127_614]
    simp only [w127_616, w127_617, w127_618, w127_618s, w127_619, w127_672, w127_673, w127_674, w127_674s, w127_675, w127_678, w127_679, w127_681, w127_684, kt_118, in_nI (show 4 < kl 118 by rw [kl_118]; omega) (by rw [kl_118]; omega), nI_clamp (show 4 < 2 ^ 31 by omega), hZ.2.2.2.2, nI_le (Nat.le_refl i) (show i < 2 ^ 31 by omega), n4, ks_0, c1, ↓reduceIte, Option.toList_some, Option.toList_none, List.cons_append, List.nil_append]
    exact hk
  | succ f' ih =>
    intro i σ tx d hi hK hE h0 hm hZ hG
    have hv : partV (cellV N xs 16 >>> (nI (3 * i) &&& 31)) 10 < 10 := partV_lt _ (by omega)
    generalize hve : partV (cellV N xs 16 >>> (nI (3 * i) &&& 31)) 10 = v at hv
    have K1 := KA_up (a := 119) (b := i) (v := .int (nI v)) (by omega) hK
    have Z1 : ZC (dm_up σ 119 i (.int (nI v))) n0 z1 z2 z3 z4 := ZC_u2 (by omega) hZ
    have G1 : GZ (dm_up σ 119 i (.int (nI v))) rd z2 := fun g hg => by rw [gi_up, if_neg (by omega), gi_up, if_neg (by omega)]; exact hG g hg
    have y1 : gi (dm_up σ 119 i (.int (nI v))) 119 i = nI v := by rw [gi_up, if_pos ⟨rfl, rfl⟩]
    have n4 : ¬ nI z4 ≤ nI i := nI_ge (by omega) (by omega)
    by_cases hi0 : i = 0
    · subst hi0
      obtain ⟨τ, e1, K2, k1⟩ := q_feed K1 (e := 48 + v) (by omega) (by omega)
      have c1 := fun Q => Cq_of (Q := Q) e1
      have hk := ih 1 τ (up1 tx (L0 + 1) (48 + v)) (fun _ => v) (by omega) K2 (fun j hj => by rw [up1_ne (by omega)]; exact hE j hj) (by rw [up1_ne (by omega)]; exact h0) ⟨fun j hj => by rw [show L0 + 1 + 2 * j = L0 + 1 by omega, up1_eq]; exact ⟨(show v ≤ 9 by omega), rfl⟩, fun j hj => by omega⟩ (ZC_F k1 Z1) (fun g hg => ⟨(gi_of (k1 118 _ (by omega))).trans (G1 g hg).1, (gi_of (k1 120 _ (by omega))).trans (G1 g hg).2⟩)
      rw [w127_614]
      simp only [w127_616, w127_617, w127_618, w127_618s, w127_619, w127_622, w127_623, w127_625, w127_626, w127_628, w127_631, w127_632, w127_634, w127_635, w127_636, w127_638, w127_641, w127_642, w127_644, w127_654, w127_655, w127_657, w127_658, w127_660, w127_660s, w127_661, w127_662, w127_665, w127_666, w127_669, kt_118, kt_119, in_nI (show 4 < kl 118 by rw [kl_118]; omega) (by rw [kl_118]; omega), nI_clamp (show 4 < 2 ^ 31 by omega), hZ.2.2.2.2, n4, q_cellC (show 16 < 2 ^ 31 by omega) hN, pk_mul, hve, q_partC (d := 10) (by omega) (by omega), in_nI (show 0 < kl 119 by rw [kl_119]; omega) (by rw [kl_119]; omega), nI_clamp (show 0 < 2 ^ 31 by omega), nI_le (Nat.le_refl 0) (show 0 < 2 ^ 31 by omega), y1, nI_add, ks_0, c1, ↓reduceIte, Option.toList_some, Option.toList_none, List.cons_append, List.nil_append]
      exact hk
    · obtain ⟨τ, e1, K2, k1⟩ := q_feed K1 (e := 44) (by omega) (by omega)
      have y2 : gi τ 119 i = nI v := (gi_of (k1 119 i (by omega))).trans y1
      obtain ⟨τ2, e2, K3, k2⟩ := q_feed K2 (e := 48 + v) (by omega) (by omega)
      have c1 := fun Q => Cq_of (Q := Q) e1
      have c2 := fun Q => Cq_of (Q := Q) e2
      have F := k1.tr k2
      have ni : ¬ nI i ≤ nI 0 := nI_ge (by omega) (by omega)
      rw [show L0 + 1 + (2 * i - 1) + 1 + 1 = L0 + 1 + (2 * (i + 1) - 1) by omega] at K3
      have hk := ih (i + 1) τ2 (up1 (up1 tx (L0 + 1 + (2 * i - 1)) 44) (L0 + 1 + (2 * i - 1) + 1) (48 + v)) (up1 d i v) (by omega) K3 (fun j hj => by rw [up1_ne (by omega), up1_ne (by omega)]; exact hE j hj) (by rw [up1_ne (by omega), up1_ne (by omega)]; exact h0) ⟨fun j hj => by
        by_cases hj2 : j = i
        · subst hj2
          rw [up1_eq, show L0 + 1 + 2 * j = L0 + 1 + (2 * j - 1) + 1 by omega, up1_eq]
          exact ⟨by omega, rfl⟩
        · rw [up1_ne hj2, up1_ne (by omega), up1_ne (by omega)]
          exact hm.1 j (by omega), fun j hj => by
        by_cases hj2 : j + 1 = i
        · rw [up1_ne (by omega), show L0 + 1 + 2 * j + 1 = L0 + 1 + (2 * i - 1) by omega, up1_eq]
        · rw [up1_ne (by omega), up1_ne (by omega)]
          exact hm.2 j (by omega)⟩ (ZC_F F Z1) (fun g hg => ⟨(gi_of (F 118 _ (by omega))).trans (G1 g hg).1, (gi_of (F 120 _ (by omega))).trans (G1 g hg).2⟩)
      rw [w127_614]
      simp only [w127_616, w127_617, w127_618, w127_618s, w127_619, w127_622, w127_623, w127_625, w127_626, w127_628, w127_631, w127_632, w127_634, w127_635, w127_636, w127_638, w127_641, w127_642, w127_644, w127_647, w127_648, w127_650, w127_653, w127_654, w127_655, w127_657, w127_658, w127_660, w127_660s, w127_661, w127_662, w127_665, w127_666, w127_669, kt_118, kt_119, in_nI (show 4 < kl 118 by rw [kl_118]; omega) (by rw [kl_118]; omega), nI_clamp (show 4 < 2 ^ 31 by omega), hZ.2.2.2.2, n4, q_cellC (show 16 < 2 ^ 31 by omega) hN, pk_mul, hve, q_partC (d := 10) (by omega) (by omega), in_nI (show i < kl 119 by rw [kl_119]; omega) (by rw [kl_119]; omega), nI_clamp (show i < 2 ^ 31 by omega), ni, ks_0, c1, y2, nI_add, c2, ↓reduceIte, Option.toList_some, Option.toList_none, List.cons_append, List.nil_append]
      exact hk
/-- the city is read as it was told -/
theorem tl_f {v8 v10 v11 : Option Value} {rd : Nat → Nat} {j : Nat} (hK : KA c n k p q im h hs ht m bg bx L tx f s σ) (hL : L ≤ 240) (hP : PX tx L j rd) (hZ : ZC σ n0 z1 z2 z3 z4) (h0 : rd 0 = n0) (h2 : rd 2 = z2) (h3 : rd 3 = z3) (hq : ∀ τ tx', KA rd (bnN rd) 0 p 0 im 0 hs ht 0 bg bx 0 tx' (-1) s τ → FZ σ τ → Q (some (.int (nI 1))) τ) : Wq (some (N, xs)) 127 685 [some (.ref (0 : Nat)), some (.retAddr 0), some (.ref (118 : Nat)), some (.ref (119 : Nat)), some (.ref (120 : Nat)), some (.int (nI 8)), some (.int (nI 5)), some (.int (nI 5)), v8, some (.int (nI n0)), v10, v11] [] σ Q := by
  have hT := PX_e hP hL
  have ht : (txT L tx).1.2.1 = 0 := by rw [hT]
  obtain ⟨τ, e1, K1, k1⟩ := q_city hK ht
  rw [hT] at e1 K1
  dsimp only at e1 K1
  have c1 := fun Q => Cq_of (Q := Q) e1
  have c2 := fun Q => Cq_of (Q := Q) (q_fault K1)
  have td := fun Q i (hi : i < 14) => Cq_of (Q := Q) (q_told (j := i) K1 hi)
  have g2 : gi τ 118 2 = nI z2 := (gi_of (k1 118 2 (by omega))).trans hZ.2.2.1
  have g3 : gi τ 118 3 = nI z3 := (gi_of (k1 118 3 (by omega))).trans hZ.2.2.2.1
  have b4 : bnN rd 20 = 0 := rfl
  have b6 : bnN rd 19 = 0 := rfl
  have b7 : bnN rd 18 = 0 := rfl
  have b8 : bnN rd 21 = 0 := rfl
  have t0 := fun Q => td Q 0 (by omega)
  have t1 := fun Q => td Q 1 (by omega)
  have t2 := fun Q => td Q 2 (by omega)
  have t3 := fun Q => td Q 3 (by omega)
  have t4 := fun Q => td Q 4 (by omega)
  have t6 := fun Q => td Q 6 (by omega)
  have t7 := fun Q => td Q 7 (by omega)
  have t8 := fun Q => td Q 8 (by omega)
  have t10 := fun Q => td Q 10 (by omega)
  have t13 := fun Q => td Q 13 (by omega)
  simp only [tdN, b4, b6, b7, b8, h0, h2, h3, (by decide : nI 0 - nI 1 = (-1 : Int32))] at t0 t1 t2 t3 t4 t6 t7 t8 t10 t13
  rw [h0] at c1
  simp only [w127_685, w127_686, w127_689, w127_691, w127_694, w127_695, w127_698, w127_699, w127_702, w127_703, w127_704, w127_707, w127_709, w127_712, w127_713, w127_714, w127_717, w127_718, w127_719, w127_719s, w127_720, w127_723, w127_724, w127_725, w127_728, w127_729, w127_730, w127_730s, w127_731, w127_734, w127_735, w127_736, w127_739, w127_742, w127_743, w127_744, w127_747, w127_750, w127_751, w127_753, w127_756, w127_759, w127_760, w127_762, w127_765, w127_768, w127_769, w127_771, w127_774, w127_777, w127_778, w127_780, w127_783, w127_784, w127_787, w127_788, w127_790, w127_793, w127_796, w127_797, w127_801, ks_0, c1, c2, t0, t1, t2, t3, t4, t6, t7, t8, t10, t13, kt_118, in_nI (show 2 < kl 118 by rw [kl_118]; omega) (by rw [kl_118]; omega), nI_clamp (show 2 < 2 ^ 31 by omega), in_nI (show 3 < kl 118 by rw [kl_118]; omega) (by rw [kl_118]; omega), nI_clamp (show 3 < 2 ^ 31 by omega), g2, g3, (by decide : nI 1 &&& 1 = nI 1), (by decide : nI 0 &&& 1 = nI 0), ↓reduceIte, Option.toList_some, Option.toList_none, List.cons_append, List.nil_append]
  exact hq τ tx K1 k1
end TE4
