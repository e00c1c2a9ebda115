/-! the law tells a city -/
section TE1
variable {N : Nat} {xs : Nat → Int32} {σ : dm_G} {Q : Option Value → dm_G → Prop} {c n : Nat → Nat} {k : Nat} {p : Nat → Nat → Nat} {q : Nat} {im : Nat → Nat → Nat} {h : Nat} {hs ht : Nat → Nat} {m : Nat} {bg bx : Nat → Nat} {L : Nat} {tx : Nat → Nat} {f : Int32} {s : Nat}
theorem KA_up {a b : Nat} {v : Value} (ha : 118 ≤ a) (hK : KA c n k p q im h hs ht m bg bx L tx f s σ) : KA c n k p q im h hs ht m bg bx L tx f s (dm_up σ a b v) := KA_z (fun a' b' h => by rw [up_get, if_neg (by omega)]) hK
theorem q_partC {x : Int32} {d : Nat} (h0 : 0 < d) (hd : d < 2 ^ 31) : Cs (some (N, xs)) 124 [.int x, .int (nI d)] σ Q = Q (some (.int (nI (partV x d)))) σ := Cs_of (q_part x h0 hd)
theorem q_cellC {a : Nat} (ha : a < 2 ^ 31) (hN : N < 2 ^ 31) : Cs (some (N, xs)) 125 [.retAddr 0, .int (nI a)] σ Q = Q (some (.int (cellV N xs a))) σ := Cs_of (q_cell ha hN)
def Ext (tx tx' : Nat → Nat) (P : Nat) : Prop := ∀ i, i < P → tx' i = tx i
theorem nAt_cg {tx tx' : Nat → Nat} {p v : Nat} (h : nAt tx p v) (hc : ∀ i, p ≤ i → i < p + nl v → tx' i = tx i) : nAt tx' p v := by
  have n1 := nd_1 v
  unfold nl at hc
  obtain ⟨h0, h1, h2, h3⟩ := h
  refine ⟨by rw [hc p (by omega) (by omega), h0], fun z => by rw [hc _ (by omega) (by omega)]; exact h1 z, fun z y => ?_, fun z => ?_⟩
  · have e : nd v = 2 := by unfold nd; rw [if_neg (by omega), if_pos y]
    rw [hc (p + 1) (by omega) (by omega), hc (p + 1 + 1) (by omega) (by omega)]
    exact h2 z y
  · have e : nd v = 3 := by unfold nd; rw [if_neg (by omega), if_neg (by omega)]
    rw [hc (p + 1) (by omega) (by omega), hc (p + 1 + 1) (by omega) (by omega), hc (p + 1 + 2) (by omega) (by omega)]
    exact h3 z
-- the rows are cleared
theorem tl_z (kk : ∀ σ', KA c n k p q im h hs ht m bg bx L tx f s σ' → Wq (some (N, xs)) 127 21 [some (.ref (0 : Nat)), some (.retAddr 0), some (.ref (118 : Nat)), some (.ref (119 : Nat)), some (.ref (120 : Nat)), some (.int (nI 8)), some (.int (nI 5)), some (.int (nI 5)), some (.int (nI 55)), none, none, none] [] σ' Q) : ∀ (f' i : Nat) (σ : dm_G), i + f' = 55 → KA c n k p q im h hs ht m bg bx L tx f s σ → Wq (some (N, xs)) 127 3 [some (.ref (0 : Nat)), some (.retAddr 0), some (.ref (118 : Nat)), some (.ref (119 : Nat)), some (.ref (120 : Nat)), some (.int (nI 8)), some (.int (nI 5)), some (.int (nI 5)), some (.int (nI i)), none, none, none] [] σ Q := by
  intro f'
  induction f' with
  | zero =>
    intro i σ hi hK
    obtain rfl : i = 55 := by omega
    rw [w127_3]
    simp only [w127_5, w127_7, nI_le (Nat.le_refl 55) (show 55 < 2 ^ 31 by omega), ↓reduceIte, Option.toList_some, Option.toList_none, List.cons_append, List.nil_append]
    exact kk σ hK
  | succ f' ih =>
    intro i σ hi hK
    rw [w127_3]
    simp only [w127_5, w127_7, w127_10, w127_11, w127_13, w127_14, w127_15, w127_18, nI_ge (show i < 55 by omega) (show 55 < 2 ^ 31 by omega), kt_118, in_nI (show i < kl 118 by rw [kl_118]; omega) (by rw [kl_118]; omega), nI_clamp (show i < 2 ^ 31 by omega), nI_add, ↓reduceIte, Option.toList_some, Option.toList_none, List.cons_append, List.nil_append]
    exact ih (i + 1) _ (by omega) (KA_up (by omega) hK)
theorem tl_m (kk : ∀ σ', KA c n k p q im h hs ht m bg bx L tx f s σ' → Wq (some (N, xs)) 127 42 [some (.ref (0 : Nat)), some (.retAddr 0), some (.ref (118 : Nat)), some (.ref (119 : Nat)), some (.ref (120 : Nat)), some (.int (nI 8)), some (.int (nI 5)), some (.int (nI 5)), some (.int (nI 12)), none, none, none] [] σ' Q) : ∀ (f' i : Nat) (σ : dm_G), i + f' = 12 → KA c n k p q im h hs ht m bg bx L tx f s σ → Wq (some (N, xs)) 127 24 [some (.ref (0 : Nat)), some (.retAddr 0), some (.ref (118 : Nat)), some (.ref (119 : Nat)), some (.ref (120 : Nat)), some (.int (nI 8)), some (.int (nI 5)), some (.int (nI 5)), some (.int (nI i)), none, none, none] [] σ Q := by
  intro f'
  induction f' with
  | zero =>
    intro i σ hi hK
    obtain rfl : i = 12 := by omega
    rw [w127_24]
    simp only [w127_26, w127_28, nI_le (Nat.le_refl 12) (show 12 < 2 ^ 31 by omega), ↓reduceIte, Option.toList_some, Option.toList_none, List.cons_append, List.nil_append]
    exact kk σ hK
  | succ f' ih =>
    intro i σ hi hK
    rw [w127_24]
    simp only [w127_26, w127_28, w127_31, w127_32, w127_34, w127_35, w127_36, w127_39, nI_ge (show i < 12 by omega) (show 12 < 2 ^ 31 by omega), kt_119, in_nI (show i < kl 119 by rw [kl_119]; omega) (by rw [kl_119]; omega), nI_clamp (show i < 2 ^ 31 by omega), nI_add, ↓reduceIte, Option.toList_some, Option.toList_none, List.cons_append, List.nil_append]
    exact ih (i + 1) _ (by omega) (KA_up (by omega) hK)
theorem tl_t (kk : ∀ σ', KA c n k p q im h hs ht m bg bx L tx f s σ' → Wq (some (N, xs)) 127 64 [some (.ref (0 : Nat)), some (.retAddr 0), some (.ref (118 : Nat)), some (.ref (119 : Nat)), some (.ref (120 : Nat)), some (.int (nI 8)), some (.int (nI 5)), some (.int (nI 5)), some (.int (nI 22)), none, none, none] [] σ' Q) : ∀ (f' i : Nat) (σ : dm_G), i + f' = 22 → KA c n k p q im h hs ht m bg bx L tx f s σ → Wq (some (N, xs)) 127 45 [some (.ref (0 : Nat)), some (.retAddr 0), some (.ref (118 : Nat)), some (.ref (119 : Nat)), some (.ref (120 : Nat)), some (.int (nI 8)), some (.int (nI 5)), some (.int (nI 5)), some (.int (nI i)), none, none, none] [] σ Q := by
  intro f'
  induction f' with
  | zero =>
    intro i σ hi hK
    obtain rfl : i = 22 := by omega
    rw [w127_45]
    simp only [w127_47, w127_49, nI_le (Nat.le_refl 22) (show 22 < 2 ^ 31 by omega), ↓reduceIte, Option.toList_some, Option.toList_none, List.cons_append, List.nil_append]
    exact kk σ hK
  | succ f' ih =>
    intro i σ hi hK
    rw [w127_45]
    simp only [w127_47, w127_49, w127_52, w127_54, w127_56, w127_57, w127_58, w127_61, nI_ge (show i < 22 by omega) (show 22 < 2 ^ 31 by omega), kt_120, in_nI (show i < kl 120 by rw [kl_120]; omega) (by rw [kl_120]; omega), nI_clamp (show i < 2 ^ 31 by omega), nI_add, ↓reduceIte, Option.toList_some, Option.toList_none, List.cons_append, List.nil_append]
    exact ih (i + 1) _ (by omega) (KA_up (by omega) hK)
/-- the numbers of all kinds -/
def ZC (σ : dm_G) (n0 z1 z2 z3 z4 : Nat) : Prop := gi σ 118 0 = nI n0 ∧ gi σ 118 1 = nI z1 ∧ gi σ 118 2 = nI z2 ∧ gi σ 118 3 = nI z3 ∧ gi σ 118 4 = nI z4
theorem ZC_of {σ σ' : dm_G} {n0 z1 z2 z3 z4 : Nat} (hk : ∀ b, b < 5 → σ' 118 b = σ 118 b) (h : ZC σ n0 z1 z2 z3 z4) : ZC σ' n0 z1 z2 z3 z4 := ⟨(gi_of (hk 0 (by omega))).trans h.1, (gi_of (hk 1 (by omega))).trans h.2.1, (gi_of (hk 2 (by omega))).trans h.2.2.1, (gi_of (hk 3 (by omega))).trans h.2.2.2.1, (gi_of (hk 4 (by omega))).trans h.2.2.2.2⟩
theorem tl_1 (hN : N < 2 ^ 31) (hK : KA c n k p q im h hs ht m bg bx 0 tx f s σ) : ∃ n0 z1 z2 z3 z4 τ tx' x, 1 ≤ n0 ∧ n0 ≤ 8 ∧ z1 ≤ n0 ∧ z2 ≤ 5 ∧ z3 ≤ 5 ∧ z4 ≤ 8 ∧ (∀ Q, Wq (some (N, xs)) 127 64 [some (.ref (0 : Nat)), some (.retAddr 0), some (.ref (118 : Nat)), some (.ref (119 : Nat)), some (.ref (120 : Nat)), some (.int (nI 8)), some (.int (nI 5)), some (.int (nI 5)), some (.int (nI 22)), none, none, none] [] σ Q = Wq (some (N, xs)) 127 183 [some (.ref (0 : Nat)), some (.retAddr 0), some (.ref (118 : Nat)), some (.ref (119 : Nat)), some (.ref (120 : Nat)), some (.int (nI 8)), some (.int (nI 5)), some (.int (nI 5)), some (.int x), some (.int (nI n0)), some (.int (nI 0)), none] [] τ Q) ∧ KA c n k p q im h hs ht m bg bx 4 tx' f s τ ∧ PX tx' 4 1 (cwN n0) ∧ ZC τ n0 z1 z2 z3 z4 := by
  have hx : ∀ Q' σ, Cs (some (N, xs)) 125 [.retAddr 0, .int (nI 0)] σ Q' = Q' (some (.int (cellV N xs 0))) σ := fun Q' σ => q_cellC (by omega) hN
  generalize cellV N xs 0 = x at hx
  have h1 : partV x 8 < 8 := partV_lt x (by omega)
  generalize hn0 : partV x 8 = y at h1
  have e1 : nI 1 + nI y = nI (1 + y) := nI_add _ _
  obtain ⟨z1, hz1, ez⟩ : ∃ z1, z1 ≤ 1 + y ∧ ∀ (Q' : Option Value → dm_G → Prop) (σ : dm_G), Wq (some (N, xs)) 127 89 [some (.ref (0 : Nat)), some (.retAddr 0), some (.ref (118 : Nat)), some (.ref (119 : Nat)), some (.ref (120 : Nat)), some (.int (nI 8)), some (.int (nI 5)), some (.int (nI 5)), some (.int x), some (.int (nI (1 + y))), none, none] [.int (nI 1), (.ref (118 : Nat))] σ Q' = Wq (some (N, xs)) 127 116 [some (.ref (0 : Nat)), some (.retAddr 0), some (.ref (118 : Nat)), some (.ref (119 : Nat)), some (.ref (120 : Nat)), some (.int (nI 8)), some (.int (nI 5)), some (.int (nI 5)), some (.int x), some (.int (nI (1 + y))), none, none] [.int (nI z1), .int (nI 1), (.ref (118 : Nat))] σ Q' := by
    by_cases hb : partV (x >>> (nI 3 &&& 31)) 4 = 0
    · refine ⟨partV (x >>> (nI 5 &&& 31)) (1 + y + 1), by have := partV_lt (x >>> (nI 5 &&& 31)) (d := 1 + y + 1) (by omega); omega, fun Q' σ => ?_⟩
      rw [w127_89]
      simp only [w127_91, w127_92, w127_93, w127_94, w127_97, w127_100, w127_102, w127_103, w127_104, w127_106, w127_107, w127_108, w127_111, q_partC (d := 4) (by omega) (by omega), hb, nI_add, q_partC (d := 1 + y + 1) (by omega) (by omega), ↓reduceIte, Option.toList_some, Option.toList_none, List.cons_append, List.nil_append]
    · have hb' : ¬ nI (partV (x >>> (nI 3 &&& 31)) 4) = nI 0 := fun z => hb (nI_inj (by have := partV_lt (x >>> (nI 3 &&& 31)) (d := 4) (by omega); omega) (by omega) z)
      refine ⟨1 + y, Nat.le_refl _, fun Q' σ => ?_⟩
      rw [w127_89]
      simp only [w127_91, w127_92, w127_93, w127_94, w127_97, w127_114, q_partC (d := 4) (by omega) (by omega), hb', ↓reduceIte, Option.toList_some, Option.toList_none, List.cons_append, List.nil_append]
  have h2 : partV (x >>> (nI 9 &&& 31)) 6 < 6 := partV_lt _ (by omega)
  have h3 : partV (x >>> (nI 12 &&& 31)) 6 < 6 := partV_lt _ (by omega)
  have h4 : partV (x >>> (nI 15 &&& 31)) 9 < 9 := partV_lt _ (by omega)
  generalize hz2 : partV (x >>> (nI 9 &&& 31)) 6 = z2 at h2
  generalize hz3 : partV (x >>> (nI 12 &&& 31)) 6 = z3 at h3
  generalize hz4 : partV (x >>> (nI 15 &&& 31)) 9 = z4 at h4
  generalize hσ1 : dm_up (dm_up (dm_up (dm_up (dm_up σ 118 0 (.int (nI (1 + y)))) 118 1 (.int (nI z1))) 118 2 (.int (nI z2))) 118 3 (.int (nI z3))) 118 4 (.int (nI z4)) = σ1
  have K1 : KA c n k p q im h hs ht m bg bx 0 tx f s σ1 := by
    rw [← hσ1]
    exact KA_up (by omega) (KA_up (by omega) (KA_up (by omega) (KA_up (by omega) (KA_up (by omega) hK))))
  have Z1 : ZC σ1 (1 + y) z1 z2 z3 z4 := by
    rw [← hσ1]
    exact ⟨rfl, rfl, rfl, rfl, rfl⟩
  obtain ⟨τ1, f1, K2, k2⟩ := q_feed K1 (e := 110) (by omega) (by omega)
  obtain ⟨τ2, tx2, f2, K3, k3, x3, a3⟩ := q_number (N := N) (xs := xs) K2 (v := 1 + y) (by omega) (by unfold nl; have := nd_1 (1 + y); omega)
  have en : nl (1 + y) = 2 := by unfold nl nd; rw [if_pos (by omega)]
  rw [en] at K3
  obtain ⟨τ3, f4, K4, k4⟩ := q_feed K3 (e := 59) (by omega) (by omega)
  have c1 := fun Q => Cq_of (Q := Q) f1
  have c2 := fun Q => Cs_of (Q := Q) f2
  have c3 := fun Q => Cq_of (Q := Q) f4
  refine ⟨1 + y, z1, z2, z3, z4, τ3, up1 tx2 (0 + 1 + 2) 59, x, by omega, by omega, hz1, by omega, by omega, by omega, fun Q => ?_, K4, ?_, ?_⟩
  · simp only [w127_64, w127_65, w127_66, w127_69, w127_71, w127_72, w127_74, w127_76, w127_79, w127_80, w127_82, w127_83, w127_84, w127_86, w127_87, w127_88, hx, q_partC (d := 8) (by omega) (by omega), hn0, e1, kt_118, in_nI (show 0 < kl 118 by rw [kl_118]; omega) (by rw [kl_118]; omega), nI_clamp (show 0 < 2 ^ 31 by omega), ↓reduceIte, Option.toList_some, Option.toList_none, List.cons_append, List.nil_append]
    rw [ez]
    simp only [w127_116, w127_117, w127_118, w127_119, w127_121, w127_123, w127_124, w127_126, w127_127, w127_128, w127_131, w127_132, w127_133, w127_134, w127_136, w127_138, w127_139, w127_141, w127_142, w127_143, w127_146, w127_147, w127_148, w127_149, w127_151, w127_153, w127_154, w127_156, w127_159, w127_160, w127_161, w127_163, w127_166, w127_167, w127_168, w127_170, w127_173, w127_174, w127_176, w127_179, w127_180, w127_181, kt_118, in_nI (show 1 < kl 118 by rw [kl_118]; omega) (by rw [kl_118]; omega), nI_clamp (show 1 < 2 ^ 31 by omega), in_nI (show 2 < kl 118 by rw [kl_118]; omega) (by rw [kl_118]; omega), nI_clamp (show 2 < 2 ^ 31 by omega), in_nI (show 3 < kl 118 by rw [kl_118]; omega) (by rw [kl_118]; omega), nI_clamp (show 3 < 2 ^ 31 by omega), in_nI (show 4 < kl 118 by rw [kl_118]; omega) (by rw [kl_118]; omega), nI_clamp (show 4 < 2 ^ 31 by omega), nI_add, Nat.reduceAdd, q_partC (d := 6) (by omega) (by omega), q_partC (d := 9) (by omega) (by omega), hz2, hz3, hz4, hσ1, ks_0, c1, c2, c3, ↓reduceIte, Option.toList_some, Option.toList_none, List.cons_append, List.nil_append]
  · refine PX_s (PX_0 _) (by omega) (by omega) ?_ ?_
    · rw [up1_ne (by omega), x3 0 (by omega), up1_eq]
      omega
    · intro L' tx' g1 g2 g3
      have := cl_n (L := L') (tx := tx') (rd := fun _ => 0) (p := 0) (v := 1 + y) rfl (by omega) (by omega) (by rw [g3 0 (by omega), up1_ne (by omega), x3 0 (by omega), up1_eq]) (nAt_cg a3 (fun i h1 h2 => by rw [en] at h2; rw [g3 i (by omega), up1_ne (by omega)])) (by rw [en, g3 3 (by omega)]; exact up1_eq) (by rw [en]; omega)
      rw [en] at this
      exact this
  · exact ZC_of (fun b _ => ((k4 118 b (by omega)).trans (k3 118 b (by omega))).trans (k2 118 b (by omega))) Z1
end TE1
