/-! the law's acts: learnt, undone, led nowhere, nights by draws -/
section LW4
variable {N : Nat} {xs : Nat → Int32} {σ : dm_G} {Q : Option Value → dm_G → Prop} {tn i : Nat} {x : Int32} {g e y at' kn hd how : Nat} {a10 a11 a12 a13 a14 a15 a16 a17 a18 a19 a20 a21 a22 a23 a24 a25 a26 a27 a28 a29 : Option Value} {c n : Nat → Nat} {k : Nat} {p : Nat → Nat → Nat} {q : Nat} {im : Nat → Nat → Nat} {h : Nat} {hs ht : Nat → Nat} {m : Nat} {bg bx : Nat → Nat} {L : Nat} {tx : Nat → Nat} {f : Int32} {s : Nat}
theorem lB_learn (hK : KA c n k p q im h hs ht m bg bx L tx f s σ) (hG : GA c n g e y at' kn hd) (hI : n 20 ≤ 1000) (h0 : 1 ≤ c 0) (hh : how = 7) : ∃ (did : Nat) (n' : Nat → Nat) (k' : Nat) (p' : Nat → Nat → Nat) (s' : Nat) (τ : dm_G) (u24 u25 u26 : Option Value), (∀ Q, Wq (some (N, xs)) 133 258 [some (.retAddr 0), some (.ref (0 : Nat)), some (.ref (118 : Nat)), some (.ref (119 : Nat)), some (.ref (120 : Nat)), some (.int (nI (c 0))), some (.int (nI (c 2))), some (.int (nI (c 3))), some (.int (nI tn)), some (.int (nI i)), some (.int x), some (.int (nI k)), some (.int (nI (n 20))), some (.int (nI (n 19))), some (.int (nI (n 18))), some (.int (nI (n 21))), some (.int (nI g)), some (.int (nI e)), some (.int (nI y)), some (.int (nI at')), some (.int (nI kn)), some (.int (nI hd)), some (.int (nI how)), some (.int (nI 1)), a24, a25, a26, a27, a28, a29] [] σ Q = Wq (some (N, xs)) 133 978 [some (.retAddr 0), some (.ref (0 : Nat)), some (.ref (118 : Nat)), some (.ref (119 : Nat)), some (.ref (120 : Nat)), some (.int (nI (c 0))), some (.int (nI (c 2))), some (.int (nI (c 3))), some (.int (nI tn)), some (.int (nI i)), some (.int x), some (.int (nI k)), some (.int (nI (n 20))), some (.int (nI (n 19))), some (.int (nI (n 18))), some (.int (nI (n 21))), some (.int (nI g)), some (.int (nI e)), some (.int (nI y)), some (.int (nI at')), some (.int (nI kn)), some (.int (nI hd)), some (.int (nI how)), some (.int (nI did)), u24, u25, u26, a27, a28, a29] [] τ Q) ∧ KA c n' k' p' q im h hs ht m bg bx L tx f s' τ ∧ FZ σ τ ∧ Dn c n n' ∧ ((did = 1 ∧ k' = min (k + 1) 16 ∧ p' = pushP n p) ∨ (did = 0 ∧ n' = n ∧ k' = k ∧ p' = p)) := by
  have w0 := hK.1.1.1
  have w2 := hK.1.1.2.1
  obtain ⟨hG1, hG2, hG3, hG4, hy⟩ := hG
  have p8 : 2 ^ c 0 ≤ 2 ^ 8 := Nat.pow_le_pow_right (by decide) w0
  have e7 : nI how = nI 7 := by rw [hh]
  have q1 : nI 2 ≤ nI 7 := by decide
  have q2 : nI 6 ≤ nI 7 := by decide
  have q3 : ¬ nI 7 = nI 6 := by decide
  by_cases z2 : c 2 = 0
  · obtain ⟨rfl, rfl, rfl, rfl⟩ := hG2 z2
    have c1 := fun Q => Cq_of (Q := Q) (q_learn_f (y := nI y) hK z2)
    refine ⟨0, n, k, p, s, σ, some (.int (-1000000001)), a25, a26, fun Q => ?_, hK, FZ.rf, ⟨Nat.le_refl _, by omega, Nat.le_refl _, fun _ _ _ h => h⟩, Or.inr ⟨rfl, rfl, rfl, rfl⟩⟩
    rw [w133_258]
    simp only [w133_260, w133_261, w133_327, w133_329, w133_331, w133_549, w133_551, w133_553, w133_631, w133_633, w133_635, w133_638, w133_639, w133_641, w133_643, w133_646, w133_648, w133_650, w133_653, w133_655, w133_657, w133_658, w133_659, w133_660, w133_663, w133_664, w133_667, w133_668, w133_670, w133_672, w133_674, w133_677, w133_679, w133_682, w133_684, w133_687, w133_689, w133_690, w133_692, w133_693, w133_694, w133_697, w133_699, w133_702, w133_704, w133_707, w133_708, w133_710, w133_711, w133_714, w133_716, w133_717, w133_719, w133_720, w133_721, w133_724, w133_725, w133_726, e7, q1, q2, q3, ks_0, c1, z2, nI_le (Nat.le_refl 0) (show 0 < 2 ^ 31 by omega), ↓reduceIte, Option.toList_some, Option.toList_none, List.cons_append, List.nil_append]
  · obtain ⟨hg, rfl, rfl, rfl⟩ := hG1 (by omega)
    have n2 : ¬ nI (c 2) ≤ nI 0 := nI_ge (by omega) (by omega)
    have n2' : ¬ nI (c 2) = nI 0 := fun z => z2 (nI_inj (by omega) (by omega) z)
    have hkn := (hK.1.2.1.1 g hg).2.1
    have hbt := nI_bit (a := n (6 + g)) (x := y) (by omega) (by omega)
    by_cases hb : (n (6 + g)).testBit y = true
    · have c1 := fun Q => Cq_of (Q := Q) (q_learn_h hK hg hy hb)
      have u2 := fun Q => Cq_of (Q := Q) (q_guide (j := 2) hK hg (by omega))
      simp only [gdN] at u2
      refine ⟨0, n, k, p, s, σ, some (.int (-1000000003)), a25, a26, fun Q => ?_, hK, FZ.rf, ⟨Nat.le_refl _, by omega, Nat.le_refl _, fun _ _ _ h => h⟩, Or.inr ⟨rfl, rfl, rfl, rfl⟩⟩
      rw [w133_258]
      simp only [w133_260, w133_261, w133_327, w133_329, w133_331, w133_549, w133_551, w133_553, w133_631, w133_633, w133_635, w133_638, w133_639, w133_641, w133_643, w133_646, w133_648, w133_650, w133_653, w133_655, w133_657, w133_658, w133_659, w133_660, w133_663, w133_664, w133_667, w133_668, w133_670, w133_672, w133_674, w133_677, w133_679, w133_682, w133_684, w133_687, w133_689, w133_690, w133_692, w133_693, w133_694, w133_697, w133_699, w133_702, w133_704, w133_707, w133_708, w133_710, w133_711, w133_714, w133_716, w133_717, w133_719, w133_720, w133_721, w133_724, w133_725, w133_726, e7, q1, q2, q3, ks_0, c1, n2, n2', hbt, hb, nI_ne1, u2, nI_shl 1 (show y < 32 by omega), nI_or, or_id hb, ↓reduceIte, Option.toList_some, Option.toList_none, List.cons_append, List.nil_append]
    · obtain ⟨τ, e1, K1, k1⟩ := q_learn hK hg hy hb
      have c1 := fun Q => Cq_of (Q := Q) e1
      have u2 := fun Q => Cq_of (Q := Q) (q_guide (j := 2) K1 hg (by omega))
      simp only [gdN, up1_eq] at u2
      refine ⟨1, _, _, _, s, τ, some (.int (nI (n (6 + g) ||| 1 <<< y))), a25, a26, fun Q => ?_, K1, k1, ⟨?_, ?_, ?_, ?_⟩, Or.inl ⟨rfl, rfl, rfl⟩⟩
      · rw [w133_258]
        simp only [w133_260, w133_261, w133_327, w133_329, w133_331, w133_549, w133_551, w133_553, w133_631, w133_633, w133_635, w133_638, w133_639, w133_641, w133_643, w133_646, w133_648, w133_650, w133_653, w133_655, w133_657, w133_658, w133_659, w133_660, w133_663, w133_664, w133_667, w133_668, w133_670, w133_672, w133_674, w133_677, w133_679, w133_682, w133_684, w133_687, w133_689, w133_690, w133_692, w133_693, w133_694, w133_697, w133_699, w133_702, w133_704, w133_707, w133_708, w133_710, w133_711, w133_714, w133_716, w133_717, w133_719, w133_720, w133_721, w133_724, w133_725, w133_726, e7, q1, q2, q3, ks_0, c1, n2, n2', hbt, hb, nI_ne1, u2, nI_shl 1 (show y < 32 by omega), nI_or, ↓reduceIte, Option.toList_some, Option.toList_none, List.cons_append, List.nil_append, Bool.false_eq_true]
      · rw [up1_ne (by omega)]; exact Nat.le_refl _
      · rw [up1_ne (by omega)]; omega
      · rw [up1_ne (by omega)]; exact Nat.le_refl _
      · intro g' hg' b hb'
        by_cases h : g' = g
        · subst h
          rw [up1_eq, Nat.testBit_or, hb']
          rfl
        · rw [up1_ne (by omega)]
          exact hb'
theorem lB_forget (hK : KA c n k p q im h hs ht m bg bx L tx f s σ) (hG : GA c n g e y at' kn hd) (hI : n 20 ≤ 1000) (h0 : 1 ≤ c 0) (hh : how = 8) : ∃ (did : Nat) (n' : Nat → Nat) (k' : Nat) (p' : Nat → Nat → Nat) (s' : Nat) (τ : dm_G) (u24 u25 u26 : Option Value), (∀ Q, Wq (some (N, xs)) 133 258 [some (.retAddr 0), some (.ref (0 : Nat)), some (.ref (118 : Nat)), some (.ref (119 : Nat)), some (.ref (120 : Nat)), some (.int (nI (c 0))), some (.int (nI (c 2))), some (.int (nI (c 3))), some (.int (nI tn)), some (.int (nI i)), some (.int x), some (.int (nI k)), some (.int (nI (n 20))), some (.int (nI (n 19))), some (.int (nI (n 18))), some (.int (nI (n 21))), some (.int (nI g)), some (.int (nI e)), some (.int (nI y)), some (.int (nI at')), some (.int (nI kn)), some (.int (nI hd)), some (.int (nI how)), some (.int (nI 1)), a24, a25, a26, a27, a28, a29] [] σ Q = Wq (some (N, xs)) 133 978 [some (.retAddr 0), some (.ref (0 : Nat)), some (.ref (118 : Nat)), some (.ref (119 : Nat)), some (.ref (120 : Nat)), some (.int (nI (c 0))), some (.int (nI (c 2))), some (.int (nI (c 3))), some (.int (nI tn)), some (.int (nI i)), some (.int x), some (.int (nI k)), some (.int (nI (n 20))), some (.int (nI (n 19))), some (.int (nI (n 18))), some (.int (nI (n 21))), some (.int (nI g)), some (.int (nI e)), some (.int (nI y)), some (.int (nI at')), some (.int (nI kn)), some (.int (nI hd)), some (.int (nI how)), some (.int (nI did)), u24, u25, u26, a27, a28, a29] [] τ Q) ∧ KA c n' k' p' q im h hs ht m bg bx L tx f s' τ ∧ FZ σ τ ∧ Dn c n n' ∧ ((did = 1 ∧ k' = min (k + 1) 16 ∧ p' = pushP n p) ∨ (did = 0 ∧ n' = n ∧ k' = k ∧ p' = p)) := by
  have w2 := hK.1.1.2.1
  obtain ⟨hG1, hG2, hG3, hG4, hy⟩ := hG
  have e7 : nI how = nI 8 := by rw [hh]
  have q1 : nI 2 ≤ nI 8 := by decide
  have q2 : nI 6 ≤ nI 8 := by decide
  have q3 : ¬ nI 8 = nI 6 := by decide
  have q4 : ¬ nI 8 = nI 7 := by decide
  by_cases z2 : c 2 = 0
  · obtain ⟨rfl, rfl, rfl, rfl⟩ := hG2 z2
    have c1 := fun Q => Cq_of (Q := Q) (q_forget_f hK z2)
    refine ⟨0, n, k, p, s, σ, a24, a25, a26, fun Q => ?_, hK, FZ.rf, ⟨Nat.le_refl _, by omega, Nat.le_refl _, fun _ _ _ h => h⟩, Or.inr ⟨rfl, rfl, rfl, rfl⟩⟩
    rw [w133_258]
    simp only [w133_260, w133_261, w133_327, w133_329, w133_331, w133_549, w133_551, w133_553, w133_631, w133_633, w133_635, w133_729, w133_731, w133_733, w133_736, w133_738, w133_741, w133_742, w133_745, w133_746, w133_748, w133_749, w133_751, w133_754, w133_756, w133_759, w133_761, w133_764, w133_766, w133_769, w133_771, w133_774, w133_775, w133_777, w133_778, w133_781, e7, q1, q2, q3, q4, ks_0, c1, z2, nI_le (Nat.le_refl 0) (show 0 < 2 ^ 31 by omega), ↓reduceIte, Option.toList_some, Option.toList_none, List.cons_append, List.nil_append]
  · obtain ⟨hg, rfl, rfl, rfl⟩ := hG1 (by omega)
    have n2 : ¬ nI (c 2) ≤ nI 0 := nI_ge (by omega) (by omega)
    obtain ⟨τ, e1, K1, k1⟩ := q_forget hK hg
    have c1 := fun Q => Cq_of (Q := Q) e1
    have u3 := fun Q => Cq_of (Q := Q) (q_guide (j := 3) K1 hg (by omega))
    simp only [gdN, up1_eq] at u3
    refine ⟨1, _, _, _, s, τ, a24, a25, a26, fun Q => ?_, K1, k1, ⟨?_, ?_, ?_, ?_⟩, Or.inl ⟨rfl, rfl, rfl⟩⟩
    · rw [w133_258]
      simp only [w133_260, w133_261, w133_327, w133_329, w133_331, w133_549, w133_551, w133_553, w133_631, w133_633, w133_635, w133_729, w133_731, w133_733, w133_736, w133_738, w133_741, w133_742, w133_745, w133_746, w133_748, w133_749, w133_751, w133_754, w133_756, w133_759, w133_761, w133_764, w133_766, w133_769, w133_771, w133_774, w133_775, w133_777, w133_778, w133_781, e7, q1, q2, q3, q4, ks_0, c1, n2, nI_ne1, u3, ↓reduceIte, Option.toList_some, Option.toList_none, List.cons_append, List.nil_append]
    · rw [up1_ne (by omega)]; exact Nat.le_refl _
    · rw [up1_ne (by omega)]; omega
    · rw [up1_ne (by omega)]; exact Nat.le_refl _
    · intro g' hg' b hb'
      rw [up1_ne (by omega)]
      exact hb'
theorem nw_wk {o : Nat} : ∀ (d x : Nat), ∃ j, Wk c o j x (nwN c o d x) := by
  intro d
  induction d with
  | zero => exact fun x => ⟨0, rfl⟩
  | succ d ih =>
    intro x
    show ∃ j, Wk c o j x (nwN c o d (nwS c o x))
    unfold nwS
    by_cases h : o.testBit (c (13 + (3 * x + 0))) = true
    · rw [if_pos h]
      obtain ⟨j, hj⟩ := ih (c (13 + (3 * x + 0)))
      exact ⟨j + 1, 0, by omega, h, hj⟩
    · rw [if_neg h]
      exact ih x
theorem lB_nowhere (hK : KA c n k p q im h hs ht m bg bx L tx f s σ) (hG : GA c n g e y at' kn hd) (hI : n 20 ≤ 1000) (h0 : 1 ≤ c 0) (hh : how = 9) : ∃ (did : Nat) (n' : Nat → Nat) (k' : Nat) (p' : Nat → Nat → Nat) (s' : Nat) (τ : dm_G) (u24 u25 u26 : Option Value), (∀ Q, Wq (some (N, xs)) 133 258 [some (.retAddr 0), some (.ref (0 : Nat)), some (.ref (118 : Nat)), some (.ref (119 : Nat)), some (.ref (120 : Nat)), some (.int (nI (c 0))), some (.int (nI (c 2))), some (.int (nI (c 3))), some (.int (nI tn)), some (.int (nI i)), some (.int x), some (.int (nI k)), some (.int (nI (n 20))), some (.int (nI (n 19))), some (.int (nI (n 18))), some (.int (nI (n 21))), some (.int (nI g)), some (.int (nI e)), some (.int (nI y)), some (.int (nI at')), some (.int (nI kn)), some (.int (nI hd)), some (.int (nI how)), some (.int (nI 1)), a24, a25, a26, a27, a28, a29] [] σ Q = Wq (some (N, xs)) 133 978 [some (.retAddr 0), some (.ref (0 : Nat)), some (.ref (118 : Nat)), some (.ref (119 : Nat)), some (.ref (120 : Nat)), some (.int (nI (c 0))), some (.int (nI (c 2))), some (.int (nI (c 3))), some (.int (nI tn)), some (.int (nI i)), some (.int x), some (.int (nI k)), some (.int (nI (n 20))), some (.int (nI (n 19))), some (.int (nI (n 18))), some (.int (nI (n 21))), some (.int (nI g)), some (.int (nI e)), some (.int (nI y)), some (.int (nI at')), some (.int (nI kn)), some (.int (nI hd)), some (.int (nI how)), some (.int (nI did)), u24, u25, u26, a27, a28, a29] [] τ Q) ∧ KA c n' k' p' q im h hs ht m bg bx L tx f s' τ ∧ FZ σ τ ∧ Dn c n n' ∧ ((did = 1 ∧ k' = min (k + 1) 16 ∧ p' = pushP n p) ∨ (did = 0 ∧ n' = n ∧ k' = k ∧ p' = p)) := by
  have w0 := hK.1.1.1
  have w2 := hK.1.1.2.1
  obtain ⟨hG1, hG2, hG3, hG4, hy⟩ := hG
  have p8 : 2 ^ c 0 ≤ 2 ^ 8 := Nat.pow_le_pow_right (by decide) w0
  have e7 : nI how = nI 9 := by rw [hh]
  have q1 : nI 2 ≤ nI 9 := by decide
  have q2 : nI 6 ≤ nI 9 := by decide
  have q3 : ¬ nI 9 = nI 6 := by decide
  have q4 : ¬ nI 9 = nI 7 := by decide
  have q5 : ¬ nI 9 = nI 8 := by decide
  have hj : partV (x >>> (nI 13 &&& 31)) 20 < 20 := partV_lt _ (by omega)
  generalize hje : partV (x >>> (nI 13 &&& 31)) 20 = j at hj
  by_cases z2 : c 2 = 0
  · obtain ⟨rfl, rfl, rfl, rfl⟩ := hG2 z2
    have c1 := fun Q => Cq_of (Q := Q) (q_nowhere_f (y := nI (1 + j)) hK z2)
    refine ⟨0, n, k, p, s, σ, some (.int (nI 0)), some (.int (-1000000001)), a26, fun Q => ?_, hK, FZ.rf, ⟨Nat.le_refl _, by omega, Nat.le_refl _, fun _ _ _ h => h⟩, Or.inr ⟨rfl, rfl, rfl, rfl⟩⟩
    rw [w133_258]
    simp only [w133_260, w133_261, w133_327, w133_329, w133_331, w133_549, w133_551, w133_553, w133_631, w133_633, w133_635, w133_729, w133_731, w133_733, w133_786, w133_788, w133_790, w133_793, w133_795, w133_798, w133_799, w133_802, w133_803, w133_805, w133_806, w133_809, w133_811, w133_812, w133_814, w133_815, w133_817, w133_819, w133_820, w133_822, w133_825, w133_826, w133_829, w133_831, w133_833, w133_836, w133_837, w133_840, w133_841, w133_843, w133_845, w133_848, w133_850, w133_851, w133_853, w133_854, w133_857, w133_860, w133_862, w133_864, w133_865, w133_866, w133_867, w133_868, w133_871, w133_874, w133_876, w133_878, w133_881, w133_882, w133_883, e7, q1, q2, q3, q4, q5, q_partC (d := 20) (by omega) (by omega), hje, nI_add, ks_0, c1, z2, nI_le (Nat.le_refl 0) (show 0 < 2 ^ 31 by omega), ↓reduceIte, Option.toList_some, Option.toList_none, List.cons_append, List.nil_append]
  · obtain ⟨hg, rfl, rfl, rfl⟩ := hG1 (by omega)
    have n2 : ¬ nI (c 2) ≤ nI 0 := nI_ge (by omega) (by omega)
    have n2' : ¬ nI (c 2) = nI 0 := fun z => z2 (nI_inj (by omega) (by omega) z)
    have u4 := fun Q => Cq_of (Q := Q) (q_guide (j := 4) hK hg (by omega))
    have gx := (hK.1.2.1.1 g hg).1
    obtain ⟨τ, e1, K1, k1⟩ := q_nowhere (d := 1 + j) hK hg (by omega) (by omega)
    have c1 := fun Q => Cq_of (Q := Q) e1
    have u0 := fun Q => Cq_of (Q := Q) (q_guide (j := 0) K1 hg (by omega))
    simp only [gdN, up1_eq] at u0 u4
    have hr : (sN c (n g) (andn (n (6 + g)) (n 19)) (c 0)).testBit (nwN c (andn (n (6 + g)) (n 19)) (1 + j) (n g)) = true := by
      obtain ⟨j', hj'⟩ := nw_wk (c := c) (o := andn (n (6 + g)) (n 19)) (1 + j) (n g)
      refine (pw_reach hK.1.1 gx).mpr ?_
      cases hs : sbN c (n g) (nwN c (andn (n (6 + g)) (n 19)) (1 + j) (n g)) (andn (n (6 + g)) (n 19)) with
      | none => exact absurd hj' (sb_none hK.1.1 gx hs _)
      | some d => exact ⟨d, rfl⟩
    have hX := nwN_lt hK.1.1 (o := andn (n (6 + g)) (n 19)) (1 + j) (n g) gx
    have hS := sN_lt hK.1.1 (o := andn (n (6 + g)) (n 19)) gx (c 0)
    generalize nwN c (andn (n (6 + g)) (n 19)) (1 + j) (n g) = r at hr hX c1 K1 u0
    generalize sN c (n g) (andn (n (6 + g)) (n 19)) (c 0) = S at hr hS u4
    have hbt := nI_bit (a := S) (x := r) (by omega) (by omega)
    refine ⟨1, _, _, _, s, τ, some (.int (nI S)), some (.int (nI r)), a26, fun Q => ?_, K1, k1, ⟨?_, ?_, ?_, ?_⟩, Or.inl ⟨rfl, rfl, rfl⟩⟩
    · rw [w133_258]
      simp only [w133_260, w133_261, w133_327, w133_329, w133_331, w133_549, w133_551, w133_553, w133_631, w133_633, w133_635, w133_729, w133_731, w133_733, w133_786, w133_788, w133_790, w133_793, w133_795, w133_798, w133_799, w133_802, w133_803, w133_805, w133_806, w133_809, w133_811, w133_812, w133_814, w133_815, w133_817, w133_819, w133_820, w133_822, w133_825, w133_826, w133_829, w133_831, w133_833, w133_836, w133_837, w133_840, w133_841, w133_843, w133_845, w133_848, w133_850, w133_851, w133_853, w133_854, w133_857, w133_860, w133_862, w133_864, w133_865, w133_866, w133_867, w133_868, w133_871, w133_874, w133_876, w133_878, w133_881, w133_882, w133_883, e7, q1, q2, q3, q4, q5, q_partC (d := 20) (by omega) (by omega), hje, nI_add, ks_0, u4, c1, n2, n2', nI_ne1, u0, hbt, hr, ↓reduceIte, Option.toList_some, Option.toList_none, List.cons_append, List.nil_append]
    · rw [up1_ne (by omega)]; exact Nat.le_refl _
    · rw [up1_ne (by omega)]; omega
    · rw [up1_ne (by omega)]; exact Nat.le_refl _
    · intro g' hg' b hb'
      rw [up1_ne (by omega)]
      exact hb'
theorem lB_drift (hK : KA c n k p q im h hs ht m bg bx L tx f s σ) (hG : GA c n g e y at' kn hd) (hI : n 20 ≤ 1000) (h0 : 1 ≤ c 0) (hh : 10 ≤ how) (hh2 : how < 12) : ∃ (did : Nat) (n' : Nat → Nat) (k' : Nat) (p' : Nat → Nat → Nat) (s' : Nat) (τ : dm_G) (u24 u25 u26 : Option Value), (∀ Q, Wq (some (N, xs)) 133 258 [some (.retAddr 0), some (.ref (0 : Nat)), some (.ref (118 : Nat)), some (.ref (119 : Nat)), some (.ref (120 : Nat)), some (.int (nI (c 0))), some (.int (nI (c 2))), some (.int (nI (c 3))), some (.int (nI tn)), some (.int (nI i)), some (.int x), some (.int (nI k)), some (.int (nI (n 20))), some (.int (nI (n 19))), some (.int (nI (n 18))), some (.int (nI (n 21))), some (.int (nI g)), some (.int (nI e)), some (.int (nI y)), some (.int (nI at')), some (.int (nI kn)), some (.int (nI hd)), some (.int (nI how)), some (.int (nI 1)), a24, a25, a26, a27, a28, a29] [] σ Q = Wq (some (N, xs)) 133 978 [some (.retAddr 0), some (.ref (0 : Nat)), some (.ref (118 : Nat)), some (.ref (119 : Nat)), some (.ref (120 : Nat)), some (.int (nI (c 0))), some (.int (nI (c 2))), some (.int (nI (c 3))), some (.int (nI tn)), some (.int (nI i)), some (.int x), some (.int (nI k)), some (.int (nI (n 20))), some (.int (nI (n 19))), some (.int (nI (n 18))), some (.int (nI (n 21))), some (.int (nI g)), some (.int (nI e)), some (.int (nI y)), some (.int (nI at')), some (.int (nI kn)), some (.int (nI hd)), some (.int (nI how)), some (.int (nI did)), u24, u25, u26, a27, a28, a29] [] τ Q) ∧ KA c n' k' p' q im h hs ht m bg bx L tx f s' τ ∧ FZ σ τ ∧ Dn c n n' ∧ ((did = 1 ∧ k' = min (k + 1) 16 ∧ p' = pushP n p) ∨ (did = 0 ∧ n' = n ∧ k' = k ∧ p' = p)) := by
  have w2 := hK.1.1.2.1
  obtain ⟨hn1, hn18, hn19, hn20, hn21⟩ := id hK.1.2.1
  have q1 : nI 2 ≤ nI how := nI_le (by omega) (by omega)
  have q2 : nI 6 ≤ nI how := nI_le (by omega) (by omega)
  have q3 : ¬ nI how = nI 6 := fun z => by have := nI_inj (by omega) (by omega) z; omega
  have q4 : ¬ nI how = nI 7 := fun z => by have := nI_inj (by omega) (by omega) z; omega
  have q5 : ¬ nI how = nI 8 := fun z => by have := nI_inj (by omega) (by omega) z; omega
  have q6 : ¬ nI how = nI 9 := fun z => by have := nI_inj (by omega) (by omega) z; omega
  have hj : partV (x >>> (nI 13 &&& 31)) 4 < 4 := partV_lt _ (by omega)
  generalize hje : partV (x >>> (nI 13 &&& 31)) 4 = j at hj
  by_cases hz : j = 0
  · subst hz
    have c1 := fun Q => Cq_of (Q := Q) (q_drift_f hK)
    have t4 := fun Q => Cq_of (Q := Q) (q_told (j := 4) hK (by omega))
    have t8 := fun Q => Cq_of (Q := Q) (q_told (j := 8) hK (by omega))
    simp only [tdN] at t4 t8
    refine ⟨0, n, k, p, s, σ, some (.int (nI 0)), some (.int (-1000000002)), a26, fun Q => ?_, hK, FZ.rf, ⟨Nat.le_refl _, by omega, Nat.le_refl _, fun _ _ _ h => h⟩, Or.inr ⟨rfl, rfl, rfl, rfl⟩⟩
    rw [w133_258]
    simp only [w133_260, w133_261, w133_327, w133_329, w133_331, w133_549, w133_551, w133_553, w133_631, w133_633, w133_635, w133_729, w133_731, w133_733, w133_786, w133_788, w133_790, w133_886, w133_888, w133_890, w133_891, w133_892, w133_895, w133_897, w133_899, w133_902, w133_903, w133_906, w133_907, w133_909, w133_910, w133_912, w133_915, w133_917, w133_919, w133_921, w133_924, w133_925, w133_927, w133_930, w133_933, w133_935, w133_938, w133_939, w133_940, w133_943, w133_945, w133_947, w133_948, w133_951, w133_952, w133_954, w133_957, w133_959, w133_962, w133_964, w133_967, w133_968, w133_970, w133_973, q1, q2, q3, q4, q5, q6, q_partC (d := 4) (by omega) (by omega), hje, nI_le (Nat.le_refl 0) (show 0 < 2 ^ 31 by omega), ks_0, c1, t4, t8, nI_add, Nat.add_zero, nI_nlt (Nat.le_refl (n 21)) (show n 21 < 2 ^ 31 by omega), ↓reduceIte, Option.toList_some, Option.toList_none, List.cons_append, List.nil_append]
  · obtain ⟨d1, d2, d3, d4⟩ := di_21 (c := c) w2 j n s hn21
    obtain ⟨τ, e1, K1, k1⟩ := q_drift (j := j) hK (by omega) (by omega) (by omega) (by omega)
    have hb21 : (diN c j n s).1 21 ≤ 999999 := K1.1.2.1.2.2.2.2
    have c1 := fun Q => Cq_of (Q := Q) e1
    have t4 := fun Q => Cq_of (Q := Q) (q_told (j := 4) K1 (by omega))
    have t7 := fun Q => Cq_of (Q := Q) (q_told (j := 7) K1 (by omega))
    have t8 := fun Q => Cq_of (Q := Q) (q_told (j := 8) K1 (by omega))
    simp only [tdN, d2, d4 (by omega)] at t4 t7 t8
    have nz : ¬ nI j ≤ nI 0 := nI_ge (by omega) (by omega)
    have nl21 : ¬ nI ((diN c j n s).1 21) < nI (n 21) := nI_nlt d1 (by omega)
    refine ⟨1, _, _, _, _, τ, some (.int (nI j)), some (.int (nI ((diN c j n s).1 21))), a26, fun Q => ?_, K1, k1, ⟨by omega, by omega, d1, fun g' hg' b hb' => by rw [d3 g' (by omega)]; exact hb'⟩, Or.inl ⟨rfl, rfl, rfl⟩⟩
    rw [w133_258]
    simp only [w133_260, w133_261, w133_327, w133_329, w133_331, w133_549, w133_551, w133_553, w133_631, w133_633, w133_635, w133_729, w133_731, w133_733, w133_786, w133_788, w133_790, w133_886, w133_888, w133_890, w133_891, w133_892, w133_895, w133_897, w133_899, w133_902, w133_903, w133_906, w133_907, w133_909, w133_910, w133_912, w133_915, w133_917, w133_919, w133_921, w133_924, w133_925, w133_927, w133_930, w133_933, w133_935, w133_938, w133_939, w133_940, w133_943, w133_945, w133_947, w133_948, w133_951, w133_952, w133_954, w133_957, w133_959, w133_962, w133_964, w133_967, w133_968, w133_970, w133_973, q1, q2, q3, q4, q5, q6, q_partC (d := 4) (by omega) (by omega), hje, nz, nI_ne1, ks_0, c1, t4, t7, t8, nI_add, nl21, ↓reduceIte, Option.toList_some, Option.toList_none, List.cons_append, List.nil_append]
/-- any act -/
theorem lB (hK : KA c n k p q im h hs ht m bg bx L tx f s σ) (hG : GA c n g e y at' kn hd) (hI : n 20 ≤ 1000) (h0 : 1 ≤ c 0) (hh : how < 12) : ∃ (did : Nat) (n' : Nat → Nat) (k' : Nat) (p' : Nat → Nat → Nat) (s' : Nat) (τ : dm_G) (u24 u25 u26 : Option Value), (∀ Q, Wq (some (N, xs)) 133 258 [some (.retAddr 0), some (.ref (0 : Nat)), some (.ref (118 : Nat)), some (.ref (119 : Nat)), some (.ref (120 : Nat)), some (.int (nI (c 0))), some (.int (nI (c 2))), some (.int (nI (c 3))), some (.int (nI tn)), some (.int (nI i)), some (.int x), some (.int (nI k)), some (.int (nI (n 20))), some (.int (nI (n 19))), some (.int (nI (n 18))), some (.int (nI (n 21))), some (.int (nI g)), some (.int (nI e)), some (.int (nI y)), some (.int (nI at')), some (.int (nI kn)), some (.int (nI hd)), some (.int (nI how)), some (.int (nI 1)), a24, a25, a26, a27, a28, a29] [] σ Q = Wq (some (N, xs)) 133 978 [some (.retAddr 0), some (.ref (0 : Nat)), some (.ref (118 : Nat)), some (.ref (119 : Nat)), some (.ref (120 : Nat)), some (.int (nI (c 0))), some (.int (nI (c 2))), some (.int (nI (c 3))), some (.int (nI tn)), some (.int (nI i)), some (.int x), some (.int (nI k)), some (.int (nI (n 20))), some (.int (nI (n 19))), some (.int (nI (n 18))), some (.int (nI (n 21))), some (.int (nI g)), some (.int (nI e)), some (.int (nI y)), some (.int (nI at')), some (.int (nI kn)), some (.int (nI hd)), some (.int (nI how)), some (.int (nI did)), u24, u25, u26, a27, a28, a29] [] τ Q) ∧ KA c n' k' p' q im h hs ht m bg bx L tx f s' τ ∧ FZ σ τ ∧ Dn c n n' ∧ ((did = 1 ∧ k' = min (k + 1) 16 ∧ p' = pushP n p) ∨ (did = 0 ∧ n' = n ∧ k' = k ∧ p' = p)) := by
  by_cases h1 : how < 2
  · exact lB_night hK hG hI h0 h1
  by_cases h2 : how < 6
  · exact lB_hire hK hG hI h0 (by omega) h2
  by_cases h3 : how = 6
  · exact lB_wall hK hG hI h0 h3
  by_cases h4 : how = 7
  · exact lB_learn hK hG hI h0 h4
  by_cases h5 : how = 8
  · exact lB_forget hK hG hI h0 h5
  by_cases h6 : how = 9
  · exact lB_nowhere hK hG hI h0 h6
  · exact lB_drift hK hG hI h0 (by omega) hh
end LW4
