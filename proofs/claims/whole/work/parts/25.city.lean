/-! the class's city: what its cells hold, its reading methods -/
/-- the set of crossings one street from x -/
def nxs (c : Nat → Nat) (x : Nat) : Nat := 1 <<< c (13 + 3 * x) ||| 1 <<< c (13 + 3 * x + 1) ||| 1 <<< c (13 + 3 * x + 2)
def CK (P : Nat) : Prop := KS[P]? = some (0, 1) ∧ (kt (P + 1) = 1 ∧ kl (P + 1) = 8) ∧ (kt (P + 2) = 1 ∧ kl (P + 2) = 24) ∧ (kt (P + 3) = 1 ∧ kl (P + 3) = 8) ∧ (kt (P + 4) = 1 ∧ kl (P + 4) = 6) ∧ (kt (P + 5) = 1 ∧ kl (P + 5) = 6) ∧ (kt (P + 6) = 1 ∧ kl (P + 6) = 6) ∧ (kt (P + 7) = 1 ∧ kl (P + 7) = 6) ∧ (kt (P + 8) = 1 ∧ kl (P + 8) = 6) ∧ (kt (P + 9) = 1 ∧ kl (P + 9) = 12)
theorem CK_4 : CK 4 := ⟨rfl, ⟨rfl, rfl⟩, ⟨rfl, rfl⟩, ⟨rfl, rfl⟩, ⟨rfl, rfl⟩, ⟨rfl, rfl⟩, ⟨rfl, rfl⟩, ⟨rfl, rfl⟩, ⟨rfl, rfl⟩, ⟨rfl, rfl⟩⟩
theorem CK_14 : CK 14 := ⟨rfl, ⟨rfl, rfl⟩, ⟨rfl, rfl⟩, ⟨rfl, rfl⟩, ⟨rfl, rfl⟩, ⟨rfl, rfl⟩, ⟨rfl, rfl⟩, ⟨rfl, rfl⟩, ⟨rfl, rfl⟩, ⟨rfl, rfl⟩⟩
def CR (σ : dm_G) (P : Nat) : Prop := σ P 5 = .ref (P + 1) ∧ σ P 6 = .ref (P + 2) ∧ σ P 7 = .ref (P + 3) ∧ σ P 8 = .ref (P + 4) ∧ σ P 9 = .ref (P + 5) ∧ σ P 10 = .ref (P + 6) ∧ σ P 11 = .ref (P + 7) ∧ σ P 12 = .ref (P + 8) ∧ σ P 13 = .ref (P + 9)
/-- the cells at P hold the city c -/
def CC (σ : dm_G) (P : Nat) (c : Nat → Nat) : Prop := CK P ∧ CR σ P ∧ (σ P 0 = .int (nI (c 0)) ∧ σ P 2 = .int (nI (c 2)) ∧ σ P 3 = .int (nI (c 3)) ∧ σ P 4 = .int (nI (c 4))) ∧
  (∀ x, x < c 0 → gi σ (P + 1) x = nI (c (5 + x))) ∧ (∀ i, i < 3 * c 0 → gi σ (P + 2) i = nI (c (13 + i))) ∧ (∀ x, x < c 0 → gi σ (P + 3) x = nI (nxs c x)) ∧
  (∀ g, g < c 2 → gi σ (P + 4) g = nI (c (37 + g)) ∧ gi σ (P + 5) g = nI (c (43 + g)) ∧ gi σ (P + 6) g = nI (c (49 + g))) ∧ (∀ e, e < c 3 → gi σ (P + 7) e = nI (c (55 + e)) ∧ gi σ (P + 8) e = nI (c (61 + e))) ∧
  (∀ i, i < c 4 → gi σ (P + 9) i = nI (c (67 + i))) ∧ (c 4 = 0 → gi σ (P + 9) 0 = nI 0)
/-- a city that can be told -/
def WC (c : Nat → Nat) : Prop := c 0 ≤ 8 ∧ c 2 ≤ 6 ∧ c 3 ≤ 6 ∧ c 4 ≤ 12 ∧ (∀ x, x < c 0 → c (5 + x) < 6) ∧ (∀ i, i < 3 * c 0 → c (13 + i) < c 0) ∧ (∀ g, g < c 2 → c (37 + g) < c 0 ∧ c (43 + g) ≤ 99 ∧ c (49 + g) < 2 ^ c 0) ∧ (∀ e, e < c 3 → c (55 + e) < c 0 ∧ c (61 + e) < c 0) ∧ (∀ i, i < c 4 → c (67 + i) ≤ 9)
section CI
variable {σ : dm_G} {P : Nat} {c : Nat → Nat} {Q : Option Value → dm_G → Prop}
theorem c_hasCrossing {x : Nat} (hC : CC σ P c) (hx : x < c 0) (hw : WC c) : Cq 11 [.ref P, .int (nI x)] σ Q = Q (some (.int (nI 1))) σ := by
  obtain ⟨⟨kP, ⟨t1, l1⟩, ⟨t2, l2⟩, ⟨t3, l3⟩, ⟨t4, l4⟩, ⟨t5, l5⟩, ⟨t6, l6⟩, ⟨t7, l7⟩, ⟨t8, l8⟩, ⟨t9, l9⟩⟩, ⟨r1, r2, r3, r4, r5, r6, r7, r8, r9⟩, ⟨i0, i2, i3, i4⟩, f1, f2, f3, f4, f5, f6, f7⟩ := id hC
  obtain ⟨w0, w2, w3, w4, w5, w6, w7, w8, w9⟩ := id hw
  refine Cq_of (Er_of ?_)
  show Wq none 11 0 [some (.ref P), some (.int (nI x))] [] σ _
  have h1 : ¬ nI x < nI 0 := nI_pos (by omega)
  have h2 : ¬ nI (c 0) ≤ nI x := nI_ge hx (by omega)
  simp only [w11_0, w11_1, w11_4, w11_5, w11_6, w11_9, w11_12, w11_13, w11_16, w11_17, kP, i0, h1, h2, ↓reduceIte, Option.toList_some, Option.toList_none, List.cons_append, List.nil_append, ite_self, (by decide : nI 1 &&& 1 = nI 1), (by decide : nI 0 &&& 1 = nI 0), and_self]
theorem c_hasCrossing_f {x : Int32} (hC : CC σ P c) (hx : x < 0 ∨ nI (c 0) ≤ x) : Cq 11 [.ref P, .int x] σ Q = Q (some (.int (nI 0))) σ := by
  obtain ⟨⟨kP, ⟨t1, l1⟩, ⟨t2, l2⟩, ⟨t3, l3⟩, ⟨t4, l4⟩, ⟨t5, l5⟩, ⟨t6, l6⟩, ⟨t7, l7⟩, ⟨t8, l8⟩, ⟨t9, l9⟩⟩, ⟨r1, r2, r3, r4, r5, r6, r7, r8, r9⟩, ⟨i0, i2, i3, i4⟩, f1, f2, f3, f4, f5, f6, f7⟩ := id hC
  refine Cq_of (Er_of ?_)
  show Wq none 11 0 [some (.ref P), some (.int x)] [] σ _
  rw [show (0 : Int32) = nI 0 from rfl] at hx
  by_cases h1 : x < nI 0
  · simp only [w11_0, w11_1, w11_4, w11_5, w11_6, w11_9, w11_12, w11_13, w11_16, w11_17, kP, i0, h1, ↓reduceIte, Option.toList_some, Option.toList_none, List.cons_append, List.nil_append, ite_self, (by decide : nI 1 &&& 1 = nI 1), (by decide : nI 0 &&& 1 = nI 0), and_self]
  · have h2 := hx.resolve_left h1
    simp only [w11_0, w11_1, w11_4, w11_5, w11_6, w11_9, w11_12, w11_13, w11_16, w11_17, kP, i0, h1, h2, ↓reduceIte, Option.toList_some, Option.toList_none, List.cons_append, List.nil_append, ite_self, (by decide : nI 1 &&& 1 = nI 1), (by decide : nI 0 &&& 1 = nI 0), and_self]
theorem c_endOf {x t : Nat} (hC : CC σ P c) (hw : WC c) (hx : x < c 0) (ht : t < 3) : Cq 16 [.ref P, .int (nI x), .int (nI t)] σ Q = Q (some (.int (nI (c (13 + (3 * x + t)))))) σ := by
  obtain ⟨⟨kP, ⟨t1, l1⟩, ⟨t2, l2⟩, ⟨t3, l3⟩, ⟨t4, l4⟩, ⟨t5, l5⟩, ⟨t6, l6⟩, ⟨t7, l7⟩, ⟨t8, l8⟩, ⟨t9, l9⟩⟩, ⟨r1, r2, r3, r4, r5, r6, r7, r8, r9⟩, ⟨i0, i2, i3, i4⟩, f1, f2, f3, f4, f5, f6, f7⟩ := id hC
  obtain ⟨w0, w2, w3, w4, w5, w6, w7, w8, w9⟩ := id hw
  refine Cq_of (Er_of ?_)
  show Wq none 16 0 [some (.ref P), some (.int (nI x)), some (.int (nI t))] [] σ _
  have h1 : x * 3 + t < kl (P + 2) := by rw [l2]; omega
  have h2 : gi σ (P + 2) (x * 3 + t) = nI (c (13 + (3 * x + t))) := by rw [f2 _ (by omega)]; congr 2; omega
  simp only [w16_0, w16_1, w16_4, w16_5, w16_6, w16_7, w16_8, w16_9, w16_12, kP, r2, pk_mul, nI_add, c_at t2 h1 (by omega), h2, ↓reduceIte, Option.toList_some, Option.toList_none, List.cons_append, List.nil_append, ite_self, and_self]
/-- the crossings to which one comes by the turn t from the crossings below x of the set -/
def endsN (c : Nat → Nat) (s t : Nat) : Nat → Nat := fun x => match x with
  | 0 => 0
  | x + 1 => if s.testBit x = true then endsN c s t x ||| 1 <<< c (13 + (3 * x + t)) else endsN c s t x
theorem l_endsOf {s t : Nat} (hC : CC σ P c) (hw : WC c) (hs : s < 2 ^ 31) (ht : t < 3) : ∀ (n x r : Nat), x + n = c 0 → r = endsN c s t x → Wq none 17 5 [some (.ref P), some (.int (nI s)), some (.int (nI t)), some (.int (nI r)), some (.int (nI x))] [] σ Q = Q (some (.int (nI (endsN c s t (c 0))))) σ := by
  obtain ⟨⟨kP, ⟨t1, l1⟩, ⟨t2, l2⟩, ⟨t3, l3⟩, ⟨t4, l4⟩, ⟨t5, l5⟩, ⟨t6, l6⟩, ⟨t7, l7⟩, ⟨t8, l8⟩, ⟨t9, l9⟩⟩, ⟨r1, r2, r3, r4, r5, r6, r7, r8, r9⟩, ⟨i0, i2, i3, i4⟩, f1, f2, f3, f4, f5, f6, f7⟩ := id hC
  obtain ⟨w0, w2, w3, w4, w5, w6, w7, w8, w9⟩ := id hw
  intro n
  induction n with
  | zero =>
    intro x r hx hr
    obtain rfl : x = c 0 := by omega
    subst hr
    have h1 : nI (c 0) ≤ nI (c 0) := nI_le (Nat.le_refl _) (by omega)
    rw [w17_5]
    simp only [w17_0, w17_1, w17_2, w17_3, w17_7, w17_8, w17_11, w17_14, w17_15, w17_17, w17_18, w17_19, w17_20, w17_23, w17_24, w17_25, w17_26, w17_28, w17_29, w17_32, w17_33, w17_34, w17_35, w17_38, w17_41, w17_42, kP, i0, h1, ↓reduceIte, Option.toList_some, Option.toList_none, List.cons_append, List.nil_append, ite_self]
  | succ n ih =>
    intro x r hx hr
    have h1 : ¬ nI (c 0) ≤ nI x := nI_ge (by omega) (by omega)
    rw [w17_5]
    by_cases hb : s.testBit x = true
    · simp only [w17_0, w17_1, w17_2, w17_3, w17_7, w17_8, w17_11, w17_14, w17_15, w17_17, w17_18, w17_19, w17_20, w17_23, w17_24, w17_25, w17_26, w17_28, w17_29, w17_32, w17_33, w17_34, w17_35, w17_38, w17_41, w17_42, kP, i0, h1, nI_bit hs (show x < 32 by omega), hb, nI_ne1, c_endOf hC hw (show x < c 0 by omega) ht, nI_shl 1 (Nat.lt_of_lt_of_le (w6 (3 * x + t) (by omega)) (by omega) : c (13 + (3 * x + t)) < 32), nI_or, nI_add, ↓reduceIte, Option.toList_some, Option.toList_none, List.cons_append, List.nil_append, ite_self]
      exact ih (x + 1) _ (by omega) (by rw [endsN, if_pos hb, hr])
    · simp only [w17_0, w17_1, w17_2, w17_3, w17_7, w17_8, w17_11, w17_14, w17_15, w17_17, w17_18, w17_19, w17_20, w17_23, w17_24, w17_25, w17_26, w17_28, w17_29, w17_32, w17_33, w17_34, w17_35, w17_38, w17_41, w17_42, kP, i0, h1, nI_bit hs (show x < 32 by omega), hb, nI_add, ↓reduceIte, Option.toList_some, Option.toList_none, List.cons_append, List.nil_append, ite_self]
      exact ih (x + 1) _ (by omega) (by rw [endsN, if_neg hb, hr])
theorem c_endsOf {s t : Nat} (hC : CC σ P c) (hw : WC c) (hs : s < 2 ^ 31) (ht : t < 3) : Cq 17 [.ref P, .int (nI s), .int (nI t)] σ Q = Q (some (.int (nI (endsN c s t (c 0))))) σ := by
  refine Cq_of (Er_of ?_)
  show Wq none 17 0 [some (.ref P), some (.int (nI s)), some (.int (nI t)), none, none] [] σ _
  simp only [w17_0, w17_1, w17_2, w17_3, w17_7, w17_8, w17_11, w17_14, w17_15, w17_17, w17_18, w17_19, w17_20, w17_23, w17_24, w17_25, w17_26, w17_28, w17_29, w17_32, w17_33, w17_34, w17_35, w17_38, w17_41, w17_42, l_endsOf hC hw hs ht (c 0) 0 0 (by omega) rfl, and_self]
end CI
