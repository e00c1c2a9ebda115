/-! the class's city: what its cells hold, its reading methods -/
/-- the set of crossings one street from x -/
def nxs (c : Nat → Nat) (x : Nat) : Nat := 1 <<< c (13 + 3 * x) ||| 1 <<< c (13 + 3 * x + 1) ||| 1 <<< c (13 + 3 * x + 2)
def CK (P : Nat) : Prop := KS[P]? = some (0, 1) ∧ (kt (P + 1) = 1 ∧ kl (P + 1) = 8) ∧ (kt (P + 2) = 1 ∧ kl (P + 2) = 24) ∧ (kt (P + 3) = 1 ∧ kl (P + 3) = 8) ∧ (kt (P + 4) = 1 ∧ kl (P + 4) = 6) ∧ (kt (P + 5) = 1 ∧ kl (P + 5) = 6) ∧ (kt (P + 6) = 1 ∧ kl (P + 6) = 6) ∧ (kt (P + 7) = 1 ∧ kl (P + 7) = 6) ∧ (kt (P + 8) = 1 ∧ kl (P + 8) = 6) ∧ (kt (P + 9) = 1 ∧ kl (P + 9) = 12)
theorem CK_4 : CK 4 := ⟨rfl, ⟨rfl, rfl⟩, ⟨rfl, rfl⟩, ⟨rfl, rfl⟩, ⟨rfl, rfl⟩, ⟨rfl, rfl⟩, ⟨rfl, rfl⟩, ⟨rfl, rfl⟩, ⟨rfl, rfl⟩, ⟨rfl, rfl⟩⟩
theorem CK_14 : CK 14 := ⟨rfl, ⟨rfl, rfl⟩, ⟨rfl, rfl⟩, ⟨rfl, rfl⟩, ⟨rfl, rfl⟩, ⟨rfl, rfl⟩, ⟨rfl, rfl⟩, ⟨rfl, rfl⟩, ⟨rfl, rfl⟩, ⟨rfl, rfl⟩⟩
def CR (σ : dm_G) (P : Nat) : Prop := σ P 5 = .ref (P + 1) ∧ σ P 6 = .ref (P + 2) ∧ σ P 7 = .ref (P + 3) ∧ σ P 8 = .ref (P + 4) ∧ σ P 9 = .ref (P + 5) ∧ σ P 10 = .ref (P + 6) ∧ σ P 11 = .ref (P + 7) ∧ σ P 12 = .ref (P + 8) ∧ σ P 13 = .ref (P + 9)
/-- the cells at P hold the city c -/
def CC (σ : dm_G) (P : Nat) (c : Nat → Nat) : Prop := CK P ∧ CR σ P ∧ (σ P 0 = .int (nI (c 0)) ∧ σ P 2 = .int (nI (c 2)) ∧ σ P 3 = .int (nI (c 3)) ∧ σ P 4 = .int (nI (c 4))) ∧
  (∀ x, x < c 0 → gi σ (P + 1) x = nI (c (5 + x))) ∧ (∀ i, i < 3 * c 0 → gi σ (P + 2) i = nI (c (13 + i))) ∧ (∀ x, x < c 0 → gi σ (P + 3) x = nI (nxs c x)) ∧
  (∀ g, g < c 2 → gi σ (P + 4) g = nI (c (37 + g)) ∧ gi σ (P + 5) g = nI (c (43 + g)) ∧ gi σ (P + 6) g = nI (c (49 + g))) ∧ (∀ e, e < c 3 → gi σ (P + 7) e = nI (c (55 + e)) ∧ gi σ (P + 8) e = nI (c (61 + e))) ∧
  (∀ i, i < c 4 → gi σ (P + 9) i = nI (c (67 + i))) ∧ (c 4 = 0 → gi σ (P + 9) 0 = nI 0)
/-- a city that can be told -/
def WC (c : Nat → Nat) : Prop := c 0 ≤ 8 ∧ c 2 ≤ 6 ∧ c 3 ≤ 6 ∧ c 4 ≤ 12 ∧ (∀ x, x < c 0 → c (5 + x) < 6) ∧ (∀ i, i < 3 * c 0 → c (13 + i) < c 0) ∧ (∀ g, g < c 2 → c (37 + g) < c 0 ∧ c (43 + g) ≤ 99 ∧ c (49 + g) < 2 ^ c 0) ∧ (∀ e, e < c 3 → c (55 + e) < c 0 ∧ c (61 + e) < c 0) ∧ (∀ i, i < c 4 → c (67 + i) ≤ 9)
section CI
variable {σ : dm_G} {P : Nat} {c : Nat → Nat} {Q : Option Value → dm_G → Prop}
theorem c_hasCrossing {x : Nat} (hC : CC σ P c) (hx : x < c 0) (hw : WC c) : Cq 11 [.ref P, .int (nI x)] σ Q = Q (some (.int (nI 1))) σ := by
  obtain ⟨⟨kP, ⟨t1, l1⟩, ⟨t2, l2⟩, ⟨t3, l3⟩, ⟨t4, l4⟩, ⟨t5, l5⟩, ⟨t6, l6⟩, ⟨t7, l7⟩, ⟨t8, l8⟩, ⟨t9, l9⟩⟩, ⟨r1, r2, r3, r4, r5, r6, r7, r8, r9⟩, ⟨i0, i2, i3, i4⟩, f1, f2, f3, f4, f5, f6, f7⟩ := id hC
  obtain ⟨w0, w2, w3, w4, w5, w6, w7, w8, w9⟩ := id hw
  refine Cq_of (Er_of ?_)
  show Wq none 11 0 [some (.ref P), some (.int (nI x))] [] σ _
  have h1 : ¬ nI x < nI 0 := nI_pos (by omega)
  have h2 : ¬ nI (c 0) ≤ nI x := nI_ge hx (by omega)
  simp only [w11_0, w11_1, w11_4, w11_5, w11_6, w11_9, w11_12, w11_13, w11_16, w11_17, kP, i0, h1, h2, ↓reduceIte, Option.toList_some, Option.toList_none, List.cons_append, List.nil_append, ite_self, (by decide : nI 1 &&& 1 = nI 1), (by decide : nI 0 &&& 1 = nI 0), and_self]
theorem c_hasCrossing_f {x : Int32} (hC : CC σ P c) (hx : x < 0 ∨ nI (c 0) ≤ x) : Cq 11 [.ref P, .int x] σ Q = Q (some (.int (nI 0))) σ := by
  obtain ⟨⟨kP, ⟨t1, l1⟩, ⟨t2, l2⟩, ⟨t3, l3⟩, ⟨t4, l4⟩, ⟨t5, l5⟩, ⟨t6, l6⟩, ⟨t7, l7⟩, ⟨t8, l8⟩, ⟨t9, l9⟩⟩, ⟨r1, r2, r3, r4, r5, r6, r7, r8, r9⟩, ⟨i0, i2, i3, i4⟩, f1, f2, f3, f4, f5, f6, f7⟩ := id hC
  refine Cq_of (Er_of ?_)
  show Wq none 11 0 [some (.ref P), some (.int x)] [] σ _
  rw [show (0 : Int32) = nI 0 from rfl] at hx
  by_cases h1 : x < nI 0
  · simp only [w11_0, w11_1, w11_4, w11_5, w11_6, w11_9, w11_12, w11_13, w11_16, w11_17, kP, i0, h1, ↓reduceIte, Option.toList_some, Option.toList_none, List.cons_append, List.nil_append, ite_self, (by decide : nI 1 &&& 1 = nI 1), (by decide : nI 0 &&& 1 = nI 0), and_self]
  · have h2 := hx.resolve_left h1
    simp only [w11_0, w11_1, w11_4, w11_5, w11_6, w11_9, w11_12, w11_13, w11_16, w11_17, kP, i0, h1, h2, ↓reduceIte, Option.toList_some, Option.toList_none, List.cons_append, List.nil_append, ite_self, (by decide : nI 1 &&& 1 = nI 1), (by decide : nI 0 &&& 1 = nI 0), and_self]
theorem c_endOf {x t : Nat} (hC : CC σ P c) (hw : WC c) (hx : x < c 0) (ht : t < 3) : Cq 16 [.ref P, .int (nI x), .int (nI t)] σ Q = Q (some (.int (nI (c (13 + (3 * x + t)))))) σ := by
  obtain ⟨⟨kP, ⟨t1, l1⟩, ⟨t2, l2⟩, ⟨t3, l3⟩, ⟨t4, l4⟩, ⟨t5, l5⟩, ⟨t6, l6⟩, ⟨t7, l7⟩, ⟨t8, l8⟩, ⟨t9, l9⟩⟩, ⟨r1, r2, r3, r4, r5, r6, r7, r8, r9⟩, ⟨i0, i2, i3, i4⟩, f1, f2, f3, f4, f5, f6, f7⟩ := id hC
  obtain ⟨w0, w2, w3, w4, w5, w6, w7, w8, w9⟩ := id hw
  refine Cq_of (Er_of ?_)
  show Wq none 16 0 [some (.ref P), some (.int (nI x)), some (.int (nI t))] [] σ _
  have h1 : x * 3 + t < kl (P + 2) := by rw [l2]; omega
  have h2 : gi σ (P + 2) (x * 3 + t) = nI (c (13 + (3 * x + t))) := by rw [f2 _ (by omega)]; congr 2; omega
  simp only [w16_0, w16_1, w16_4, w16_5, w16_6, w16_7, w16_8, w16_9, w16_12, kP, r2, pk_mul, nI_add, c_at t2 h1 (by omega), h2, ↓reduceIte, Option.toList_some, Option.toList_none, List.cons_append, List.nil_append, ite_self, and_self]
/-- the crossings to which one comes by the turn t from the crossings below x of the set -/
def endsN (c : Nat → Nat) (s t : Nat) : Nat → Nat := fun x => match x with
  | 0 => 0
  | x + 1 => if s.testBit x = true then endsN c s t x ||| 1 <<< c (13 + (3 * x + t)) else endsN c s t x
theorem l_endsOf {s t : Nat} (hC : CC σ P c) (hw : WC c) (hs : s < 2 ^ 31) (ht : t < 3) : ∀ (n x r : Nat), x + n = c 0 → r = endsN c s t x → Wq none 17 5 [some (.ref P), some (.int (nI s)), some (.int (nI t)), some (.int (nI r)), some (.int (nI x))] [] σ Q = Q (some (.int (nI (endsN c s t (c 0))))) σ := by
  obtain ⟨⟨kP, ⟨t1, l1⟩, ⟨t2, l2⟩, ⟨t3, l3⟩, ⟨t4, l4⟩, ⟨t5, l5⟩, ⟨t6, l6⟩, ⟨t7, l7⟩, ⟨t8, l8⟩, ⟨t9, l9⟩⟩, ⟨r1, r2, r3, r4, r5, r6, r7, r8, r9⟩, ⟨i0, i2, i3, i4⟩, f1, f2, f3, f4, f5, f6, f7⟩ := id hC
  obtain ⟨w0, w2, w3, w4, w5, w6, w7, w8, w9⟩ := id hw
  intro n
  induction n with
  | zero =>
    intro x r hx hr
    obtain rfl : x = c 0 := by omega
    subst hr
    have h1 : nI (c 0) ≤ nI (c 0) := nI_le (Nat.le_refl _) (by omega)
    rw [w17_5]
    simp only [w17_0, w17_1, w17_2, w17_3, w17_7, w17_8, w17_11, w17_14, w17_15, w17_17, w17_18, w17_19, w17_20, w17_23, w17_24, w17_25, w17_26, w17_28, w17_29, w17_32, w17_33, w17_34, w17_35, w17_38, w17_41, w17_42, kP, i0, h1, ↓reduceIte, Option.toList_some, Option.toList_none, List.cons_append, List.nil_append, ite_self]
  | succ n ih =>
    intro x r hx hr
    have h1 : ¬ nI (c 0) ≤ nI x := nI_ge (by omega) (by omega)
    rw [w17_5]
    by_cases hb : s.testBit x = true
    · simp only [w17_0, w17_1, w17_2, w17_3, w17_7, w17_8, w17_11, w17_14, w17_15, w17_17, w17_18, w17_19, w17_20, w17_23, w17_24, w17_25, w17_26, w17_28, w17_29, w17_32, w17_33, w17_34, w17_35, w17_38, w17_41, w17_42, kP, i0, h1, nI_bit hs (show x < 32 by omega), hb, nI_ne1, c_endOf hC hw (show x < c 0 by omega) ht, nI_shl 1 (Nat.lt_of_lt_of_le (w6 (3 * x + t) (by omega)) (by omega) : c (13 + (3 * x + t)) < 32), nI_or, nI_add, ↓reduceIte, Option.toList_some, Option.toList_none, List.cons_append, List.nil_append, ite_self]
      exact ih (x + 1) _ (by omega) (by rw [endsN, if_pos hb, hr])
    · simp only [w17_0, w17_1, w17_2, w17_3, w17_7, w17_8, w17_11, w17_14, w17_15, w17_17, w17_18, w17_19, w17_20, w17_23, w17_24, w17_25, w17_26, w17_28, w17_29, w17_32, w17_33, w17_34, w17_35, w17_38, w17_41, w17_42, kP, i0, h1, nI_bit hs (show x < 32 by omega), hb, nI_add, ↓reduceIte, Option.toList_some, Option.toList_none, List.cons_append, List.nil_append, ite_self]
      exact ih (x + 1) _ (by omega) (by rw [endsN, if_neg hb, hr])
theorem c_endsOf {s t : Nat} (hC : CC σ P c) (hw : WC c) (hs : s < 2 ^ 31) (ht : t < 3) : Cq 17 [.ref P, .int (nI s), .int (nI t)] σ Q = Q (some (.int (nI (endsN c s t (c 0))))) σ := by
  refine Cq_of (Er_of ?_)
  show Wq none 17 0 [some (.ref P), some (.int (nI s)), some (.int (nI t)), none, none] [] σ _
  simp only [w17_0, w17_1, w17_2, w17_3, w17_7, w17_8, w17_11, w17_14, w17_15, w17_17, w17_18, w17_19, w17_20, w17_23, w17_24, w17_25, w17_26, w17_28, w17_29, w17_32, w17_33, w17_34, w17_35, w17_38, w17_41, w17_42, l_endsOf hC hw hs ht (c 0) 0 0 (by omega) rfl, and_self]

theorem c_hasGuide {x : Nat} (hC : CC σ P c) (hx : x < c 2) (hw : WC c) : Cq 12 [.ref P, .int (nI x)] σ Q = Q (some (.int (nI 1))) σ := by
  obtain ⟨⟨kP, ⟨t1, l1⟩, ⟨t2, l2⟩, ⟨t3, l3⟩, ⟨t4, l4⟩, ⟨t5, l5⟩, ⟨t6, l6⟩, ⟨t7, l7⟩, ⟨t8, l8⟩, ⟨t9, l9⟩⟩, ⟨r1, r2, r3, r4, r5, r6, r7, r8, r9⟩, ⟨i0, i2, i3, i4⟩, f1, f2, f3, f4, f5, f6, f7⟩ := id hC
  obtain ⟨w0, w2, w3, w4, w5, w6, w7, w8, w9⟩ := id hw
  refine Cq_of (Er_of ?_)
  show Wq none 12 0 [some (.ref P), some (.int (nI x))] [] σ _
  have h1 : ¬ nI x < nI 0 := nI_pos (by omega)
  have h2 : ¬ nI (c 2) ≤ nI x := nI_ge hx (by omega)
  simp only [w12_0, w12_1, w12_4, w12_5, w12_6, w12_9, w12_12, w12_13, w12_16, w12_17, kP, i2, h1, h2, ↓reduceIte, Option.toList_some, Option.toList_none, List.cons_append, List.nil_append, ite_self, (by decide : nI 1 &&& 1 = nI 1), (by decide : nI 0 &&& 1 = nI 0), and_self]
theorem c_hasGuide_f {x : Int32} (hC : CC σ P c) (hx : x < 0 ∨ nI (c 2) ≤ x) : Cq 12 [.ref P, .int x] σ Q = Q (some (.int (nI 0))) σ := by
  obtain ⟨⟨kP, ⟨t1, l1⟩, ⟨t2, l2⟩, ⟨t3, l3⟩, ⟨t4, l4⟩, ⟨t5, l5⟩, ⟨t6, l6⟩, ⟨t7, l7⟩, ⟨t8, l8⟩, ⟨t9, l9⟩⟩, ⟨r1, r2, r3, r4, r5, r6, r7, r8, r9⟩, ⟨i0, i2, i3, i4⟩, f1, f2, f3, f4, f5, f6, f7⟩ := id hC
  refine Cq_of (Er_of ?_)
  show Wq none 12 0 [some (.ref P), some (.int x)] [] σ _
  rw [show (0 : Int32) = nI 0 from rfl] at hx
  by_cases h1 : x < nI 0
  · simp only [w12_0, w12_1, w12_4, w12_5, w12_6, w12_9, w12_12, w12_13, w12_16, w12_17, kP, i2, h1, ↓reduceIte, Option.toList_some, Option.toList_none, List.cons_append, List.nil_append, ite_self, (by decide : nI 1 &&& 1 = nI 1), (by decide : nI 0 &&& 1 = nI 0), and_self]
  · have h2 := hx.resolve_left h1
    simp only [w12_0, w12_1, w12_4, w12_5, w12_6, w12_9, w12_12, w12_13, w12_16, w12_17, kP, i2, h1, h2, ↓reduceIte, Option.toList_some, Option.toList_none, List.cons_append, List.nil_append, ite_self, (by decide : nI 1 &&& 1 = nI 1), (by decide : nI 0 &&& 1 = nI 0), and_self]
theorem c_hasClient {x : Nat} (hC : CC σ P c) (hx : x < c 3) (hw : WC c) : Cq 13 [.ref P, .int (nI x)] σ Q = Q (some (.int (nI 1))) σ := by
  obtain ⟨⟨kP, ⟨t1, l1⟩, ⟨t2, l2⟩, ⟨t3, l3⟩, ⟨t4, l4⟩, ⟨t5, l5⟩, ⟨t6, l6⟩, ⟨t7, l7⟩, ⟨t8, l8⟩, ⟨t9, l9⟩⟩, ⟨r1, r2, r3, r4, r5, r6, r7, r8, r9⟩, ⟨i0, i2, i3, i4⟩, f1, f2, f3, f4, f5, f6, f7⟩ := id hC
  obtain ⟨w0, w2, w3, w4, w5, w6, w7, w8, w9⟩ := id hw
  refine Cq_of (Er_of ?_)
  show Wq none 13 0 [some (.ref P), some (.int (nI x))] [] σ _
  have h1 : ¬ nI x < nI 0 := nI_pos (by omega)
  have h2 : ¬ nI (c 3) ≤ nI x := nI_ge hx (by omega)
  simp only [w13_0, w13_1, w13_4, w13_5, w13_6, w13_9, w13_12, w13_13, w13_16, w13_17, kP, i3, h1, h2, ↓reduceIte, Option.toList_some, Option.toList_none, List.cons_append, List.nil_append, ite_self, (by decide : nI 1 &&& 1 = nI 1), (by decide : nI 0 &&& 1 = nI 0), and_self]
theorem c_hasClient_f {x : Int32} (hC : CC σ P c) (hx : x < 0 ∨ nI (c 3) ≤ x) : Cq 13 [.ref P, .int x] σ Q = Q (some (.int (nI 0))) σ := by
  obtain ⟨⟨kP, ⟨t1, l1⟩, ⟨t2, l2⟩, ⟨t3, l3⟩, ⟨t4, l4⟩, ⟨t5, l5⟩, ⟨t6, l6⟩, ⟨t7, l7⟩, ⟨t8, l8⟩, ⟨t9, l9⟩⟩, ⟨r1, r2, r3, r4, r5, r6, r7, r8, r9⟩, ⟨i0, i2, i3, i4⟩, f1, f2, f3, f4, f5, f6, f7⟩ := id hC
  refine Cq_of (Er_of ?_)
  show Wq none 13 0 [some (.ref P), some (.int x)] [] σ _
  rw [show (0 : Int32) = nI 0 from rfl] at hx
  by_cases h1 : x < nI 0
  · simp only [w13_0, w13_1, w13_4, w13_5, w13_6, w13_9, w13_12, w13_13, w13_16, w13_17, kP, i3, h1, ↓reduceIte, Option.toList_some, Option.toList_none, List.cons_append, List.nil_append, ite_self, (by decide : nI 1 &&& 1 = nI 1), (by decide : nI 0 &&& 1 = nI 0), and_self]
  · have h2 := hx.resolve_left h1
    simp only [w13_0, w13_1, w13_4, w13_5, w13_6, w13_9, w13_12, w13_13, w13_16, w13_17, kP, i3, h1, h2, ↓reduceIte, Option.toList_some, Option.toList_none, List.cons_append, List.nil_append, ite_self, (by decide : nI 1 &&& 1 = nI 1), (by decide : nI 0 &&& 1 = nI 0), and_self]
theorem ush_set {x : Int32} {N : Nat} (hN : N < 32) : ((x.toUInt32 >>> ((nI N).toUInt32 &&& Int32.toUInt32 31)).toInt32 = nI 0) ↔ ∃ s, s < 2 ^ N ∧ x = nI s := by
  have hsh : ∀ n, n < 32 → (((nI n).toUInt32 &&& Int32.toUInt32 31).toBitVec % 32).toNat = n := by decide +kernel
  have key : ((x.toUInt32 >>> ((nI N).toUInt32 &&& Int32.toUInt32 31)).toInt32 = nI 0) ↔ x.toUInt32.toNat >>> N = 0 := by
    rw [← Int32.toBitVec_inj]
    show (x.toUInt32 >>> ((nI N).toUInt32 &&& Int32.toUInt32 31)).toBitVec = _ ↔ _
    rw [UInt32.toBitVec_shiftRight, ← BitVec.toNat_inj]
    show ((x.toUInt32.toBitVec >>> (((nI N).toUInt32 &&& Int32.toUInt32 31).toBitVec % 32)).toNat = 0) ↔ _
    rw [BitVec.ushiftRight_eq', BitVec.toNat_ushiftRight, hsh N hN]
    rfl
  rw [key, Nat.shiftRight_eq_div_pow, Nat.div_eq_zero_iff]
  have hp : 0 < 2 ^ N := Nat.pow_pos (by decide)
  have hx : x = nI x.toUInt32.toNat := by
    apply Int32.toBitVec_inj.mp
    show x.toBitVec = BitVec.ofNat 32 x.toBitVec.toNat
    rw [BitVec.ofNat_toNat, BitVec.setWidth_eq]
  constructor
  · intro h
    exact ⟨x.toUInt32.toNat, by omega, hx⟩
  · rintro ⟨s, hs, rfl⟩
    right
    have h31 : s < 2 ^ 32 := Nat.lt_of_lt_of_le hs (Nat.pow_le_pow_right (by omega) (by omega))
    have : (nI s).toUInt32.toNat = s := by
      show (BitVec.ofNat 32 s).toNat = s
      rw [BitVec.toNat_ofNat, Nat.mod_eq_of_lt h31]
    rw [this]
    exact hs
theorem c_hasAll {s : Nat} (hC : CC σ P c) (hw : WC c) (hs : s < 2 ^ c 0) : Cq 14 [.ref P, .int (nI s)] σ Q = Q (some (.int (nI 1))) σ := by
  obtain ⟨⟨kP, ⟨t1, l1⟩, ⟨t2, l2⟩, ⟨t3, l3⟩, ⟨t4, l4⟩, ⟨t5, l5⟩, ⟨t6, l6⟩, ⟨t7, l7⟩, ⟨t8, l8⟩, ⟨t9, l9⟩⟩, ⟨r1, r2, r3, r4, r5, r6, r7, r8, r9⟩, ⟨i0, i2, i3, i4⟩, f1, f2, f3, f4, f5, f6, f7⟩ := id hC
  obtain ⟨w0, w2, w3, w4, w5, w6, w7, w8, w9⟩ := id hw
  refine Cq_of (Er_of ?_)
  show Wq none 14 0 [some (.ref P), some (.int (nI s))] [] σ _
  have h1 := (ush_set (x := nI s) (N := c 0) (by omega)).mpr ⟨s, hs, rfl⟩
  simp only [w14_0, w14_1, w14_2, w14_5, w14_6, w14_9, w14_10, w14_13, w14_14, kP, i0, h1, ↓reduceIte, Option.toList_some, Option.toList_none, List.cons_append, List.nil_append, ite_self, (by decide : nI 1 &&& 1 = nI 1), (by decide : nI 0 &&& 1 = nI 0), and_self]
theorem c_hasAll_f {x : Int32} (hC : CC σ P c) (hw : WC c) (hs : ¬ ∃ s, s < 2 ^ c 0 ∧ x = nI s) : Cq 14 [.ref P, .int x] σ Q = Q (some (.int (nI 0))) σ := by
  obtain ⟨⟨kP, ⟨t1, l1⟩, ⟨t2, l2⟩, ⟨t3, l3⟩, ⟨t4, l4⟩, ⟨t5, l5⟩, ⟨t6, l6⟩, ⟨t7, l7⟩, ⟨t8, l8⟩, ⟨t9, l9⟩⟩, ⟨r1, r2, r3, r4, r5, r6, r7, r8, r9⟩, ⟨i0, i2, i3, i4⟩, f1, f2, f3, f4, f5, f6, f7⟩ := id hC
  obtain ⟨w0, w2, w3, w4, w5, w6, w7, w8, w9⟩ := id hw
  refine Cq_of (Er_of ?_)
  show Wq none 14 0 [some (.ref P), some (.int x)] [] σ _
  have h1 : ¬ ((x.toUInt32 >>> ((nI (c 0)).toUInt32 &&& Int32.toUInt32 31)).toInt32 = nI 0) := fun z => hs ((ush_set (x := x) (N := c 0) (by omega)).mp z)
  simp only [w14_0, w14_1, w14_2, w14_5, w14_6, w14_9, w14_10, w14_13, w14_14, kP, i0, h1, ↓reduceIte, Option.toList_some, Option.toList_none, List.cons_append, List.nil_append, ite_self, (by decide : nI 1 &&& 1 = nI 1), (by decide : nI 0 &&& 1 = nI 0), and_self]
/-- the moon of a night -/
def moN (c : Nat → Nat) (k : Nat) : Nat := if c 4 = 0 then 0 else c (67 + k % c 4)
theorem c_moonOf {k : Nat} (hC : CC σ P c) (hw : WC c) (hk : k < 2 ^ 31) : Cq 15 [.ref P, .int (nI k)] σ Q = Q (some (.int (nI (moN c k)))) σ := by
  obtain ⟨⟨kP, ⟨t1, l1⟩, ⟨t2, l2⟩, ⟨t3, l3⟩, ⟨t4, l4⟩, ⟨t5, l5⟩, ⟨t6, l6⟩, ⟨t7, l7⟩, ⟨t8, l8⟩, ⟨t9, l9⟩⟩, ⟨r1, r2, r3, r4, r5, r6, r7, r8, r9⟩, ⟨i0, i2, i3, i4⟩, f1, f2, f3, f4, f5, f6, f7⟩ := id hC
  obtain ⟨w0, w2, w3, w4, w5, w6, w7, w8, w9⟩ := id hw
  refine Cq_of (Er_of ?_)
  show Wq none 15 0 [some (.ref P), some (.int (nI k))] [] σ _
  by_cases h4 : c 4 = 0
  · have h1 : nI (c 4) < nI 1 := by rw [h4]; decide
    have h2 : k % 1 < kl (P + 9) := by rw [l9]; omega
    have h3 : gi σ (P + 9) (k % 1) = nI (moN c k) := by rw [Nat.mod_one, f7 h4]; unfold moN; rw [if_pos h4]
    simp only [w15_0, w15_1, w15_4, w15_5, w15_6, w15_9, w15_10, w15_13, w15_14, w15_17, kP, i4, r9, h1, ↓reduceIte, Option.toList_some, Option.toList_none, List.cons_append, List.nil_append, ite_self, (by decide : ¬ nI 1 = 0), not_false_eq_true, pk_rem hk (show 0 < 1 by omega) (show 1 < 2 ^ 31 by omega), c_at t9 h2 (by omega), h3, and_self]
  · have h1 : ¬ nI (c 4) < nI 1 := nI_nlt (by omega) (by omega)
    have h0 : ¬ nI (c 4) = 0 := nI_ne0 (by omega) (by omega)
    have h5 : k % c 4 < c 4 := Nat.mod_lt _ (by omega)
    have h2 : k % c 4 < kl (P + 9) := by rw [l9]; omega
    have h3 : gi σ (P + 9) (k % c 4) = nI (moN c k) := by rw [f6 _ h5]; unfold moN; rw [if_neg h4]
    simp only [w15_0, w15_1, w15_4, w15_5, w15_6, w15_9, w15_10, w15_13, w15_14, w15_17, kP, i4, r9, h1, ↓reduceIte, Option.toList_some, Option.toList_none, List.cons_append, List.nil_append, ite_self, h0, not_false_eq_true, pk_rem hk (show 0 < c 4 by omega) (show c 4 < 2 ^ 31 by omega), c_at t9 h2 (by omega), h3, and_self]
/-- the crossings one street from those below x of the set -/
def ledN (c : Nat → Nat) (s : Nat) : Nat → Nat := fun x => match x with
  | 0 => 0
  | x + 1 => if s.testBit x = true then ledN c s x ||| nxs c x else ledN c s x
theorem l_ledFrom {s o : Nat} (hC : CC σ P c) (hw : WC c) (hs : s < 2 ^ 31) : ∀ (n x r : Nat), x + n = c 0 → r = ledN c s x → Wq none 18 5 [some (.ref P), some (.int (nI s)), some (.int (nI o)), some (.int (nI r)), some (.int (nI x))] [] σ Q = Q (some (.int (nI (ledN c s (c 0) &&& o)))) σ := by
  obtain ⟨⟨kP, ⟨t1, l1⟩, ⟨t2, l2⟩, ⟨t3, l3⟩, ⟨t4, l4⟩, ⟨t5, l5⟩, ⟨t6, l6⟩, ⟨t7, l7⟩, ⟨t8, l8⟩, ⟨t9, l9⟩⟩, ⟨r1, r2, r3, r4, r5, r6, r7, r8, r9⟩, ⟨i0, i2, i3, i4⟩, f1, f2, f3, f4, f5, f6, f7⟩ := id hC
  obtain ⟨w0, w2, w3, w4, w5, w6, w7, w8, w9⟩ := id hw
  intro n
  induction n with
  | zero =>
    intro x r hx hr
    obtain rfl : x = c 0 := by omega
    subst hr
    have h1 : nI (c 0) ≤ nI (c 0) := nI_le (Nat.le_refl _) (by omega)
    rw [w18_5]
    simp only [w18_0, w18_1, w18_2, w18_3, w18_7, w18_8, w18_11, w18_14, w18_15, w18_17, w18_18, w18_19, w18_20, w18_23, w18_24, w18_25, w18_28, w18_30, w18_33, w18_34, w18_35, w18_38, w18_41, w18_42, w18_43, w18_44, kP, i0, h1, nI_and, ↓reduceIte, Option.toList_some, Option.toList_none, List.cons_append, List.nil_append, ite_self]
  | succ n ih =>
    intro x r hx hr
    have h1 : ¬ nI (c 0) ≤ nI x := nI_ge (by omega) (by omega)
    rw [w18_5]
    by_cases hb : s.testBit x = true
    · have h2 : x < kl (P + 3) := by rw [l3]; omega
      simp only [w18_0, w18_1, w18_2, w18_3, w18_7, w18_8, w18_11, w18_14, w18_15, w18_17, w18_18, w18_19, w18_20, w18_23, w18_24, w18_25, w18_28, w18_30, w18_33, w18_34, w18_35, w18_38, w18_41, w18_42, w18_43, w18_44, kP, i0, r3, h1, nI_bit hs (show x < 32 by omega), hb, nI_ne1, c_at t3 h2 (by omega), f3 x (by omega), nI_or, nI_add, ↓reduceIte, Option.toList_some, Option.toList_none, List.cons_append, List.nil_append, ite_self]
      exact ih (x + 1) _ (by omega) (by rw [ledN, if_pos hb, hr])
    · simp only [w18_0, w18_1, w18_2, w18_3, w18_7, w18_8, w18_11, w18_14, w18_15, w18_17, w18_18, w18_19, w18_20, w18_23, w18_24, w18_25, w18_28, w18_30, w18_33, w18_34, w18_35, w18_38, w18_41, w18_42, w18_43, w18_44, kP, i0, h1, nI_bit hs (show x < 32 by omega), hb, nI_add, ↓reduceIte, Option.toList_some, Option.toList_none, List.cons_append, List.nil_append, ite_self]
      exact ih (x + 1) _ (by omega) (by rw [ledN, if_neg hb, hr])
theorem c_ledFrom {s o : Nat} (hC : CC σ P c) (hw : WC c) (hs : s < 2 ^ 31) : Cq 18 [.ref P, .int (nI s), .int (nI o)] σ Q = Q (some (.int (nI (ledN c s (c 0) &&& o)))) σ := by
  refine Cq_of (Er_of ?_)
  show Wq none 18 0 [some (.ref P), some (.int (nI s)), some (.int (nI o)), none, none] [] σ _
  simp only [w18_0, w18_1, w18_2, w18_3, w18_7, w18_8, w18_11, w18_14, w18_15, w18_17, w18_18, w18_19, w18_20, w18_23, w18_24, w18_25, w18_28, w18_30, w18_33, w18_34, w18_35, w18_38, w18_41, w18_42, w18_43, w18_44, l_ledFrom hC hw hs (c 0) 0 0 (by omega) rfl, and_self]
/-- where streets lead from a crossing, by their number at most -/
def sN (c : Nat → Nat) (a o : Nat) : Nat → Nat := fun k => match k with
  | 0 => 1 <<< a
  | k + 1 => sN c a o k ||| (ledN c (sN c a o k) (c 0) &&& o)
theorem one_shl {x n : Nat} (h : x < n) : 1 <<< x < 2 ^ n := by
  rw [Nat.one_shiftLeft]
  exact Nat.pow_lt_pow_right (by decide) h
theorem ledN_lt (hw : WC c) (s : Nat) : ∀ x, x ≤ c 0 → ledN c s x < 2 ^ c 0 := by
  obtain ⟨w0, w2, w3, w4, w5, w6, w7, w8, w9⟩ := id hw
  intro x
  induction x with
  | zero => intro _; exact Nat.pow_pos (by decide)
  | succ x ih =>
    intro hx
    have h1 := ih (by omega)
    rw [ledN]
    split
    · have := w6 (3 * x) (by omega)
      have := w6 (3 * x + 1) (by omega)
      have := w6 (3 * x + 2) (by omega)
      exact or_lt h1 (or_lt (or_lt (one_shl (by omega)) (one_shl (by rw [show 13 + 3 * x + 1 = 13 + (3 * x + 1) by omega]; omega))) (one_shl (by rw [show 13 + 3 * x + 2 = 13 + (3 * x + 2) by omega]; omega)))
    · exact h1
theorem sN_lt (hw : WC c) {a : Nat} (o : Nat) (ha : a < c 0) : ∀ k, sN c a o k < 2 ^ c 0 := by
  intro k
  induction k with
  | zero => exact one_shl ha
  | succ k ih => exact or_lt ih (and_lt (ledN_lt hw _ _ (Nat.le_refl _)))
theorem l_reachFrom {a o : Nat} (hC : CC σ P c) (hw : WC c) (ha : a < c 0) : ∀ (n i : Nat) (v : Value), i + n = c 0 → Wq none 19 7 [some (.ref P), some v, some (.int (nI o)), some (.int (nI (sN c a o i))), some (.int (nI i))] [] σ Q = Q (some (.int (nI (sN c a o (c 0))))) σ := by
  obtain ⟨⟨kP, ⟨t1, l1⟩, ⟨t2, l2⟩, ⟨t3, l3⟩, ⟨t4, l4⟩, ⟨t5, l5⟩, ⟨t6, l6⟩, ⟨t7, l7⟩, ⟨t8, l8⟩, ⟨t9, l9⟩⟩, ⟨r1, r2, r3, r4, r5, r6, r7, r8, r9⟩, ⟨i0, i2, i3, i4⟩, f1, f2, f3, f4, f5, f6, f7⟩ := id hC
  obtain ⟨w0, w2, w3, w4, w5, w6, w7, w8, w9⟩ := id hw
  have hp : 2 ^ c 0 ≤ 2 ^ 31 := Nat.pow_le_pow_right (by decide) (by omega)
  intro n
  induction n with
  | zero =>
    intro i v hi
    obtain rfl : i = c 0 := by omega
    have h1 : nI (c 0) ≤ nI (c 0) := nI_le (Nat.le_refl _) (by omega)
    rw [w19_7]
    simp only [w19_0, w19_1, w19_2, w19_3, w19_4, w19_5, w19_9, w19_10, w19_13, w19_16, w19_17, w19_18, w19_19, w19_20, w19_23, w19_24, w19_25, w19_28, w19_31, w19_32, kP, i0, h1, ↓reduceIte, Option.toList_some, Option.toList_none, List.cons_append, List.nil_append, ite_self]
  | succ n ih =>
    intro i v hi
    have h1 : ¬ nI (c 0) ≤ nI i := nI_ge (by omega) (by omega)
    rw [w19_7]
    simp only [w19_0, w19_1, w19_2, w19_3, w19_4, w19_5, w19_9, w19_10, w19_13, w19_16, w19_17, w19_18, w19_19, w19_20, w19_23, w19_24, w19_25, w19_28, w19_31, w19_32, kP, i0, h1, c_ledFrom hC hw (Nat.lt_of_lt_of_le (sN_lt hw o ha i) hp), nI_or, nI_add, ↓reduceIte, Option.toList_some, Option.toList_none, List.cons_append, List.nil_append, ite_self]
    exact ih (i + 1) v (by omega)
theorem c_reachFrom {a o : Nat} (hC : CC σ P c) (hw : WC c) (ha : a < c 0) : Cq 19 [.ref P, .int (nI a), .int (nI o)] σ Q = Q (some (.int (nI (sN c a o (c 0))))) σ := by
  obtain ⟨w0, w2, w3, w4, w5, w6, w7, w8, w9⟩ := id hw
  refine Cq_of (Er_of ?_)
  show Wq none 19 0 [some (.ref P), some (.int (nI a)), some (.int (nI o)), none, none] [] σ _
  have h1 := l_reachFrom (Q := fun r' σ2 => r' = some (.int (nI (sN c a o (c 0)))) ∧ σ2 = σ) (o := o) hC hw ha (c 0) 0 (.int (nI a)) (by omega)
  rw [show sN c a o 0 = 1 <<< a from rfl] at h1
  simp only [w19_0, w19_1, w19_2, w19_3, w19_4, w19_5, w19_9, w19_10, w19_13, w19_16, w19_17, w19_18, w19_19, w19_20, w19_23, w19_24, w19_25, w19_28, w19_31, w19_32, nI_shl 1 (show a < 32 by omega), h1, and_self]
/-- the first number from k on, of n, that is as wanted -/
def fnd (p : Nat → Bool) : Nat → Nat → Option Nat := fun n k => match n with
  | 0 => none
  | n + 1 => if p k = true then some k else fnd p n (k + 1)
def oI (o : Option Nat) : Int32 := match o with
  | some k => nI k
  | none => -1
/-- the fewest streets from a to b; none -/
def sbN (c : Nat → Nat) (a b o : Nat) : Option Nat := fnd (fun k => (sN c a o k).testBit b) (c 0) 0
theorem l_streetsBetween {a b o : Nat} (hC : CC σ P c) (hw : WC c) (ha : a < c 0) (hb : b < c 0) : ∀ (n i : Nat) (v : Value), i + n = c 0 → Wq none 20 8 [some (.ref P), some v, some (.int (nI b)), some (.int (nI o)), some (.int (nI (sN c a o i))), some (.int (nI i))] [] σ Q = Q (some (.int (oI (fnd (fun k => (sN c a o k).testBit b) n i)))) σ := by
  obtain ⟨⟨kP, ⟨t1, l1⟩, ⟨t2, l2⟩, ⟨t3, l3⟩, ⟨t4, l4⟩, ⟨t5, l5⟩, ⟨t6, l6⟩, ⟨t7, l7⟩, ⟨t8, l8⟩, ⟨t9, l9⟩⟩, ⟨r1, r2, r3, r4, r5, r6, r7, r8, r9⟩, ⟨i0, i2, i3, i4⟩, f1, f2, f3, f4, f5, f6, f7⟩ := id hC
  obtain ⟨w0, w2, w3, w4, w5, w6, w7, w8, w9⟩ := id hw
  have hp : 2 ^ c 0 ≤ 2 ^ 31 := Nat.pow_le_pow_right (by decide) (by omega)
  intro n
  induction n with
  | zero =>
    intro i v hi
    obtain rfl : i = c 0 := by omega
    have h1 : nI (c 0) ≤ nI (c 0) := nI_le (Nat.le_refl _) (by omega)
    rw [w20_8]
    simp only [w20_0, w20_1, w20_2, w20_3, w20_5, w20_6, w20_10, w20_11, w20_14, w20_17, w20_19, w20_20, w20_21, w20_22, w20_23, w20_26, w20_28, w20_29, w20_31, w20_32, w20_34, w20_35, w20_38, w20_39, w20_41, w20_44, w20_47, w20_48, kP, i0, h1, ↓reduceIte, Option.toList_some, Option.toList_none, List.cons_append, List.nil_append, ite_self]
    rfl
  | succ n ih =>
    intro i v hi
    have h1 : ¬ nI (c 0) ≤ nI i := nI_ge (by omega) (by omega)
    have hS := Nat.lt_of_lt_of_le (sN_lt hw o ha i) hp
    rw [w20_8]
    by_cases hq : (sN c a o i).testBit b = true
    · simp only [w20_0, w20_1, w20_2, w20_3, w20_5, w20_6, w20_10, w20_11, w20_14, w20_17, w20_19, w20_20, w20_21, w20_22, w20_23, w20_26, w20_28, w20_29, w20_31, w20_32, w20_34, w20_35, w20_38, w20_39, w20_41, w20_44, w20_47, w20_48, kP, i0, h1, nI_bit hS (show b < 32 by omega), hq, nI_ne1, fnd, ↓reduceIte, Option.toList_some, Option.toList_none, List.cons_append, List.nil_append, ite_self]
      rfl
    · simp only [w20_0, w20_1, w20_2, w20_3, w20_5, w20_6, w20_10, w20_11, w20_14, w20_17, w20_19, w20_20, w20_21, w20_22, w20_23, w20_26, w20_28, w20_29, w20_31, w20_32, w20_34, w20_35, w20_38, w20_39, w20_41, w20_44, w20_47, w20_48, kP, i0, h1, nI_bit hS (show b < 32 by omega), hq, c_ledFrom hC hw hS, nI_or, nI_add, fnd, ↓reduceIte, Option.toList_some, Option.toList_none, List.cons_append, List.nil_append, ite_self]
      exact ih (i + 1) v (by omega)
theorem c_streetsBetween {a b o : Nat} (hC : CC σ P c) (hw : WC c) (ha : a < c 0) (hb : b < c 0) : Cq 20 [.ref P, .int (nI a), .int (nI b), .int (nI o)] σ Q = Q (some (.int (oI (sbN c a b o)))) σ := by
  obtain ⟨w0, w2, w3, w4, w5, w6, w7, w8, w9⟩ := id hw
  refine Cq_of (Er_of ?_)
  show Wq none 20 0 [some (.ref P), some (.int (nI a)), some (.int (nI b)), some (.int (nI o)), none, none] [] σ _
  have h1 := l_streetsBetween (Q := fun r' σ2 => r' = some (.int (oI (sbN c a b o))) ∧ σ2 = σ) (o := o) hC hw ha hb (c 0) 0 (.int (nI a)) (by omega)
  rw [show sN c a o 0 = 1 <<< a from rfl] at h1
  simp only [w20_0, w20_1, w20_2, w20_3, w20_5, w20_6, w20_10, w20_11, w20_14, w20_17, w20_19, w20_20, w20_21, w20_22, w20_23, w20_26, w20_28, w20_29, w20_31, w20_32, w20_34, w20_35, w20_38, w20_39, w20_41, w20_44, w20_47, w20_48, nI_shl 1 (show a < 32 by omega), h1]
  exact ⟨rfl, trivial⟩
end CI
