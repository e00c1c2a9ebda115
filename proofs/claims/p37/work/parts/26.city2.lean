/-! the class's city: first turn, ring; the class's state of the night -/
theorem fnd_some {p : Nat → Bool} : ∀ (n k j : Nat), fnd p n k = some j → k ≤ j ∧ j < k + n ∧ p j = true := by
  intro n
  induction n with
  | zero => intro k j h; cases h
  | succ n ih =>
    intro k j h
    rw [fnd] at h
    split at h
    · next hp => cases h; exact ⟨Nat.le_refl _, by omega, hp⟩
    · have := ih (k + 1) j h
      exact ⟨by omega, by omega, this.2.2⟩
theorem fnd_first {p : Nat → Bool} : ∀ (n k j : Nat), fnd p n k = some j → ∀ i, k ≤ i → i < j → p i = false := by
  intro n
  induction n with
  | zero => intro k j h; cases h
  | succ n ih =>
    intro k j h i h1 h2
    rw [fnd] at h
    split at h
    · cases h; omega
    · next hp =>
      rcases Nat.eq_or_lt_of_le h1 with rfl | h1
      · simpa using hp
      · exact ih (k + 1) j h i h1 h2
theorem fnd_none {p : Nat → Bool} : ∀ (n k : Nat), fnd p n k = none → ∀ i, k ≤ i → i < k + n → p i = false := by
  intro n
  induction n with
  | zero => intro k h i h1 h2; omega
  | succ n ih =>
    intro k h i h1 h2
    rw [fnd] at h
    split at h
    · cases h
    · next hp =>
      rcases Nat.eq_or_lt_of_le h1 with rfl | h1
      · simpa using hp
      · exact ih (k + 1) h i h1 (by omega)
theorem nI_inj {a b : Nat} (ha : a < 2 ^ 31) (hb : b < 2 ^ 31) (h : nI a = nI b) : a = b := (nI_eq ha hb).mp h
theorem nI_m1 {d : Nat} (hd : d < 2 ^ 31) : ¬ (-1 : Int32) = nI d := by
  intro h
  have h1 := nI_toInt hd
  rw [← h] at h1
  have h2 : (-1 : Int32).toInt = -1 := by decide
  omega
theorem oI_eq {o : Option Nat} {d : Nat} (h : ∀ k, o = some k → k < 2 ^ 31) (hd : d < 2 ^ 31) : oI o = nI d ↔ o = some d := by
  cases o with
  | none => exact ⟨fun z => absurd z (nI_m1 hd), fun z => by cases z⟩
  | some k =>
    constructor
    · intro z; rw [nI_inj (h k rfl) hd z]
    · intro z; cases z; rfl
section CI2
variable {σ : dm_G} {P : Nat} {c : Nat → Nat} {Q : Option Value → dm_G → Prop}
theorem sbN_lt {a b o k : Nat} (h : sbN c a b o = some k) : k < c 0 := by
  have := fnd_some _ _ _ h
  omega
/-- is the turn t from a the first of a way with d streets behind it -/
def ftP (c : Nat → Nat) (a b o d t : Nat) : Bool := o.testBit (c (13 + (3 * a + t))) && decide (sbN c (c (13 + (3 * a + t))) b o = some d)
def ftN (c : Nat → Nat) (a b o : Nat) : Option Nat := match sbN c a b o with
  | some (d + 1) => fnd (ftP c a b o d) 3 0
  | _ => none
theorem l_firstTurn {a b o d : Nat} (hC : CC σ P c) (hw : WC c) (ha : a < c 0) (hb : b < c 0) (ho : o < 2 ^ 31) (hd : d < 2 ^ 30) : ∀ (n t : Nat) (v : Option Value), t + n = 3 → Wq none 21 19 [some (.ref P), some (.int (nI a)), some (.int (nI b)), some (.int (nI o)), some (.int (nI (d + 1))), some (.int (nI t)), v] [] σ Q = Q (some (.int (oI (fnd (ftP c a b o d) n t)))) σ := by
  obtain ⟨⟨kP, ⟨t1, l1⟩, ⟨t2, l2⟩, ⟨t3, l3⟩, ⟨t4, l4⟩, ⟨t5, l5⟩, ⟨t6, l6⟩, ⟨t7, l7⟩, ⟨t8, l8⟩, ⟨t9, l9⟩⟩, ⟨r1, r2, r3, r4, r5, r6, r7, r8, r9⟩, ⟨i0, i2, i3, i4⟩, f1, f2, f3, f4, f5, f6, f7⟩ := id hC
  obtain ⟨w0, w2, w3, w4, w5, w6, w7, w8, w9⟩ := id hw
  intro n
  induction n with
  | zero =>
    intro t v ht
    obtain rfl : t = 3 := by omega
    rw [w21_19]
    simp only [w21_0, w21_1, w21_2, w21_3, w21_4, w21_7, w21_9, w21_11, w21_14, w21_15, w21_16, w21_17, w21_21, w21_22, w21_25, w21_26, w21_27, w21_29, w21_32, w21_34, w21_35, w21_37, w21_38, w21_39, w21_40, w21_43, w21_44, w21_46, w21_47, w21_48, w21_51, w21_53, w21_54, w21_55, w21_58, w21_60, w21_61, w21_64, w21_67, w21_68, kP, (by decide : nI 3 ≤ nI 3), ↓reduceIte, Option.toList_some, Option.toList_none, List.cons_append, List.nil_append]
    rfl
  | succ n ih =>
    intro t v ht
    have h1 : ¬ nI 3 ≤ nI t := nI_ge (by omega) (by omega)
    have hT := w6 (3 * a + t) (by omega)
    rw [w21_19]
    by_cases hq : o.testBit (c (13 + (3 * a + t))) = true
    · by_cases hs : sbN c (c (13 + (3 * a + t))) b o = some d
      · have hp : ftP c a b o d t = true := by simp [ftP, hq, hs]
        simp only [w21_0, w21_1, w21_2, w21_3, w21_4, w21_7, w21_9, w21_11, w21_14, w21_15, w21_16, w21_17, w21_21, w21_22, w21_25, w21_26, w21_27, w21_29, w21_32, w21_34, w21_35, w21_37, w21_38, w21_39, w21_40, w21_43, w21_44, w21_46, w21_47, w21_48, w21_51, w21_53, w21_54, w21_55, w21_58, w21_60, w21_61, w21_64, w21_67, w21_68, kP, h1, c_endOf hC hw ha (show t < 3 by omega), nI_bit ho (show c (13 + (3 * a + t)) < 32 by omega), hq, nI_ne1, c_streetsBetween hC hw hT hb, hs, oI, pk_sub (show 1 ≤ d + 1 by omega), Nat.add_sub_cancel, fnd, hp, ↓reduceIte, Option.toList_some, Option.toList_none, List.cons_append, List.nil_append]
      · have hp : ftP c a b o d t = false := by simp [ftP, hs]
        have hne : ¬ oI (sbN c (c (13 + (3 * a + t))) b o) = nI d := fun z => hs ((oI_eq (fun k hk => by have := sbN_lt hk; omega) (by omega)).mp z)
        simp only [w21_0, w21_1, w21_2, w21_3, w21_4, w21_7, w21_9, w21_11, w21_14, w21_15, w21_16, w21_17, w21_21, w21_22, w21_25, w21_26, w21_27, w21_29, w21_32, w21_34, w21_35, w21_37, w21_38, w21_39, w21_40, w21_43, w21_44, w21_46, w21_47, w21_48, w21_51, w21_53, w21_54, w21_55, w21_58, w21_60, w21_61, w21_64, w21_67, w21_68, kP, h1, c_endOf hC hw ha (show t < 3 by omega), nI_bit ho (show c (13 + (3 * a + t)) < 32 by omega), hq, nI_ne1, c_streetsBetween hC hw hT hb, hne, pk_sub (show 1 ≤ d + 1 by omega), Nat.add_sub_cancel, fnd, hp, nI_add, ↓reduceIte, Option.toList_some, Option.toList_none, List.cons_append, List.nil_append, Bool.false_eq_true]
        exact ih (t + 1) _ (by omega)
    · have hp : ftP c a b o d t = false := by simp [ftP, hq]
      simp only [w21_0, w21_1, w21_2, w21_3, w21_4, w21_7, w21_9, w21_11, w21_14, w21_15, w21_16, w21_17, w21_21, w21_22, w21_25, w21_26, w21_27, w21_29, w21_32, w21_34, w21_35, w21_37, w21_38, w21_39, w21_40, w21_43, w21_44, w21_46, w21_47, w21_48, w21_51, w21_53, w21_54, w21_55, w21_58, w21_60, w21_61, w21_64, w21_67, w21_68, kP, h1, c_endOf hC hw ha (show t < 3 by omega), nI_bit ho (show c (13 + (3 * a + t)) < 32 by omega), hq, fnd, hp, nI_add, ↓reduceIte, Option.toList_some, Option.toList_none, List.cons_append, List.nil_append, Bool.false_eq_true]
      exact ih (t + 1) _ (by omega)
theorem c_firstTurn {a b o : Nat} (hC : CC σ P c) (hw : WC c) (ha : a < c 0) (hb : b < c 0) (ho : o < 2 ^ 31) : Cq 21 [.ref P, .int (nI a), .int (nI b), .int (nI o)] σ Q = Q (some (.int (oI (ftN c a b o)))) σ := by
  obtain ⟨⟨kP, ⟨t1, l1⟩, ⟨t2, l2⟩, ⟨t3, l3⟩, ⟨t4, l4⟩, ⟨t5, l5⟩, ⟨t6, l6⟩, ⟨t7, l7⟩, ⟨t8, l8⟩, ⟨t9, l9⟩⟩, ⟨r1, r2, r3, r4, r5, r6, r7, r8, r9⟩, ⟨i0, i2, i3, i4⟩, f1, f2, f3, f4, f5, f6, f7⟩ := id hC
  obtain ⟨w0, w2, w3, w4, w5, w6, w7, w8, w9⟩ := id hw
  refine Cq_of (Er_of ?_)
  show Wq none 21 0 [some (.ref P), some (.int (nI a)), some (.int (nI b)), some (.int (nI o)), none, none, none] [] σ _
  unfold ftN
  cases hs : sbN c a b o with
  | none => simp only [w21_0, w21_1, w21_2, w21_3, w21_4, w21_7, w21_9, w21_11, w21_14, w21_15, w21_16, w21_17, w21_21, w21_22, w21_25, w21_26, w21_27, w21_29, w21_32, w21_34, w21_35, w21_37, w21_38, w21_39, w21_40, w21_43, w21_44, w21_46, w21_47, w21_48, w21_51, w21_53, w21_54, w21_55, w21_58, w21_60, w21_61, w21_64, w21_67, w21_68, kP, c_streetsBetween hC hw ha hb, hs, oI, (by decide : ¬ nI 0 < (-1 : Int32)), ↓reduceIte, Option.toList_some, Option.toList_none, List.cons_append, List.nil_append, and_self]
  | some d =>
    have hlt := sbN_lt hs
    cases d with
    | zero => simp only [w21_0, w21_1, w21_2, w21_3, w21_4, w21_7, w21_9, w21_11, w21_14, w21_15, w21_16, w21_17, w21_21, w21_22, w21_25, w21_26, w21_27, w21_29, w21_32, w21_34, w21_35, w21_37, w21_38, w21_39, w21_40, w21_43, w21_44, w21_46, w21_47, w21_48, w21_51, w21_53, w21_54, w21_55, w21_58, w21_60, w21_61, w21_64, w21_67, w21_68, kP, c_streetsBetween hC hw ha hb, hs, oI, (by decide : ¬ nI 0 < nI 0), ↓reduceIte, Option.toList_some, Option.toList_none, List.cons_append, List.nil_append, and_self]
    | succ d =>
      have h1 : nI 0 < nI (d + 1) := nI_lt (by omega) (by omega)
      simp only [w21_0, w21_1, w21_2, w21_3, w21_4, w21_7, w21_9, w21_11, w21_14, w21_15, w21_16, w21_17, w21_21, w21_22, w21_25, w21_26, w21_27, w21_29, w21_32, w21_34, w21_35, w21_37, w21_38, w21_39, w21_40, w21_43, w21_44, w21_46, w21_47, w21_48, w21_51, w21_53, w21_54, w21_55, w21_58, w21_60, w21_61, w21_64, w21_67, w21_68, kP, c_streetsBetween hC hw ha hb, hs, oI, h1, ↓reduceIte, Option.toList_some, Option.toList_none, List.cons_append, List.nil_append, l_firstTurn hC hw ha hb ho (show d < 2 ^ 30 by omega) 3 0 none (by omega), and_self]
/-- where streets lead from a crossing, one street at least -/
def bN (c : Nat → Nat) (a o : Nat) : Nat → Nat := fun k => match k with
  | 0 => ledN c (1 <<< a) (c 0) &&& o
  | k + 1 => bN c a o k ||| (ledN c (bN c a o k) (c 0) &&& o)
theorem bN_lt (hw : WC c) (a o : Nat) : ∀ k, bN c a o k < 2 ^ c 0 := by
  intro k
  induction k with
  | zero => exact and_lt (ledN_lt hw _ _ (Nat.le_refl _))
  | succ k ih => exact or_lt ih (and_lt (ledN_lt hw _ _ (Nat.le_refl _)))
def rgN (c : Nat → Nat) (a o : Nat) : Option Nat := fnd (fun k => (bN c a o (k - 1)).testBit a) (c 0) 1
theorem l_backTo {a o : Nat} (hC : CC σ P c) (hw : WC c) (ha : a < c 0) : ∀ (n i : Nat), i + n = c 0 → Wq none 22 12 [some (.ref P), some (.int (nI a)), some (.int (nI o)), some (.int (nI (bN c a o i))), some (.int (nI (i + 1)))] [] σ Q = Q (some (.int (oI (fnd (fun k => (bN c a o (k - 1)).testBit a) n (i + 1))))) σ := by
  obtain ⟨⟨kP, ⟨t1, l1⟩, ⟨t2, l2⟩, ⟨t3, l3⟩, ⟨t4, l4⟩, ⟨t5, l5⟩, ⟨t6, l6⟩, ⟨t7, l7⟩, ⟨t8, l8⟩, ⟨t9, l9⟩⟩, ⟨r1, r2, r3, r4, r5, r6, r7, r8, r9⟩, ⟨i0, i2, i3, i4⟩, f1, f2, f3, f4, f5, f6, f7⟩ := id hC
  obtain ⟨w0, w2, w3, w4, w5, w6, w7, w8, w9⟩ := id hw
  have hp : 2 ^ c 0 ≤ 2 ^ 31 := Nat.pow_le_pow_right (by decide) (by omega)
  intro n
  induction n with
  | zero =>
    intro i hi
    obtain rfl : i = c 0 := by omega
    have h1 : nI (c 0) < nI (c 0 + 1) := nI_lt (by omega) (by omega)
    rw [w22_12]
    simp only [w22_0, w22_1, w22_2, w22_3, w22_4, w22_5, w22_8, w22_9, w22_10, w22_14, w22_15, w22_18, w22_21, w22_22, w22_23, w22_24, w22_25, w22_26, w22_29, w22_31, w22_32, w22_33, w22_34, w22_35, w22_36, w22_39, w22_40, w22_41, w22_44, w22_47, w22_48, kP, i0, h1, ↓reduceIte, Option.toList_some, Option.toList_none, List.cons_append, List.nil_append]
    rfl
  | succ n ih =>
    intro i hi
    have h1 : ¬ nI (c 0) < nI (i + 1) := nI_nlt (by omega) (by omega)
    have hS := Nat.lt_of_lt_of_le (bN_lt hw a o i) hp
    rw [w22_12]
    by_cases hq : (bN c a o i).testBit a = true
    · simp only [w22_0, w22_1, w22_2, w22_3, w22_4, w22_5, w22_8, w22_9, w22_10, w22_14, w22_15, w22_18, w22_21, w22_22, w22_23, w22_24, w22_25, w22_26, w22_29, w22_31, w22_32, w22_33, w22_34, w22_35, w22_36, w22_39, w22_40, w22_41, w22_44, w22_47, w22_48, kP, i0, h1, nI_bit hS (show a < 32 by omega), hq, nI_ne1, fnd, Nat.add_sub_cancel, ↓reduceIte, Option.toList_some, Option.toList_none, List.cons_append, List.nil_append]
      rfl
    · simp only [w22_0, w22_1, w22_2, w22_3, w22_4, w22_5, w22_8, w22_9, w22_10, w22_14, w22_15, w22_18, w22_21, w22_22, w22_23, w22_24, w22_25, w22_26, w22_29, w22_31, w22_32, w22_33, w22_34, w22_35, w22_36, w22_39, w22_40, w22_41, w22_44, w22_47, w22_48, kP, i0, h1, nI_bit hS (show a < 32 by omega), hq, c_ledFrom hC hw hS, nI_or, nI_add, fnd, Nat.add_sub_cancel, ↓reduceIte, Option.toList_some, Option.toList_none, List.cons_append, List.nil_append]
      exact ih (i + 1) (by omega)
theorem c_backTo {a o : Nat} (hC : CC σ P c) (hw : WC c) (ha : a < c 0) : Cq 22 [.ref P, .int (nI a), .int (nI o)] σ Q = Q (some (.int (oI (rgN c a o)))) σ := by
  obtain ⟨⟨kP, ⟨t1, l1⟩, ⟨t2, l2⟩, ⟨t3, l3⟩, ⟨t4, l4⟩, ⟨t5, l5⟩, ⟨t6, l6⟩, ⟨t7, l7⟩, ⟨t8, l8⟩, ⟨t9, l9⟩⟩, ⟨r1, r2, r3, r4, r5, r6, r7, r8, r9⟩, ⟨i0, i2, i3, i4⟩, f1, f2, f3, f4, f5, f6, f7⟩ := id hC
  obtain ⟨w0, w2, w3, w4, w5, w6, w7, w8, w9⟩ := id hw
  refine Cq_of (Er_of ?_)
  show Wq none 22 0 [some (.ref P), some (.int (nI a)), some (.int (nI o)), none, none] [] σ _
  have h1 := l_backTo (Q := fun r' σ2 => r' = some (.int (oI (rgN c a o))) ∧ σ2 = σ) (o := o) hC hw ha (c 0) 0 (by omega)
  rw [show bN c a o 0 = ledN c (1 <<< a) (c 0) &&& o from rfl] at h1
  simp only [w22_0, w22_1, w22_2, w22_3, w22_4, w22_5, w22_8, w22_9, w22_10, w22_14, w22_15, w22_18, w22_21, w22_22, w22_23, w22_24, w22_25, w22_26, w22_29, w22_31, w22_32, w22_33, w22_34, w22_35, w22_36, w22_39, w22_40, w22_41, w22_44, w22_47, w22_48, kP, nI_shl 1 (show a < 32 by omega), c_ledFrom hC hw (show 1 <<< a < 2 ^ 31 from pow31 (one_shl (show a < 31 by omega)) (Nat.le_refl _)), h1, ↓reduceIte, Option.toList_some, Option.toList_none, List.cons_append, List.nil_append]
  exact ⟨rfl, trivial⟩
end CI2
/-- the cells at S are a State's -/
def SK (S : Nat) : Prop := KS[S]? = some (0, 7) ∧ (kt (S + 1) = 1 ∧ kl (S + 1) = 6) ∧ (kt (S + 2) = 1 ∧ kl (S + 2) = 6) ∧ (kt (S + 3) = 1 ∧ kl (S + 3) = 6)
def SR (σ : dm_G) (S : Nat) : Prop := σ S 0 = .ref (S + 1) ∧ σ S 1 = .ref (S + 2) ∧ σ S 2 = .ref (S + 3)
/-- they hold n, of a city of G guides -/
def CN (σ : dm_G) (S G : Nat) (n : Nat → Nat) : Prop := SK S ∧ SR σ S ∧ (σ S 3 = .int (nI (n 19)) ∧ σ S 4 = .int (nI (n 18)) ∧ σ S 5 = .int (nI (n 20)) ∧ σ S 6 = .int (nI (n 21))) ∧ ∀ g, g < G → gi σ (S + 1) g = nI (n g) ∧ gi σ (S + 2) g = nI (n (6 + g)) ∧ gi σ (S + 3) g = nI (n (12 + g))
section SI
variable {σ : dm_G} {S G : Nat} {n : Nat → Nat} {Q : Option Value → dm_G → Prop}
theorem c_openTo {g : Nat} (hN : CN σ S G n) (hG : G ≤ 6) (hg : g < G) : Cq 70 [.ref S, .int (nI g)] σ Q = Q (some (.int (nI (andn (n (6 + g)) (n 19))))) σ := by
  obtain ⟨⟨kS, ⟨u1, m1⟩, ⟨u2, m2⟩, ⟨u3, m3⟩⟩, ⟨q0, q1, q2⟩, ⟨j3, j4, j5, j6⟩, jf⟩ := id hN
  refine Cq_of (Er_of ?_)
  show Wq none 70 0 [some (.ref S), some (.int (nI g))] [] σ _
  have h1 : g < kl (S + 2) := by rw [m2]; omega
  simp only [w70_0, w70_1, w70_4, w70_5, w70_8, w70_9, w70_12, w70_13, w70_14, w70_15, kS, q1, j3, c_at u2 h1 (by omega), (jf g hg).2.1, nI_andn, ↓reduceIte, Option.toList_some, Option.toList_none, List.cons_append, List.nil_append, and_self]
theorem c_passNights {d : Nat} (hN : CN σ S G n) : Cq 69 [.ref S, .int (nI d)] σ Q = Q none (dm_up (dm_up σ S 5 (.int (nI (n 20 + d)))) S 4 (.int (nI 0))) := by
  obtain ⟨⟨kS, ⟨u1, m1⟩, ⟨u2, m2⟩, ⟨u3, m3⟩⟩, ⟨q0, q1, q2⟩, ⟨j3, j4, j5, j6⟩, jf⟩ := id hN
  refine Cq_of (Er_of ?_)
  show Wq none 69 0 [some (.ref S), some (.int (nI d))] [] σ _
  simp only [w69_0, w69_1, w69_1i, w69_2, w69_5, w69_6, w69_7, w69_10, w69_11, w69_12, w69_15, kS, j5, nI_add, ↓reduceIte, Option.toList_some, Option.toList_none, List.cons_append, List.nil_append, and_self]
/-- a copy of g places of a State's arrays from O to S -/
def beL (S O : Nat) (σ : dm_G) (g : Nat) : dm_G := fun a b => if (a = S + 1 ∨ a = S + 2 ∨ a = S + 3) ∧ b < g then .int (gi σ (O + (a - S)) b) else σ a b
def beF (S O : Nat) (σ : dm_G) : dm_G := fun a b => if (a = S + 1 ∨ a = S + 2 ∨ a = S + 3) ∧ b < 6 then .int (gi σ (O + (a - S)) b) else if a = S ∧ (3 ≤ b ∧ b ≤ 6) then σ O b else σ a b
theorem beL_gi {O g a b : Nat} (h : a ≠ S + 1 ∧ a ≠ S + 2 ∧ a ≠ S + 3) : gi (beL S O σ g) a b = gi σ a b := by
  unfold gi beL
  rw [if_neg (by omega)]
theorem beL_fld {O g a b : Nat} (h : a ≠ S + 1 ∧ a ≠ S + 2 ∧ a ≠ S + 3) : beL S O σ g a b = σ a b := by
  unfold beL
  rw [if_neg (by omega)]
theorem l_become {O : Nat} (hS : SK S) (hO : SK O) (rS : SR σ S) (rO : SR σ O) (hd : S + 3 < O ∨ O + 3 < S) (iO : ∃ x3 x4 x5 x6 : Int32, σ O 3 = .int x3 ∧ σ O 4 = .int x4 ∧ σ O 5 = .int x5 ∧ σ O 6 = .int x6) : ∀ (k g : Nat), g + k = 6 → Wq none 68 2 [some (.ref S), some (.ref O), some (.int (nI g))] [] (beL S O σ g) Q = Q none (beF S O σ) := by
  obtain ⟨kS, ⟨u1, m1⟩, ⟨u2, m2⟩, ⟨u3, m3⟩⟩ := id hS
  obtain ⟨kO, ⟨v1, n1⟩, ⟨v2, n2⟩, ⟨v3, n3⟩⟩ := id hO
  obtain ⟨q0, q1, q2⟩ := id rS
  obtain ⟨p0, p1, p2⟩ := id rO
  obtain ⟨x3, x4, x5, x6, e3, e4, e5, e6⟩ := iO
  intro k
  induction k with
  | zero =>
    intro g hg
    obtain rfl : g = 6 := by omega
    rw [w68_2]
    have hSO : ¬ O = S := by omega
    simp only [w68_0, w68_1, w68_3, w68_5, w68_8, w68_9, w68_12, w68_13, w68_14, w68_17, w68_18, w68_21, w68_24, w68_25, w68_28, w68_29, w68_30, w68_33, w68_34, w68_37, w68_40, w68_41, w68_44, w68_45, w68_46, w68_49, w68_50, w68_53, w68_56, w68_59, w68_62, w68_63, w68_64, w68_67, w68_70, w68_71, w68_72, w68_75, w68_78, w68_79, w68_80, w68_83, w68_86, w68_87, w68_88, w68_91, w68_94, kS, kO, (by decide : nI 6 ≤ nI 6), beL_fld (show O ≠ S + 1 ∧ O ≠ S + 2 ∧ O ≠ S + 3 by omega), e3, e4, e5, e6, up_get, hSO, false_and, ↓reduceIte, Option.toList_some, Option.toList_none, List.cons_append, List.nil_append]
    congr 1
    funext a b
    unfold beF
    simp only [dm_up, beL, ← e3, ← e4, ← e5, ← e6]
    by_cases ha : a = S
    · subst ha
      have h0 : ¬ ((a = a + 1 ∨ a = a + 2 ∨ a = a + 3) ∧ b < 6) := by omega
      simp only [true_and, h0, if_false]
      by_cases h6 : b = 6
      · subst h6; simp
      · by_cases h5 : b = 5
        · subst h5; simp
        · by_cases h4 : b = 4
          · subst h4; simp
          · by_cases h3 : b = 3
            · subst h3; simp
            · have : ¬ (3 ≤ b ∧ b ≤ 6) := by omega
              simp only [h3, h4, h5, h6, this, if_false]
    · simp only [ha, false_and, if_false]
  | succ k ih =>
    intro g hg
    have h1 : ¬ nI 6 ≤ nI g := nI_ge (by omega) (by omega)
    have b1 : g < kl (S + 1) := by rw [m1]; omega
    have b2 : g < kl (S + 2) := by rw [m2]; omega
    have b3 : g < kl (S + 3) := by rw [m3]; omega
    have c1 : g < kl (O + 1) := by rw [n1]; omega
    have c2 : g < kl (O + 2) := by rw [n2]; omega
    have c3 : g < kl (O + 3) := by rw [n3]; omega
    rw [w68_2]
    have s1 : ¬ (S = S + 1) := by omega
    have s2 : ¬ (S = S + 2) := by omega
    have s3 : ¬ (S = S + 3) := by omega
    have o1 : ¬ (O = S + 1) := by omega
    have o2 : ¬ (O = S + 2) := by omega
    have o3 : ¬ (O = S + 3) := by omega
    have o21 : ¬ (O + 2 = S + 1) := by omega
    have o31 : ¬ (O + 3 = S + 1) := by omega
    have o32 : ¬ (O + 3 = S + 2) := by omega
    simp only [w68_0, w68_1, w68_3, w68_5, w68_8, w68_9, w68_12, w68_13, w68_14, w68_17, w68_18, w68_21, w68_24, w68_25, w68_28, w68_29, w68_30, w68_33, w68_34, w68_37, w68_40, w68_41, w68_44, w68_45, w68_46, w68_49, w68_50, w68_53, w68_56, w68_59, w68_62, w68_63, w68_64, w68_67, w68_70, w68_71, w68_72, w68_75, w68_78, w68_79, w68_80, w68_83, w68_86, w68_87, w68_88, w68_91, w68_94, kS, kO, h1, beL_fld (show O ≠ S + 1 ∧ O ≠ S + 2 ∧ O ≠ S + 3 by omega), beL_fld (show S ≠ S + 1 ∧ S ≠ S + 2 ∧ S ≠ S + 3 by omega), q0, q1, q2, p0, p1, p2, up_get, gi_up, s1, s2, s3, o1, o2, o3, o21, o31, o32, false_and, c_at v1 c1 (by omega), c_at v2 c2 (by omega), c_at v3 c3 (by omega), c_put u1 b1 (by omega), c_put u2 b2 (by omega), c_put u3 b3 (by omega), beL_gi (show O + 1 ≠ S + 1 ∧ O + 1 ≠ S + 2 ∧ O + 1 ≠ S + 3 by omega), beL_gi (show O + 2 ≠ S + 1 ∧ O + 2 ≠ S + 2 ∧ O + 2 ≠ S + 3 by omega), beL_gi (show O + 3 ≠ S + 1 ∧ O + 3 ≠ S + 2 ∧ O + 3 ≠ S + 3 by omega), nI_add, ↓reduceIte, Option.toList_some, Option.toList_none, List.cons_append, List.nil_append]
    rw [← ih (g + 1) (by omega)]
    congr 1
    funext a b
    simp only [dm_up, beL]
    by_cases a1 : a = S + 1
    · subst a1
      by_cases hb : b = g
      · subst hb; simp
      · have : (b < g + 1) = (b < g) := by apply propext; omega
        simp [hb, this]
    · by_cases a2 : a = S + 2
      · subst a2
        by_cases hb : b = g
        · subst hb; simp
        · have : (b < g + 1) = (b < g) := by apply propext; omega
          simp [hb, this]
      · by_cases a3 : a = S + 3
        · subst a3
          by_cases hb : b = g
          · subst hb; simp
          · have : (b < g + 1) = (b < g) := by apply propext; omega
            simp [hb, this]
        · simp [a1, a2, a3]
theorem c_become {O : Nat} (hS : SK S) (hO : SK O) (rS : SR σ S) (rO : SR σ O) (hd : S + 3 < O ∨ O + 3 < S) (iO : ∃ x3 x4 x5 x6 : Int32, σ O 3 = .int x3 ∧ σ O 4 = .int x4 ∧ σ O 5 = .int x5 ∧ σ O 6 = .int x6) : Cq 68 [.ref S, .ref O] σ Q = Q none (beF S O σ) := by
  refine Cq_of (Er_of ?_)
  show Wq none 68 0 [some (.ref S), some (.ref O), none] [] σ _
  have h1 := l_become (Q := fun r' σ2 => r' = none ∧ σ2 = beF S O σ) hS hO rS rO hd iO 6 0 (by omega)
  have h2 : beL S O σ 0 = σ := by
    funext a b
    unfold beL
    rw [if_neg (by omega)]
  rw [h2] at h1
  simp only [w68_0, w68_1, w68_3, w68_5, w68_8, w68_9, w68_12, w68_13, w68_14, w68_17, w68_18, w68_21, w68_24, w68_25, w68_28, w68_29, w68_30, w68_33, w68_34, w68_37, w68_40, w68_41, w68_44, w68_45, w68_46, w68_49, w68_50, w68_53, w68_56, w68_59, w68_62, w68_63, w68_64, w68_67, w68_70, w68_71, w68_72, w68_75, w68_78, w68_79, w68_80, w68_83, w68_86, w68_87, w68_88, w68_91, w68_94, h1, and_self]
end SI
