/-! the reference's small methods -/
/-- the number of a set's members -/
def pcN (s : Nat) : Nat := s % 2 + s / 2 % 2 + s / 4 % 2 + s / 8 % 2 + s / 16 % 2 + s / 32 % 2 + s / 64 % 2 + s / 128 % 2
section MS
variable {σ : dm_G} {Q : Option Value → dm_G → Prop}
theorem c_in {u v w : Int64} : Cq 125 [.long u, .long v, .long w] σ Q = Q (some (.int (if v ≤ u ∧ u ≤ w then nI 1 else nI 0))) σ := by
  refine Cq_of (Er_of ?_)
  show Wq none 125 0 [some (.long u), none, some (.long v), none, some (.long w), none] [] σ _
  by_cases h1 : v ≤ u
  · have h2 : ¬ lg_cmp u v < nI 0 := fun z => by
      have := (lg_cmp_lt u v).mp z
      rw [Int64.lt_iff_toInt_lt] at this
      rw [Int64.le_iff_toInt_le] at h1
      omega
    by_cases h3 : u ≤ w
    · have h4 : ¬ nI 0 < lg_cmp u w := fun z => by
        have := (lg_cmp_gt u w).mp z
        rw [Int64.lt_iff_toInt_lt] at this
        rw [Int64.le_iff_toInt_le] at h3
        omega
      simp only [w125_0, w125_1, w125_2, w125_3, w125_6, w125_7, w125_9, w125_10, w125_13, w125_14, w125_17, w125_18, h1, h2, h3, h4, ↓reduceIte, Option.toList_some, Option.toList_none, List.cons_append, List.nil_append, (by decide : nI 1 &&& 1 = nI 1), (by decide : nI 0 &&& 1 = nI 0), and_self]
    · have h4 : nI 0 < lg_cmp u w := (lg_cmp_gt u w).mpr (by
        rw [Int64.lt_iff_toInt_lt]
        rw [Int64.le_iff_toInt_le] at h3
        omega)
      simp only [w125_0, w125_1, w125_2, w125_3, w125_6, w125_7, w125_9, w125_10, w125_13, w125_14, w125_17, w125_18, h1, h2, h3, h4, ↓reduceIte, Option.toList_some, Option.toList_none, List.cons_append, List.nil_append, (by decide : nI 1 &&& 1 = nI 1), (by decide : nI 0 &&& 1 = nI 0), and_self, and_false]
  · have h2 : lg_cmp u v < nI 0 := (lg_cmp_lt u v).mpr (by
      rw [Int64.lt_iff_toInt_lt]
      rw [Int64.le_iff_toInt_le] at h1
      omega)
    simp only [w125_0, w125_1, w125_2, w125_3, w125_6, w125_7, w125_9, w125_10, w125_13, w125_14, w125_17, w125_18, h1, h2, ↓reduceIte, Option.toList_some, Option.toList_none, List.cons_append, List.nil_append, (by decide : nI 1 &&& 1 = nI 1), (by decide : nI 0 &&& 1 = nI 0), and_self, false_and]
theorem c_has {s i : Nat} (hs : s < 2 ^ 31) (hi : i < 32) : Cq 126 [.int (nI s), .int (nI i)] σ Q = Q (some (.int (if s.testBit i = true then nI 1 else nI 0))) σ := by
  refine Cq_of (Er_of ?_)
  show Wq none 126 0 [some (.int (nI s)), some (.int (nI i))] [] σ _
  by_cases h : s.testBit i = true
  · simp only [w126_0, w126_1, w126_2, w126_3, w126_4, w126_5, w126_6, w126_9, w126_10, w126_13, w126_14, nI_bit hs hi, h, ↓reduceIte, Option.toList_some, Option.toList_none, List.cons_append, List.nil_append, (by decide : nI 1 &&& 1 = nI 1), (by decide : nI 0 &&& 1 = nI 0), and_self]
  · simp only [w126_0, w126_1, w126_2, w126_3, w126_4, w126_5, w126_6, w126_9, w126_10, w126_13, w126_14, nI_bit hs hi, h, (by decide : ¬ nI 0 = nI 1), ↓reduceIte, Option.toList_some, Option.toList_none, List.cons_append, List.nil_append, (by decide : nI 1 &&& 1 = nI 1), (by decide : nI 0 &&& 1 = nI 0), and_self, Bool.false_eq_true]
/-- members taken away one by one -/
def kbN : Nat → Nat → Nat := fun f s => match f with
  | 0 => 0
  | f + 1 => if s = 0 then 0 else kbN f (s &&& (s - 1)) + 1
theorem kbN_pc : ∀ s, s < 256 → kbN 9 s = pcN s := by decide +kernel
def kbZ : Nat → Nat → Bool := fun f s => match f with
  | 0 => false
  | f + 1 => s == 0 || kbZ f (s &&& (s - 1))
theorem kbZ_9 : ∀ s, s < 256 → kbZ 9 s = true := by decide +kernel
theorem l_bits : ∀ (f s n : Nat) (v : Value), s < 2 ^ 31 → kbZ f s = true → Wq none 127 4 [some v, some (.int (nI n)), some (.int (nI s))] [] σ Q = Q (some (.int (nI (n + kbN f s)))) σ := by
  intro f
  induction f with
  | zero => intro s n v hs hz; cases hz
  | succ f ih =>
    intro s n v hs hz
    rw [w127_4]
    by_cases h0 : s = 0
    · subst h0
      simp only [w127_0, w127_1, w127_2, w127_3, w127_5, w127_8, w127_11, w127_12, w127_13, w127_14, w127_15, w127_16, w127_17, w127_20, w127_21, kbN, ↓reduceIte, Option.toList_some, Option.toList_none, List.cons_append, List.nil_append, Nat.add_zero]
    · have h1 : ¬ nI s = nI 0 := fun z => h0 (nI_inj hs (by omega) z)
      have hz' : kbZ f (s &&& (s - 1)) = true := by
        simp only [kbZ, Bool.or_eq_true, beq_iff_eq] at hz
        exact hz.resolve_left h0
      simp only [w127_0, w127_1, w127_2, w127_3, w127_5, w127_8, w127_11, w127_12, w127_13, w127_14, w127_15, w127_16, w127_17, w127_20, w127_21, h1, pk_sub (show 1 ≤ s by omega), nI_and, nI_add, kbN, h0, ↓reduceIte, Option.toList_some, Option.toList_none, List.cons_append, List.nil_append]
      rw [ih _ _ _ (and_lt hs) hz']
      congr 4
      omega
theorem c_bits {s : Nat} (hs : s < 256) : Cq 127 [.int (nI s)] σ Q = Q (some (.int (nI (pcN s)))) σ := by
  refine Cq_of (Er_of ?_)
  show Wq none 127 0 [some (.int (nI s)), none, none] [] σ _
  simp only [w127_0, w127_1, w127_2, w127_3, w127_5, w127_8, w127_11, w127_12, w127_13, w127_14, w127_15, w127_16, w127_17, w127_20, w127_21, l_bits 9 s 0 _ (show s < 2 ^ 31 by omega) (kbZ_9 s hs), kbN_pc s hs, Nat.zero_add, and_self]
theorem c_bitCount {s : Nat} (hs : s < 256) : Cq 208 [.int (nI s)] σ Q = Q (some (.int (nI (pcN s)))) σ := by
  refine Cq_of (Er_of ?_)
  show Wq none 208 0 [some (.int (nI s))] [] σ _
  simp only [w208_0, w208_1, w208_2, w208_3, w208_4, w208_7, w208_8, w208_9, w208_10, w208_11, w208_14, w208_15, w208_16, w208_17, w208_18, w208_21, w208_22, w208_23, w208_24, w208_25, w208_26, w208_27, w208_28, w208_29, w208_32, w208_33, w208_34, w208_35, w208_36, w208_38, w208_39, w208_40, w208_41, w208_42, w208_43, w208_45, w208_46, w208_47, w208_48, w208_49, w208_51, w208_52]
  refine ⟨?_, trivial⟩
  congr 2
  revert s
  decide +kernel
theorem c_lesser {a b : Nat} (ha : a < 2 ^ 31) (hb : b < 2 ^ 31) : Cq 128 [.int (nI a), .int (nI b)] σ Q = Q (some (.int (nI (min a b)))) σ := by
  refine Cq_of (Er_of ?_)
  show Wq none 128 0 [some (.int (nI a)), some (.int (nI b))] [] σ _
  by_cases h : a < b
  · have h1 : ¬ nI b ≤ nI a := nI_ge h hb
    simp only [w128_0, w128_1, w128_2, w128_5, w128_6, w128_9, w128_10, h1, Nat.min_eq_left (Nat.le_of_lt h), ↓reduceIte, Option.toList_some, Option.toList_none, List.cons_append, List.nil_append, and_self]
  · have h1 : nI b ≤ nI a := nI_le (by omega) ha
    simp only [w128_0, w128_1, w128_2, w128_5, w128_6, w128_9, w128_10, h1, Nat.min_eq_right (Nat.le_of_not_lt h), ↓reduceIte, Option.toList_some, Option.toList_none, List.cons_append, List.nil_append, and_self]
theorem c_greater {a b : Nat} (ha : a < 2 ^ 31) (hb : b < 2 ^ 31) : Cq 129 [.int (nI a), .int (nI b)] σ Q = Q (some (.int (nI (max a b)))) σ := by
  refine Cq_of (Er_of ?_)
  show Wq none 129 0 [some (.int (nI a)), some (.int (nI b))] [] σ _
  by_cases h : b < a
  · have h1 : ¬ nI a ≤ nI b := nI_ge h ha
    simp only [w129_0, w129_1, w129_2, w129_5, w129_6, w129_9, w129_10, h1, Nat.max_eq_left (Nat.le_of_lt h), ↓reduceIte, Option.toList_some, Option.toList_none, List.cons_append, List.nil_append, and_self]
  · have h1 : nI a ≤ nI b := nI_le (by omega) hb
    simp only [w129_0, w129_1, w129_2, w129_5, w129_6, w129_9, w129_10, h1, Nat.max_eq_right (Nat.le_of_not_lt h), ↓reduceIte, Option.toList_some, Option.toList_none, List.cons_append, List.nil_append, and_self]
/-- a copy of k places of one array to another -/
def cpL (σ : dm_G) (A i B j k : Nat) : dm_G := fun a b => if a = B ∧ j ≤ b ∧ b < j + k then .int (gi σ A (i + (b - j))) else σ a b
theorem l_copies {A i B j m : Nat} (hA : kt A = 1) (hB : kt B = 1) (h1 : i + m ≤ kl A) (h2 : j + m ≤ kl B) (hAB : A ≠ B) (b1 : kl A < 2 ^ 31) (b2 : kl B < 2 ^ 31) : ∀ (n k : Nat), k + n = m → Wq none 130 3 [some (.ref A), some (.int (nI i)), some (.ref B), some (.int (nI j)), some (.int (nI m)), some (.int (nI k))] [] (cpL σ A i B j k) Q = Q none (cpL σ A i B j m) := by
  intro n
  induction n with
  | zero =>
    intro k hk
    obtain rfl : k = m := by omega
    have h : nI k ≤ nI k := nI_le (Nat.le_refl _) (by omega)
    rw [w130_3]
    simp only [w130_0, w130_1, w130_5, w130_7, w130_10, w130_11, w130_12, w130_14, w130_15, w130_16, w130_17, w130_19, w130_20, w130_21, w130_22, w130_25, w130_28, h, ↓reduceIte, Option.toList_some, Option.toList_none, List.cons_append, List.nil_append]
  | succ n ih =>
    intro k hk
    have h : ¬ nI m ≤ nI k := nI_ge (by omega) (by omega)
    have e1 : gi (cpL σ A i B j k) A (i + k) = gi σ A (i + k) := by
      unfold gi cpL
      rw [if_neg (fun z => hAB z.1)]
    rw [w130_3]
    simp only [w130_0, w130_1, w130_5, w130_7, w130_10, w130_11, w130_12, w130_14, w130_15, w130_16, w130_17, w130_19, w130_20, w130_21, w130_22, w130_25, w130_28, h, hA, hB, nI_add, in_nI (show i + k < kl A by omega) b1, in_nI (show j + k < kl B by omega) b2, nI_clamp (show i + k < 2 ^ 31 by omega), nI_clamp (show j + k < 2 ^ 31 by omega), e1, ↓reduceIte, Option.toList_some, Option.toList_none, List.cons_append, List.nil_append]
    rw [← ih (k + 1) (by omega)]
    congr 1
    funext a b'
    simp only [dm_up, cpL]
    by_cases ha : a = B
    · subst ha
      by_cases hb : b' = j + k
      · subst hb
        have q1 : j ≤ j + k ∧ j + k < j + (k + 1) := by omega
        have q2 : j + k - j = k := by omega
        simp only [true_and, if_true, q1, q2, and_self]
      · have q : (j ≤ b' ∧ b' < j + (k + 1)) = (j ≤ b' ∧ b' < j + k) := by apply propext; omega
        simp only [true_and, hb, if_false, q]
    · simp only [ha, false_and, if_false]
theorem c_copies {A i B j m : Nat} (hA : kt A = 1) (hB : kt B = 1) (h1 : i + m ≤ kl A) (h2 : j + m ≤ kl B) (hAB : A ≠ B) (b1 : kl A < 2 ^ 31) (b2 : kl B < 2 ^ 31) : Cq 130 [.ref A, .int (nI i), .ref B, .int (nI j), .int (nI m)] σ Q = Q none (cpL σ A i B j m) := by
  refine Cq_of (Er_of ?_)
  show Wq none 130 0 [some (.ref A), some (.int (nI i)), some (.ref B), some (.int (nI j)), some (.int (nI m)), none] [] σ _
  have h3 := l_copies (σ := σ) (Q := fun r' σ2 => r' = none ∧ σ2 = cpL σ A i B j m) hA hB h1 h2 hAB b1 b2 m 0 (by omega)
  have h4 : cpL σ A i B j 0 = σ := by
    funext a b
    unfold cpL
    rw [if_neg (by omega)]
  rw [h4] at h3
  simp only [w130_0, w130_1, w130_5, w130_7, w130_10, w130_11, w130_12, w130_14, w130_15, w130_16, w130_17, w130_19, w130_20, w130_21, w130_22, w130_25, w130_28, h3, and_self]
end MS
/-- the reference's own cells -/
def MR (σ : dm_G) : Prop := σ 118 0 = (.ref (119 : Nat)) ∧ σ 118 1 = (.ref (120 : Nat)) ∧ σ 118 2 = (.ref (121 : Nat)) ∧ σ 118 3 = (.ref (122 : Nat)) ∧ σ 118 5 = (.ref (123 : Nat)) ∧ σ 118 6 = (.ref (124 : Nat)) ∧ σ 118 8 = (.ref (125 : Nat)) ∧ σ 118 11 = (.ref (126 : Nat)) ∧ σ 118 12 = (.ref (127 : Nat)) ∧ σ 118 14 = (.ref (128 : Nat)) ∧ σ 118 22 = (.ref (129 : Nat)) ∧ σ 118 23 = (.ref (130 : Nat)) ∧ σ 118 24 = (.ref (131 : Nat)) ∧ σ 118 25 = (.ref (132 : Nat)) ∧ σ 118 29 = (.ref (133 : Nat)) ∧ σ 118 30 = (.ref (134 : Nat)) ∧ σ 118 31 = (.ref (135 : Nat)) ∧ σ 118 32 = (.ref (136 : Nat))
def MC (σ : dm_G) (c : Nat → Nat) : Prop := ∀ i, i < 79 → gi σ 119 i = nI (c i)
def MN (σ : dm_G) (n : Nat → Nat) : Prop := ∀ i, i < 22 → gi σ 121 i = nI (n i)
section MT
variable {σ : dm_G} {c n : Nat → Nat} {Q : Option Value → dm_G → Prop}
theorem c_turned {x k : Nat} (hM : MR σ) (hc : MC σ c) (hx : 13 + (3 * x + k) < 79) : Cq 150 [(.ref (118 : Nat)), .int (nI x), .int (nI k)] σ Q = Q (some (.int (nI (c (13 + (3 * x + k)))))) σ := by
  obtain ⟨m0, m1, m2, m3, m5, m6, m8, m11, m12, m14, m22, m23, m24, m25, m29, m30, m31, m32⟩ := id hM
  refine Cq_of (Er_of ?_)
  show Wq none 150 0 [some (.ref (118 : Nat)), some (.int (nI x)), some (.int (nI k))] [] σ _
  have h1 : 13 + 3 * x + k < kl 119 := by rw [kl_119]; omega
  simp only [w150_0, w150_1, w150_4, w150_6, w150_7, w150_8, w150_9, w150_10, w150_11, w150_12, w150_13, ks_118, m0, kt_119, pk_mul, nI_add, in_nI h1 (by rw [kl_119]; omega), nI_clamp (show 13 + 3 * x + k < 2 ^ 31 by omega), hc _ (show 13 + 3 * x + k < 79 by omega), ↓reduceIte, Option.toList_some, Option.toList_none, List.cons_append, List.nil_append]
  rw [show 13 + 3 * x + k = 13 + (3 * x + k) by omega]
  exact ⟨rfl, trivial⟩
theorem c_open {g : Nat} (hM : MR σ) (hn : MN σ n) (hg : g < 6) : Cq 155 [(.ref (118 : Nat)), .int (nI g)] σ Q = Q (some (.int (nI (andn (n (6 + g)) (n 19))))) σ := by
  obtain ⟨m0, m1, m2, m3, m5, m6, m8, m11, m12, m14, m22, m23, m24, m25, m29, m30, m31, m32⟩ := id hM
  refine Cq_of (Er_of ?_)
  show Wq none 155 0 [some (.ref (118 : Nat)), some (.int (nI g))] [] σ _
  have h1 : 6 + g < kl 121 := by rw [kl_121]; omega
  have h2 : 19 < kl 121 := by rw [kl_121]; omega
  simp only [w155_0, w155_1, w155_4, w155_6, w155_7, w155_8, w155_9, w155_10, w155_13, w155_15, w155_16, w155_17, w155_18, w155_19, ks_118, m2, kt_121, nI_add, in_nI h1 (by rw [kl_121]; omega), in_nI h2 (by rw [kl_121]; omega), nI_clamp (show 6 + g < 2 ^ 31 by omega), nI_clamp (show 19 < 2 ^ 31 by omega), hn _ (show 6 + g < 22 by omega), hn 19 (by omega), nI_andn, ↓reduceIte, Option.toList_some, Option.toList_none, List.cons_append, List.nil_append, and_self]
theorem c_moon (hM : MR σ) (hc : MC σ c) (hn : MN σ n) (hw : WC c) (hk : n 20 < 2 ^ 31) : Cq 157 [(.ref (118 : Nat))] σ Q = Q (some (.int (nI (moN c (n 20))))) σ := by
  obtain ⟨m0, m1, m2, m3, m5, m6, m8, m11, m12, m14, m22, m23, m24, m25, m29, m30, m31, m32⟩ := id hM
  obtain ⟨w0, w2, w3, w4, w5, w6, w7, w8, w9⟩ := id hw
  refine Cq_of (Er_of ?_)
  show Wq none 157 0 [some (.ref (118 : Nat))] [] σ _
  have h4 : 4 < kl 119 := by rw [kl_119]; omega
  have h20 : 20 < kl 121 := by rw [kl_121]; omega
  unfold moN
  by_cases h0 : c 4 = 0
  · have e : nI (c 4) = nI 0 := by rw [h0]
    simp only [w157_0, w157_1, w157_4, w157_5, w157_6, w157_9, w157_10, w157_13, w157_14, w157_17, w157_19, w157_20, w157_23, w157_25, w157_26, w157_27, w157_30, w157_31, w157_32, w157_33, w157_34, w157_35, ks_118, m0, kt_119, in_nI h4 (by rw [kl_119]; omega), nI_clamp (show 4 < 2 ^ 31 by omega), hc 4 (by omega), e, h0, ↓reduceIte, Option.toList_some, Option.toList_none, List.cons_append, List.nil_append, and_self]
  · have e : ¬ nI (c 4) = nI 0 := fun z => h0 (nI_inj (by omega) (by omega) z)
    have e' : ¬ nI (c 4) = 0 := e
    have hm : n 20 % c 4 < c 4 := Nat.mod_lt _ (by omega)
    have h5 : 67 + n 20 % c 4 < kl 119 := by rw [kl_119]; omega
    simp only [w157_0, w157_1, w157_4, w157_5, w157_6, w157_9, w157_10, w157_13, w157_14, w157_17, w157_19, w157_20, w157_23, w157_25, w157_26, w157_27, w157_30, w157_31, w157_32, w157_33, w157_34, w157_35, ks_118, m0, m2, kt_119, kt_121, in_nI h4 (by rw [kl_119]; omega), in_nI h20 (by rw [kl_121]; omega), in_nI h5 (by rw [kl_119]; omega), nI_clamp (show 4 < 2 ^ 31 by omega), nI_clamp (show 20 < 2 ^ 31 by omega), nI_clamp (show 67 + n 20 % c 4 < 2 ^ 31 by omega), hc 4 (by omega), hn 20 (by omega), e, e', not_false_eq_true, pk_rem hk (show 0 < c 4 by omega) (show c 4 < 2 ^ 31 by omega), nI_add, hc _ (show 67 + n 20 % c 4 < 79 by omega), h0, ↓reduceIte, Option.toList_some, Option.toList_none, List.cons_append, List.nil_append, and_self]
end MT
