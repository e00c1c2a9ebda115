/-! the class itself: its own cell, and who must talk -/
/-- the class's own cell: its plan at P, its draft at D -/
def BR (σ : dm_G) (P D : Nat) : Prop := σ 0 0 = (.ref (1 : Nat)) ∧ σ 0 3 = (.ref (2 : Nat)) ∧ σ 0 4 = .ref P ∧ σ 2 5 = .ref D ∧ σ 0 5 = (.ref (24 : Nat)) ∧ σ 0 6 = (.ref (28 : Nat)) ∧ σ 0 7 = (.ref (94 : Nat)) ∧ σ 0 8 = (.ref (105 : Nat)) ∧ σ 0 9 = (.ref (107 : Nat)) ∧ σ 0 10 = (.ref (110 : Nat)) ∧ σ 0 11 = (.ref (114 : Nat))
section BI
variable {σ : dm_G} {P D : Nat} {c n : Nat → Nat} {Q : Option Value → dm_G → Prop}
theorem l_headsOf {s : Nat} (hB : BR σ P D) (hC : CC σ P c) (hN : CN σ 24 (c 2) n) (hw : WC c) (hs : s < 2 ^ 31) : ∀ (f g : Nat), g + f = c 2 → Wq none 85 4 [some (.ref (0 : Nat)), some (.int (nI s)), some (.int (nI (hdN n s g))), some (.int (nI g))] [] σ Q = Q (some (.int (nI (hdN n s (c 2))))) σ := by
  obtain ⟨⟨kP, ⟨t1, l1⟩, ⟨t2, l2⟩, ⟨t3, l3⟩, ⟨t4, l4⟩, ⟨t5, l5⟩, ⟨t6, l6⟩, ⟨t7, l7⟩, ⟨t8, l8⟩, ⟨t9, l9⟩⟩, ⟨r1, r2, r3, r4, r5, r6, r7, r8, r9⟩, ⟨i0, i2, i3, i4⟩, f1, f2, f3, f4, f5, f6, f7⟩ := id hC
  obtain ⟨w0, w2, w3, w4, w5, w6, w7, w8, w9⟩ := id hw
  obtain ⟨⟨kS, ⟨u1, m1⟩, ⟨u2, m2⟩, ⟨u3, m3⟩⟩, ⟨q0, q1, q2⟩, ⟨j3, j4, j5, j6⟩, jf⟩ := id hN
  obtain ⟨b0, b3, b4, b5, b6, b7, b8, b9, b10, b11, b12⟩ := id hB
  intro f
  induction f with
  | zero =>
    intro g hg
    obtain rfl : g = c 2 := by omega
    have h1 : nI (c 2) ≤ nI (c 2) := nI_le (Nat.le_refl _) (by omega)
    rw [w85_4]
    simp only [w85_0, w85_1, w85_2, w85_3, w85_5, w85_6, w85_9, w85_12, w85_15, w85_16, w85_17, w85_18, w85_19, w85_20, w85_23, w85_24, w85_25, w85_28, w85_31, w85_32, w85_35, w85_36, w85_37, w85_40, w85_43, w85_44, ks_0, kP, b4, i2, h1, ↓reduceIte, Option.toList_some, Option.toList_none, List.cons_append, List.nil_append]
  | succ f ih =>
    intro g hg
    have h1 : ¬ nI (c 2) ≤ nI g := nI_ge (by omega) (by omega)
    have h2 : g < kl (24 + 3) := by rw [m3]; omega
    have ih := ih (g + 1) (by omega)
    rw [w85_4]
    by_cases hb : s.testBit g = true
    · rw [hdN, if_pos hb] at ih
      simp only [w85_0, w85_1, w85_2, w85_3, w85_5, w85_6, w85_9, w85_12, w85_15, w85_16, w85_17, w85_18, w85_19, w85_20, w85_23, w85_24, w85_25, w85_28, w85_31, w85_32, w85_35, w85_36, w85_37, w85_40, w85_43, w85_44, ks_0, kP, kS, b4, b6, i2, q2, h1, nI_bit hs (show g < 32 by omega), hb, nI_ne1, c_at u3 h2 (by omega), (jf g (by omega)).2.2, nI_or, nI_add, ↓reduceIte, Option.toList_some, Option.toList_none, List.cons_append, List.nil_append]
      exact ih
    · rw [hdN, if_neg hb] at ih
      simp only [w85_0, w85_1, w85_2, w85_3, w85_5, w85_6, w85_9, w85_12, w85_15, w85_16, w85_17, w85_18, w85_19, w85_20, w85_23, w85_24, w85_25, w85_28, w85_31, w85_32, w85_35, w85_36, w85_37, w85_40, w85_43, w85_44, ks_0, kP, b4, i2, h1, nI_bit hs (show g < 32 by omega), hb, nI_add, ↓reduceIte, Option.toList_some, Option.toList_none, List.cons_append, List.nil_append]
      exact ih
theorem c_headsOf {s : Nat} (hB : BR σ P D) (hC : CC σ P c) (hN : CN σ 24 (c 2) n) (hw : WC c) (hs : s < 2 ^ 31) : Cq 85 [(.ref (0 : Nat)), .int (nI s)] σ Q = Q (some (.int (nI (hdN n s (c 2))))) σ := by
  refine Cq_of (Er_of ?_)
  show Wq none 85 0 [some (.ref (0 : Nat)), some (.int (nI s)), none, none] [] _ _
  have h3 := l_headsOf (Q := fun r' σ2 => r' = some (.int (nI (hdN n s (c 2)))) ∧ σ2 = σ) hB hC hN hw hs (c 2) 0 (by omega)
  rw [show hdN n s 0 = 0 from rfl] at h3
  simp only [w85_0, w85_1, w85_2, w85_3, w85_5, w85_6, w85_9, w85_12, w85_15, w85_16, w85_17, w85_18, w85_19, w85_20, w85_23, w85_24, w85_25, w85_28, w85_31, w85_32, w85_35, w85_36, w85_37, w85_40, w85_43, w85_44, h3, and_self]
theorem ckN_le {n : Nat → Nat} {m : Nat} : ∀ k, ckN n m k ≤ 2 ^ m - 1 := by
  intro k
  induction k with
  | zero => exact Nat.le_refl _
  | succ k ih =>
    rw [ckN]
    split
    · omega
    · exact ih
theorem nI_dec (s : Nat) : nI (s + 1) + (-1) = nI s := by
  rw [← nI_add, Int32.add_assoc, show nI 1 + (-1) = 0 from by decide, Int32.add_zero]
theorem ckS {n : Nat → Nat} {m k s : Nat} (h : 2 ^ m - 1 - k = s) : ckN n m (k + 1) = if hdN n s m = hdN n (2 ^ m - 1) m ∧ pcN s ≤ pcN (ckN n m k) then s else ckN n m k := by
  rw [ckN, h]
/-- one turn of the loop: the best so far becomes the next one -/
theorem l_whoS {s k : Nat} {R : Prop} (hB : BR σ P D) (hC : CC σ P c) (hN : CN σ 24 (c 2) n) (hw : WC c) (hh : ∀ g, g < c 2 → n (12 + g) < 256) (hs : s + k + 1 = 2 ^ c 2)
    (kk : Wq none 84 30 [some (.ref (0 : Nat)), some (.int (nI (hdN n (2 ^ c 2 - 1) (c 2)))), some (.int (nI (ckN n (c 2) (k + 1)))), some (.int (nI s + (-1)))] [] σ Q = R) :
    Wq none 84 30 [some (.ref (0 : Nat)), some (.int (nI (hdN n (2 ^ c 2 - 1) (c 2)))), some (.int (nI (ckN n (c 2) k))), some (.int (nI s))] [] σ Q = R := by
  obtain ⟨w0, w2, w3, w4, w5, w6, w7, w8, w9⟩ := id hw
  have hp : 2 ^ c 2 ≤ 64 := Nat.pow_le_pow_right (n := 2) (by decide) w2
  have hK : ckN n (c 2) k < 64 := by have := ckN_le (n := n) (m := c 2) k; omega
  have hA := hdN_lt (s := 2 ^ c 2 - 1) hh
  have hH := hdN_lt (s := s) hh
  have h1 : ¬ nI s < nI 0 := by
    rw [Int32.lt_iff_toInt_lt, nI_toInt (by omega), nI_toInt (by omega)]
    omega
  have he : nI (hdN n s (c 2)) = nI (hdN n (2 ^ c 2 - 1) (c 2)) ↔ hdN n s (c 2) = hdN n (2 ^ c 2 - 1) (c 2) := nI_eq (by omega) (by omega)
  have hq1 := pc_le s
  have hq2 := pc_le (ckN n (c 2) k)
  rw [ckS (show 2 ^ c 2 - 1 - k = s by omega)] at kk
  rw [w84_30]
  by_cases h2 : hdN n s (c 2) = hdN n (2 ^ c 2 - 1) (c 2)
  · by_cases h4 : pcN s ≤ pcN (ckN n (c 2) k)
    · rw [if_pos ⟨h2, h4⟩] at kk
      have h5 : ¬ nI (pcN (ckN n (c 2) k)) < nI (pcN s) := by
        rw [Int32.lt_iff_toInt_lt, nI_toInt (by omega), nI_toInt (by omega)]
        omega
      simp only [w84_0, w84_1, w84_2, w84_3, w84_6, w84_9, w84_10, w84_11, w84_12, w84_15, w84_16, w84_17, w84_18, w84_21, w84_24, w84_25, w84_26, w84_27, w84_28, w84_29, w84_31, w84_34, w84_35, w84_36, w84_39, w84_40, w84_43, w84_44, w84_47, w84_48, w84_51, w84_54, w84_55, w84_56, w84_59, w84_62, w84_63, ks_0, h1, c_headsOf hB hC hN hw (show s < 2 ^ 31 by omega), he, h2, c_bitCount (show s < 256 by omega), c_bitCount (show ckN n (c 2) k < 256 by omega), h5, ↓reduceIte, Option.toList_some, Option.toList_none, List.cons_append, List.nil_append]
      exact kk
    · rw [if_neg (fun z => h4 z.2)] at kk
      have h5 : nI (pcN (ckN n (c 2) k)) < nI (pcN s) := by
        rw [Int32.lt_iff_toInt_lt, nI_toInt (by omega), nI_toInt (by omega)]
        omega
      simp only [w84_0, w84_1, w84_2, w84_3, w84_6, w84_9, w84_10, w84_11, w84_12, w84_15, w84_16, w84_17, w84_18, w84_21, w84_24, w84_25, w84_26, w84_27, w84_28, w84_29, w84_31, w84_34, w84_35, w84_36, w84_39, w84_40, w84_43, w84_44, w84_47, w84_48, w84_51, w84_54, w84_55, w84_56, w84_59, w84_62, w84_63, ks_0, h1, c_headsOf hB hC hN hw (show s < 2 ^ 31 by omega), he, h2, c_bitCount (show s < 256 by omega), c_bitCount (show ckN n (c 2) k < 256 by omega), h5, ↓reduceIte, Option.toList_some, Option.toList_none, List.cons_append, List.nil_append]
      exact kk
  · rw [if_neg (fun z => h2 z.1)] at kk
    simp only [w84_0, w84_1, w84_2, w84_3, w84_6, w84_9, w84_10, w84_11, w84_12, w84_15, w84_16, w84_17, w84_18, w84_21, w84_24, w84_25, w84_26, w84_27, w84_28, w84_29, w84_31, w84_34, w84_35, w84_36, w84_39, w84_40, w84_43, w84_44, w84_47, w84_48, w84_51, w84_54, w84_55, w84_56, w84_59, w84_62, w84_63, ks_0, h1, c_headsOf hB hC hN hw (show s < 2 ^ 31 by omega), he, h2, ↓reduceIte, Option.toList_some, Option.toList_none, List.cons_append, List.nil_append]
    exact kk
theorem l_who (hB : BR σ P D) (hC : CC σ P c) (hN : CN σ 24 (c 2) n) (hw : WC c) (hh : ∀ g, g < c 2 → n (12 + g) < 256) : ∀ (s k : Nat), s + k + 1 = 2 ^ c 2 → Wq none 84 30 [some (.ref (0 : Nat)), some (.int (nI (hdN n (2 ^ c 2 - 1) (c 2)))), some (.int (nI (ckN n (c 2) k))), some (.int (nI s))] [] σ Q = Q (some (.int (nI (ckN n (c 2) (2 ^ c 2))))) σ := by
  intro s
  induction s with
  | zero =>
    intro k hk
    refine l_whoS hB hC hN hw hh hk ?_
    rw [show k + 1 = 2 ^ c 2 by omega]
    simp only [w84_0, w84_1, w84_2, w84_3, w84_6, w84_9, w84_10, w84_11, w84_12, w84_15, w84_16, w84_17, w84_18, w84_21, w84_24, w84_25, w84_26, w84_27, w84_28, w84_29, w84_30, w84_31, w84_34, w84_35, w84_36, w84_39, w84_40, w84_43, w84_44, w84_47, w84_48, w84_51, w84_54, w84_55, w84_56, w84_59, w84_62, w84_63, (by decide : nI 0 + (-1) < nI 0), ↓reduceIte, Option.toList_some, Option.toList_none, List.cons_append, List.nil_append]
  | succ s ih =>
    intro k hk
    refine l_whoS hB hC hN hw hh hk ?_
    rw [nI_dec]
    exact ih (k + 1) (by omega)
theorem c_who (hB : BR σ P D) (hC : CC σ P c) (hN : CN σ 24 (c 2) n) (hw : WC c) (hh : ∀ g, g < c 2 → n (12 + g) < 256) : Cq 84 [(.ref (0 : Nat))] σ Q = Q (some (.int (oI (tkN n (c 2) (1 <<< c 2))))) σ := by
  obtain ⟨⟨kP, ⟨t1, l1⟩, ⟨t2, l2⟩, ⟨t3, l3⟩, ⟨t4, l4⟩, ⟨t5, l5⟩, ⟨t6, l6⟩, ⟨t7, l7⟩, ⟨t8, l8⟩, ⟨t9, l9⟩⟩, ⟨r1, r2, r3, r4, r5, r6, r7, r8, r9⟩, ⟨i0, i2, i3, i4⟩, f1, f2, f3, f4, f5, f6, f7⟩ := id hC
  obtain ⟨w0, w2, w3, w4, w5, w6, w7, w8, w9⟩ := id hw
  obtain ⟨b0, b3, b4, b5, b6, b7, b8, b9, b10, b11, b12⟩ := id hB
  have hp : 2 ^ c 2 ≤ 64 := Nat.pow_le_pow_right (n := 2) (by decide) w2
  have hp0 : 0 < 2 ^ c 2 := Nat.two_pow_pos _
  have e1 : nI (1 <<< c 2) - nI 1 = nI (2 ^ c 2 - 1) := by rw [Nat.one_shiftLeft, pk_sub (by omega)]
  rw [Nat.one_shiftLeft, tk_eq]
  refine Cq_of (Er_of ?_)
  show Wq none 84 0 [some (.ref (0 : Nat)), none, none, none] [] _ _
  have h3 := l_who (Q := fun r' σ2 => r' = some (.int (nI (ckN n (c 2) (2 ^ c 2)))) ∧ σ2 = σ) hB hC hN hw hh (2 ^ c 2 - 1) 0 (by omega)
  rw [show ckN n (c 2) 0 = 2 ^ c 2 - 1 from rfl] at h3
  simp only [w84_0, w84_1, w84_2, w84_3, w84_6, w84_9, w84_10, w84_11, w84_12, w84_15, w84_16, w84_17, w84_18, w84_21, w84_24, w84_25, w84_26, w84_27, w84_28, w84_29, w84_31, w84_34, w84_35, w84_36, w84_39, w84_40, w84_43, w84_44, w84_47, w84_48, w84_51, w84_54, w84_55, w84_56, w84_59, w84_62, w84_63, ks_0, kP, b4, i2, nI_shl 1 (show c 2 < 32 by omega), e1, c_headsOf hB hC hN hw (show 2 ^ c 2 - 1 < 2 ^ 31 by omega), h3, oI, and_self, ↓reduceIte, Option.toList_some, Option.toList_none, List.cons_append, List.nil_append]
end BI
