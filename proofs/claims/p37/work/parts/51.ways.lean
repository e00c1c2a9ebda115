/-! ways tried: way, leads, ring, clouds -/
/-- by how many streets the guide would lead the client; none -/
def lwN (c n : Nat → Nat) (g e : Nat) : Option Nat := if (n 18).testBit e = true then none else sbN c (c (55 + e)) (c (61 + e)) (andn (n (6 + g)) (n 19))
theorem lwN_lt {c n : Nat → Nat} {g e d : Nat} (h : lwN c n g e = some d) : d < c 0 := by
  unfold lwN at h
  split at h
  · cases h
  · exact sbN_lt h
theorem andn_lt31 {c n : Nat → Nat} {g : Nat} (hw : WC c) (hwn : WN c n) (hg : g < c 2) : andn (n (6 + g)) (n 19) < 2 ^ 31 := by
  have h1 := (hwn.1 g hg).2.1
  have p8 : 2 ^ c 0 ≤ 2 ^ 8 := Nat.pow_le_pow_right (by decide) hw.1
  have h2 := andn_lt (w := n 19) h1
  omega
theorem csN_lt {c : Nat → Nat} {k g d : Nat} (hw : WC c) (hg : g < c 2) (hd : d ≤ 8) : csN c k g d ≤ 792 := by
  obtain ⟨w0, w2, w3, w4, w5, w6, w7, w8, w9⟩ := id hw
  have h1 := (w7 g hg).2.1
  have h2 : c (43 + g) * d ≤ 99 * 8 := Nat.mul_le_mul h1 hd
  unfold csN
  split <;> omega
section WY
variable {σ : dm_G} {c n : Nat → Nat} {P D : Nat} {Q : Option Value → dm_G → Prop}
theorem c_streetsFor {g e : Nat} (hB : BR σ P D) (hC : CC σ P c) (hN : CN σ 24 (c 2) n) (hw : WC c) (hwn : WN c n) (hg : g < c 2) (he : e < c 3) : Cq 95 [(.ref (0 : Nat)), .int (nI g), .int (nI e)] σ Q = Q (some (.int (oI (lwN c n g e)))) σ := by
  obtain ⟨b0, b3, b4, b5, b6, b7, b8, b9, b10, b11, b12⟩ := id hB
  obtain ⟨w0, w2, w3, w4, w5, w6, w7, w8, w9⟩ := id hw
  obtain ⟨⟨kP, ⟨t1, l1⟩, ⟨t2, l2⟩, ⟨t3, l3⟩, ⟨t4, l4⟩, ⟨t5, l5⟩, ⟨t6, l6⟩, ⟨t7, l7⟩, ⟨t8, l8⟩, ⟨t9, l9⟩⟩, ⟨r1, r2, r3, r4, r5, r6, r7, r8, r9⟩, ⟨i0, i2, i3, i4⟩, f1, f2, f3, f4, f5, f6, f7⟩ := id hC
  obtain ⟨⟨kS, ⟨u1, v1⟩, ⟨u2, v2⟩, ⟨u3, v3⟩⟩, ⟨q0, q1, q2⟩, ⟨j3, j4, j5, j6⟩, jf⟩ := id hN
  have p6 : 2 ^ c 3 ≤ 2 ^ 6 := Nat.pow_le_pow_right (by decide) w3
  obtain ⟨e1, e2⟩ := f5 e he
  obtain ⟨x1, x2⟩ := w8 e he
  obtain ⟨hn1, hn18, hn19, hn20, hn21⟩ := id hwn
  refine Cq_of (Er_of ?_)
  show Wq none 95 0 [some (.ref (0 : Nat)), some (.int (nI g)), some (.int (nI e))] [] σ _
  unfold lwN
  by_cases hb : (n 18).testBit e = true
  · simp only [w95_0, w95_1, w95_4, w95_7, w95_8, w95_9, w95_10, w95_11, w95_14, w95_15, w95_16, w95_17, w95_20, w95_21, w95_24, w95_27, w95_28, w95_31, w95_32, w95_35, w95_38, w95_39, w95_42, w95_43, w95_46, w95_47, w95_50, w95_53, ks_0, ks_24, kP, b4, b6, j4, nI_bit (show n 18 < 2 ^ 31 by omega) (show e < 32 by omega), hb, nI_ne1, oI, ↓reduceIte, Option.toList_some, Option.toList_none, List.cons_append, List.nil_append, and_self]
  · simp only [w95_0, w95_1, w95_4, w95_7, w95_8, w95_9, w95_10, w95_11, w95_14, w95_15, w95_16, w95_17, w95_20, w95_21, w95_24, w95_27, w95_28, w95_31, w95_32, w95_35, w95_38, w95_39, w95_42, w95_43, w95_46, w95_47, w95_50, w95_53, ks_0, ks_24, kP, b4, b6, j4, r7, r8, nI_bit (show n 18 < 2 ^ 31 by omega) (show e < 32 by omega), hb, c_at t7 (show e < kl (P + 7) by rw [l7]; omega) (by rw [l7]; omega), e1, c_at t8 (show e < kl (P + 8) by rw [l8]; omega) (by rw [l8]; omega), e2, c_openTo hN w2 hg, c_streetsBetween hC hw x1 x2, ↓reduceIte, Option.toList_some, Option.toList_none, List.cons_append, List.nil_append, and_self, Bool.false_eq_true]
theorem c_priceOf {g d : Nat} (hB : BR σ P D) (hC : CC σ P c) (hN : CN σ 24 (c 2) n) (hw : WC c) (hwn : WN c n) (hg : g < c 2) (hd : d ≤ 8) : Cq 96 [(.ref (0 : Nat)), .int (nI g), .int (nI d)] σ Q = Q (some (.int (nI (csN c (n 20) g d)))) σ := by
  obtain ⟨b0, b3, b4, b5, b6, b7, b8, b9, b10, b11, b12⟩ := id hB
  obtain ⟨w0, w2, w3, w4, w5, w6, w7, w8, w9⟩ := id hw
  obtain ⟨⟨kP, ⟨t1, l1⟩, ⟨t2, l2⟩, ⟨t3, l3⟩, ⟨t4, l4⟩, ⟨t5, l5⟩, ⟨t6, l6⟩, ⟨t7, l7⟩, ⟨t8, l8⟩, ⟨t9, l9⟩⟩, ⟨r1, r2, r3, r4, r5, r6, r7, r8, r9⟩, ⟨i0, i2, i3, i4⟩, f1, f2, f3, f4, f5, f6, f7⟩ := id hC
  obtain ⟨⟨kS, ⟨u1, v1⟩, ⟨u2, v2⟩, ⟨u3, v3⟩⟩, ⟨q0, q1, q2⟩, ⟨j3, j4, j5, j6⟩, jf⟩ := id hN
  obtain ⟨e1, e2, e3⟩ := f4 g hg
  obtain ⟨hn1, hn18, hn19, hn20, hn21⟩ := id hwn
  have h1 : c (43 + g) * d ≤ 99 * 8 := Nat.mul_le_mul (w7 g hg).2.1 hd
  refine Cq_of (Er_of ?_)
  show Wq none 96 0 [some (.ref (0 : Nat)), some (.int (nI g)), some (.int (nI d)), none] [] σ _
  have hmo : moN c (n 20) ≤ 9 := by
    unfold moN
    split
    · omega
    · exact w9 _ (Nat.mod_lt _ (by omega))
  unfold csN
  by_cases hm : 5 ≤ moN c (n 20)
  · have h5 : ¬ nI (moN c (n 20)) < nI 5 := nI_nlt hm (by omega)
    rw [if_pos hm]
    simp only [w96_0, w96_1, w96_4, w96_7, w96_8, w96_11, w96_12, w96_13, w96_14, w96_15, w96_18, w96_19, w96_22, w96_25, w96_28, w96_29, w96_32, w96_33, w96_34, w96_35, w96_38, w96_39, ks_0, ks_24, kP, b4, b6, j5, r5, c_at t5 (show g < kl (P + 5) by rw [l5]; omega) (by rw [l5]; omega), e2, pk_mul, c_moonOf hC hw (show n 20 < 2 ^ 31 by omega), h5, (by decide : ¬ nI 2 = 0), not_false_eq_true, pk_div (show c (43 + g) * d < 2 ^ 31 by omega) (show 0 < 2 by omega) (show 2 < 2 ^ 31 by omega), ↓reduceIte, Option.toList_some, Option.toList_none, List.cons_append, List.nil_append, and_self]
  · have h5 : nI (moN c (n 20)) < nI 5 := by rw [Int32.lt_iff_toInt_lt, nI_toInt (by omega), nI_toInt (by omega)]; omega
    rw [if_neg hm]
    simp only [w96_0, w96_1, w96_4, w96_7, w96_8, w96_11, w96_12, w96_13, w96_14, w96_15, w96_18, w96_19, w96_22, w96_25, w96_28, w96_29, w96_32, w96_33, w96_34, w96_35, w96_38, w96_39, ks_0, ks_24, kP, b4, b6, j5, r5, c_at t5 (show g < kl (P + 5) by rw [l5]; omega) (by rw [l5]; omega), e2, pk_mul, c_moonOf hC hw (show n 20 < 2 ^ 31 by omega), h5, ↓reduceIte, Option.toList_some, Option.toList_none, List.cons_append, List.nil_append, and_self]
theorem far_le {d : Nat} (h : d < 2 ^ 31) : (nI 100000000 ≤ nI d) ↔ FAR ≤ d := by
  rw [Int32.le_iff_toInt_le, nI_toInt (by omega), nI_toInt h]
  unfold FAR
  omega
theorem far_lt {d : Nat} (h : d < 2 ^ 31) : (nI d < nI 100000000) ↔ d < FAR := by
  rw [Int32.lt_iff_toInt_lt, nI_toInt h, nI_toInt (by omega)]
  unfold FAR
  omega
theorem FAR_31 {d : Nat} (h : d ≤ FAR) : d < 2 ^ 31 := by unfold FAR at h; omega
end WY
