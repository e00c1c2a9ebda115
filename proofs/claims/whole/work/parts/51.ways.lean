/-! ways tried: way, leads, ring, clouds -/
/-- by how many streets the guide would lead the client; none -/
def lwN (c n : Nat → Nat) (g e : Nat) : Option Nat := if (n 18).testBit e = true then none else sbN c (c (55 + e)) (c (61 + e)) (andn (n (6 + g)) (n 19))
theorem lwN_lt {c n : Nat → Nat} {g e d : Nat} (h : lwN c n g e = some d) : d < c 0 := by
  unfold lwN at h
  split at h
  · cases h
  · exact sbN_lt h
theorem andn_lt31 {c n : Nat → Nat} {g : Nat} (hw : WC c) (hwn : WN c n) (hg : g < c 2) : andn (n (6 + g)) (n 19) < 2 ^ 31 := by
  have h1 := (hwn.1 g hg).2.1
  have p8 : 2 ^ c 0 ≤ 2 ^ 8 := Nat.pow_le_pow_right (by decide) hw.1
  have h2 := andn_lt (w := n 19) h1
  omega
theorem csN_lt {c : Nat → Nat} {k g d : Nat} (hw : WC c) (hg : g < c 2) (hd : d ≤ 8) : csN c k g d ≤ 792 := by
  obtain ⟨w0, w2, w3, w4, w5, w6, w7, w8, w9⟩ := id hw
  have h1 := (w7 g hg).2.1
  have h2 : c (43 + g) * d ≤ 99 * 8 := Nat.mul_le_mul h1 hd
  unfold csN
  split <;> omega
section WY
variable {σ : dm_G} {c n : Nat → Nat} {P D : Nat} {Q : Option Value → dm_G → Prop}
theorem c_streetsFor {g e : Nat} (hB : BR σ P D) (hC : CC σ P c) (hN : CN σ 24 (c 2) n) (hw : WC c) (hwn : WN c n) (hg : g < c 2) (he : e < c 3) : Cq 95 [(.ref (0 : Nat)), .int (nI g), .int (nI e)] σ Q = Q (some (.int (oI (lwN c n g e)))) σ := by
  obtain ⟨b0, b3, b4, b5, b6, b7, b8, b9, b10, b11, b12⟩ := id hB
  obtain ⟨w0, w2, w3, w4, w5, w6, w7, w8, w9⟩ := id hw
  obtain ⟨⟨kP, ⟨t1, l1⟩, ⟨t2, l2⟩, ⟨t3, l3⟩, ⟨t4, l4⟩, ⟨t5, l5⟩, ⟨t6, l6⟩, ⟨t7, l7⟩, ⟨t8, l8⟩, ⟨t9, l9⟩⟩, ⟨r1, r2, r3, r4, r5, r6, r7, r8, r9⟩, ⟨i0, i2, i3, i4⟩, f1, f2, f3, f4, f5, f6, f7⟩ := id hC
  obtain ⟨⟨kS, ⟨u1, v1⟩, ⟨u2, v2⟩, ⟨u3, v3⟩⟩, ⟨q0, q1, q2⟩, ⟨j3, j4, j5, j6⟩, jf⟩ := id hN
  have p6 : 2 ^ c 3 ≤ 2 ^ 6 := Nat.pow_le_pow_right (by decide) w3
  obtain ⟨e1, e2⟩ := f5 e he
  obtain ⟨x1, x2⟩ := w8 e he
  obtain ⟨hn1, hn18, hn19, hn20, hn21⟩ := id hwn
  refine Cq_of (Er_of ?_)
  show Wq none 95 0 [some (.ref (0 : Nat)), some (.int (nI g)), some (.int (nI e))] [] σ _
  unfold lwN
  by_cases hb : (n 18).testBit e = true
  · simp only [w95_0, w95_1, w95_4, w95_7, w95_8, w95_9, w95_10, w95_11, w95_14, w95_15, w95_16, w95_17, w95_20, w95_21, w95_24, w95_27, w95_28, w95_31, w95_32, w95_35, w95_38, w95_39, w95_42, w95_43, w95_46, w95_47, w95_50, w95_53, ks_0, ks_24, kP, b4, b6, j4, nI_bit (show n 18 < 2 ^ 31 by omega) (show e < 32 by omega), hb, nI_ne1, oI, ↓reduceIte, Option.toList_some, Option.toList_none, List.cons_append, List.nil_append, and_self]
  · simp only [w95_0, w95_1, w95_4, w95_7, w95_8, w95_9, w95_10, w95_11, w95_14, w95_15, w95_16, w95_17, w95_20, w95_21, w95_24, w95_27, w95_28, w95_31, w95_32, w95_35, w95_38, w95_39, w95_42, w95_43, w95_46, w95_47, w95_50, w95_53, ks_0, ks_24, kP, b4, b6, j4, r7, r8, nI_bit (show n 18 < 2 ^ 31 by omega) (show e < 32 by omega), hb, c_at t7 (show e < kl (P + 7) by rw [l7]; omega) (by rw [l7]; omega), e1, c_at t8 (show e < kl (P + 8) by rw [l8]; omega) (by rw [l8]; omega), e2, c_openTo hN w2 hg, c_streetsBetween hC hw x1 x2, ↓reduceIte, Option.toList_some, Option.toList_none, List.cons_append, List.nil_append, and_self, Bool.false_eq_true]
theorem c_priceOf {g d : Nat} (hB : BR σ P D) (hC : CC σ P c) (hN : CN σ 24 (c 2) n) (hw : WC c) (hwn : WN c n) (hg : g < c 2) (hd : d ≤ 8) : Cq 96 [(.ref (0 : Nat)), .int (nI g), .int (nI d)] σ Q = Q (some (.int (nI (csN c (n 20) g d)))) σ := by
  obtain ⟨b0, b3, b4, b5, b6, b7, b8, b9, b10, b11, b12⟩ := id hB
  obtain ⟨w0, w2, w3, w4, w5, w6, w7, w8, w9⟩ := id hw
  obtain ⟨⟨kP, ⟨t1, l1⟩, ⟨t2, l2⟩, ⟨t3, l3⟩, ⟨t4, l4⟩, ⟨t5, l5⟩, ⟨t6, l6⟩, ⟨t7, l7⟩, ⟨t8, l8⟩, ⟨t9, l9⟩⟩, ⟨r1, r2, r3, r4, r5, r6, r7, r8, r9⟩, ⟨i0, i2, i3, i4⟩, f1, f2, f3, f4, f5, f6, f7⟩ := id hC
  obtain ⟨⟨kS, ⟨u1, v1⟩, ⟨u2, v2⟩, ⟨u3, v3⟩⟩, ⟨q0, q1, q2⟩, ⟨j3, j4, j5, j6⟩, jf⟩ := id hN
  obtain ⟨e1, e2, e3⟩ := f4 g hg
  obtain ⟨hn1, hn18, hn19, hn20, hn21⟩ := id hwn
  have h1 : c (43 + g) * d ≤ 99 * 8 := Nat.mul_le_mul (w7 g hg).2.1 hd
  refine Cq_of (Er_of ?_)
  show Wq none 96 0 [some (.ref (0 : Nat)), some (.int (nI g)), some (.int (nI d)), none] [] σ _
  have hmo : moN c (n 20) ≤ 9 := by
    unfold moN
    split
    · omega
    · exact w9 _ (Nat.mod_lt _ (by omega))
  unfold csN
  by_cases hm : 5 ≤ moN c (n 20)
  · have h5 : ¬ nI (moN c (n 20)) < nI 5 := nI_nlt hm (by omega)
    rw [if_pos hm]
    simp only [w96_0, w96_1, w96_4, w96_7, w96_8, w96_11, w96_12, w96_13, w96_14, w96_15, w96_18, w96_19, w96_22, w96_25, w96_28, w96_29, w96_32, w96_33, w96_34, w96_35, w96_38, w96_39, ks_0, ks_24, kP, b4, b6, j5, r5, c_at t5 (show g < kl (P + 5) by rw [l5]; omega) (by rw [l5]; omega), e2, pk_mul, c_moonOf hC hw (show n 20 < 2 ^ 31 by omega), h5, (by decide : ¬ nI 2 = 0), not_false_eq_true, pk_div (show c (43 + g) * d < 2 ^ 31 by omega) (show 0 < 2 by omega) (show 2 < 2 ^ 31 by omega), ↓reduceIte, Option.toList_some, Option.toList_none, List.cons_append, List.nil_append, and_self]
  · have h5 : nI (moN c (n 20)) < nI 5 := by rw [Int32.lt_iff_toInt_lt, nI_toInt (by omega), nI_toInt (by omega)]; omega
    rw [if_neg hm]
    simp only [w96_0, w96_1, w96_4, w96_7, w96_8, w96_11, w96_12, w96_13, w96_14, w96_15, w96_18, w96_19, w96_22, w96_25, w96_28, w96_29, w96_32, w96_33, w96_34, w96_35, w96_38, w96_39, ks_0, ks_24, kP, b4, b6, j5, r5, c_at t5 (show g < kl (P + 5) by rw [l5]; omega) (by rw [l5]; omega), e2, pk_mul, c_moonOf hC hw (show n 20 < 2 ^ 31 by omega), h5, ↓reduceIte, Option.toList_some, Option.toList_none, List.cons_append, List.nil_append, and_self]
theorem far_le {d : Nat} (h : d < 2 ^ 31) : (nI 100000000 ≤ nI d) ↔ FAR ≤ d := by
  rw [Int32.le_iff_toInt_le, nI_toInt (by omega), nI_toInt h]
  unfold FAR
  omega
theorem far_lt {d : Nat} (h : d < 2 ^ 31) : (nI d < nI 100000000) ↔ d < FAR := by
  rw [Int32.lt_iff_toInt_lt, nI_toInt h, nI_toInt (by omega)]
  unfold FAR
  omega
theorem FAR_31 {d : Nat} (h : d ≤ FAR) : d < 2 ^ 31 := by unfold FAR at h; omega
theorem pr_way (x y z : Int32) (hI : Inv σ) : Pr Inv 101 181 [.int x, .int y, .int z] σ := by
  obtain ⟨c, n, k, p, q, im, h, hs, ht, m, bg, bx, L, tx, f, s, hWA, hCA, hMA⟩ := id hI; obtain ⟨hw, hwn, ⟨hk16, hkp⟩, ⟨hq4, hqi⟩, ⟨hh9, hhs, hht⟩, ⟨hm15, hmb⟩, ⟨hL240, htx⟩, hs31⟩ := id hWA; obtain ⟨⟨P, D, hPD, hB, hC, hD⟩, hN, hPa, hIm, hHe, hBk, hTx, hF, hS, hSc⟩ := id hCA; obtain ⟨hM, hc, hn, hmP, hmI, hmH, hmB, hmT, hmF, hmS⟩ := id hMA
  obtain ⟨b0, b3, b4, b5, b6, b7, b8, b9, b10, b11, b12⟩ := id hB
  obtain ⟨w0, w2, w3, w4, w5, w6, w7, w8, w9⟩ := id hw
  obtain ⟨m0, m1, m2, m3, m5, m6, m8, m11, m12, m14, m22, m23, m24, m25, m29, m30, m31, m32⟩ := id hM
  obtain ⟨⟨kP, ⟨t1, l1⟩, ⟨t2, l2⟩, ⟨t3, l3⟩, ⟨t4, l4⟩, ⟨t5, l5⟩, ⟨t6, l6⟩, ⟨t7, l7⟩, ⟨t8, l8⟩, ⟨t9, l9⟩⟩, ⟨r1, r2, r3, r4, r5, r6, r7, r8, r9⟩, ⟨i0, i2, i3, i4⟩, f1, f2, f3, f4, f5, f6, f7⟩ := id hC
  obtain ⟨⟨kS, ⟨u1, v1⟩, ⟨u2, v2⟩, ⟨u3, v3⟩⟩, ⟨q0, q1, q2⟩, ⟨j3, j4, j5, j6⟩, jf⟩ := id hN
  rcases ix_cs x (show c 2 < 2 ^ 31 by omega) with ⟨g, hg, rfl⟩ | ⟨hx, hx2⟩
  · rcases ix_cs y (show c 0 < 2 ^ 31 by omega) with ⟨a, ha, rfl⟩ | ⟨hy, hy2⟩
    · rcases ix_cs z (show c 0 < 2 ^ 31 by omega) with ⟨b, hb, rfl⟩ | ⟨hz, hz2⟩
      · have ho := andn_lt31 hw hwn hg
        refine pr_of (v := oI (sbN c a b (andn (n (6 + g)) (n 19)))) (σ1 := σ) (σ2 := aset σ (lay c (andn (n (6 + g)) (n 19)) b)) (fun Q => Cq_of (Er_of ?_)) (fun Q => Cq_of (Er_of ?_)) (inv_aset hI)
        · show Wq none 101 0 [some (.ref (0 : Nat)), some (.int (nI g)), some (.int (nI a)), some (.int (nI b))] [] σ _
          simp only [w101_0, w101_1, w101_4, w101_5, w101_8, w101_11, w101_12, w101_15, w101_16, w101_19, w101_22, w101_23, w101_26, w101_27, w101_30, w101_33, w101_35, w101_36, w101_37, w101_40, w101_41, w101_42, w101_43, w101_46, w101_47, w101_50, w101_53, ks_0, ks_24, kP, b4, b6, c_hasGuide hC hg hw, c_hasCrossing hC ha hw, c_hasCrossing hC hb hw, nI_ne1, c_openTo hN w2 hg, c_streetsBetween hC hw ha hb, ↓reduceIte, Option.toList_some, Option.toList_none, List.cons_append, List.nil_append, and_self]
        · show Wq none 181 0 [some (.ref (118 : Nat)), some (.int (nI g)), some (.int (nI a)), some (.int (nI b)), none] [] σ _
          have hl := lay_sb (o := andn (n (6 + g)) (n 19)) hw ha hb
          cases hs : sbN c a b (andn (n (6 + g)) (n 19)) with
          | none =>
            rw [hs] at hl
            have hf : ¬ nI (lay c (andn (n (6 + g)) (n 19)) b a) < nI 100000000 := fun q => by
              have hl : lay c (andn (n (6 + g)) (n 19)) b a = FAR := hl
              have := (far_lt (FAR_31 (lay_le _ _ _ _))).mp q
              omega
            simp only [w181_0, w181_1, w181_2, w181_5, w181_8, w181_9, w181_10, w181_13, w181_16, w181_17, w181_18, w181_21, w181_24, w181_26, w181_27, w181_28, w181_29, w181_30, w181_33, w181_34, w181_35, w181_38, w181_40, w181_42, w181_44, w181_47, w181_48, w181_51, w181_53, ks_118, c_isGuide (x := nI g) hM hc hw ⟨g, hg, rfl⟩, c_isCrossing (x := nI a) hM hc hw ⟨a, ha, rfl⟩, c_isCrossing (x := nI b) hM hc hw ⟨b, hb, rfl⟩, nI_ne1, c_open hM hn (show g < 6 by omega), c_length hM hc hw ho (show b < 2 ^ 31 by omega) (show a < 8 by omega), hf, oI, ↓reduceIte, Option.toList_some, Option.toList_none, List.cons_append, List.nil_append, and_self]
          | some d =>
            rw [hs] at hl
            have hd := sbN_lt hs
            have hl : lay c (andn (n (6 + g)) (n 19)) b a = d := hl
            have hf : nI d < nI 100000000 := (far_lt (by omega)).mpr (by unfold FAR; omega)
            simp only [w181_0, w181_1, w181_2, w181_5, w181_8, w181_9, w181_10, w181_13, w181_16, w181_17, w181_18, w181_21, w181_24, w181_26, w181_27, w181_28, w181_29, w181_30, w181_33, w181_34, w181_35, w181_38, w181_40, w181_42, w181_44, w181_47, w181_48, w181_51, w181_53, ks_118, c_isGuide (x := nI g) hM hc hw ⟨g, hg, rfl⟩, c_isCrossing (x := nI a) hM hc hw ⟨a, ha, rfl⟩, c_isCrossing (x := nI b) hM hc hw ⟨b, hb, rfl⟩, nI_ne1, c_open hM hn (show g < 6 by omega), c_length hM hc hw ho (show b < 2 ^ 31 by omega) (show a < 8 by omega), hl, hf, oI, ↓reduceIte, Option.toList_some, Option.toList_none, List.cons_append, List.nil_append, and_self]
      · refine pr_of (v := -1000000001) (σ1 := σ) (σ2 := σ) (fun Q => Cq_of (Er_of ?_)) (fun Q => Cq_of (Er_of ?_)) hI
        · show Wq none 101 0 [some (.ref (0 : Nat)), some (.int (nI g)), some (.int (nI a)), some (.int z)] [] σ _
          simp only [w101_0, w101_1, w101_4, w101_5, w101_8, w101_11, w101_12, w101_15, w101_16, w101_19, w101_22, w101_23, w101_26, w101_27, w101_30, w101_33, w101_35, w101_36, w101_37, w101_40, w101_41, w101_42, w101_43, w101_46, w101_47, w101_50, w101_53, ks_0, kP, b4, c_hasGuide hC hg hw, c_hasCrossing hC ha hw, c_hasCrossing_f hC hz, nI_ne1, ↓reduceIte, Option.toList_some, Option.toList_none, List.cons_append, List.nil_append, and_self]
        · show Wq none 181 0 [some (.ref (118 : Nat)), some (.int (nI g)), some (.int (nI a)), some (.int z), none] [] σ _
          simp only [w181_0, w181_1, w181_2, w181_5, w181_8, w181_9, w181_10, w181_13, w181_16, w181_17, w181_18, w181_21, w181_24, w181_26, w181_27, w181_28, w181_29, w181_30, w181_33, w181_34, w181_35, w181_38, w181_40, w181_42, w181_44, w181_47, w181_48, w181_51, w181_53, ks_118, c_isGuide (x := nI g) hM hc hw ⟨g, hg, rfl⟩, c_isCrossing (x := nI a) hM hc hw ⟨a, ha, rfl⟩, c_isCrossing_f hM hc hw hz2, nI_ne1, ↓reduceIte, Option.toList_some, Option.toList_none, List.cons_append, List.nil_append, and_self]
    · refine pr_of (v := -1000000001) (σ1 := σ) (σ2 := σ) (fun Q => Cq_of (Er_of ?_)) (fun Q => Cq_of (Er_of ?_)) hI
      · show Wq none 101 0 [some (.ref (0 : Nat)), some (.int (nI g)), some (.int y), some (.int z)] [] σ _
        simp only [w101_0, w101_1, w101_4, w101_5, w101_8, w101_11, w101_12, w101_15, w101_16, w101_19, w101_22, w101_23, w101_26, w101_27, w101_30, w101_33, w101_35, w101_36, w101_37, w101_40, w101_41, w101_42, w101_43, w101_46, w101_47, w101_50, w101_53, ks_0, kP, b4, c_hasGuide hC hg hw, c_hasCrossing_f hC hy, nI_ne1, ↓reduceIte, Option.toList_some, Option.toList_none, List.cons_append, List.nil_append, and_self]
      · show Wq none 181 0 [some (.ref (118 : Nat)), some (.int (nI g)), some (.int y), some (.int z), none] [] σ _
        simp only [w181_0, w181_1, w181_2, w181_5, w181_8, w181_9, w181_10, w181_13, w181_16, w181_17, w181_18, w181_21, w181_24, w181_26, w181_27, w181_28, w181_29, w181_30, w181_33, w181_34, w181_35, w181_38, w181_40, w181_42, w181_44, w181_47, w181_48, w181_51, w181_53, ks_118, c_isGuide (x := nI g) hM hc hw ⟨g, hg, rfl⟩, c_isCrossing_f hM hc hw hy2, nI_ne1, ↓reduceIte, Option.toList_some, Option.toList_none, List.cons_append, List.nil_append, and_self]
  · refine pr_of (v := -1000000001) (σ1 := σ) (σ2 := σ) (fun Q => Cq_of (Er_of ?_)) (fun Q => Cq_of (Er_of ?_)) hI
    · show Wq none 101 0 [some (.ref (0 : Nat)), some (.int x), some (.int y), some (.int z)] [] σ _
      simp only [w101_0, w101_1, w101_4, w101_5, w101_8, w101_11, w101_12, w101_15, w101_16, w101_19, w101_22, w101_23, w101_26, w101_27, w101_30, w101_33, w101_35, w101_36, w101_37, w101_40, w101_41, w101_42, w101_43, w101_46, w101_47, w101_50, w101_53, ks_0, kP, b4, c_hasGuide_f hC hx, nI_ne1, ↓reduceIte, Option.toList_some, Option.toList_none, List.cons_append, List.nil_append, and_self]
    · show Wq none 181 0 [some (.ref (118 : Nat)), some (.int x), some (.int y), some (.int z), none] [] σ _
      simp only [w181_0, w181_1, w181_2, w181_5, w181_8, w181_9, w181_10, w181_13, w181_16, w181_17, w181_18, w181_21, w181_24, w181_26, w181_27, w181_28, w181_29, w181_30, w181_33, w181_34, w181_35, w181_38, w181_40, w181_42, w181_44, w181_47, w181_48, w181_51, w181_53, ks_118, c_isGuide_f hM hc hw hx2, nI_ne1, ↓reduceIte, Option.toList_some, Option.toList_none, List.cons_append, List.nil_append, and_self]
/-- the reference's cells behind a measure for a client who is not home -/
def afF (σ : dm_G) (c n : Nat → Nat) (g e : Nat) : dm_G := if (n 18).testBit e = true then σ else aset σ (lay c (andn (n (6 + g)) (n 19)) (c (61 + e)))
theorem afF_cell {g e a : Nat} (h : a ≠ 129) : afF σ c n g e a = σ a := by
  unfold afF
  split
  · rfl
  · exact aset_cell h
theorem pr_leads (x y z : Int32) (hI : Inv σ) : Pr Inv 100 180 [.int x, .int y, .int z] σ := by
  obtain ⟨c, n, k, p, q, im, h, hs, ht, m, bg, bx, L, tx, f, s, hWA, hCA, hMA⟩ := id hI; obtain ⟨hw, hwn, ⟨hk16, hkp⟩, ⟨hq4, hqi⟩, ⟨hh9, hhs, hht⟩, ⟨hm15, hmb⟩, ⟨hL240, htx⟩, hs31⟩ := id hWA; obtain ⟨⟨P, D, hPD, hB, hC, hD⟩, hN, hPa, hIm, hHe, hBk, hTx, hF, hS, hSc⟩ := id hCA; obtain ⟨hM, hc, hn, hmP, hmI, hmH, hmB, hmT, hmF, hmS⟩ := id hMA
  obtain ⟨b0, b3, b4, b5, b6, b7, b8, b9, b10, b11, b12⟩ := id hB
  obtain ⟨w0, w2, w3, w4, w5, w6, w7, w8, w9⟩ := id hw
  obtain ⟨m0, m1, m2, m3, m5, m6, m8, m11, m12, m14, m22, m23, m24, m25, m29, m30, m31, m32⟩ := id hM
  obtain ⟨⟨kP, ⟨t1, l1⟩, ⟨t2, l2⟩, ⟨t3, l3⟩, ⟨t4, l4⟩, ⟨t5, l5⟩, ⟨t6, l6⟩, ⟨t7, l7⟩, ⟨t8, l8⟩, ⟨t9, l9⟩⟩, ⟨r1, r2, r3, r4, r5, r6, r7, r8, r9⟩, ⟨i0, i2, i3, i4⟩, f1, f2, f3, f4, f5, f6, f7⟩ := id hC
  obtain ⟨⟨kS, ⟨u1, v1⟩, ⟨u2, v2⟩, ⟨u3, v3⟩⟩, ⟨q0, q1, q2⟩, ⟨j3, j4, j5, j6⟩, jf⟩ := id hN
  obtain ⟨hn1, hn18, hn19, hn20, hn21⟩ := id hwn
  have p6 : 2 ^ c 3 ≤ 2 ^ 6 := Nat.pow_le_pow_right (by decide) w3
  rcases ix_cs x (show c 2 < 2 ^ 31 by omega) with ⟨g, hg, rfl⟩ | ⟨hx, hx2⟩
  · rcases ix_cs y (show c 3 < 2 ^ 31 by omega) with ⟨e, he, rfl⟩ | ⟨hy, hy2⟩
    · have hsF := fun Q => c_streetsFor (Q := Q) hB hC hN hw hwn hg he
      have ho := andn_lt31 hw hwn hg
      have g31 : n (6 + g) < 2 ^ 31 := by
        have h1 := (hwn.1 g hg).2.1
        have p8 : 2 ^ c 0 ≤ 2 ^ 8 := Nat.pow_le_pow_right (by decide) hw.1
        omega
      obtain ⟨x1, x2⟩ := w8 e he
      have hl := lay_sb (o := andn (n (6 + g)) (n 19)) hw x1 x2
      have hM2 : MR (aset σ (lay c (andn (n (6 + g)) (n 19)) (c (61 + e)))) := MR_of (aset_cell (by omega)) hM
      have hc2 : MC (aset σ (lay c (andn (n (6 + g)) (n 19)) (c (61 + e)))) c := MC_of (aset_cell (by omega)) hc
      have hn2 : MN (aset σ (lay c (andn (n (6 + g)) (n 19)) (c (61 + e)))) n := MN_of (aset_cell (by omega)) hn
      have m02 : aset σ (lay c (andn (n (6 + g)) (n 19)) (c (61 + e))) 118 0 = (.ref (119 : Nat)) := hM2.1
      have iA : Inv (afF σ c n g e) := by
        unfold afF
        split
        · exact hI
        · exact inv_aset hI
      have sp : ∀ v : Int32, Wq none 100 0 [some (.ref (0 : Nat)), some (.int (nI g)), some (.int (nI e)), some (.int z), none] [] σ (fun r' σ2 => r' = some (.int v) ∧ σ2 = σ) → ∀ τ, Inv τ → Wq none 180 0 [some (.ref (118 : Nat)), some (.int (nI g)), some (.int (nI e)), some (.int z), none] [] σ (fun r' σ2 => r' = some (.int v) ∧ σ2 = τ) → Pr Inv 100 180 [.int (nI g), .int (nI e), .int z] σ := fun v a τ hτ b => pr_of (v := v) (fun Q => Cq_of (Er_of a)) (fun Q => Cq_of (Er_of b)) hτ
      rcases ix_cs z (show 3 < 2 ^ 31 by decide) with ⟨j, hj, rfl⟩ | ⟨hz, hz2⟩
      · have hin : lN 0 ≤ (nI j).toInt64 ∧ (nI j).toInt64 ≤ lN 2 := (in_ok2 (x := nI j) (show 2 < 2 ^ 30 by omega) (show 0 < 2 ^ 30 by omega)).mpr ⟨j, by omega, by omega, rfl⟩
        have hj0 : ¬ nI j < nI 0 := nI_pos (by omega)
        have hj2 : nI j ≤ nI 2 := nI_le (by omega) (by omega)
        by_cases hb : (n 18).testBit e = true
        · have el : lwN c n g e = none := if_pos hb
          rw [el] at hsF
          refine sp (-1) ?_ (afF σ c n g e) iA ?_
          · simp only [w100_0, w100_1, w100_4, w100_5, w100_8, w100_11, w100_12, w100_15, w100_16, w100_19, w100_22, w100_24, w100_25, w100_26, w100_29, w100_30, w100_31, w100_34, w100_36, w100_37, w100_38, w100_39, w100_40, w100_43, w100_45, w100_47, w100_48, w100_51, w100_52, w100_55, w100_57, w100_58, w100_59, w100_60, w100_63, w100_64, w100_65, w100_67, w100_70, w100_71, w100_72, w100_75, w100_76, w100_79, w100_82, w100_83, w100_86, w100_87, w100_90, w100_93, w100_94, w100_97, w100_98, w100_101, w100_102, w100_105, w100_108, ks_0, kP, b4, c_hasGuide hC hg hw, c_hasClient hC he hw, nI_ne1, hj0, hj2, hsF, oI, ↓reduceIte, Option.toList_some, Option.toList_none, List.cons_append, List.nil_append, and_self]
          · rw [show afF σ c n g e = σ from if_pos hb]
            simp only [w180_0, w180_1, w180_2, w180_5, w180_8, w180_9, w180_10, w180_13, w180_16, w180_18, w180_19, w180_20, w180_21, w180_22, w180_25, w180_28, w180_31, w180_33, w180_34, w180_35, w180_38, w180_40, w180_41, w180_42, w180_45, w180_48, w180_50, w180_53, w180_54, w180_55, w180_56, w180_59, w180_61, w180_63, w180_65, w180_68, w180_69, w180_70, w180_71, w180_74, w180_76, w180_79, w180_80, w180_81, w180_84, w180_85, w180_86, w180_88, w180_91, w180_94, w180_95, w180_96, w180_97, w180_100, w180_101, w180_104, w180_106, w180_107, w180_108, w180_109, w180_112, ks_118, c_isGuide (x := nI g) hM hc hw ⟨g, hg, rfl⟩, c_isClient (x := nI e) hM hc hw ⟨e, he, rfl⟩, nI_ne1, c_in, hin, m2, kt_121, in_nI (show 18 < kl 121 by rw [kl_121]; omega) (by rw [kl_121]; omega), nI_clamp (show 18 < 2 ^ 31 by omega), hn 18 (by omega), c_has (show n 18 < 2 ^ 31 by omega) (show e < 32 by omega), hb, (by decide : nI 100000000 ≤ nI 100000000), (by decide : ¬ nI 100000000 < nI 100000000), ↓reduceIte, Option.toList_some, Option.toList_none, List.cons_append, List.nil_append, and_self]
        · have el : lwN c n g e = sbN c (c (55 + e)) (c (61 + e)) (andn (n (6 + g)) (n 19)) := if_neg hb
          rw [el] at hsF
          have eA : afF σ c n g e = aset σ (lay c (andn (n (6 + g)) (n 19)) (c (61 + e))) := if_neg hb
          cases hs : sbN c (c (55 + e)) (c (61 + e)) (andn (n (6 + g)) (n 19)) with
          | none =>
            rw [hs] at hsF hl
            have hf : nI 100000000 ≤ nI (lay c (andn (n (6 + g)) (n 19)) (c (61 + e)) (c (55 + e))) := (far_le (FAR_31 (lay_le _ _ _ _))).mpr (Nat.le_of_eq hl.symm)
            have hf' : ¬ nI (lay c (andn (n (6 + g)) (n 19)) (c (61 + e)) (c (55 + e))) < nI 100000000 := fun q => by
              have hl : lay c (andn (n (6 + g)) (n 19)) (c (61 + e)) (c (55 + e)) = FAR := hl
              have := (far_lt (FAR_31 (lay_le _ _ _ _))).mp q
              omega
            refine sp (-1) ?_ (afF σ c n g e) iA ?_
            · simp only [w100_0, w100_1, w100_4, w100_5, w100_8, w100_11, w100_12, w100_15, w100_16, w100_19, w100_22, w100_24, w100_25, w100_26, w100_29, w100_30, w100_31, w100_34, w100_36, w100_37, w100_38, w100_39, w100_40, w100_43, w100_45, w100_47, w100_48, w100_51, w100_52, w100_55, w100_57, w100_58, w100_59, w100_60, w100_63, w100_64, w100_65, w100_67, w100_70, w100_71, w100_72, w100_75, w100_76, w100_79, w100_82, w100_83, w100_86, w100_87, w100_90, w100_93, w100_94, w100_97, w100_98, w100_101, w100_102, w100_105, w100_108, ks_0, kP, b4, c_hasGuide hC hg hw, c_hasClient hC he hw, nI_ne1, hj0, hj2, hsF, oI, ↓reduceIte, Option.toList_some, Option.toList_none, List.cons_append, List.nil_append, and_self]
            · rw [eA]
              simp only [w180_0, w180_1, w180_2, w180_5, w180_8, w180_9, w180_10, w180_13, w180_16, w180_18, w180_19, w180_20, w180_21, w180_22, w180_25, w180_28, w180_31, w180_33, w180_34, w180_35, w180_38, w180_40, w180_41, w180_42, w180_45, w180_48, w180_50, w180_53, w180_54, w180_55, w180_56, w180_59, w180_61, w180_63, w180_65, w180_68, w180_69, w180_70, w180_71, w180_74, w180_76, w180_79, w180_80, w180_81, w180_84, w180_85, w180_86, w180_88, w180_91, w180_94, w180_95, w180_96, w180_97, w180_100, w180_101, w180_104, w180_106, w180_107, w180_108, w180_109, w180_112, ks_118, c_isGuide (x := nI g) hM hc hw ⟨g, hg, rfl⟩, c_isClient (x := nI e) hM hc hw ⟨e, he, rfl⟩, nI_ne1, c_in, hin, m2, kt_121, in_nI (show 18 < kl 121 by rw [kl_121]; omega) (by rw [kl_121]; omega), nI_clamp (show 18 < 2 ^ 31 by omega), hn 18 (by omega), c_has (show n 18 < 2 ^ 31 by omega) (show e < 32 by omega), hb, c_streets hM hc hn hw hg he g31, hf, hf', ↓reduceIte, Option.toList_some, Option.toList_none, List.cons_append, List.nil_append, and_self, Bool.false_eq_true]
          | some d =>
            rw [hs] at hsF hl
            have hl : lay c (andn (n (6 + g)) (n 19)) (c (61 + e)) (c (55 + e)) = d := hl
            have hd := sbN_lt hs
            have hf : ¬ nI 100000000 ≤ nI d := fun q => by
              have := (far_le (by omega)).mp q
              unfold FAR at this
              omega
            have hf' : nI d < nI 100000000 := (far_lt (by omega)).mpr (by unfold FAR; omega)
            have hm1 : ¬ nI d = -1 := fun q => nI_m1 (show d < 2 ^ 31 by omega) q.symm
            rcases (by omega : j = 0 ∨ j = 1 ∨ j = 2) with rfl | rfl | rfl
            · refine sp (nI d) ?_ (afF σ c n g e) iA ?_
              · simp only [w100_0, w100_1, w100_4, w100_5, w100_8, w100_11, w100_12, w100_15, w100_16, w100_19, w100_22, w100_24, w100_25, w100_26, w100_29, w100_30, w100_31, w100_34, w100_36, w100_37, w100_38, w100_39, w100_40, w100_43, w100_45, w100_47, w100_48, w100_51, w100_52, w100_55, w100_57, w100_58, w100_59, w100_60, w100_63, w100_64, w100_65, w100_67, w100_70, w100_71, w100_72, w100_75, w100_76, w100_79, w100_82, w100_83, w100_86, w100_87, w100_90, w100_93, w100_94, w100_97, w100_98, w100_101, w100_102, w100_105, w100_108, ks_0, kP, b4, c_hasGuide hC hg hw, c_hasClient hC he hw, nI_ne1, hj0, hj2, hsF, oI, hm1, ↓reduceIte, Option.toList_some, Option.toList_none, List.cons_append, List.nil_append, and_self]
              · rw [eA]
                simp only [w180_0, w180_1, w180_2, w180_5, w180_8, w180_9, w180_10, w180_13, w180_16, w180_18, w180_19, w180_20, w180_21, w180_22, w180_25, w180_28, w180_31, w180_33, w180_34, w180_35, w180_38, w180_40, w180_41, w180_42, w180_45, w180_48, w180_50, w180_53, w180_54, w180_55, w180_56, w180_59, w180_61, w180_63, w180_65, w180_68, w180_69, w180_70, w180_71, w180_74, w180_76, w180_79, w180_80, w180_81, w180_84, w180_85, w180_86, w180_88, w180_91, w180_94, w180_95, w180_96, w180_97, w180_100, w180_101, w180_104, w180_106, w180_107, w180_108, w180_109, w180_112, ks_118, c_isGuide (x := nI g) hM hc hw ⟨g, hg, rfl⟩, c_isClient (x := nI e) hM hc hw ⟨e, he, rfl⟩, nI_ne1, c_in, hin, m2, kt_121, in_nI (show 18 < kl 121 by rw [kl_121]; omega) (by rw [kl_121]; omega), nI_clamp (show 18 < 2 ^ 31 by omega), hn 18 (by omega), c_has (show n 18 < 2 ^ 31 by omega) (show e < 32 by omega), hb, c_streets hM hc hn hw hg he g31, hl, hf, hf', ↓reduceIte, Option.toList_some, Option.toList_none, List.cons_append, List.nil_append, and_self, Bool.false_eq_true]
            · refine sp (nI (csN c (n 20) g d)) ?_ (afF σ c n g e) iA ?_
              · simp only [w100_0, w100_1, w100_4, w100_5, w100_8, w100_11, w100_12, w100_15, w100_16, w100_19, w100_22, w100_24, w100_25, w100_26, w100_29, w100_30, w100_31, w100_34, w100_36, w100_37, w100_38, w100_39, w100_40, w100_43, w100_45, w100_47, w100_48, w100_51, w100_52, w100_55, w100_57, w100_58, w100_59, w100_60, w100_63, w100_64, w100_65, w100_67, w100_70, w100_71, w100_72, w100_75, w100_76, w100_79, w100_82, w100_83, w100_86, w100_87, w100_90, w100_93, w100_94, w100_97, w100_98, w100_101, w100_102, w100_105, w100_108, ks_0, kP, b4, c_hasGuide hC hg hw, c_hasClient hC he hw, nI_ne1, hj0, hj2, hsF, oI, hm1, c_priceOf hB hC hN hw hwn hg (show d ≤ 8 by omega), ↓reduceIte, Option.toList_some, Option.toList_none, List.cons_append, List.nil_append, and_self]
              · rw [eA]
                simp only [w180_0, w180_1, w180_2, w180_5, w180_8, w180_9, w180_10, w180_13, w180_16, w180_18, w180_19, w180_20, w180_21, w180_22, w180_25, w180_28, w180_31, w180_33, w180_34, w180_35, w180_38, w180_40, w180_41, w180_42, w180_45, w180_48, w180_50, w180_53, w180_54, w180_55, w180_56, w180_59, w180_61, w180_63, w180_65, w180_68, w180_69, w180_70, w180_71, w180_74, w180_76, w180_79, w180_80, w180_81, w180_84, w180_85, w180_86, w180_88, w180_91, w180_94, w180_95, w180_96, w180_97, w180_100, w180_101, w180_104, w180_106, w180_107, w180_108, w180_109, w180_112, ks_118, c_isGuide (x := nI g) hM hc hw ⟨g, hg, rfl⟩, c_isClient (x := nI e) hM hc hw ⟨e, he, rfl⟩, nI_ne1, c_in, hin, m2, kt_121, in_nI (show 18 < kl 121 by rw [kl_121]; omega) (by rw [kl_121]; omega), nI_clamp (show 18 < 2 ^ 31 by omega), hn 18 (by omega), c_has (show n 18 < 2 ^ 31 by omega) (show e < 32 by omega), hb, c_streets hM hc hn hw hg he g31, hl, hf, hf', c_cost hM2 hc2 hn2 hw (show n 20 < 2 ^ 31 by omega) hg (show d ≤ 8 by omega), ↓reduceIte, Option.toList_some, Option.toList_none, List.cons_append, List.nil_append, and_self, Bool.false_eq_true]
            · refine sp (oI (ftN c (c (55 + e)) (c (61 + e)) (andn (n (6 + g)) (n 19)))) ?_ (afF σ c n g e) iA ?_
              · simp only [w100_0, w100_1, w100_4, w100_5, w100_8, w100_11, w100_12, w100_15, w100_16, w100_19, w100_22, w100_24, w100_25, w100_26, w100_29, w100_30, w100_31, w100_34, w100_36, w100_37, w100_38, w100_39, w100_40, w100_43, w100_45, w100_47, w100_48, w100_51, w100_52, w100_55, w100_57, w100_58, w100_59, w100_60, w100_63, w100_64, w100_65, w100_67, w100_70, w100_71, w100_72, w100_75, w100_76, w100_79, w100_82, w100_83, w100_86, w100_87, w100_90, w100_93, w100_94, w100_97, w100_98, w100_101, w100_102, w100_105, w100_108, ks_0, ks_24, kP, b4, b6, r7, r8, c_hasGuide hC hg hw, c_hasClient hC he hw, nI_ne1, hj0, hj2, hsF, oI, hm1, (by decide : ¬ nI 2 = nI 0), (by decide : ¬ nI 2 = nI 1), c_at t7 (show e < kl (P + 7) by rw [l7]; omega) (by rw [l7]; omega), (f5 e he).1, c_at t8 (show e < kl (P + 8) by rw [l8]; omega) (by rw [l8]; omega), (f5 e he).2, c_openTo hN w2 hg, c_firstTurn hC hw x1 x2 ho, ↓reduceIte, Option.toList_some, Option.toList_none, List.cons_append, List.nil_append, and_self]
              · rw [eA]
                simp only [w180_0, w180_1, w180_2, w180_5, w180_8, w180_9, w180_10, w180_13, w180_16, w180_18, w180_19, w180_20, w180_21, w180_22, w180_25, w180_28, w180_31, w180_33, w180_34, w180_35, w180_38, w180_40, w180_41, w180_42, w180_45, w180_48, w180_50, w180_53, w180_54, w180_55, w180_56, w180_59, w180_61, w180_63, w180_65, w180_68, w180_69, w180_70, w180_71, w180_74, w180_76, w180_79, w180_80, w180_81, w180_84, w180_85, w180_86, w180_88, w180_91, w180_94, w180_95, w180_96, w180_97, w180_100, w180_101, w180_104, w180_106, w180_107, w180_108, w180_109, w180_112, ks_118, c_isGuide (x := nI g) hM hc hw ⟨g, hg, rfl⟩, c_isClient (x := nI e) hM hc hw ⟨e, he, rfl⟩, nI_ne1, c_in, hin, m2, kt_121, in_nI (show 18 < kl 121 by rw [kl_121]; omega) (by rw [kl_121]; omega), nI_clamp (show 18 < 2 ^ 31 by omega), hn 18 (by omega), c_has (show n 18 < 2 ^ 31 by omega) (show e < 32 by omega), hb, c_streets hM hc hn hw hg he g31, hl, hf, hf', (by decide : ¬ nI 2 = nI 0), (by decide : ¬ nI 2 = nI 1), c_open hM2 hn2 (show g < 6 by omega), m02, kt_119, nI_add, in_nI (show 55 + e < kl 119 by rw [kl_119]; omega) (by rw [kl_119]; omega), nI_clamp (show 55 + e < 2 ^ 31 by omega), hc2 (55 + e) (by omega), c_mFirst hM hc hw ho x1 x2, ↓reduceIte, Option.toList_some, Option.toList_none, List.cons_append, List.nil_append, and_self, Bool.false_eq_true]
      · have hin : ¬ (lN 0 ≤ z.toInt64 ∧ z.toInt64 ≤ lN 2) := fun q => by
          obtain ⟨j, -, h4, rfl⟩ := (in_ok2 (x := z) (show 2 < 2 ^ 30 by omega) (show 0 < 2 ^ 30 by omega)).mp q
          exact hz2 ⟨j, by omega, rfl⟩
        refine sp (-1000000002) ?_ σ hI ?_
        · by_cases h0 : z < nI 0
          · simp only [w100_0, w100_1, w100_4, w100_5, w100_8, w100_11, w100_12, w100_15, w100_16, w100_19, w100_22, w100_24, w100_25, w100_26, w100_29, w100_30, w100_31, w100_34, w100_36, w100_37, w100_38, w100_39, w100_40, w100_43, w100_45, w100_47, w100_48, w100_51, w100_52, w100_55, w100_57, w100_58, w100_59, w100_60, w100_63, w100_64, w100_65, w100_67, w100_70, w100_71, w100_72, w100_75, w100_76, w100_79, w100_82, w100_83, w100_86, w100_87, w100_90, w100_93, w100_94, w100_97, w100_98, w100_101, w100_102, w100_105, w100_108, ks_0, kP, b4, c_hasGuide hC hg hw, c_hasClient hC he hw, nI_ne1, h0, ↓reduceIte, Option.toList_some, Option.toList_none, List.cons_append, List.nil_append, and_self]
          · have h2 : ¬ z ≤ nI 2 := fun q => by
              have h3 := hz.resolve_left h0
              rw [Int32.le_iff_toInt_le, nI_toInt (by omega)] at h3 q
              omega
            simp only [w100_0, w100_1, w100_4, w100_5, w100_8, w100_11, w100_12, w100_15, w100_16, w100_19, w100_22, w100_24, w100_25, w100_26, w100_29, w100_30, w100_31, w100_34, w100_36, w100_37, w100_38, w100_39, w100_40, w100_43, w100_45, w100_47, w100_48, w100_51, w100_52, w100_55, w100_57, w100_58, w100_59, w100_60, w100_63, w100_64, w100_65, w100_67, w100_70, w100_71, w100_72, w100_75, w100_76, w100_79, w100_82, w100_83, w100_86, w100_87, w100_90, w100_93, w100_94, w100_97, w100_98, w100_101, w100_102, w100_105, w100_108, ks_0, kP, b4, c_hasGuide hC hg hw, c_hasClient hC he hw, nI_ne1, h0, h2, ↓reduceIte, Option.toList_some, Option.toList_none, List.cons_append, List.nil_append, and_self]
        · simp only [w180_0, w180_1, w180_2, w180_5, w180_8, w180_9, w180_10, w180_13, w180_16, w180_18, w180_19, w180_20, w180_21, w180_22, w180_25, w180_28, w180_31, w180_33, w180_34, w180_35, w180_38, w180_40, w180_41, w180_42, w180_45, w180_48, w180_50, w180_53, w180_54, w180_55, w180_56, w180_59, w180_61, w180_63, w180_65, w180_68, w180_69, w180_70, w180_71, w180_74, w180_76, w180_79, w180_80, w180_81, w180_84, w180_85, w180_86, w180_88, w180_91, w180_94, w180_95, w180_96, w180_97, w180_100, w180_101, w180_104, w180_106, w180_107, w180_108, w180_109, w180_112, ks_118, c_isGuide (x := nI g) hM hc hw ⟨g, hg, rfl⟩, c_isClient (x := nI e) hM hc hw ⟨e, he, rfl⟩, nI_ne1, c_in, hin, ↓reduceIte, Option.toList_some, Option.toList_none, List.cons_append, List.nil_append, and_self]
    · refine pr_of (v := -1000000001) (σ1 := σ) (σ2 := σ) (fun Q => Cq_of (Er_of ?_)) (fun Q => Cq_of (Er_of ?_)) hI
      · show Wq none 100 0 [some (.ref (0 : Nat)), some (.int (nI g)), some (.int y), some (.int z), none] [] σ _
        simp only [w100_0, w100_1, w100_4, w100_5, w100_8, w100_11, w100_12, w100_15, w100_16, w100_19, w100_22, w100_24, w100_25, w100_26, w100_29, w100_30, w100_31, w100_34, w100_36, w100_37, w100_38, w100_39, w100_40, w100_43, w100_45, w100_47, w100_48, w100_51, w100_52, w100_55, w100_57, w100_58, w100_59, w100_60, w100_63, w100_64, w100_65, w100_67, w100_70, w100_71, w100_72, w100_75, w100_76, w100_79, w100_82, w100_83, w100_86, w100_87, w100_90, w100_93, w100_94, w100_97, w100_98, w100_101, w100_102, w100_105, w100_108, ks_0, kP, b4, c_hasGuide hC hg hw, c_hasClient_f hC hy, nI_ne1, ↓reduceIte, Option.toList_some, Option.toList_none, List.cons_append, List.nil_append, and_self]
      · show Wq none 180 0 [some (.ref (118 : Nat)), some (.int (nI g)), some (.int y), some (.int z), none] [] σ _
        simp only [w180_0, w180_1, w180_2, w180_5, w180_8, w180_9, w180_10, w180_13, w180_16, w180_18, w180_19, w180_20, w180_21, w180_22, w180_25, w180_28, w180_31, w180_33, w180_34, w180_35, w180_38, w180_40, w180_41, w180_42, w180_45, w180_48, w180_50, w180_53, w180_54, w180_55, w180_56, w180_59, w180_61, w180_63, w180_65, w180_68, w180_69, w180_70, w180_71, w180_74, w180_76, w180_79, w180_80, w180_81, w180_84, w180_85, w180_86, w180_88, w180_91, w180_94, w180_95, w180_96, w180_97, w180_100, w180_101, w180_104, w180_106, w180_107, w180_108, w180_109, w180_112, ks_118, c_isGuide (x := nI g) hM hc hw ⟨g, hg, rfl⟩, c_isClient_f hM hc hw hy2, nI_ne1, ↓reduceIte, Option.toList_some, Option.toList_none, List.cons_append, List.nil_append, and_self]
  · refine pr_of (v := -1000000001) (σ1 := σ) (σ2 := σ) (fun Q => Cq_of (Er_of ?_)) (fun Q => Cq_of (Er_of ?_)) hI
    · show Wq none 100 0 [some (.ref (0 : Nat)), some (.int x), some (.int y), some (.int z), none] [] σ _
      simp only [w100_0, w100_1, w100_4, w100_5, w100_8, w100_11, w100_12, w100_15, w100_16, w100_19, w100_22, w100_24, w100_25, w100_26, w100_29, w100_30, w100_31, w100_34, w100_36, w100_37, w100_38, w100_39, w100_40, w100_43, w100_45, w100_47, w100_48, w100_51, w100_52, w100_55, w100_57, w100_58, w100_59, w100_60, w100_63, w100_64, w100_65, w100_67, w100_70, w100_71, w100_72, w100_75, w100_76, w100_79, w100_82, w100_83, w100_86, w100_87, w100_90, w100_93, w100_94, w100_97, w100_98, w100_101, w100_102, w100_105, w100_108, ks_0, kP, b4, c_hasGuide_f hC hx, nI_ne1, ↓reduceIte, Option.toList_some, Option.toList_none, List.cons_append, List.nil_append, and_self]
    · show Wq none 180 0 [some (.ref (118 : Nat)), some (.int x), some (.int y), some (.int z), none] [] σ _
      simp only [w180_0, w180_1, w180_2, w180_5, w180_8, w180_9, w180_10, w180_13, w180_16, w180_18, w180_19, w180_20, w180_21, w180_22, w180_25, w180_28, w180_31, w180_33, w180_34, w180_35, w180_38, w180_40, w180_41, w180_42, w180_45, w180_48, w180_50, w180_53, w180_54, w180_55, w180_56, w180_59, w180_61, w180_63, w180_65, w180_68, w180_69, w180_70, w180_71, w180_74, w180_76, w180_79, w180_80, w180_81, w180_84, w180_85, w180_86, w180_88, w180_91, w180_94, w180_95, w180_96, w180_97, w180_100, w180_101, w180_104, w180_106, w180_107, w180_108, w180_109, w180_112, ks_118, c_isGuide_f hM hc hw hx2, nI_ne1, ↓reduceIte, Option.toList_some, Option.toList_none, List.cons_append, List.nil_append, and_self]
end WY
