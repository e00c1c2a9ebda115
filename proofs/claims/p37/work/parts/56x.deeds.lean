section DEX
variable {σ : dm_G} {c n : Nat → Nat} {k : Nat} {p : Nat → Nat → Nat} {q : Nat} {im : Nat → Nat → Nat} {h : Nat} {hs ht : Nat → Nat} {m : Nat} {bg bx : Nat → Nat} {L : Nat} {tx : Nat → Nat} {f : Int32} {s : Nat}
theorem q_learn_h {g e : Nat} (hK : KA c n k p q im h hs ht m bg bx L tx f s σ) (hg : g < c 2) (he : e < c 0) (hb : (n (6 + g)).testBit e = true) : Er 90 [(.ref (0 : Nat)), .int (nI g), .int (nI e)] σ (some (.int (-1000000003))) σ := by
  obtain ⟨hWA, hCA⟩ := id hK; obtain ⟨hw, hwn, ⟨hk16, hkp⟩, ⟨hq4, hqi⟩, ⟨hh9, hhs, hht⟩, ⟨hm15, hmb⟩, ⟨hL240, htx⟩, hs31⟩ := id hWA; obtain ⟨⟨P, D, hPD, hB, hC, hD⟩, hN, hPa, hIm, hHe, hBk, hTx, hF, hS, hSc⟩ := id hCA
  obtain ⟨b0, b3, b4, b5, b6, b7, b8, b9, b10, b11, b12⟩ := id hB
  obtain ⟨w0, w2, w3, w4, w5, w6, w7, w8, w9⟩ := id hw
  obtain ⟨⟨kP, ⟨t1, l1⟩, ⟨t2, l2⟩, ⟨t3, l3⟩, ⟨t4, l4⟩, ⟨t5, l5⟩, ⟨t6, l6⟩, ⟨t7, l7⟩, ⟨t8, l8⟩, ⟨t9, l9⟩⟩, ⟨r1, r2, r3, r4, r5, r6, r7, r8, r9⟩, ⟨i0, i2, i3, i4⟩, f1, f2, f3, f4, f5, f6, f7⟩ := id hC
  obtain ⟨⟨kS, ⟨u1, v1⟩, ⟨u2, v2⟩, ⟨u3, v3⟩⟩, ⟨q0, q1, q2⟩, ⟨j3, j4, j5, j6⟩, jf⟩ := id hN
  have p8 : 2 ^ c 0 ≤ 2 ^ 8 := Nat.pow_le_pow_right (by decide) hw.1
  have g31 : n (6 + g) < 2 ^ 31 := by have := (hwn.1 g hg).2.1; omega
  have ca := fun Q => c_at (σ := σ) (Q := Q) u2 (show g < kl (24 + 2) by rw [v2]; omega) (by rw [v2]; omega)
  rw [(jf g hg).2.1] at ca
  refine Er_of ?_
  show Wq none 90 0 [some (.ref (0 : Nat)), some (.int (nI g)), some (.int (nI e)), none] [] σ _
  simp only [w90_0, w90_1, w90_4, w90_5, w90_8, w90_11, w90_12, w90_15, w90_16, w90_19, w90_22, w90_24, w90_25, w90_26, w90_29, w90_32, w90_33, w90_36, w90_37, w90_38, w90_39, w90_40, w90_41, w90_42, w90_45, w90_47, w90_48, w90_49, w90_52, w90_53, w90_56, w90_59, w90_60, w90_63, w90_66, w90_67, w90_68, w90_69, w90_70, w90_71, w90_72, w90_75, w90_76, w90_77, w90_78, w90_79, w90_80, ks_0, ks_24, kP, b4, b6, q1, c_hasGuide hC hg hw, c_hasCrossing hC he hw, nI_ne1, ca, nI_bit g31 (show e < 32 by omega), hb, ↓reduceIte, Option.toList_some, Option.toList_none, List.cons_append, List.nil_append, and_self]
theorem q_learn {g e : Nat} (hK : KA c n k p q im h hs ht m bg bx L tx f s σ) (hg : g < c 2) (he : e < c 0) (hb : ¬ (n (6 + g)).testBit e = true) : ∃ τ, Er 90 [(.ref (0 : Nat)), .int (nI g), .int (nI e)] σ (some (.int (nI (n (6 + g) ||| 1 <<< e)))) τ ∧ KA c (up1 n (6 + g) (n (6 + g) ||| 1 <<< e)) (min (k + 1) 16) (pushP n p) q im h hs ht m bg bx L tx f s τ ∧ FZ σ τ := by
  obtain ⟨hWA, hCA⟩ := id hK; obtain ⟨hw, hwn, ⟨hk16, hkp⟩, ⟨hq4, hqi⟩, ⟨hh9, hhs, hht⟩, ⟨hm15, hmb⟩, ⟨hL240, htx⟩, hs31⟩ := id hWA; obtain ⟨⟨P, D, hPD, hB, hC, hD⟩, hN, hPa, hIm, hHe, hBk, hTx, hF, hS, hSc⟩ := id hCA
  obtain ⟨b0, b3, b4, b5, b6, b7, b8, b9, b10, b11, b12⟩ := id hB
  obtain ⟨w0, w2, w3, w4, w5, w6, w7, w8, w9⟩ := id hw
  obtain ⟨⟨kP, ⟨t1, l1⟩, ⟨t2, l2⟩, ⟨t3, l3⟩, ⟨t4, l4⟩, ⟨t5, l5⟩, ⟨t6, l6⟩, ⟨t7, l7⟩, ⟨t8, l8⟩, ⟨t9, l9⟩⟩, ⟨r1, r2, r3, r4, r5, r6, r7, r8, r9⟩, ⟨i0, i2, i3, i4⟩, f1, f2, f3, f4, f5, f6, f7⟩ := id hC
  obtain ⟨⟨kS, ⟨u1, v1⟩, ⟨u2, v2⟩, ⟨u3, v3⟩⟩, ⟨q0, q1, q2⟩, ⟨j3, j4, j5, j6⟩, jf⟩ := id hN
  have p8 : 2 ^ c 0 ≤ 2 ^ 8 := Nat.pow_le_pow_right (by decide) hw.1
  have g31 : n (6 + g) < 2 ^ 31 := by have := (hwn.1 g hg).2.1; omega
  have ca := fun Q => c_at (σ := σ) (Q := Q) u2 (show g < kl (24 + 2) by rw [v2]; omega) (by rw [v2]; omega)
  rw [(jf g hg).2.1] at ca
  obtain ⟨τ1, e1, hCA1, k1⟩ := c_keepA hWA hCA
  have hCA2 := CA_u (g := g) (i := 1) (v := n (6 + g) ||| 1 <<< e) w2 (by omega) (by omega) hCA1
  have lo : ∀ a b, 118 ≤ a → dm_up τ1 26 g (.int (nI (n (6 + g) ||| 1 <<< e))) a b = σ a b := fun a b z => (up_hi (by omega) a b z).trans (k1 a b z)
  have W5 := WA_now (WA_push hWA) (WN_g (i := 1) (g := g) (v := n (6 + g) ||| 1 <<< e) hwn hw hg (by omega) (by omega) (fun _ => or_lt (hwn.1 g hg).2.1 (one_shl he)) (by omega))
  obtain ⟨⟨P', D', -, hB1, -⟩, hN1, -⟩ := id hCA1
  have z1 : τ1 0 5 = (.ref (24 : Nat)) := hB1.2.2.2.2.1
  have z2 : τ1 24 1 = .ref (24 + 2) := hN1.2.1.2.1
  refine ⟨_, Er_of (σ' := dm_up τ1 26 g (.int (nI (n (6 + g) ||| 1 <<< e)))) ?_, ⟨W5, hCA2⟩, lo⟩
  show Wq none 90 0 [some (.ref (0 : Nat)), some (.int (nI g)), some (.int (nI e)), none] [] σ _
  simp only [w90_0, w90_1, w90_4, w90_5, w90_8, w90_11, w90_12, w90_15, w90_16, w90_19, w90_22, w90_24, w90_25, w90_26, w90_29, w90_32, w90_33, w90_36, w90_37, w90_38, w90_39, w90_40, w90_41, w90_42, w90_45, w90_47, w90_48, w90_49, w90_52, w90_53, w90_56, w90_59, w90_60, w90_63, w90_66, w90_67, w90_68, w90_69, w90_70, w90_71, w90_72, w90_75, w90_76, w90_77, w90_78, w90_79, w90_80, ks_0, ks_24, ks_28, kP, b4, b6, b7, q1, c_hasGuide hC hg hw, c_hasCrossing hC he hw, nI_ne1, ca, nI_bit g31 (show e < 32 by omega), hb, e1, z1, z2, nI_shl 1 (show e < 32 by omega), nI_or, c_put u2 (show g < kl (24 + 2) by rw [v2]; omega) (by rw [v2]; omega), ↓reduceIte, Option.toList_some, Option.toList_none, List.cons_append, List.nil_append, and_self, Bool.false_eq_true]
theorem q_learn_f {y : Int32} (hK : KA c n k p q im h hs ht m bg bx L tx f s σ) (h0 : c 2 = 0) : Er 90 [(.ref (0 : Nat)), .int (nI 0), .int y] σ (some (.int (-1000000001))) σ := by
  obtain ⟨hWA, hCA⟩ := id hK; obtain ⟨hw, hwn, ⟨hk16, hkp⟩, ⟨hq4, hqi⟩, ⟨hh9, hhs, hht⟩, ⟨hm15, hmb⟩, ⟨hL240, htx⟩, hs31⟩ := id hWA; obtain ⟨⟨P, D, hPD, hB, hC, hD⟩, hN, hPa, hIm, hHe, hBk, hTx, hF, hS, hSc⟩ := id hCA
  obtain ⟨b0, b3, b4, b5, b6, b7, b8, b9, b10, b11, b12⟩ := id hB
  have kP := hC.1.1
  refine Er_of ?_
  show Wq none 90 0 [some (.ref (0 : Nat)), some (.int (nI 0)), some (.int y), none] [] σ _
  simp only [w90_0, w90_1, w90_4, w90_5, w90_8, w90_11, w90_12, w90_15, w90_16, w90_19, w90_22, w90_24, w90_25, w90_26, w90_29, w90_32, w90_33, w90_36, w90_37, w90_38, w90_39, w90_40, w90_41, w90_42, w90_45, w90_47, w90_48, w90_49, w90_52, w90_53, w90_56, w90_59, w90_60, w90_63, w90_66, w90_67, w90_68, w90_69, w90_70, w90_71, w90_72, w90_75, w90_76, w90_77, w90_78, w90_79, w90_80, ks_0, kP, b4, c_hasGuide_f hC (show nI 0 < 0 ∨ nI (c 2) ≤ nI 0 by rw [h0]; exact Or.inr (nI_le (Nat.zero_le _) (by omega))), ↓reduceIte, Option.toList_some, Option.toList_none, List.cons_append, List.nil_append, and_self]
theorem q_forget {g : Nat} (hK : KA c n k p q im h hs ht m bg bx L tx f s σ) (hg : g < c 2) : ∃ τ, Er 91 [(.ref (0 : Nat)), .int (nI g)] σ (some (.int (nI (n (12 + g))))) τ ∧ KA c (up1 n (12 + g) 0) (min (k + 1) 16) (pushP n p) q im h hs ht m bg bx L tx f s τ ∧ FZ σ τ := by
  obtain ⟨hWA, hCA⟩ := id hK; obtain ⟨hw, hwn, ⟨hk16, hkp⟩, ⟨hq4, hqi⟩, ⟨hh9, hhs, hht⟩, ⟨hm15, hmb⟩, ⟨hL240, htx⟩, hs31⟩ := id hWA; obtain ⟨⟨P, D, hPD, hB, hC, hD⟩, hN, hPa, hIm, hHe, hBk, hTx, hF, hS, hSc⟩ := id hCA
  obtain ⟨b0, b3, b4, b5, b6, b7, b8, b9, b10, b11, b12⟩ := id hB
  obtain ⟨w0, w2, w3, w4, w5, w6, w7, w8, w9⟩ := id hw
  obtain ⟨⟨kP, ⟨t1, l1⟩, ⟨t2, l2⟩, ⟨t3, l3⟩, ⟨t4, l4⟩, ⟨t5, l5⟩, ⟨t6, l6⟩, ⟨t7, l7⟩, ⟨t8, l8⟩, ⟨t9, l9⟩⟩, ⟨r1, r2, r3, r4, r5, r6, r7, r8, r9⟩, ⟨i0, i2, i3, i4⟩, f1, f2, f3, f4, f5, f6, f7⟩ := id hC
  obtain ⟨⟨kS, ⟨u1, v1⟩, ⟨u2, v2⟩, ⟨u3, v3⟩⟩, ⟨q0, q1, q2⟩, ⟨j3, j4, j5, j6⟩, jf⟩ := id hN
  obtain ⟨τ1, e1, hCA1, k1⟩ := c_keepA hWA hCA
  have hCA2 := CA_u (g := g) (i := 2) (v := 0) w2 (by omega) (by omega) hCA1
  have lo : ∀ a b, 118 ≤ a → dm_up τ1 27 g (.int (nI 0)) a b = σ a b := fun a b z => (up_hi (by omega) a b z).trans (k1 a b z)
  have W5 := WA_now (WA_push hWA) (WN_g (i := 2) (g := g) (v := 0) hwn hw hg (by omega) (by omega) (by omega) (fun _ => Nat.two_pow_pos _))
  obtain ⟨⟨P', D', -, hB1, -⟩, hN1, -⟩ := id hCA1
  have z1 : τ1 0 5 = (.ref (24 : Nat)) := hB1.2.2.2.2.1
  have z2 : τ1 24 2 = .ref (24 + 3) := hN1.2.1.2.2
  have ca := fun Q => c_at (σ := τ1) (Q := Q) u3 (show g < kl (24 + 3) by rw [v3]; omega) (by rw [v3]; omega)
  rw [(hN1.2.2.2 g hg).2.2] at ca
  refine ⟨_, Er_of (σ' := dm_up τ1 27 g (.int (nI 0))) ?_, ⟨W5, hCA2⟩, lo⟩
  show Wq none 91 0 [some (.ref (0 : Nat)), some (.int (nI g)), none] [] σ _
  simp only [w91_0, w91_1, w91_4, w91_5, w91_8, w91_11, w91_13, w91_14, w91_15, w91_18, w91_19, w91_22, w91_25, w91_26, w91_29, w91_32, w91_33, w91_36, w91_37, w91_38, w91_41, w91_44, w91_45, w91_46, w91_49, w91_50, ks_0, ks_24, ks_28, kP, b4, b6, b7, c_hasGuide hC hg hw, nI_ne1, e1, z1, z2, ca, c_put u3 (show g < kl (24 + 3) by rw [v3]; omega) (by rw [v3]; omega), ↓reduceIte, Option.toList_some, Option.toList_none, List.cons_append, List.nil_append, and_self]
theorem q_forget_f (hK : KA c n k p q im h hs ht m bg bx L tx f s σ) (h0 : c 2 = 0) : Er 91 [(.ref (0 : Nat)), .int (nI 0)] σ (some (.int (-1000000001))) σ := by
  obtain ⟨hWA, hCA⟩ := id hK; obtain ⟨hw, hwn, ⟨hk16, hkp⟩, ⟨hq4, hqi⟩, ⟨hh9, hhs, hht⟩, ⟨hm15, hmb⟩, ⟨hL240, htx⟩, hs31⟩ := id hWA; obtain ⟨⟨P, D, hPD, hB, hC, hD⟩, hN, hPa, hIm, hHe, hBk, hTx, hF, hS, hSc⟩ := id hCA
  obtain ⟨b0, b3, b4, b5, b6, b7, b8, b9, b10, b11, b12⟩ := id hB
  have kP := hC.1.1
  refine Er_of ?_
  show Wq none 91 0 [some (.ref (0 : Nat)), some (.int (nI 0)), none] [] σ _
  simp only [w91_0, w91_1, w91_4, w91_5, w91_8, w91_11, w91_13, w91_14, w91_15, w91_18, w91_19, w91_22, w91_25, w91_26, w91_29, w91_32, w91_33, w91_36, w91_37, w91_38, w91_41, w91_44, w91_45, w91_46, w91_49, w91_50, ks_0, kP, b4, c_hasGuide_f hC (show nI 0 < 0 ∨ nI (c 2) ≤ nI 0 by rw [h0]; exact Or.inr (nI_le (Nat.zero_le _) (by omega))), ↓reduceIte, Option.toList_some, Option.toList_none, List.cons_append, List.nil_append, and_self]
end DEX
