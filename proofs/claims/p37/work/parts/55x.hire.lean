section HRX
variable {σ : dm_G} {c n : Nat → Nat} {k : Nat} {p : Nat → Nat → Nat} {q : Nat} {im : Nat → Nat → Nat} {h : Nat} {hs ht : Nat → Nat} {m : Nat} {bg bx : Nat → Nat} {L : Nat} {tx : Nat → Nat} {f : Int32} {s : Nat}
theorem q_hire {g e d : Nat} (hK : KA c n k p q im h hs ht m bg bx L tx f s σ) (hg : g < c 2) (he : e < c 3) (hl : lwN c n g e = some d) : ∃ τ, Er 87 [(.ref (0 : Nat)), .int (nI g), .int (nI e)] σ (some (.int (nI (csN c (n 20) g d)))) τ ∧ KA c (hiN c n g e (csN c (n 20) g d)) (min (k + 1) 16) (pushP n p) q im h hs ht m bg bx L tx f s τ ∧ FZ σ τ := by
  obtain ⟨hWA, hCA⟩ := id hK; obtain ⟨hw, hwn, ⟨hk16, hkp⟩, ⟨hq4, hqi⟩, ⟨hh9, hhs, hht⟩, ⟨hm15, hmb⟩, ⟨hL240, htx⟩, hs31⟩ := id hWA; obtain ⟨⟨P, D, hPD, hB, hC, hD⟩, hN, hPa, hIm, hHe, hBk, hTx, hF, hS, hSc⟩ := id hCA
  obtain ⟨b0, b3, b4, b5, b6, b7, b8, b9, b10, b11, b12⟩ := id hB
  obtain ⟨w0, w2, w3, w4, w5, w6, w7, w8, w9⟩ := id hw
  obtain ⟨⟨kP, ⟨t1, l1⟩, ⟨t2, l2⟩, ⟨t3, l3⟩, ⟨t4, l4⟩, ⟨t5, l5⟩, ⟨t6, l6⟩, ⟨t7, l7⟩, ⟨t8, l8⟩, ⟨t9, l9⟩⟩, ⟨r1, r2, r3, r4, r5, r6, r7, r8, r9⟩, ⟨i0, i2, i3, i4⟩, f1, f2, f3, f4, f5, f6, f7⟩ := id hC
  obtain ⟨⟨kS, ⟨u1, v1⟩, ⟨u2, v2⟩, ⟨u3, v3⟩⟩, ⟨q0, q1, q2⟩, ⟨j3, j4, j5, j6⟩, jf⟩ := id hN
  have hsF := fun Q => c_streetsFor (Q := Q) hB hC hN hw hwn hg he
  rw [hl] at hsF
  have hd := lwN_lt hl
  have hm1 : ¬ nI d = -1 := fun q => nI_m1 (show d < 2 ^ 31 by omega) q.symm
  obtain ⟨τ1, e1, hCA1, k1⟩ := c_keepA hWA hCA
  obtain ⟨τ2, e2, hCA2, k2⟩ := c_leadA (d := d) (WA_push hWA) hCA1 hg he (by omega)
  refine ⟨τ2, Er_of ?_, ⟨WA_now (WA_push hWA) (WN_hi hw hwn hg he), hCA2⟩, fun a b z => (k2 a b z).trans (k1 a b z)⟩
  show Wq none 87 0 [some (.ref (0 : Nat)), some (.int (nI g)), some (.int (nI e)), none] [] σ _
  simp only [w87_0, w87_1, w87_4, w87_5, w87_8, w87_11, w87_12, w87_15, w87_16, w87_19, w87_22, w87_24, w87_25, w87_26, w87_27, w87_28, w87_31, w87_32, w87_33, w87_34, w87_37, w87_39, w87_40, w87_41, w87_44, w87_45, w87_48, w87_51, w87_52, w87_53, w87_54, w87_55, w87_58, ks_0, ks_28, kP, b4, b6, b7, c_hasGuide hC hg hw, c_hasClient hC he hw, nI_ne1, hsF, oI, hm1, e1, e2, ↓reduceIte, Option.toList_some, Option.toList_none, List.cons_append, List.nil_append, and_self]
theorem q_hire_n {g e : Nat} (hK : KA c n k p q im h hs ht m bg bx L tx f s σ) (hg : g < c 2) (he : e < c 3) (hl : lwN c n g e = none) : Er 87 [(.ref (0 : Nat)), .int (nI g), .int (nI e)] σ (some (.int (-1000000003))) σ := by
  obtain ⟨hWA, hCA⟩ := id hK; obtain ⟨hw, hwn, ⟨hk16, hkp⟩, ⟨hq4, hqi⟩, ⟨hh9, hhs, hht⟩, ⟨hm15, hmb⟩, ⟨hL240, htx⟩, hs31⟩ := id hWA; obtain ⟨⟨P, D, hPD, hB, hC, hD⟩, hN, hPa, hIm, hHe, hBk, hTx, hF, hS, hSc⟩ := id hCA
  obtain ⟨b0, b3, b4, b5, b6, b7, b8, b9, b10, b11, b12⟩ := id hB
  obtain ⟨w0, w2, w3, w4, w5, w6, w7, w8, w9⟩ := id hw
  obtain ⟨⟨kP, ⟨t1, l1⟩, ⟨t2, l2⟩, ⟨t3, l3⟩, ⟨t4, l4⟩, ⟨t5, l5⟩, ⟨t6, l6⟩, ⟨t7, l7⟩, ⟨t8, l8⟩, ⟨t9, l9⟩⟩, ⟨r1, r2, r3, r4, r5, r6, r7, r8, r9⟩, ⟨i0, i2, i3, i4⟩, f1, f2, f3, f4, f5, f6, f7⟩ := id hC
  obtain ⟨⟨kS, ⟨u1, v1⟩, ⟨u2, v2⟩, ⟨u3, v3⟩⟩, ⟨q0, q1, q2⟩, ⟨j3, j4, j5, j6⟩, jf⟩ := id hN
  have hsF := fun Q => c_streetsFor (Q := Q) hB hC hN hw hwn hg he
  rw [hl] at hsF
  refine Er_of ?_
  show Wq none 87 0 [some (.ref (0 : Nat)), some (.int (nI g)), some (.int (nI e)), none] [] σ _
  simp only [w87_0, w87_1, w87_4, w87_5, w87_8, w87_11, w87_12, w87_15, w87_16, w87_19, w87_22, w87_24, w87_25, w87_26, w87_27, w87_28, w87_31, w87_32, w87_33, w87_34, w87_37, w87_39, w87_40, w87_41, w87_44, w87_45, w87_48, w87_51, w87_52, w87_53, w87_54, w87_55, w87_58, ks_0, kP, b4, c_hasGuide hC hg hw, c_hasClient hC he hw, nI_ne1, hsF, oI, ↓reduceIte, Option.toList_some, Option.toList_none, List.cons_append, List.nil_append, and_self]
theorem q_hire_f (hK : KA c n k p q im h hs ht m bg bx L tx f s σ) {g : Nat} (hg : g < c 2 ∨ c 2 = 0 ∧ g = 0) {e : Nat} (h0 : c 2 = 0 ∨ c 3 = 0) (he : c 3 = 0 → e = 0) : Er 87 [(.ref (0 : Nat)), .int (nI g), .int (nI e)] σ (some (.int (-1000000001))) σ := by
  obtain ⟨hWA, hCA⟩ := id hK; obtain ⟨hw, hwn, ⟨hk16, hkp⟩, ⟨hq4, hqi⟩, ⟨hh9, hhs, hht⟩, ⟨hm15, hmb⟩, ⟨hL240, htx⟩, hs31⟩ := id hWA; obtain ⟨⟨P, D, hPD, hB, hC, hD⟩, hN, hPa, hIm, hHe, hBk, hTx, hF, hS, hSc⟩ := id hCA
  obtain ⟨b0, b3, b4, b5, b6, b7, b8, b9, b10, b11, b12⟩ := id hB
  obtain ⟨w0, w2, w3, w4, w5, w6, w7, w8, w9⟩ := id hw
  obtain ⟨⟨kP, ⟨t1, l1⟩, ⟨t2, l2⟩, ⟨t3, l3⟩, ⟨t4, l4⟩, ⟨t5, l5⟩, ⟨t6, l6⟩, ⟨t7, l7⟩, ⟨t8, l8⟩, ⟨t9, l9⟩⟩, ⟨r1, r2, r3, r4, r5, r6, r7, r8, r9⟩, ⟨i0, i2, i3, i4⟩, f1, f2, f3, f4, f5, f6, f7⟩ := id hC
  refine Er_of ?_
  show Wq none 87 0 [some (.ref (0 : Nat)), some (.int (nI g)), some (.int (nI e)), none] [] σ _
  rcases hg with hg | ⟨z2, rfl⟩
  · have z3 : c 3 = 0 := by omega
    simp only [w87_0, w87_1, w87_4, w87_5, w87_8, w87_11, w87_12, w87_15, w87_16, w87_19, w87_22, w87_24, w87_25, w87_26, w87_27, w87_28, w87_31, w87_32, w87_33, w87_34, w87_37, w87_39, w87_40, w87_41, w87_44, w87_45, w87_48, w87_51, w87_52, w87_53, w87_54, w87_55, w87_58, ks_0, kP, b4, c_hasGuide hC hg hw, c_hasClient_f hC (show nI e < 0 ∨ nI (c 3) ≤ nI e by rw [z3]; exact Or.inr (nI_le (Nat.zero_le _) (by have := he z3; omega))), nI_ne1, ↓reduceIte, Option.toList_some, Option.toList_none, List.cons_append, List.nil_append, and_self]
  · simp only [w87_0, w87_1, w87_4, w87_5, w87_8, w87_11, w87_12, w87_15, w87_16, w87_19, w87_22, w87_24, w87_25, w87_26, w87_27, w87_28, w87_31, w87_32, w87_33, w87_34, w87_37, w87_39, w87_40, w87_41, w87_44, w87_45, w87_48, w87_51, w87_52, w87_53, w87_54, w87_55, w87_58, ks_0, kP, b4, c_hasGuide_f hC (show nI 0 < 0 ∨ nI (c 2) ≤ nI 0 by rw [z2]; exact Or.inr (nI_le (Nat.zero_le _) (by omega))), nI_ne1, ↓reduceIte, Option.toList_some, Option.toList_none, List.cons_append, List.nil_append, and_self]
end HRX
