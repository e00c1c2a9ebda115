section WYX
variable {σ : dm_G} {c n : Nat → Nat} {k : Nat} {p : Nat → Nat → Nat} {q : Nat} {im : Nat → Nat → Nat} {h : Nat} {hs ht : Nat → Nat} {m : Nat} {bg bx : Nat → Nat} {L : Nat} {tx : Nat → Nat} {f : Int32} {s : Nat}
theorem q_way {g a b : Nat} (hK : KA c n k p q im h hs ht m bg bx L tx f s σ) (hg : g < c 2) (ha : a < c 0) (hb : b < c 0) : Er 101 [(.ref (0 : Nat)), .int (nI g), .int (nI a), .int (nI b)] σ (some (.int (oI (sbN c a b (andn (n (6 + g)) (n 19)))))) σ := by
  obtain ⟨hWA, hCA⟩ := id hK; obtain ⟨hw, hwn, ⟨hk16, hkp⟩, ⟨hq4, hqi⟩, ⟨hh9, hhs, hht⟩, ⟨hm15, hmb⟩, ⟨hL240, htx⟩, hs31⟩ := id hWA; obtain ⟨⟨P, D, hPD, hB, hC, hD⟩, hN, hPa, hIm, hHe, hBk, hTx, hF, hS, hSc⟩ := id hCA
  obtain ⟨b0, b3, b4, b5, b6, b7, b8, b9, b10, b11, b12⟩ := id hB
  obtain ⟨w0, w2, w3, w4, w5, w6, w7, w8, w9⟩ := id hw
  obtain ⟨⟨kP, ⟨t1, l1⟩, ⟨t2, l2⟩, ⟨t3, l3⟩, ⟨t4, l4⟩, ⟨t5, l5⟩, ⟨t6, l6⟩, ⟨t7, l7⟩, ⟨t8, l8⟩, ⟨t9, l9⟩⟩, ⟨r1, r2, r3, r4, r5, r6, r7, r8, r9⟩, ⟨i0, i2, i3, i4⟩, f1, f2, f3, f4, f5, f6, f7⟩ := id hC
  obtain ⟨⟨kS, ⟨u1, v1⟩, ⟨u2, v2⟩, ⟨u3, v3⟩⟩, ⟨q0, q1, q2⟩, ⟨j3, j4, j5, j6⟩, jf⟩ := id hN
  refine Er_of ?_
  show Wq none 101 0 [some (.ref (0 : Nat)), some (.int (nI g)), some (.int (nI a)), some (.int (nI b))] [] σ _
  simp only [w101_0, w101_1, w101_4, w101_5, w101_8, w101_11, w101_12, w101_15, w101_16, w101_19, w101_22, w101_23, w101_26, w101_27, w101_30, w101_33, w101_35, w101_36, w101_37, w101_40, w101_41, w101_42, w101_43, w101_46, w101_47, w101_50, w101_53, ks_0, ks_24, kP, b4, b6, c_hasGuide hC hg hw, c_hasCrossing hC ha hw, c_hasCrossing hC hb hw, nI_ne1, c_openTo hN w2 hg, c_streetsBetween hC hw ha hb, ↓reduceIte, Option.toList_some, Option.toList_none, List.cons_append, List.nil_append, and_self]
/-- what leads answers -/
def ldN (c n : Nat → Nat) (g e j : Nat) : Option Nat := match lwN c n g e with
  | none => none
  | some d => if j = 0 then some d else if j = 1 then some (csN c (n 20) g d) else ftN c (c (55 + e)) (c (61 + e)) (andn (n (6 + g)) (n 19))
theorem q_leads {g e j : Nat} (hK : KA c n k p q im h hs ht m bg bx L tx f s σ) (hg : g < c 2) (he : e < c 3) (hj : j < 3) : Er 100 [(.ref (0 : Nat)), .int (nI g), .int (nI e), .int (nI j)] σ (some (.int (oI (ldN c n g e j)))) σ := by
  obtain ⟨hWA, hCA⟩ := id hK; obtain ⟨hw, hwn, ⟨hk16, hkp⟩, ⟨hq4, hqi⟩, ⟨hh9, hhs, hht⟩, ⟨hm15, hmb⟩, ⟨hL240, htx⟩, hs31⟩ := id hWA; obtain ⟨⟨P, D, hPD, hB, hC, hD⟩, hN, hPa, hIm, hHe, hBk, hTx, hF, hS, hSc⟩ := id hCA
  obtain ⟨b0, b3, b4, b5, b6, b7, b8, b9, b10, b11, b12⟩ := id hB
  obtain ⟨w0, w2, w3, w4, w5, w6, w7, w8, w9⟩ := id hw
  obtain ⟨⟨kP, ⟨t1, l1⟩, ⟨t2, l2⟩, ⟨t3, l3⟩, ⟨t4, l4⟩, ⟨t5, l5⟩, ⟨t6, l6⟩, ⟨t7, l7⟩, ⟨t8, l8⟩, ⟨t9, l9⟩⟩, ⟨r1, r2, r3, r4, r5, r6, r7, r8, r9⟩, ⟨i0, i2, i3, i4⟩, f1, f2, f3, f4, f5, f6, f7⟩ := id hC
  obtain ⟨⟨kS, ⟨u1, v1⟩, ⟨u2, v2⟩, ⟨u3, v3⟩⟩, ⟨q0, q1, q2⟩, ⟨j3, j4, j5, j6⟩, jf⟩ := id hN
  have hsF := fun Q => c_streetsFor (Q := Q) hB hC hN hw hwn hg he
  have ho := andn_lt31 hw hwn hg
  obtain ⟨x1, x2⟩ := w8 e he
  have hj0 : ¬ nI j < nI 0 := nI_pos (by omega)
  have hj2 : nI j ≤ nI 2 := nI_le (by omega) (by omega)
  refine Er_of ?_
  show Wq none 100 0 [some (.ref (0 : Nat)), some (.int (nI g)), some (.int (nI e)), some (.int (nI j)), none] [] σ _
  unfold ldN
  cases hs : lwN c n g e with
  | none =>
    rw [hs] at hsF
    simp only [w100_0, w100_1, w100_4, w100_5, w100_8, w100_11, w100_12, w100_15, w100_16, w100_19, w100_22, w100_24, w100_25, w100_26, w100_29, w100_30, w100_31, w100_34, w100_36, w100_37, w100_38, w100_39, w100_40, w100_43, w100_45, w100_47, w100_48, w100_51, w100_52, w100_55, w100_57, w100_58, w100_59, w100_60, w100_63, w100_64, w100_65, w100_67, w100_70, w100_71, w100_72, w100_75, w100_76, w100_79, w100_82, w100_83, w100_86, w100_87, w100_90, w100_93, w100_94, w100_97, w100_98, w100_101, w100_102, w100_105, w100_108, ks_0, kP, b4, c_hasGuide hC hg hw, c_hasClient hC he hw, nI_ne1, hj0, hj2, hsF, oI, ↓reduceIte, Option.toList_some, Option.toList_none, List.cons_append, List.nil_append, and_self]
  | some d =>
    rw [hs] at hsF
    have hd := lwN_lt hs
    have hm1 : ¬ nI d = -1 := fun q => nI_m1 (show d < 2 ^ 31 by omega) q.symm
    rcases (by omega : j = 0 ∨ j = 1 ∨ j = 2) with rfl | rfl | rfl
    · simp only [w100_0, w100_1, w100_4, w100_5, w100_8, w100_11, w100_12, w100_15, w100_16, w100_19, w100_22, w100_24, w100_25, w100_26, w100_29, w100_30, w100_31, w100_34, w100_36, w100_37, w100_38, w100_39, w100_40, w100_43, w100_45, w100_47, w100_48, w100_51, w100_52, w100_55, w100_57, w100_58, w100_59, w100_60, w100_63, w100_64, w100_65, w100_67, w100_70, w100_71, w100_72, w100_75, w100_76, w100_79, w100_82, w100_83, w100_86, w100_87, w100_90, w100_93, w100_94, w100_97, w100_98, w100_101, w100_102, w100_105, w100_108, ks_0, kP, b4, c_hasGuide hC hg hw, c_hasClient hC he hw, nI_ne1, hj0, hj2, hsF, oI, hm1, ↓reduceIte, Option.toList_some, Option.toList_none, List.cons_append, List.nil_append, and_self]
    · simp only [w100_0, w100_1, w100_4, w100_5, w100_8, w100_11, w100_12, w100_15, w100_16, w100_19, w100_22, w100_24, w100_25, w100_26, w100_29, w100_30, w100_31, w100_34, w100_36, w100_37, w100_38, w100_39, w100_40, w100_43, w100_45, w100_47, w100_48, w100_51, w100_52, w100_55, w100_57, w100_58, w100_59, w100_60, w100_63, w100_64, w100_65, w100_67, w100_70, w100_71, w100_72, w100_75, w100_76, w100_79, w100_82, w100_83, w100_86, w100_87, w100_90, w100_93, w100_94, w100_97, w100_98, w100_101, w100_102, w100_105, w100_108, ks_0, kP, b4, c_hasGuide hC hg hw, c_hasClient hC he hw, nI_ne1, hj0, hj2, hsF, oI, hm1, c_priceOf hB hC hN hw hwn hg (show d ≤ 8 by omega), (by decide : ¬ (1 : Nat) = 0), ↓reduceIte, Option.toList_some, Option.toList_none, List.cons_append, List.nil_append, and_self]
    · simp only [w100_0, w100_1, w100_4, w100_5, w100_8, w100_11, w100_12, w100_15, w100_16, w100_19, w100_22, w100_24, w100_25, w100_26, w100_29, w100_30, w100_31, w100_34, w100_36, w100_37, w100_38, w100_39, w100_40, w100_43, w100_45, w100_47, w100_48, w100_51, w100_52, w100_55, w100_57, w100_58, w100_59, w100_60, w100_63, w100_64, w100_65, w100_67, w100_70, w100_71, w100_72, w100_75, w100_76, w100_79, w100_82, w100_83, w100_86, w100_87, w100_90, w100_93, w100_94, w100_97, w100_98, w100_101, w100_102, w100_105, w100_108, ks_0, ks_24, kP, b4, b6, r7, r8, c_hasGuide hC hg hw, c_hasClient hC he hw, nI_ne1, hj0, hj2, hsF, oI, hm1, (by decide : ¬ nI 2 = nI 0), (by decide : ¬ nI 2 = nI 1), (by decide : ¬ (2 : Nat) = 0), (by decide : ¬ (2 : Nat) = 1), c_at t7 (show e < kl (P + 7) by rw [l7]; omega) (by rw [l7]; omega), (f5 e he).1, c_at t8 (show e < kl (P + 8) by rw [l8]; omega) (by rw [l8]; omega), (f5 e he).2, c_openTo hN w2 hg, c_firstTurn hC hw x1 x2 ho, ↓reduceIte, Option.toList_some, Option.toList_none, List.cons_append, List.nil_append, and_self]
theorem q_leads_f {z : Int32} (hK : KA c n k p q im h hs ht m bg bx L tx f s σ) (h0 : c 2 = 0 ∨ c 3 = 0) {g : Nat} (hg : g < c 2 ∨ c 2 = 0 ∧ g = 0) {e : Nat} (he : c 3 = 0 → e = 0) : Er 100 [(.ref (0 : Nat)), .int (nI g), .int (nI e), .int z] σ (some (.int (-1000000001))) σ := by
  obtain ⟨hWA, hCA⟩ := id hK; obtain ⟨hw, hwn, ⟨hk16, hkp⟩, ⟨hq4, hqi⟩, ⟨hh9, hhs, hht⟩, ⟨hm15, hmb⟩, ⟨hL240, htx⟩, hs31⟩ := id hWA; obtain ⟨⟨P, D, hPD, hB, hC, hD⟩, hN, hPa, hIm, hHe, hBk, hTx, hF, hS, hSc⟩ := id hCA
  obtain ⟨b0, b3, b4, b5, b6, b7, b8, b9, b10, b11, b12⟩ := id hB
  obtain ⟨w0, w2, w3, w4, w5, w6, w7, w8, w9⟩ := id hw
  obtain ⟨⟨kP, ⟨t1, l1⟩, ⟨t2, l2⟩, ⟨t3, l3⟩, ⟨t4, l4⟩, ⟨t5, l5⟩, ⟨t6, l6⟩, ⟨t7, l7⟩, ⟨t8, l8⟩, ⟨t9, l9⟩⟩, ⟨r1, r2, r3, r4, r5, r6, r7, r8, r9⟩, ⟨i0, i2, i3, i4⟩, f1, f2, f3, f4, f5, f6, f7⟩ := id hC
  refine Er_of ?_
  show Wq none 100 0 [some (.ref (0 : Nat)), some (.int (nI g)), some (.int (nI e)), some (.int z), none] [] σ _
  rcases hg with hg | ⟨z2, rfl⟩
  · have z3 : c 3 = 0 := by omega
    simp only [w100_0, w100_1, w100_4, w100_5, w100_8, w100_11, w100_12, w100_15, w100_16, w100_19, w100_22, w100_24, w100_25, w100_26, w100_29, w100_30, w100_31, w100_34, w100_36, w100_37, w100_38, w100_39, w100_40, w100_43, w100_45, w100_47, w100_48, w100_51, w100_52, w100_55, w100_57, w100_58, w100_59, w100_60, w100_63, w100_64, w100_65, w100_67, w100_70, w100_71, w100_72, w100_75, w100_76, w100_79, w100_82, w100_83, w100_86, w100_87, w100_90, w100_93, w100_94, w100_97, w100_98, w100_101, w100_102, w100_105, w100_108, ks_0, kP, b4, c_hasGuide hC hg hw, c_hasClient_f hC (show nI e < 0 ∨ nI (c 3) ≤ nI e by rw [z3]; exact Or.inr (nI_le (Nat.zero_le _) (by have := he z3; omega))), nI_ne1, ↓reduceIte, Option.toList_some, Option.toList_none, List.cons_append, List.nil_append, and_self]
  · simp only [w100_0, w100_1, w100_4, w100_5, w100_8, w100_11, w100_12, w100_15, w100_16, w100_19, w100_22, w100_24, w100_25, w100_26, w100_29, w100_30, w100_31, w100_34, w100_36, w100_37, w100_38, w100_39, w100_40, w100_43, w100_45, w100_47, w100_48, w100_51, w100_52, w100_55, w100_57, w100_58, w100_59, w100_60, w100_63, w100_64, w100_65, w100_67, w100_70, w100_71, w100_72, w100_75, w100_76, w100_79, w100_82, w100_83, w100_86, w100_87, w100_90, w100_93, w100_94, w100_97, w100_98, w100_101, w100_102, w100_105, w100_108, ks_0, kP, b4, c_hasGuide_f hC (show nI 0 < 0 ∨ nI (c 2) ≤ nI 0 by rw [z2]; exact Or.inr (nI_le (Nat.zero_le _) (by omega))), nI_ne1, ↓reduceIte, Option.toList_some, Option.toList_none, List.cons_append, List.nil_append, and_self]
theorem q_clouds {d q' : Nat} (hK : KA c n k p q im h hs ht m bg bx L tx f s σ) (hd : d < 61) (hq : q' < 101) : Er 108 [(.ref (0 : Nat)), .int (nI d), .int (nI q')] σ (some (.int (clN (nI q').toInt64 d (lN 1000000000)).toInt32)) σ := by
  have hd0 : ¬ nI d < nI 0 := nI_pos (by omega)
  have hd6 : ¬ nI 60 < nI d := nI_nlt (by omega) (by omega)
  have hq0 : ¬ nI q' < nI 0 := nI_pos (by omega)
  have hq6 : nI q' ≤ nI 100 := nI_le (by omega) (by omega)
  refine Er_of ?_
  show Wq none 108 0 [some (.ref (0 : Nat)), some (.int (nI d)), some (.int (nI q')), none, none, none] [] σ _
  simp only [w108_0, w108_1, w108_4, w108_5, w108_7, w108_10, w108_11, w108_14, w108_15, w108_17, w108_20, w108_22, w108_23, w108_26, w108_27, w108_28, w108_32, w108_33, w108_36, w108_37, w108_38, w108_39, w108_40, w108_43, w108_44, w108_45, w108_48, w108_51, w108_52, w108_53, hd0, hd6, hq0, hq6, l_cCl (show d < 2 ^ 31 by omega) d 0 _ (Nat.zero_add _), ↓reduceIte, Option.toList_some, Option.toList_none, List.cons_append, List.nil_append, and_self]
end WYX
