section REX
variable {σ : dm_G} {c n : Nat → Nat} {k : Nat} {p : Nat → Nat → Nat} {q : Nat} {im : Nat → Nat → Nat} {h : Nat} {hs ht : Nat → Nat} {m : Nat} {bg bx : Nat → Nat} {L : Nat} {tx : Nat → Nat} {f : Int32} {s : Nat}
theorem q_crossing0 {x : Nat} (hK : KA c n k p q im h hs ht m bg bx L tx f s σ) (hx : x < c 0) : Er 81 [(.ref (0 : Nat)), .int (nI x), .int (nI 0)] σ (some (.int (nI (c (5 + x))))) σ := by
  obtain ⟨hWA, hCA⟩ := id hK; obtain ⟨hw, hwn, ⟨hk16, hkp⟩, ⟨hq4, hqi⟩, ⟨hh9, hhs, hht⟩, ⟨hm15, hmb⟩, ⟨hL240, htx⟩, hs31⟩ := id hWA; obtain ⟨⟨P, D, hPD, hB, hC, hD⟩, hN, hPa, hIm, hHe, hBk, hTx, hF, hS, hSc⟩ := id hCA
  obtain ⟨b0, b3, b4, b5, b6, b7, b8, b9, b10, b11, b12⟩ := id hB
  obtain ⟨w0, w2, w3, w4, w5, w6, w7, w8, w9⟩ := id hw
  obtain ⟨⟨kP, ⟨t1, l1⟩, ⟨t2, l2⟩, ⟨t3, l3⟩, ⟨t4, l4⟩, ⟨t5, l5⟩, ⟨t6, l6⟩, ⟨t7, l7⟩, ⟨t8, l8⟩, ⟨t9, l9⟩⟩, ⟨r1, r2, r3, r4, r5, r6, r7, r8, r9⟩, ⟨i0, i2, i3, i4⟩, f1, f2, f3, f4, f5, f6, f7⟩ := id hC
  refine Er_of ?_
  show Wq none 81 0 [some (.ref (0 : Nat)), some (.int (nI x)), some (.int (nI 0))] [] σ _
  simp only [w81_0, w81_1, w81_4, w81_5, w81_8, w81_11, w81_13, w81_14, w81_15_0, w81_15_1, w81_15_2, w81_15_3, w81_15_4, w81_15_d, w81_48, w81_49, w81_52, w81_55, w81_56, w81_59, w81_60, w81_61, w81_64, w81_65, w81_66, w81_67, w81_68, w81_71, w81_72, w81_73, w81_76, w81_79, w81_80, w81_81, w81_82, w81_83, w81_84, w81_86, ks_0, kP, b4, r1, c_hasCrossing hC hx hw, nI_ne1, c_at t1 (show x < kl (P + 1) by rw [l1]; omega) (by rw [l1]; omega), f1 x hx, ↓reduceIte, Option.toList_some, Option.toList_none, List.cons_append, List.nil_append, and_self]
theorem q_crossing {x j : Nat} (hK : KA c n k p q im h hs ht m bg bx L tx f s σ) (hx : x < c 0) (hj : j < 3) : Er 81 [(.ref (0 : Nat)), .int (nI x), .int (nI (j + 1))] σ (some (.int (nI (c (13 + (3 * x + j)))))) σ := by
  obtain ⟨hWA, hCA⟩ := id hK; obtain ⟨hw, hwn, ⟨hk16, hkp⟩, ⟨hq4, hqi⟩, ⟨hh9, hhs, hht⟩, ⟨hm15, hmb⟩, ⟨hL240, htx⟩, hs31⟩ := id hWA; obtain ⟨⟨P, D, hPD, hB, hC, hD⟩, hN, hPa, hIm, hHe, hBk, hTx, hF, hS, hSc⟩ := id hCA
  obtain ⟨b0, b3, b4, b5, b6, b7, b8, b9, b10, b11, b12⟩ := id hB
  obtain ⟨w0, w2, w3, w4, w5, w6, w7, w8, w9⟩ := id hw
  obtain ⟨⟨kP, ⟨t1, l1⟩, ⟨t2, l2⟩, ⟨t3, l3⟩, ⟨t4, l4⟩, ⟨t5, l5⟩, ⟨t6, l6⟩, ⟨t7, l7⟩, ⟨t8, l8⟩, ⟨t9, l9⟩⟩, ⟨r1, r2, r3, r4, r5, r6, r7, r8, r9⟩, ⟨i0, i2, i3, i4⟩, f1, f2, f3, f4, f5, f6, f7⟩ := id hC
  refine Er_of ?_
  show Wq none 81 0 [some (.ref (0 : Nat)), some (.int (nI x)), some (.int (nI (j + 1)))] [] σ _
  rcases (by omega : j = 0 ∨ j = 1 ∨ j = 2) with rfl | rfl | rfl
  · simp only [w81_0, w81_1, w81_4, w81_5, w81_8, w81_11, w81_13, w81_14, w81_15_0, w81_15_1, w81_15_2, w81_15_3, w81_15_4, w81_15_d, w81_48, w81_49, w81_52, w81_55, w81_56, w81_59, w81_60, w81_61, w81_64, w81_65, w81_66, w81_67, w81_68, w81_71, w81_72, w81_73, w81_76, w81_79, w81_80, w81_81, w81_82, w81_83, w81_84, w81_86, ks_0, kP, b4, c_hasCrossing hC hx hw, nI_ne1, Nat.reduceAdd, pk_sub (Nat.le_refl 1), Nat.sub_self, c_endOf hC hw hx (show 0 < 3 by omega), ↓reduceIte, Option.toList_some, Option.toList_none, List.cons_append, List.nil_append, and_self]
  · simp only [w81_0, w81_1, w81_4, w81_5, w81_8, w81_11, w81_13, w81_14, w81_15_0, w81_15_1, w81_15_2, w81_15_3, w81_15_4, w81_15_d, w81_48, w81_49, w81_52, w81_55, w81_56, w81_59, w81_60, w81_61, w81_64, w81_65, w81_66, w81_67, w81_68, w81_71, w81_72, w81_73, w81_76, w81_79, w81_80, w81_81, w81_82, w81_83, w81_84, w81_86, ks_0, kP, b4, c_hasCrossing hC hx hw, nI_ne1, Nat.reduceAdd, (by decide : nI 2 - nI 1 = nI 1), c_endOf hC hw hx (show 1 < 3 by omega), ↓reduceIte, Option.toList_some, Option.toList_none, List.cons_append, List.nil_append, and_self]
  · simp only [w81_0, w81_1, w81_4, w81_5, w81_8, w81_11, w81_13, w81_14, w81_15_0, w81_15_1, w81_15_2, w81_15_3, w81_15_4, w81_15_d, w81_48, w81_49, w81_52, w81_55, w81_56, w81_59, w81_60, w81_61, w81_64, w81_65, w81_66, w81_67, w81_68, w81_71, w81_72, w81_73, w81_76, w81_79, w81_80, w81_81, w81_82, w81_83, w81_84, w81_86, ks_0, kP, b4, c_hasCrossing hC hx hw, nI_ne1, Nat.reduceAdd, (by decide : nI 3 - nI 1 = nI 2), c_endOf hC hw hx (show 2 < 3 by omega), ↓reduceIte, Option.toList_some, Option.toList_none, List.cons_append, List.nil_append, and_self]
/-- what guide answers -/
def gdN (c n : Nat → Nat) (x j : Nat) : Nat := match j with
  | 0 => n x
  | 1 => c (43 + x)
  | 2 => n (6 + x)
  | 3 => n (12 + x)
  | _ => sN c (n x) (andn (n (6 + x)) (n 19)) (c 0)
theorem q_guide {x j : Nat} (hK : KA c n k p q im h hs ht m bg bx L tx f s σ) (hx : x < c 2) (hj : j < 5) : Er 82 [(.ref (0 : Nat)), .int (nI x), .int (nI j)] σ (some (.int (nI (gdN c n x j)))) σ := by
  obtain ⟨hWA, hCA⟩ := id hK; obtain ⟨hw, hwn, ⟨hk16, hkp⟩, ⟨hq4, hqi⟩, ⟨hh9, hhs, hht⟩, ⟨hm15, hmb⟩, ⟨hL240, htx⟩, hs31⟩ := id hWA; obtain ⟨⟨P, D, hPD, hB, hC, hD⟩, hN, hPa, hIm, hHe, hBk, hTx, hF, hS, hSc⟩ := id hCA
  obtain ⟨b0, b3, b4, b5, b6, b7, b8, b9, b10, b11, b12⟩ := id hB
  obtain ⟨w0, w2, w3, w4, w5, w6, w7, w8, w9⟩ := id hw
  obtain ⟨⟨kP, ⟨t1, l1⟩, ⟨t2, l2⟩, ⟨t3, l3⟩, ⟨t4, l4⟩, ⟨t5, l5⟩, ⟨t6, l6⟩, ⟨t7, l7⟩, ⟨t8, l8⟩, ⟨t9, l9⟩⟩, ⟨r1, r2, r3, r4, r5, r6, r7, r8, r9⟩, ⟨i0, i2, i3, i4⟩, f1, f2, f3, f4, f5, f6, f7⟩ := id hC
  obtain ⟨⟨kS, ⟨u1, v1⟩, ⟨u2, v2⟩, ⟨u3, v3⟩⟩, ⟨q0, q1, q2⟩, ⟨j3, j4, j5, j6⟩, jf⟩ := id hN
  obtain ⟨hn1, hn18, hn19, hn20, hn21⟩ := id hwn
  have p8 : 2 ^ c 0 ≤ 2 ^ 8 := Nat.pow_le_pow_right (by decide) w0
  obtain ⟨e1, e2, e3⟩ := f4 x hx
  obtain ⟨d1, d2, d3⟩ := jf x hx
  obtain ⟨g1, g2, g3⟩ := hn1 x hx
  refine Er_of ?_
  show Wq none 82 0 [some (.ref (0 : Nat)), some (.int (nI x)), some (.int (nI j))] [] σ _
  rcases (by omega : j = 0 ∨ j = 1 ∨ j = 2 ∨ j = 3 ∨ j = 4) with rfl | rfl | rfl | rfl | rfl
  · simp only [w82_0, w82_1, w82_4, w82_5, w82_8, w82_11, w82_13, w82_14, w82_15_0, w82_15_1, w82_15_2, w82_15_3, w82_15_4, w82_15_d, w82_48, w82_49, w82_52, w82_55, w82_56, w82_59, w82_60, w82_61, w82_64, w82_67, w82_68, w82_71, w82_72, w82_73, w82_76, w82_79, w82_80, w82_83, w82_84, w82_85, w82_88, w82_91, w82_92, w82_95, w82_96, w82_97, w82_100, w82_101, w82_104, w82_107, w82_108, w82_111, w82_112, w82_115, w82_116, w82_119, w82_122, w82_123, w82_125, ks_0, ks_24, kP, b4, b6, q0, c_hasGuide hC hx hw, nI_ne1, c_at u1 (show x < kl (24 + 1) by rw [v1]; omega) (by rw [v1]; omega), d1, ↓reduceIte, Option.toList_some, Option.toList_none, List.cons_append, List.nil_append, gdN, and_self]
  · simp only [w82_0, w82_1, w82_4, w82_5, w82_8, w82_11, w82_13, w82_14, w82_15_0, w82_15_1, w82_15_2, w82_15_3, w82_15_4, w82_15_d, w82_48, w82_49, w82_52, w82_55, w82_56, w82_59, w82_60, w82_61, w82_64, w82_67, w82_68, w82_71, w82_72, w82_73, w82_76, w82_79, w82_80, w82_83, w82_84, w82_85, w82_88, w82_91, w82_92, w82_95, w82_96, w82_97, w82_100, w82_101, w82_104, w82_107, w82_108, w82_111, w82_112, w82_115, w82_116, w82_119, w82_122, w82_123, w82_125, ks_0, ks_24, kP, b4, b6, r5, c_hasGuide hC hx hw, nI_ne1, c_at t5 (show x < kl (P + 5) by rw [l5]; omega) (by rw [l5]; omega), e2, ↓reduceIte, Option.toList_some, Option.toList_none, List.cons_append, List.nil_append, gdN, and_self]
  · simp only [w82_0, w82_1, w82_4, w82_5, w82_8, w82_11, w82_13, w82_14, w82_15_0, w82_15_1, w82_15_2, w82_15_3, w82_15_4, w82_15_d, w82_48, w82_49, w82_52, w82_55, w82_56, w82_59, w82_60, w82_61, w82_64, w82_67, w82_68, w82_71, w82_72, w82_73, w82_76, w82_79, w82_80, w82_83, w82_84, w82_85, w82_88, w82_91, w82_92, w82_95, w82_96, w82_97, w82_100, w82_101, w82_104, w82_107, w82_108, w82_111, w82_112, w82_115, w82_116, w82_119, w82_122, w82_123, w82_125, ks_0, ks_24, kP, b4, b6, q1, c_hasGuide hC hx hw, nI_ne1, c_at u2 (show x < kl (24 + 2) by rw [v2]; omega) (by rw [v2]; omega), d2, ↓reduceIte, Option.toList_some, Option.toList_none, List.cons_append, List.nil_append, gdN, and_self]
  · simp only [w82_0, w82_1, w82_4, w82_5, w82_8, w82_11, w82_13, w82_14, w82_15_0, w82_15_1, w82_15_2, w82_15_3, w82_15_4, w82_15_d, w82_48, w82_49, w82_52, w82_55, w82_56, w82_59, w82_60, w82_61, w82_64, w82_67, w82_68, w82_71, w82_72, w82_73, w82_76, w82_79, w82_80, w82_83, w82_84, w82_85, w82_88, w82_91, w82_92, w82_95, w82_96, w82_97, w82_100, w82_101, w82_104, w82_107, w82_108, w82_111, w82_112, w82_115, w82_116, w82_119, w82_122, w82_123, w82_125, ks_0, ks_24, kP, b4, b6, q2, c_hasGuide hC hx hw, nI_ne1, c_at u3 (show x < kl (24 + 3) by rw [v3]; omega) (by rw [v3]; omega), d3, ↓reduceIte, Option.toList_some, Option.toList_none, List.cons_append, List.nil_append, gdN, and_self]
  · simp only [w82_0, w82_1, w82_4, w82_5, w82_8, w82_11, w82_13, w82_14, w82_15_0, w82_15_1, w82_15_2, w82_15_3, w82_15_4, w82_15_d, w82_48, w82_49, w82_52, w82_55, w82_56, w82_59, w82_60, w82_61, w82_64, w82_67, w82_68, w82_71, w82_72, w82_73, w82_76, w82_79, w82_80, w82_83, w82_84, w82_85, w82_88, w82_91, w82_92, w82_95, w82_96, w82_97, w82_100, w82_101, w82_104, w82_107, w82_108, w82_111, w82_112, w82_115, w82_116, w82_119, w82_122, w82_123, w82_125, ks_0, ks_24, kP, b4, b6, q0, c_hasGuide hC hx hw, nI_ne1, c_at u1 (show x < kl (24 + 1) by rw [v1]; omega) (by rw [v1]; omega), d1, c_openTo hN w2 hx, c_reachFrom hC hw g1, ↓reduceIte, Option.toList_some, Option.toList_none, List.cons_append, List.nil_append, gdN, and_self]
theorem q_client {x j : Nat} (hK : KA c n k p q im h hs ht m bg bx L tx f s σ) (hx : x < c 3) (hj : j < 2) : Er 83 [(.ref (0 : Nat)), .int (nI x), .int (nI j)] σ (some (.int (nI (if j = 0 then c (55 + x) else c (61 + x))))) σ := by
  obtain ⟨hWA, hCA⟩ := id hK; obtain ⟨hw, hwn, ⟨hk16, hkp⟩, ⟨hq4, hqi⟩, ⟨hh9, hhs, hht⟩, ⟨hm15, hmb⟩, ⟨hL240, htx⟩, hs31⟩ := id hWA; obtain ⟨⟨P, D, hPD, hB, hC, hD⟩, hN, hPa, hIm, hHe, hBk, hTx, hF, hS, hSc⟩ := id hCA
  obtain ⟨b0, b3, b4, b5, b6, b7, b8, b9, b10, b11, b12⟩ := id hB
  obtain ⟨w0, w2, w3, w4, w5, w6, w7, w8, w9⟩ := id hw
  obtain ⟨⟨kP, ⟨t1, l1⟩, ⟨t2, l2⟩, ⟨t3, l3⟩, ⟨t4, l4⟩, ⟨t5, l5⟩, ⟨t6, l6⟩, ⟨t7, l7⟩, ⟨t8, l8⟩, ⟨t9, l9⟩⟩, ⟨r1, r2, r3, r4, r5, r6, r7, r8, r9⟩, ⟨i0, i2, i3, i4⟩, f1, f2, f3, f4, f5, f6, f7⟩ := id hC
  obtain ⟨e1, e2⟩ := f5 x hx
  refine Er_of ?_
  show Wq none 83 0 [some (.ref (0 : Nat)), some (.int (nI x)), some (.int (nI j))] [] σ _
  rcases (by omega : j = 0 ∨ j = 1) with rfl | rfl
  · simp only [w83_0, w83_1, w83_4, w83_5, w83_8, w83_11, w83_13, w83_14, w83_15_0, w83_15_1, w83_15_2, w83_15_d, w83_40, w83_41, w83_44, w83_47, w83_48, w83_51, w83_52, w83_53, w83_56, w83_59, w83_60, w83_63, w83_64, w83_65, w83_68, w83_71, w83_72, w83_73, w83_74, w83_75, w83_76, w83_78, ks_0, kP, b4, r7, c_hasClient hC hx hw, nI_ne1, c_at t7 (show x < kl (P + 7) by rw [l7]; omega) (by rw [l7]; omega), e1, ↓reduceIte, Option.toList_some, Option.toList_none, List.cons_append, List.nil_append, and_self]
  · simp only [w83_0, w83_1, w83_4, w83_5, w83_8, w83_11, w83_13, w83_14, w83_15_0, w83_15_1, w83_15_2, w83_15_d, w83_40, w83_41, w83_44, w83_47, w83_48, w83_51, w83_52, w83_53, w83_56, w83_59, w83_60, w83_63, w83_64, w83_65, w83_68, w83_71, w83_72, w83_73, w83_74, w83_75, w83_76, w83_78, ks_0, kP, b4, r8, c_hasClient hC hx hw, nI_ne1, c_at t8 (show x < kl (P + 8) by rw [l8]; omega) (by rw [l8]; omega), e2, ↓reduceIte, Option.toList_some, Option.toList_none, List.cons_append, List.nil_append, and_self, (by decide : ¬ 1 = 0)]
end REX
