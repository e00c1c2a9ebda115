section RGX
variable {σ : dm_G} {c n : Nat → Nat} {k : Nat} {p : Nat → Nat → Nat} {q : Nat} {im : Nat → Nat → Nat} {h : Nat} {hs ht : Nat → Nat} {m : Nat} {bg bx : Nat → Nat} {L : Nat} {tx : Nat → Nat} {f : Int32} {s : Nat}
theorem q_ring {g : Nat} (hK : KA c n k p q im h hs ht m bg bx L tx f s σ) (hg : g < c 2) : Er 105 [(.ref (0 : Nat)), .int (nI g)] σ (some (.int (oI (rgN c (n g) (andn (n (6 + g)) (n 19)))))) σ := by
  obtain ⟨hWA, hCA⟩ := id hK; obtain ⟨hw, hwn, ⟨hk16, hkp⟩, ⟨hq4, hqi⟩, ⟨hh9, hhs, hht⟩, ⟨hm15, hmb⟩, ⟨hL240, htx⟩, hs31⟩ := id hWA; obtain ⟨⟨P, D, hPD, hB, hC, hD⟩, hN, hPa, hIm, hHe, hBk, hTx, hF, hS, hSc⟩ := id hCA
  obtain ⟨b0, b3, b4, b5, b6, b7, b8, b9, b10, b11, b12⟩ := id hB
  obtain ⟨w0, w2, w3, w4, w5, w6, w7, w8, w9⟩ := id hw
  obtain ⟨⟨kP, ⟨t1, l1⟩, ⟨t2, l2⟩, ⟨t3, l3⟩, ⟨t4, l4⟩, ⟨t5, l5⟩, ⟨t6, l6⟩, ⟨t7, l7⟩, ⟨t8, l8⟩, ⟨t9, l9⟩⟩, ⟨r1, r2, r3, r4, r5, r6, r7, r8, r9⟩, ⟨i0, i2, i3, i4⟩, f1, f2, f3, f4, f5, f6, f7⟩ := id hC
  obtain ⟨⟨kS, ⟨u1, v1⟩, ⟨u2, v2⟩, ⟨u3, v3⟩⟩, ⟨q0, q1, q2⟩, ⟨j3, j4, j5, j6⟩, jf⟩ := id hN
  obtain ⟨g1, g2, g3⟩ := hwn.1 g hg
  refine Er_of ?_
  show Wq none 105 0 [some (.ref (0 : Nat)), some (.int (nI g))] [] σ _
  simp only [w105_0, w105_1, w105_4, w105_5, w105_8, w105_11, w105_13, w105_14, w105_15, w105_18, w105_19, w105_22, w105_25, w105_26, w105_29, w105_30, w105_33, w105_34, w105_37, w105_40, ks_0, ks_24, kP, b4, b6, q0, c_hasGuide hC hg hw, nI_ne1, c_at u1 (show g < kl (24 + 1) by rw [v1]; omega) (by rw [v1]; omega), (jf g hg).1, c_openTo hN w2 hg, c_backTo hC hw g1, ↓reduceIte, Option.toList_some, Option.toList_none, List.cons_append, List.nil_append, and_self]
/-- what allGoBy answers -/
def gbN (c : Nat → Nat) (a b o : Nat) : Nat := match sbN c a b o with
  | none => 0
  | some _ => agN c a b o (c 0)
theorem q_allGoBy {g a b : Nat} (hK : KA c n k p q im h hs ht m bg bx L tx f s σ) (hg : g < c 2) (ha : a < c 0) (hb : b < c 0) : Er 106 [(.ref (0 : Nat)), .int (nI g), .int (nI a), .int (nI b)] σ (some (.int (nI (gbN c a b (andn (n (6 + g)) (n 19)))))) σ := by
  obtain ⟨hWA, hCA⟩ := id hK; obtain ⟨hw, hwn, ⟨hk16, hkp⟩, ⟨hq4, hqi⟩, ⟨hh9, hhs, hht⟩, ⟨hm15, hmb⟩, ⟨hL240, htx⟩, hs31⟩ := id hWA; obtain ⟨⟨P, D, hPD, hB, hC, hD⟩, hN, hPa, hIm, hHe, hBk, hTx, hF, hS, hSc⟩ := id hCA
  obtain ⟨b0, b3, b4, b5, b6, b7, b8, b9, b10, b11, b12⟩ := id hB
  obtain ⟨w0, w2, w3, w4, w5, w6, w7, w8, w9⟩ := id hw
  obtain ⟨⟨kP, ⟨t1, l1⟩, ⟨t2, l2⟩, ⟨t3, l3⟩, ⟨t4, l4⟩, ⟨t5, l5⟩, ⟨t6, l6⟩, ⟨t7, l7⟩, ⟨t8, l8⟩, ⟨t9, l9⟩⟩, ⟨r1, r2, r3, r4, r5, r6, r7, r8, r9⟩, ⟨i0, i2, i3, i4⟩, f1, f2, f3, f4, f5, f6, f7⟩ := id hC
  obtain ⟨⟨kS, ⟨u1, v1⟩, ⟨u2, v2⟩, ⟨u3, v3⟩⟩, ⟨q0, q1, q2⟩, ⟨j3, j4, j5, j6⟩, jf⟩ := id hN
  have ho := andn_lt31 hw hwn hg
  refine Er_of ?_
  show Wq none 106 0 [some (.ref (0 : Nat)), some (.int (nI g)), some (.int (nI a)), some (.int (nI b)), none, none, none] [] σ _
  unfold gbN
  cases hs : sbN c a b (andn (n (6 + g)) (n 19)) with
  | none =>
    simp only [w106_0, w106_1, w106_4, w106_5, w106_8, w106_11, w106_12, w106_15, w106_16, w106_19, w106_22, w106_23, w106_26, w106_27, w106_30, w106_33, w106_35, w106_36, w106_37, w106_40, w106_41, w106_44, w106_46, w106_47, w106_50, w106_51, w106_52, w106_54, w106_57, w106_58, w106_61, w106_62, w106_63, w106_64, w106_66, w106_67, w106_71, w106_72, w106_75, w106_78, w106_81, w106_83, w106_84, w106_87, w106_89, w106_90, w106_93, w106_94, w106_97, w106_98, w106_99, w106_101, w106_102, w106_104, w106_105, w106_106, w106_107, w106_108, w106_111, w106_112, w106_115, w106_117, w106_118, w106_120, w106_121, w106_122, w106_124, w106_127, w106_130, w106_132, ks_0, ks_24, kP, b4, b6, c_hasGuide hC hg hw, c_hasCrossing hC ha hw, c_hasCrossing hC hb hw, nI_ne1, c_openTo hN w2 hg, c_streetsBetween hC hw ha hb, hs, oI, ↓reduceIte, Option.toList_some, Option.toList_none, List.cons_append, List.nil_append, and_self]
  | some d =>
    have hd : d < 2 ^ 31 := by have := sbN_lt hs; omega
    have hm1 : ¬ nI d = -1 := fun q => nI_m1 hd q.symm
    simp only [w106_0, w106_1, w106_4, w106_5, w106_8, w106_11, w106_12, w106_15, w106_16, w106_19, w106_22, w106_23, w106_26, w106_27, w106_30, w106_33, w106_35, w106_36, w106_37, w106_40, w106_41, w106_44, w106_46, w106_47, w106_50, w106_51, w106_52, w106_54, w106_57, w106_58, w106_61, w106_62, w106_63, w106_64, w106_66, w106_67, w106_71, w106_72, w106_75, w106_78, w106_81, w106_83, w106_84, w106_87, w106_89, w106_90, w106_93, w106_94, w106_97, w106_98, w106_99, w106_101, w106_102, w106_104, w106_105, w106_106, w106_107, w106_108, w106_111, w106_112, w106_115, w106_117, w106_118, w106_120, w106_121, w106_122, w106_124, w106_127, w106_130, w106_132, ks_0, ks_24, kP, b4, b6, c_hasGuide hC hg hw, c_hasCrossing hC ha hw, c_hasCrossing hC hb hw, nI_ne1, c_openTo hN w2 hg, c_streetsBetween hC hw ha hb, hs, oI, hm1, ↓reduceIte, Option.toList_some, Option.toList_none, List.cons_append, List.nil_append]
    exact l_cAll hB hC hw ha hb (c 0) 0 (by omega) ⟨rfl, rfl⟩
theorem q_pose {g s' : Nat} (hK : KA c n k p q im h hs ht m bg bx L tx f s σ) (hg : g < c 2) (hs' : s' < 2 ^ c 0) : Er 107 [(.ref (0 : Nat)), .int (nI g), .int (nI s')] σ (some (.int (nI (p2N c n g s' (c 0))))) σ := by
  obtain ⟨hWA, hCA⟩ := id hK; obtain ⟨hw, hwn, ⟨hk16, hkp⟩, ⟨hq4, hqi⟩, ⟨hh9, hhs, hht⟩, ⟨hm15, hmb⟩, ⟨hL240, htx⟩, hs31⟩ := id hWA; obtain ⟨⟨P, D, hPD, hB, hC, hD⟩, hN, hPa, hIm, hHe, hBk, hTx, hF, hS, hSc⟩ := id hCA
  obtain ⟨b0, b3, b4, b5, b6, b7, b8, b9, b10, b11, b12⟩ := id hB
  obtain ⟨w0, w2, w3, w4, w5, w6, w7, w8, w9⟩ := id hw
  obtain ⟨⟨kP, ⟨t1, l1⟩, ⟨t2, l2⟩, ⟨t3, l3⟩, ⟨t4, l4⟩, ⟨t5, l5⟩, ⟨t6, l6⟩, ⟨t7, l7⟩, ⟨t8, l8⟩, ⟨t9, l9⟩⟩, ⟨r1, r2, r3, r4, r5, r6, r7, r8, r9⟩, ⟨i0, i2, i3, i4⟩, f1, f2, f3, f4, f5, f6, f7⟩ := id hC
  obtain ⟨⟨kS, ⟨u1, v1⟩, ⟨u2, v2⟩, ⟨u3, v3⟩⟩, ⟨q0, q1, q2⟩, ⟨j3, j4, j5, j6⟩, jf⟩ := id hN
  refine Er_of ?_
  show Wq none 107 0 [some (.ref (0 : Nat)), some (.int (nI g)), some (.int (nI s')), none, none, none, none, none] [] σ _
  simp only [w107_0, w107_1, w107_4, w107_5, w107_8, w107_11, w107_12, w107_15, w107_16, w107_19, w107_22, w107_24, w107_25, w107_26, w107_29, w107_32, w107_33, w107_36, w107_37, w107_38, w107_40, w107_41, w107_45, w107_46, w107_49, w107_52, w107_55, w107_56, w107_60, w107_61, w107_64, w107_67, w107_70, w107_72, w107_74, w107_77, w107_78, w107_80, w107_81, w107_82, w107_83, w107_86, w107_87, w107_89, w107_90, w107_91, w107_92, w107_95, w107_96, w107_99, w107_100, w107_102, w107_104, w107_107, w107_108, w107_110, w107_112, w107_113, w107_116, w107_117, w107_120, w107_121, w107_122, w107_125, w107_128, w107_129, w107_130, w107_131, w107_134, w107_137, w107_140, w107_143, w107_146, w107_149, w107_152, w107_154, ks_0, ks_24, kP, b4, b6, q1, c_hasGuide hC hg hw, c_hasAll hC hw hs', nI_ne1, c_at u2 (show g < kl (24 + 2) by rw [v2]; omega) (by rw [v2]; omega), (jf g hg).2.1, ↓reduceIte, Option.toList_some, Option.toList_none, List.cons_append, List.nil_append]
  have h1 := fun Q => l_cPoA (Q := Q) (s := s') hB hC hN hw hwn hg (c 0) 0 none none (by omega)
  rw [show p2N c n g s' 0 = 0 from rfl] at h1
  rw [h1]
  exact ⟨rfl, rfl⟩
end RGX
