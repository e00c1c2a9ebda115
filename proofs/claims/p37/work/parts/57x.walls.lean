section WLX
variable {σ : dm_G} {c n : Nat → Nat} {k : Nat} {p : Nat → Nat → Nat} {q : Nat} {im : Nat → Nat → Nat} {h : Nat} {hs ht : Nat → Nat} {m : Nat} {bg bx : Nat → Nat} {L : Nat} {tx : Nat → Nat} {f : Int32} {s : Nat}
theorem q_wall {e b : Nat} (hK : KA c n k p q im h hs ht m bg bx L tx f s σ) (he : e < c 0) (hb2 : b < 2) : ∃ τ, Er 89 [(.ref (0 : Nat)), .int (nI e), .int (nI b)] σ (some (.int (if (n 19).testBit e = true then nI 1 else nI 0))) τ ∧ KA c (up1 n 19 (waN (n 19) e b)) (min (k + 1) 16) (pushP n p) q im h hs ht m bg bx L tx f s τ ∧ FZ σ τ := by
  obtain ⟨hWA, hCA⟩ := id hK; obtain ⟨hw, hwn, ⟨hk16, hkp⟩, ⟨hq4, hqi⟩, ⟨hh9, hhs, hht⟩, ⟨hm15, hmb⟩, ⟨hL240, htx⟩, hs31⟩ := id hWA; obtain ⟨⟨P, D, hPD, hB, hC, hD⟩, hN, hPa, hIm, hHe, hBk, hTx, hF, hS, hSc⟩ := id hCA
  obtain ⟨b0, b3, b4, b5, b6, b7, b8, b9, b10, b11, b12⟩ := id hB
  obtain ⟨w0, w2, w3, w4, w5, w6, w7, w8, w9⟩ := id hw
  obtain ⟨⟨kP, ⟨t1, l1⟩, ⟨t2, l2⟩, ⟨t3, l3⟩, ⟨t4, l4⟩, ⟨t5, l5⟩, ⟨t6, l6⟩, ⟨t7, l7⟩, ⟨t8, l8⟩, ⟨t9, l9⟩⟩, ⟨r1, r2, r3, r4, r5, r6, r7, r8, r9⟩, ⟨i0, i2, i3, i4⟩, f1, f2, f3, f4, f5, f6, f7⟩ := id hC
  obtain ⟨⟨kS, ⟨u1, v1⟩, ⟨u2, v2⟩, ⟨u3, v3⟩⟩, ⟨q0, q1, q2⟩, ⟨j3, j4, j5, j6⟩, jf⟩ := id hN
  have p8 : 2 ^ c 0 ≤ 2 ^ 8 := Nat.pow_le_pow_right (by decide) hw.1
  obtain ⟨hn1, hn18, hn19, hn20, hn21⟩ := id hwn
  obtain ⟨τ1, e1, hCA1, k1⟩ := c_keepA hWA hCA
  have hN1 := hCA1.2.1
  obtain ⟨⟨P', D', -, hB1, -⟩, -⟩ := id hCA1
  have z1 : τ1 0 5 = (.ref (24 : Nat)) := hB1.2.2.2.2.1
  have z3 : τ1 24 3 = .int (nI (n 19)) := hN1.2.2.1.1
  have h19 : n 19 < 2 ^ 31 := by omega
  have he32 : e < 32 := by omega
  have key : ∃ τ2, Er 89 [(.ref (0 : Nat)), .int (nI e), .int (nI b)] σ (some (.int (if (n 19).testBit e = true then nI 1 else nI 0))) τ2 ∧ CA c (up1 n 19 (waN (n 19) e b)) (min (k + 1) 16) (pushP n p) q im h hs ht m bg bx L tx f s τ2 ∧ ∀ a b, 118 ≤ a → τ2 a b = σ a b := by
    have hCA2 := fun v => CA_f (b := 3) (i := 19) (v := v) w2 (by omega) hCA1
    have lo := fun v a b (z : 118 ≤ a) => (up_hi (σ := τ1) (a0 := 24) (b0 := 3) (v := v) (by omega) a b z).trans (k1 a b z)
    by_cases ht : (n 19).testBit e = true
    · by_cases h0 : b = 0
      · subst h0
        refine ⟨dm_up τ1 24 3 (.int (nI (n 19 ^^^ 1 <<< e))), Er_of ?_, ?_, lo _⟩
        · show Wq none 89 0 [some (.ref (0 : Nat)), some (.int (nI e)), some (.int (nI 0)), none] [] σ _
          simp only [w89_0, w89_1, w89_4, w89_5, w89_8, w89_11, w89_13, w89_14, w89_15, w89_18, w89_19, w89_22, w89_25, w89_26, w89_29, w89_32, w89_33, w89_34, w89_35, w89_36, w89_37, w89_38, w89_41, w89_42, w89_45, w89_46, w89_47, w89_50, w89_51, w89_54, w89_54i, w89_55, w89_58, w89_59, w89_60, w89_61, w89_62, w89_65, w89_66, ks_0, ks_24, ks_28, kP, b4, b6, b7, c_hasCrossing hC he hw, nI_ne1, e1, z1, z3, nI_bit h19 he32, ht, nI_shl 1 he32, nI_xor, ↓reduceIte, Option.toList_some, Option.toList_none, List.cons_append, List.nil_append, and_self]
        · rw [show waN (n 19) e 0 = n 19 ^^^ 1 <<< e from (xor_an ht).symm]
          exact hCA2 _
      · obtain rfl : b = 1 := by omega
        refine ⟨τ1, Er_of ?_, ?_, k1⟩
        · show Wq none 89 0 [some (.ref (0 : Nat)), some (.int (nI e)), some (.int (nI 1)), none] [] σ _
          simp only [w89_0, w89_1, w89_4, w89_5, w89_8, w89_11, w89_13, w89_14, w89_15, w89_18, w89_19, w89_22, w89_25, w89_26, w89_29, w89_32, w89_33, w89_34, w89_35, w89_36, w89_37, w89_38, w89_41, w89_42, w89_45, w89_46, w89_47, w89_50, w89_51, w89_54, w89_54i, w89_55, w89_58, w89_59, w89_60, w89_61, w89_62, w89_65, w89_66, ks_0, ks_24, ks_28, kP, b4, b6, b7, c_hasCrossing hC he hw, nI_ne1, e1, z1, z3, nI_bit h19 he32, ht, ↓reduceIte, Option.toList_some, Option.toList_none, List.cons_append, List.nil_append, and_self]
        · rw [show waN (n 19) e 1 = n 19 from or_id ht, up1_self]
          exact hCA1
    · have ht' : (n 19).testBit e = false := by simpa using ht
      by_cases h0 : b = 0
      · subst h0
        refine ⟨τ1, Er_of ?_, ?_, k1⟩
        · show Wq none 89 0 [some (.ref (0 : Nat)), some (.int (nI e)), some (.int (nI 0)), none] [] σ _
          simp only [w89_0, w89_1, w89_4, w89_5, w89_8, w89_11, w89_13, w89_14, w89_15, w89_18, w89_19, w89_22, w89_25, w89_26, w89_29, w89_32, w89_33, w89_34, w89_35, w89_36, w89_37, w89_38, w89_41, w89_42, w89_45, w89_46, w89_47, w89_50, w89_51, w89_54, w89_54i, w89_55, w89_58, w89_59, w89_60, w89_61, w89_62, w89_65, w89_66, ks_0, ks_24, ks_28, kP, b4, b6, b7, c_hasCrossing hC he hw, nI_ne1, e1, z1, z3, nI_bit h19 he32, ht, ↓reduceIte, Option.toList_some, Option.toList_none, List.cons_append, List.nil_append, and_self, Bool.false_eq_true]
        · rw [show waN (n 19) e 0 = n 19 from an_id ht', up1_self]
          exact hCA1
      · obtain rfl : b = 1 := by omega
        refine ⟨dm_up τ1 24 3 (.int (nI (n 19 ^^^ 1 <<< e))), Er_of ?_, ?_, lo _⟩
        · show Wq none 89 0 [some (.ref (0 : Nat)), some (.int (nI e)), some (.int (nI 1)), none] [] σ _
          simp only [w89_0, w89_1, w89_4, w89_5, w89_8, w89_11, w89_13, w89_14, w89_15, w89_18, w89_19, w89_22, w89_25, w89_26, w89_29, w89_32, w89_33, w89_34, w89_35, w89_36, w89_37, w89_38, w89_41, w89_42, w89_45, w89_46, w89_47, w89_50, w89_51, w89_54, w89_54i, w89_55, w89_58, w89_59, w89_60, w89_61, w89_62, w89_65, w89_66, ks_0, ks_24, ks_28, kP, b4, b6, b7, c_hasCrossing hC he hw, nI_ne1, (by decide : ¬ nI 0 = nI 1), e1, z1, z3, nI_bit h19 he32, ht, nI_shl 1 he32, nI_xor, ↓reduceIte, Option.toList_some, Option.toList_none, List.cons_append, List.nil_append, and_self, Bool.false_eq_true]
        · rw [show waN (n 19) e 1 = n 19 ^^^ 1 <<< e from (xor_or ht').symm]
          exact hCA2 _
  obtain ⟨τ2, e2, hCA2, k2⟩ := key
  exact ⟨τ2, e2, ⟨WA_now (WA_push hWA) (WN_19 (v := waN (n 19) e b) hwn hw (waN_lt hn19 he)), hCA2⟩, k2⟩
theorem q_nowhere {g d : Nat} (hK : KA c n k p q im h hs ht m bg bx L tx f s σ) (hg : g < c 2) (hd1 : 1 ≤ d) (hd2 : d ≤ 20) : ∃ τ, Er 88 [(.ref (0 : Nat)), .int (nI g), .int (nI d)] σ (some (.int (nI (nwN c (andn (n (6 + g)) (n 19)) d (n g))))) τ ∧ KA c (up1 n g (nwN c (andn (n (6 + g)) (n 19)) d (n g))) (min (k + 1) 16) (pushP n p) q im h hs ht m bg bx L tx f s τ ∧ FZ σ τ := by
  obtain ⟨hWA, hCA⟩ := id hK; obtain ⟨hw, hwn, ⟨hk16, hkp⟩, ⟨hq4, hqi⟩, ⟨hh9, hhs, hht⟩, ⟨hm15, hmb⟩, ⟨hL240, htx⟩, hs31⟩ := id hWA; obtain ⟨⟨P, D, hPD, hB, hC, hD⟩, hN, hPa, hIm, hHe, hBk, hTx, hF, hS, hSc⟩ := id hCA
  obtain ⟨b0, b3, b4, b5, b6, b7, b8, b9, b10, b11, b12⟩ := id hB
  obtain ⟨w0, w2, w3, w4, w5, w6, w7, w8, w9⟩ := id hw
  obtain ⟨⟨kP, ⟨t1, l1⟩, ⟨t2, l2⟩, ⟨t3, l3⟩, ⟨t4, l4⟩, ⟨t5, l5⟩, ⟨t6, l6⟩, ⟨t7, l7⟩, ⟨t8, l8⟩, ⟨t9, l9⟩⟩, ⟨r1, r2, r3, r4, r5, r6, r7, r8, r9⟩, ⟨i0, i2, i3, i4⟩, f1, f2, f3, f4, f5, f6, f7⟩ := id hC
  obtain ⟨⟨kS, ⟨u1, v1⟩, ⟨u2, v2⟩, ⟨u3, v3⟩⟩, ⟨q0, q1, q2⟩, ⟨j3, j4, j5, j6⟩, jf⟩ := id hN
  have a1 : ¬ nI d < nI 1 := nI_nlt hd1 (by omega)
  have a2 : nI d ≤ nI 20 := nI_le hd2 (by omega)
  obtain ⟨τ1, e1, hCA1, k1⟩ := c_keepA hWA hCA
  obtain ⟨⟨P', D', -, hB1, hC1, -⟩, hN1, -⟩ := id hCA1
  have gx := (hwn.1 g hg).1
  have z1 : τ1 0 5 = (.ref (24 : Nat)) := hB1.2.2.2.2.1
  have z2 : τ1 24 0 = .ref (24 + 1) := hN1.2.1.1
  have ca := fun Q => c_at (σ := τ1) (Q := Q) u1 (show g < kl (24 + 1) by rw [v1]; omega) (by rw [v1]; omega)
  rw [(hN1.2.2.2 g hg).1] at ca
  have cl := fun Q => l_cNw (Q := Q) hB1 hC1 hN1 hw hwn hg (show d < 2 ^ 31 by omega) d 0 (n g) none (by omega) gx
  have hX := nwN_lt hw (o := andn (n (6 + g)) (n 19)) d (n g) gx
  have hCA2 := CA_u (g := g) (i := 0) (v := nwN c (andn (n (6 + g)) (n 19)) d (n g)) w2 (by omega) (by omega) hCA1
  rw [show 6 * 0 + g = g by omega] at hCA2
  have lo : ∀ a b, 118 ≤ a → dm_up τ1 25 g (.int (nI (nwN c (andn (n (6 + g)) (n 19)) d (n g)))) a b = σ a b := fun a b z => (up_hi (by omega) a b z).trans (k1 a b z)
  have W5 := WA_now (WA_push hWA) (WN_g (i := 0) (g := g) (v := nwN c (andn (n (6 + g)) (n 19)) d (n g)) hwn hw hg (by omega) (fun _ => hX) (by omega) (by omega))
  rw [show 6 * 0 + g = g by omega] at W5
  refine ⟨_, Er_of (σ' := dm_up τ1 25 g (.int (nI (nwN c (andn (n (6 + g)) (n 19)) d (n g))))) ?_, ⟨W5, hCA2⟩, lo⟩
  show Wq none 88 0 [some (.ref (0 : Nat)), some (.int (nI g)), some (.int (nI d)), none, none, none] [] σ _
  simp only [w88_0, w88_1, w88_4, w88_5, w88_8, w88_11, w88_13, w88_14, w88_15, w88_16, w88_19, w88_20, w88_22, w88_25, w88_27, w88_28, w88_29, w88_32, w88_33, w88_36, w88_39, w88_40, w88_43, w88_46, w88_47, w88_50, w88_51, w88_52, w88_56, w88_57, w88_60, w88_61, w88_64, w88_65, w88_66, w88_69, w88_71, w88_72, w88_75, w88_76, w88_79, w88_81, w88_82, w88_83, w88_84, w88_87, w88_90, w88_92, w88_93, w88_96, w88_99, w88_100, w88_103, w88_106, w88_107, w88_108, w88_111, w88_112, ks_0, ks_24, ks_28, kP, b4, b6, b7, c_hasGuide hC hg hw, nI_ne1, a1, a2, e1, z1, z2, ca, cl, ↓reduceIte, Option.toList_some, Option.toList_none, List.cons_append, List.nil_append, and_self]
theorem q_nowhere_f {y : Int32} (hK : KA c n k p q im h hs ht m bg bx L tx f s σ) (h0 : c 2 = 0) : Er 88 [(.ref (0 : Nat)), .int (nI 0), .int y] σ (some (.int (-1000000001))) σ := by
  obtain ⟨hWA, hCA⟩ := id hK; obtain ⟨hw, hwn, ⟨hk16, hkp⟩, ⟨hq4, hqi⟩, ⟨hh9, hhs, hht⟩, ⟨hm15, hmb⟩, ⟨hL240, htx⟩, hs31⟩ := id hWA; obtain ⟨⟨P, D, hPD, hB, hC, hD⟩, hN, hPa, hIm, hHe, hBk, hTx, hF, hS, hSc⟩ := id hCA
  obtain ⟨b0, b3, b4, b5, b6, b7, b8, b9, b10, b11, b12⟩ := id hB
  have kP := hC.1.1
  refine Er_of ?_
  show Wq none 88 0 [some (.ref (0 : Nat)), some (.int (nI 0)), some (.int y), none, none, none] [] σ _
  simp only [w88_0, w88_1, w88_4, w88_5, w88_8, w88_11, w88_13, w88_14, w88_15, w88_16, w88_19, w88_20, w88_22, w88_25, w88_27, w88_28, w88_29, w88_32, w88_33, w88_36, w88_39, w88_40, w88_43, w88_46, w88_47, w88_50, w88_51, w88_52, w88_56, w88_57, w88_60, w88_61, w88_64, w88_65, w88_66, w88_69, w88_71, w88_72, w88_75, w88_76, w88_79, w88_81, w88_82, w88_83, w88_84, w88_87, w88_90, w88_92, w88_93, w88_96, w88_99, w88_100, w88_103, w88_106, w88_107, w88_108, w88_111, w88_112, ks_0, kP, b4, c_hasGuide_f hC (show nI 0 < 0 ∨ nI (c 2) ≤ nI 0 by rw [h0]; exact Or.inr (nI_le (Nat.zero_le _) (by omega))), ↓reduceIte, Option.toList_some, Option.toList_none, List.cons_append, List.nil_append, and_self]
theorem rf_0 (h0 : 0 < c 0) (h9 : n 20 ≤ 9000) : rfN c n = nI 0 := by
  unfold rfN
  rw [if_neg (by omega), if_pos h9]
theorem q_night {j : Nat} (hK : KA c n k p q im h hs ht m bg bx L tx f s σ) (h0 : 0 < c 0) (h9 : n 20 ≤ 9000) (h1 : 1 ≤ j) (h2 : j ≤ 60) : ∃ τ, Er 86 [(.ref (0 : Nat)), .int (nI j)] σ (some (.int (nI (n 20 + j)))) τ ∧ KA c (up1 (up1 n 20 (n 20 + j)) 18 0) (min (k + 1) 16) (pushP n p) q im h hs ht m bg bx L tx f s τ ∧ FZ σ τ := by
  obtain ⟨hWA, hCA⟩ := id hK; obtain ⟨hw, hwn, ⟨hk16, hkp⟩, ⟨hq4, hqi⟩, ⟨hh9, hhs, hht⟩, ⟨hm15, hmb⟩, ⟨hL240, htx⟩, hs31⟩ := id hWA; obtain ⟨⟨P, D, hPD, hB, hC, hD⟩, hN, hPa, hIm, hHe, hBk, hTx, hF, hS, hSc⟩ := id hCA
  obtain ⟨b0, b3, b4, b5, b6, b7, b8, b9, b10, b11, b12⟩ := id hB
  obtain ⟨w0, w2, w3, w4, w5, w6, w7, w8, w9⟩ := id hw
  obtain ⟨hn1, hn18, hn19, hn20, hn21⟩ := id hwn
  have hr : rfN c n = nI 0 := rf_0 h0 h9
  obtain ⟨τ1, e1, hCA1, k1⟩ := c_keepA hWA hCA
  obtain ⟨⟨P', D', -, hB1, hC1, -⟩, hN1, -⟩ := id hCA1
  have z1 : τ1 0 5 = (.ref (24 : Nat)) := hB1.2.2.2.2.1
  have hCA2 := CA_nt (v := n 20 + j) w2 hCA1
  have lo : ∀ a b, 118 ≤ a → dm_up (dm_up τ1 24 5 (.int (nI (n 20 + j)))) 24 4 (.int (nI 0)) a b = σ a b := fun a b z => (up_hi (by omega) a b z).trans ((up_hi (by omega) a b z).trans (k1 a b z))
  have y1 : dm_up (dm_up τ1 24 5 (.int (nI (n 20 + j)))) 24 4 (.int (nI 0)) 0 5 = (.ref (24 : Nat)) := z1
  have y2 : dm_up (dm_up τ1 24 5 (.int (nI (n 20 + j)))) 24 4 (.int (nI 0)) 24 5 = .int (nI (n 20 + j)) := rfl
  refine ⟨_, Er_of (σ' := dm_up (dm_up τ1 24 5 (.int (nI (n 20 + j)))) 24 4 (.int (nI 0))) ?_, ⟨WA_now (WA_push hWA) (WN_nt (v := n 20 + j) hwn hw (by omega)), hCA2⟩, lo⟩
  show Wq none 86 0 [some (.ref (0 : Nat)), some (.int (nI j)), none] [] σ _
  simp only [w86_0, w86_1, w86_2, w86_5, w86_6, w86_7, w86_10, w86_11, w86_12, w86_13, w86_16, w86_17, w86_20, w86_23, w86_24, w86_27, w86_28, w86_31, w86_32, w86_35, w86_38, ks_0, ks_24, ks_28, b6, b7, c_refusal hB hC hN hw (show n 20 < 2 ^ 31 by omega) h1 h2, hr, e1, z1, c_passNights hN1, y1, y2, ↓reduceIte, Option.toList_some, Option.toList_none, List.cons_append, List.nil_append, and_self]
end WLX
